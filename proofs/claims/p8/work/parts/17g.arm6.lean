theorem dL_law_1878 : decode cL_law 1878 = .ok (.aload_n 1, 1) := de_43 (lb_117 (j := 6) (b := 43) rfl)
theorem dL_law_1879 : decode cL_law 1879 = .ok (.aload_n 0, 1) := de_42 (lb_117 (j := 7) (b := 42) rfl)
theorem dL_law_1880 : decode cL_law 1880 = .ok (.iload 5, 2) := de_21 (lb_117 (j := 8) (b := 21) rfl) (lb_117 (j := 9) (b := 5) rfl) rfl
theorem dL_law_1882 : decode cL_law 1882 = .ok (.iconst 1, 1) := de_4 (lb_117 (j := 10) (b := 4) rfl)
theorem dL_law_1883 : decode cL_law 1883 = .ok (.iadd, 1) := de_96 (lb_117 (j := 11) (b := 96) rfl)
theorem dL_law_1884 : decode cL_law 1884 = .ok (.iaload, 1) := de_46 (lb_117 (j := 12) (b := 46) rfl)
theorem dL_law_1885 : decode cL_law 1885 = .ok (.aload_n 3, 1) := de_45 (lb_117 (j := 13) (b := 45) rfl)
theorem dL_law_1886 : decode cL_law 1886 = .ok (.invokestatic 357, 3) := de_184 (lb_117 (j := 14) (b := 184) rfl) (lb_117 (j := 15) (b := 1) rfl) (lb_118 (j := 0) (b := 101) rfl) rfl
theorem dL_law_1889 : decode cL_law 1889 = .ok (.istore 6, 2) := de_54 (lb_118 (j := 1) (b := 54) rfl) (lb_118 (j := 2) (b := 6) rfl) rfl
theorem dL_law_1891 : decode cL_law 1891 = .ok (.aload_n 2, 1) := de_44 (lb_118 (j := 3) (b := 44) rfl)
theorem dL_law_1892 : decode cL_law 1892 = .ok (.aload_n 0, 1) := de_42 (lb_118 (j := 4) (b := 42) rfl)
theorem dL_law_1893 : decode cL_law 1893 = .ok (.iload 5, 2) := de_21 (lb_118 (j := 5) (b := 21) rfl) (lb_118 (j := 6) (b := 5) rfl) rfl
theorem dL_law_1895 : decode cL_law 1895 = .ok (.iconst 1, 1) := de_4 (lb_118 (j := 7) (b := 4) rfl)
theorem dL_law_1896 : decode cL_law 1896 = .ok (.iadd, 1) := de_96 (lb_118 (j := 8) (b := 96) rfl)
theorem dL_law_1897 : decode cL_law 1897 = .ok (.iaload, 1) := de_46 (lb_118 (j := 9) (b := 46) rfl)
theorem dL_law_1898 : decode cL_law 1898 = .ok (.invokevirtual 359, 3) := de_182 (lb_118 (j := 10) (b := 182) rfl) (lb_118 (j := 11) (b := 1) rfl) (lb_118 (j := 12) (b := 103) rfl) rfl
theorem dL_law_1901 : decode cL_law 1901 = .ok (.istore 7, 2) := de_54 (lb_118 (j := 13) (b := 54) rfl) (lb_118 (j := 14) (b := 7) rfl) rfl
theorem dL_law_1903 : decode cL_law 1903 = .ok (.goto 536, 3) := de_167 (lb_118 (j := 15) (b := 167) rfl) (lb_119 (j := 0) (b := 2) rfl) (lb_119 (j := 1) (b := 24) rfl) (by decide +kernel)
theorem dL_law_1906 : decode cL_law 1906 = .ok (.aload_n 1, 1) := de_43 (lb_119 (j := 2) (b := 43) rfl)
theorem dL_law_1907 : decode cL_law 1907 = .ok (.aload_n 0, 1) := de_42 (lb_119 (j := 3) (b := 42) rfl)
theorem dL_law_1908 : decode cL_law 1908 = .ok (.iload 5, 2) := de_21 (lb_119 (j := 4) (b := 21) rfl) (lb_119 (j := 5) (b := 5) rfl) rfl
theorem dL_law_1910 : decode cL_law 1910 = .ok (.iconst 1, 1) := de_4 (lb_119 (j := 6) (b := 4) rfl)
theorem dL_law_1911 : decode cL_law 1911 = .ok (.iadd, 1) := de_96 (lb_119 (j := 7) (b := 96) rfl)
theorem dL_law_1912 : decode cL_law 1912 = .ok (.iaload, 1) := de_46 (lb_119 (j := 8) (b := 46) rfl)
theorem dL_law_1913 : decode cL_law 1913 = .ok (.aload_n 0, 1) := de_42 (lb_119 (j := 9) (b := 42) rfl)
theorem dL_law_1914 : decode cL_law 1914 = .ok (.iload 5, 2) := de_21 (lb_119 (j := 10) (b := 21) rfl) (lb_119 (j := 11) (b := 5) rfl) rfl
theorem dL_law_1916 : decode cL_law 1916 = .ok (.iconst 2, 1) := de_5 (lb_119 (j := 12) (b := 5) rfl)
theorem dL_law_1917 : decode cL_law 1917 = .ok (.iadd, 1) := de_96 (lb_119 (j := 13) (b := 96) rfl)
theorem dL_law_1918 : decode cL_law 1918 = .ok (.iaload, 1) := de_46 (lb_119 (j := 14) (b := 46) rfl)
theorem dL_law_1919 : decode cL_law 1919 = .ok (.aload_n 3, 1) := de_45 (lb_119 (j := 15) (b := 45) rfl)
theorem dL_law_1920 : decode cL_law 1920 = .ok (.invokestatic 360, 3) := de_184 (lb_120 (j := 0) (b := 184) rfl) (lb_120 (j := 1) (b := 1) rfl) (lb_120 (j := 2) (b := 104) rfl) rfl
theorem dL_law_1923 : decode cL_law 1923 = .ok (.istore 6, 2) := de_54 (lb_120 (j := 3) (b := 54) rfl) (lb_120 (j := 4) (b := 6) rfl) rfl
theorem dL_law_1925 : decode cL_law 1925 = .ok (.aload_n 2, 1) := de_44 (lb_120 (j := 5) (b := 44) rfl)
theorem dL_law_1926 : decode cL_law 1926 = .ok (.aload_n 0, 1) := de_42 (lb_120 (j := 6) (b := 42) rfl)
theorem dL_law_1927 : decode cL_law 1927 = .ok (.iload 5, 2) := de_21 (lb_120 (j := 7) (b := 21) rfl) (lb_120 (j := 8) (b := 5) rfl) rfl
theorem dL_law_1929 : decode cL_law 1929 = .ok (.iconst 1, 1) := de_4 (lb_120 (j := 9) (b := 4) rfl)
theorem dL_law_1930 : decode cL_law 1930 = .ok (.iadd, 1) := de_96 (lb_120 (j := 10) (b := 96) rfl)
theorem dL_law_1931 : decode cL_law 1931 = .ok (.iaload, 1) := de_46 (lb_120 (j := 11) (b := 46) rfl)
theorem dL_law_1932 : decode cL_law 1932 = .ok (.aload_n 0, 1) := de_42 (lb_120 (j := 12) (b := 42) rfl)
theorem dL_law_1933 : decode cL_law 1933 = .ok (.iload 5, 2) := de_21 (lb_120 (j := 13) (b := 21) rfl) (lb_120 (j := 14) (b := 5) rfl) rfl
theorem dL_law_1935 : decode cL_law 1935 = .ok (.iconst 2, 1) := de_5 (lb_120 (j := 15) (b := 5) rfl)
theorem dL_law_1936 : decode cL_law 1936 = .ok (.iadd, 1) := de_96 (lb_121 (j := 0) (b := 96) rfl)
theorem dL_law_1937 : decode cL_law 1937 = .ok (.iaload, 1) := de_46 (lb_121 (j := 1) (b := 46) rfl)
theorem dL_law_1938 : decode cL_law 1938 = .ok (.invokevirtual 362, 3) := de_182 (lb_121 (j := 2) (b := 182) rfl) (lb_121 (j := 3) (b := 1) rfl) (lb_121 (j := 4) (b := 106) rfl) rfl
theorem dL_law_1941 : decode cL_law 1941 = .ok (.istore 7, 2) := de_54 (lb_121 (j := 5) (b := 54) rfl) (lb_121 (j := 6) (b := 7) rfl) rfl
theorem dL_law_1943 : decode cL_law 1943 = .ok (.goto 496, 3) := de_167 (lb_121 (j := 7) (b := 167) rfl) (lb_121 (j := 8) (b := 1) rfl) (lb_121 (j := 9) (b := 240) rfl) (by decide +kernel)
theorem dL_law_1946 : decode cL_law 1946 = .ok (.aload_n 1, 1) := de_43 (lb_121 (j := 10) (b := 43) rfl)
theorem dL_law_1947 : decode cL_law 1947 = .ok (.aload_n 0, 1) := de_42 (lb_121 (j := 11) (b := 42) rfl)
theorem dL_law_1948 : decode cL_law 1948 = .ok (.iload 5, 2) := de_21 (lb_121 (j := 12) (b := 21) rfl) (lb_121 (j := 13) (b := 5) rfl) rfl
theorem dL_law_1950 : decode cL_law 1950 = .ok (.iconst 1, 1) := de_4 (lb_121 (j := 14) (b := 4) rfl)
theorem dL_law_1951 : decode cL_law 1951 = .ok (.iadd, 1) := de_96 (lb_121 (j := 15) (b := 96) rfl)
theorem dL_law_1952 : decode cL_law 1952 = .ok (.iaload, 1) := de_46 (lb_122 (j := 0) (b := 46) rfl)
theorem dL_law_1953 : decode cL_law 1953 = .ok (.aload_n 0, 1) := de_42 (lb_122 (j := 1) (b := 42) rfl)
theorem dL_law_1954 : decode cL_law 1954 = .ok (.iload 5, 2) := de_21 (lb_122 (j := 2) (b := 21) rfl) (lb_122 (j := 3) (b := 5) rfl) rfl
theorem dL_law_1956 : decode cL_law 1956 = .ok (.iconst 2, 1) := de_5 (lb_122 (j := 4) (b := 5) rfl)
theorem dL_law_1957 : decode cL_law 1957 = .ok (.iadd, 1) := de_96 (lb_122 (j := 5) (b := 96) rfl)
theorem dL_law_1958 : decode cL_law 1958 = .ok (.iaload, 1) := de_46 (lb_122 (j := 6) (b := 46) rfl)
theorem dL_law_1959 : decode cL_law 1959 = .ok (.aload_n 0, 1) := de_42 (lb_122 (j := 7) (b := 42) rfl)
theorem dL_law_1960 : decode cL_law 1960 = .ok (.iload 5, 2) := de_21 (lb_122 (j := 8) (b := 21) rfl) (lb_122 (j := 9) (b := 5) rfl) rfl
theorem dL_law_1962 : decode cL_law 1962 = .ok (.iconst 3, 1) := de_6 (lb_122 (j := 10) (b := 6) rfl)
theorem dL_law_1963 : decode cL_law 1963 = .ok (.iadd, 1) := de_96 (lb_122 (j := 11) (b := 96) rfl)
theorem dL_law_1964 : decode cL_law 1964 = .ok (.iaload, 1) := de_46 (lb_122 (j := 12) (b := 46) rfl)
theorem dL_law_1965 : decode cL_law 1965 = .ok (.aload_n 3, 1) := de_45 (lb_122 (j := 13) (b := 45) rfl)
theorem dL_law_1966 : decode cL_law 1966 = .ok (.invokestatic 363, 3) := de_184 (lb_122 (j := 14) (b := 184) rfl) (lb_122 (j := 15) (b := 1) rfl) (lb_123 (j := 0) (b := 107) rfl) rfl
theorem dL_law_1969 : decode cL_law 1969 = .ok (.istore 6, 2) := de_54 (lb_123 (j := 1) (b := 54) rfl) (lb_123 (j := 2) (b := 6) rfl) rfl
theorem dL_law_1971 : decode cL_law 1971 = .ok (.aload_n 2, 1) := de_44 (lb_123 (j := 3) (b := 44) rfl)
theorem dL_law_1972 : decode cL_law 1972 = .ok (.aload_n 0, 1) := de_42 (lb_123 (j := 4) (b := 42) rfl)
theorem dL_law_1973 : decode cL_law 1973 = .ok (.iload 5, 2) := de_21 (lb_123 (j := 5) (b := 21) rfl) (lb_123 (j := 6) (b := 5) rfl) rfl
theorem dL_law_1975 : decode cL_law 1975 = .ok (.iconst 1, 1) := de_4 (lb_123 (j := 7) (b := 4) rfl)
theorem dL_law_1976 : decode cL_law 1976 = .ok (.iadd, 1) := de_96 (lb_123 (j := 8) (b := 96) rfl)
theorem dL_law_1977 : decode cL_law 1977 = .ok (.iaload, 1) := de_46 (lb_123 (j := 9) (b := 46) rfl)
theorem dL_law_1978 : decode cL_law 1978 = .ok (.aload_n 0, 1) := de_42 (lb_123 (j := 10) (b := 42) rfl)
theorem dL_law_1979 : decode cL_law 1979 = .ok (.iload 5, 2) := de_21 (lb_123 (j := 11) (b := 21) rfl) (lb_123 (j := 12) (b := 5) rfl) rfl
theorem dL_law_1981 : decode cL_law 1981 = .ok (.iconst 2, 1) := de_5 (lb_123 (j := 13) (b := 5) rfl)
theorem dL_law_1982 : decode cL_law 1982 = .ok (.iadd, 1) := de_96 (lb_123 (j := 14) (b := 96) rfl)
theorem dL_law_1983 : decode cL_law 1983 = .ok (.iaload, 1) := de_46 (lb_123 (j := 15) (b := 46) rfl)
theorem dL_law_1984 : decode cL_law 1984 = .ok (.aload_n 0, 1) := de_42 (lb_124 (j := 0) (b := 42) rfl)
theorem dL_law_1985 : decode cL_law 1985 = .ok (.iload 5, 2) := de_21 (lb_124 (j := 1) (b := 21) rfl) (lb_124 (j := 2) (b := 5) rfl) rfl
theorem dL_law_1987 : decode cL_law 1987 = .ok (.iconst 3, 1) := de_6 (lb_124 (j := 3) (b := 6) rfl)
theorem dL_law_1988 : decode cL_law 1988 = .ok (.iadd, 1) := de_96 (lb_124 (j := 4) (b := 96) rfl)
theorem dL_law_1989 : decode cL_law 1989 = .ok (.iaload, 1) := de_46 (lb_124 (j := 5) (b := 46) rfl)
theorem dL_law_1990 : decode cL_law 1990 = .ok (.invokevirtual 365, 3) := de_182 (lb_124 (j := 6) (b := 182) rfl) (lb_124 (j := 7) (b := 1) rfl) (lb_124 (j := 8) (b := 109) rfl) rfl
theorem dL_law_1993 : decode cL_law 1993 = .ok (.lstore 7, 2) := de_55 (lb_124 (j := 9) (b := 55) rfl) (lb_124 (j := 10) (b := 7) rfl) rfl
theorem dL_law_1995 : decode cL_law 1995 = .ok (.goto 444, 3) := de_167 (lb_124 (j := 11) (b := 167) rfl) (lb_124 (j := 12) (b := 1) rfl) (lb_124 (j := 13) (b := 188) rfl) (by decide +kernel)
theorem dL_law_1998 : decode cL_law 1998 = .ok (.aload_n 1, 1) := de_43 (lb_124 (j := 14) (b := 43) rfl)
theorem dL_law_1999 : decode cL_law 1999 = .ok (.aload_n 0, 1) := de_42 (lb_124 (j := 15) (b := 42) rfl)
theorem dL_law_2000 : decode cL_law 2000 = .ok (.iload 5, 2) := de_21 (lb_125 (j := 0) (b := 21) rfl) (lb_125 (j := 1) (b := 5) rfl) rfl
theorem dL_law_2002 : decode cL_law 2002 = .ok (.iconst 1, 1) := de_4 (lb_125 (j := 2) (b := 4) rfl)
theorem dL_law_2003 : decode cL_law 2003 = .ok (.iadd, 1) := de_96 (lb_125 (j := 3) (b := 96) rfl)
theorem dL_law_2004 : decode cL_law 2004 = .ok (.iaload, 1) := de_46 (lb_125 (j := 4) (b := 46) rfl)
theorem dL_law_2005 : decode cL_law 2005 = .ok (.aload_n 3, 1) := de_45 (lb_125 (j := 5) (b := 45) rfl)
theorem dL_law_2006 : decode cL_law 2006 = .ok (.invokestatic 366, 3) := de_184 (lb_125 (j := 6) (b := 184) rfl) (lb_125 (j := 7) (b := 1) rfl) (lb_125 (j := 8) (b := 110) rfl) rfl
theorem dL_law_2009 : decode cL_law 2009 = .ok (.istore 6, 2) := de_54 (lb_125 (j := 9) (b := 54) rfl) (lb_125 (j := 10) (b := 6) rfl) rfl
theorem dL_law_2011 : decode cL_law 2011 = .ok (.aload_n 2, 1) := de_44 (lb_125 (j := 11) (b := 44) rfl)
theorem dL_law_2012 : decode cL_law 2012 = .ok (.aload_n 0, 1) := de_42 (lb_125 (j := 12) (b := 42) rfl)
theorem dL_law_2013 : decode cL_law 2013 = .ok (.iload 5, 2) := de_21 (lb_125 (j := 13) (b := 21) rfl) (lb_125 (j := 14) (b := 5) rfl) rfl
theorem dL_law_2015 : decode cL_law 2015 = .ok (.iconst 1, 1) := de_4 (lb_125 (j := 15) (b := 4) rfl)
theorem dL_law_2016 : decode cL_law 2016 = .ok (.iadd, 1) := de_96 (lb_126 (j := 0) (b := 96) rfl)
theorem dL_law_2017 : decode cL_law 2017 = .ok (.iaload, 1) := de_46 (lb_126 (j := 1) (b := 46) rfl)
theorem dL_law_2018 : decode cL_law 2018 = .ok (.invokevirtual 368, 3) := de_182 (lb_126 (j := 2) (b := 182) rfl) (lb_126 (j := 3) (b := 1) rfl) (lb_126 (j := 4) (b := 112) rfl) rfl
theorem dL_law_2021 : decode cL_law 2021 = .ok (.istore 7, 2) := de_54 (lb_126 (j := 5) (b := 54) rfl) (lb_126 (j := 6) (b := 7) rfl) rfl
theorem dL_law_2023 : decode cL_law 2023 = .ok (.goto 416, 3) := de_167 (lb_126 (j := 7) (b := 167) rfl) (lb_126 (j := 8) (b := 1) rfl) (lb_126 (j := 9) (b := 160) rfl) (by decide +kernel)
theorem dL_law_2026 : decode cL_law 2026 = .ok (.aload_n 1, 1) := de_43 (lb_126 (j := 10) (b := 43) rfl)
theorem dL_law_2027 : decode cL_law 2027 = .ok (.aload_n 0, 1) := de_42 (lb_126 (j := 11) (b := 42) rfl)
theorem dL_law_2028 : decode cL_law 2028 = .ok (.iload 5, 2) := de_21 (lb_126 (j := 12) (b := 21) rfl) (lb_126 (j := 13) (b := 5) rfl) rfl
theorem dL_law_2030 : decode cL_law 2030 = .ok (.iconst 1, 1) := de_4 (lb_126 (j := 14) (b := 4) rfl)
theorem dL_law_2031 : decode cL_law 2031 = .ok (.iadd, 1) := de_96 (lb_126 (j := 15) (b := 96) rfl)
theorem dL_law_2032 : decode cL_law 2032 = .ok (.iaload, 1) := de_46 (lb_127 (j := 0) (b := 46) rfl)
theorem dL_law_2033 : decode cL_law 2033 = .ok (.aload_n 3, 1) := de_45 (lb_127 (j := 1) (b := 45) rfl)
theorem dL_law_2034 : decode cL_law 2034 = .ok (.invokestatic 369, 3) := de_184 (lb_127 (j := 2) (b := 184) rfl) (lb_127 (j := 3) (b := 1) rfl) (lb_127 (j := 4) (b := 113) rfl) rfl
theorem dL_law_2037 : decode cL_law 2037 = .ok (.istore 6, 2) := de_54 (lb_127 (j := 5) (b := 54) rfl) (lb_127 (j := 6) (b := 6) rfl) rfl
theorem dL_law_2039 : decode cL_law 2039 = .ok (.aload_n 2, 1) := de_44 (lb_127 (j := 7) (b := 44) rfl)
theorem dL_law_2040 : decode cL_law 2040 = .ok (.aload_n 0, 1) := de_42 (lb_127 (j := 8) (b := 42) rfl)
theorem dL_law_2041 : decode cL_law 2041 = .ok (.iload 5, 2) := de_21 (lb_127 (j := 9) (b := 21) rfl) (lb_127 (j := 10) (b := 5) rfl) rfl
theorem dL_law_2043 : decode cL_law 2043 = .ok (.iconst 1, 1) := de_4 (lb_127 (j := 11) (b := 4) rfl)
theorem dL_law_2044 : decode cL_law 2044 = .ok (.iadd, 1) := de_96 (lb_127 (j := 12) (b := 96) rfl)
theorem dL_law_2045 : decode cL_law 2045 = .ok (.iaload, 1) := de_46 (lb_127 (j := 13) (b := 46) rfl)
theorem dL_law_2046 : decode cL_law 2046 = .ok (.invokevirtual 371, 3) := de_182 (lb_127 (j := 14) (b := 182) rfl) (lb_127 (j := 15) (b := 1) rfl) (lb_128 (j := 0) (b := 115) rfl) rfl
theorem dL_law_2049 : decode cL_law 2049 = .ok (.istore 7, 2) := de_54 (lb_128 (j := 1) (b := 54) rfl) (lb_128 (j := 2) (b := 7) rfl) rfl
theorem dL_law_2051 : decode cL_law 2051 = .ok (.goto 388, 3) := de_167 (lb_128 (j := 3) (b := 167) rfl) (lb_128 (j := 4) (b := 1) rfl) (lb_128 (j := 5) (b := 132) rfl) (by decide +kernel)
theorem dL_law_2054 : decode cL_law 2054 = .ok (.aload_n 1, 1) := de_43 (lb_128 (j := 6) (b := 43) rfl)
theorem dL_law_2055 : decode cL_law 2055 = .ok (.aload_n 0, 1) := de_42 (lb_128 (j := 7) (b := 42) rfl)
theorem dL_law_2056 : decode cL_law 2056 = .ok (.iload 5, 2) := de_21 (lb_128 (j := 8) (b := 21) rfl) (lb_128 (j := 9) (b := 5) rfl) rfl
theorem dL_law_2058 : decode cL_law 2058 = .ok (.iconst 1, 1) := de_4 (lb_128 (j := 10) (b := 4) rfl)
theorem dL_law_2059 : decode cL_law 2059 = .ok (.iadd, 1) := de_96 (lb_128 (j := 11) (b := 96) rfl)
theorem dL_law_2060 : decode cL_law 2060 = .ok (.iaload, 1) := de_46 (lb_128 (j := 12) (b := 46) rfl)
theorem dL_law_2061 : decode cL_law 2061 = .ok (.aload_n 0, 1) := de_42 (lb_128 (j := 13) (b := 42) rfl)
theorem dL_law_2062 : decode cL_law 2062 = .ok (.iload 5, 2) := de_21 (lb_128 (j := 14) (b := 21) rfl) (lb_128 (j := 15) (b := 5) rfl) rfl
theorem dL_law_2064 : decode cL_law 2064 = .ok (.iconst 2, 1) := de_5 (lb_129 (j := 0) (b := 5) rfl)
theorem dL_law_2065 : decode cL_law 2065 = .ok (.iadd, 1) := de_96 (lb_129 (j := 1) (b := 96) rfl)
theorem dL_law_2066 : decode cL_law 2066 = .ok (.iaload, 1) := de_46 (lb_129 (j := 2) (b := 46) rfl)
theorem dL_law_2067 : decode cL_law 2067 = .ok (.ifCond .eq 7, 3) := de_153 (lb_129 (j := 3) (b := 153) rfl) (lb_129 (j := 4) (b := 0) rfl) (lb_129 (j := 5) (b := 7) rfl) (by decide +kernel)
theorem dL_law_2070 : decode cL_law 2070 = .ok (.iconst 1, 1) := de_4 (lb_129 (j := 6) (b := 4) rfl)
theorem dL_law_2071 : decode cL_law 2071 = .ok (.goto 4, 3) := de_167 (lb_129 (j := 7) (b := 167) rfl) (lb_129 (j := 8) (b := 0) rfl) (lb_129 (j := 9) (b := 4) rfl) (by decide +kernel)
theorem dL_law_2074 : decode cL_law 2074 = .ok (.iconst 0, 1) := de_3 (lb_129 (j := 10) (b := 3) rfl)
theorem dL_law_2075 : decode cL_law 2075 = .ok (.aload_n 3, 1) := de_45 (lb_129 (j := 11) (b := 45) rfl)
theorem dL_law_2076 : decode cL_law 2076 = .ok (.invokestatic 372, 3) := de_184 (lb_129 (j := 12) (b := 184) rfl) (lb_129 (j := 13) (b := 1) rfl) (lb_129 (j := 14) (b := 116) rfl) rfl
theorem dL_law_2079 : decode cL_law 2079 = .ok (.istore 6, 2) := de_54 (lb_129 (j := 15) (b := 54) rfl) (lb_130 (j := 0) (b := 6) rfl) rfl
theorem dL_law_2081 : decode cL_law 2081 = .ok (.aload_n 2, 1) := de_44 (lb_130 (j := 1) (b := 44) rfl)
theorem dL_law_2082 : decode cL_law 2082 = .ok (.aload_n 0, 1) := de_42 (lb_130 (j := 2) (b := 42) rfl)
theorem dL_law_2083 : decode cL_law 2083 = .ok (.iload 5, 2) := de_21 (lb_130 (j := 3) (b := 21) rfl) (lb_130 (j := 4) (b := 5) rfl) rfl
theorem dL_law_2085 : decode cL_law 2085 = .ok (.iconst 1, 1) := de_4 (lb_130 (j := 5) (b := 4) rfl)
theorem dL_law_2086 : decode cL_law 2086 = .ok (.iadd, 1) := de_96 (lb_130 (j := 6) (b := 96) rfl)
theorem dL_law_2087 : decode cL_law 2087 = .ok (.iaload, 1) := de_46 (lb_130 (j := 7) (b := 46) rfl)
theorem dL_law_2088 : decode cL_law 2088 = .ok (.aload_n 0, 1) := de_42 (lb_130 (j := 8) (b := 42) rfl)
theorem dL_law_2089 : decode cL_law 2089 = .ok (.iload 5, 2) := de_21 (lb_130 (j := 9) (b := 21) rfl) (lb_130 (j := 10) (b := 5) rfl) rfl
theorem dL_law_2091 : decode cL_law 2091 = .ok (.iconst 2, 1) := de_5 (lb_130 (j := 11) (b := 5) rfl)
theorem dL_law_2092 : decode cL_law 2092 = .ok (.iadd, 1) := de_96 (lb_130 (j := 12) (b := 96) rfl)
theorem dL_law_2093 : decode cL_law 2093 = .ok (.iaload, 1) := de_46 (lb_130 (j := 13) (b := 46) rfl)
theorem dL_law_2094 : decode cL_law 2094 = .ok (.ifCond .eq 7, 3) := de_153 (lb_130 (j := 14) (b := 153) rfl) (lb_130 (j := 15) (b := 0) rfl) (lb_131 (j := 0) (b := 7) rfl) (by decide +kernel)
theorem dL_law_2097 : decode cL_law 2097 = .ok (.iconst 1, 1) := de_4 (lb_131 (j := 1) (b := 4) rfl)
theorem dL_law_2098 : decode cL_law 2098 = .ok (.goto 4, 3) := de_167 (lb_131 (j := 2) (b := 167) rfl) (lb_131 (j := 3) (b := 0) rfl) (lb_131 (j := 4) (b := 4) rfl) (by decide +kernel)
theorem dL_law_2101 : decode cL_law 2101 = .ok (.iconst 0, 1) := de_3 (lb_131 (j := 5) (b := 3) rfl)
theorem dL_law_2102 : decode cL_law 2102 = .ok (.invokevirtual 375, 3) := de_182 (lb_131 (j := 6) (b := 182) rfl) (lb_131 (j := 7) (b := 1) rfl) (lb_131 (j := 8) (b := 119) rfl) rfl
theorem dL_law_2105 : decode cL_law 2105 = .ok (.istore 7, 2) := de_54 (lb_131 (j := 9) (b := 54) rfl) (lb_131 (j := 10) (b := 7) rfl) rfl
theorem dL_law_2107 : decode cL_law 2107 = .ok (.goto 332, 3) := de_167 (lb_131 (j := 11) (b := 167) rfl) (lb_131 (j := 12) (b := 1) rfl) (lb_131 (j := 13) (b := 76) rfl) (by decide +kernel)
theorem dL_law_2110 : decode cL_law 2110 = .ok (.aload_n 1, 1) := de_43 (lb_131 (j := 14) (b := 43) rfl)
theorem dL_law_2111 : decode cL_law 2111 = .ok (.aload_n 0, 1) := de_42 (lb_131 (j := 15) (b := 42) rfl)
theorem dL_law_2112 : decode cL_law 2112 = .ok (.iload 5, 2) := de_21 (lb_132 (j := 0) (b := 21) rfl) (lb_132 (j := 1) (b := 5) rfl) rfl
theorem dL_law_2114 : decode cL_law 2114 = .ok (.iconst 1, 1) := de_4 (lb_132 (j := 2) (b := 4) rfl)
theorem dL_law_2115 : decode cL_law 2115 = .ok (.iadd, 1) := de_96 (lb_132 (j := 3) (b := 96) rfl)
theorem dL_law_2116 : decode cL_law 2116 = .ok (.iaload, 1) := de_46 (lb_132 (j := 4) (b := 46) rfl)
theorem dL_law_2117 : decode cL_law 2117 = .ok (.aload_n 0, 1) := de_42 (lb_132 (j := 5) (b := 42) rfl)
theorem dL_law_2118 : decode cL_law 2118 = .ok (.iload 5, 2) := de_21 (lb_132 (j := 6) (b := 21) rfl) (lb_132 (j := 7) (b := 5) rfl) rfl
theorem dL_law_2120 : decode cL_law 2120 = .ok (.iconst 2, 1) := de_5 (lb_132 (j := 8) (b := 5) rfl)
theorem dL_law_2121 : decode cL_law 2121 = .ok (.iadd, 1) := de_96 (lb_132 (j := 9) (b := 96) rfl)
theorem dL_law_2122 : decode cL_law 2122 = .ok (.iaload, 1) := de_46 (lb_132 (j := 10) (b := 46) rfl)
theorem dL_law_2123 : decode cL_law 2123 = .ok (.aload_n 3, 1) := de_45 (lb_132 (j := 11) (b := 45) rfl)
theorem dL_law_2124 : decode cL_law 2124 = .ok (.invokestatic 376, 3) := de_184 (lb_132 (j := 12) (b := 184) rfl) (lb_132 (j := 13) (b := 1) rfl) (lb_132 (j := 14) (b := 120) rfl) rfl
theorem dL_law_2127 : decode cL_law 2127 = .ok (.istore 6, 2) := de_54 (lb_132 (j := 15) (b := 54) rfl) (lb_133 (j := 0) (b := 6) rfl) rfl
theorem dL_law_2129 : decode cL_law 2129 = .ok (.aload_n 2, 1) := de_44 (lb_133 (j := 1) (b := 44) rfl)
theorem dL_law_2130 : decode cL_law 2130 = .ok (.aload_n 0, 1) := de_42 (lb_133 (j := 2) (b := 42) rfl)
theorem dL_law_2131 : decode cL_law 2131 = .ok (.iload 5, 2) := de_21 (lb_133 (j := 3) (b := 21) rfl) (lb_133 (j := 4) (b := 5) rfl) rfl
theorem dL_law_2133 : decode cL_law 2133 = .ok (.iconst 1, 1) := de_4 (lb_133 (j := 5) (b := 4) rfl)
theorem dL_law_2134 : decode cL_law 2134 = .ok (.iadd, 1) := de_96 (lb_133 (j := 6) (b := 96) rfl)
theorem dL_law_2135 : decode cL_law 2135 = .ok (.iaload, 1) := de_46 (lb_133 (j := 7) (b := 46) rfl)
theorem dL_law_2136 : decode cL_law 2136 = .ok (.aload_n 0, 1) := de_42 (lb_133 (j := 8) (b := 42) rfl)
theorem dL_law_2137 : decode cL_law 2137 = .ok (.iload 5, 2) := de_21 (lb_133 (j := 9) (b := 21) rfl) (lb_133 (j := 10) (b := 5) rfl) rfl
theorem dL_law_2139 : decode cL_law 2139 = .ok (.iconst 2, 1) := de_5 (lb_133 (j := 11) (b := 5) rfl)
theorem dL_law_2140 : decode cL_law 2140 = .ok (.iadd, 1) := de_96 (lb_133 (j := 12) (b := 96) rfl)
theorem dL_law_2141 : decode cL_law 2141 = .ok (.iaload, 1) := de_46 (lb_133 (j := 13) (b := 46) rfl)
theorem dL_law_2142 : decode cL_law 2142 = .ok (.invokevirtual 378, 3) := de_182 (lb_133 (j := 14) (b := 182) rfl) (lb_133 (j := 15) (b := 1) rfl) (lb_134 (j := 0) (b := 122) rfl) rfl
theorem dL_law_2145 : decode cL_law 2145 = .ok (.istore 7, 2) := de_54 (lb_134 (j := 1) (b := 54) rfl) (lb_134 (j := 2) (b := 7) rfl) rfl
theorem dL_law_2147 : decode cL_law 2147 = .ok (.goto 292, 3) := de_167 (lb_134 (j := 3) (b := 167) rfl) (lb_134 (j := 4) (b := 1) rfl) (lb_134 (j := 5) (b := 36) rfl) (by decide +kernel)
theorem dL_law_2150 : decode cL_law 2150 = .ok (.aload_n 1, 1) := de_43 (lb_134 (j := 6) (b := 43) rfl)
theorem dL_law_2151 : decode cL_law 2151 = .ok (.aload_n 0, 1) := de_42 (lb_134 (j := 7) (b := 42) rfl)
theorem dL_law_2152 : decode cL_law 2152 = .ok (.iload 5, 2) := de_21 (lb_134 (j := 8) (b := 21) rfl) (lb_134 (j := 9) (b := 5) rfl) rfl
theorem dL_law_2154 : decode cL_law 2154 = .ok (.iconst 1, 1) := de_4 (lb_134 (j := 10) (b := 4) rfl)
theorem dL_law_2155 : decode cL_law 2155 = .ok (.iadd, 1) := de_96 (lb_134 (j := 11) (b := 96) rfl)
theorem dL_law_2156 : decode cL_law 2156 = .ok (.iaload, 1) := de_46 (lb_134 (j := 12) (b := 46) rfl)
theorem dL_law_2157 : decode cL_law 2157 = .ok (.aload_n 0, 1) := de_42 (lb_134 (j := 13) (b := 42) rfl)
theorem dL_law_2158 : decode cL_law 2158 = .ok (.iload 5, 2) := de_21 (lb_134 (j := 14) (b := 21) rfl) (lb_134 (j := 15) (b := 5) rfl) rfl
theorem dL_law_2160 : decode cL_law 2160 = .ok (.iconst 2, 1) := de_5 (lb_135 (j := 0) (b := 5) rfl)
theorem dL_law_2161 : decode cL_law 2161 = .ok (.iadd, 1) := de_96 (lb_135 (j := 1) (b := 96) rfl)
theorem dL_law_2162 : decode cL_law 2162 = .ok (.iaload, 1) := de_46 (lb_135 (j := 2) (b := 46) rfl)
theorem dL_law_2163 : decode cL_law 2163 = .ok (.ifCond .eq 7, 3) := de_153 (lb_135 (j := 3) (b := 153) rfl) (lb_135 (j := 4) (b := 0) rfl) (lb_135 (j := 5) (b := 7) rfl) (by decide +kernel)
theorem dL_law_2166 : decode cL_law 2166 = .ok (.iconst 1, 1) := de_4 (lb_135 (j := 6) (b := 4) rfl)
theorem dL_law_2167 : decode cL_law 2167 = .ok (.goto 4, 3) := de_167 (lb_135 (j := 7) (b := 167) rfl) (lb_135 (j := 8) (b := 0) rfl) (lb_135 (j := 9) (b := 4) rfl) (by decide +kernel)
theorem dL_law_2170 : decode cL_law 2170 = .ok (.iconst 0, 1) := de_3 (lb_135 (j := 10) (b := 3) rfl)
theorem dL_law_2171 : decode cL_law 2171 = .ok (.aload_n 3, 1) := de_45 (lb_135 (j := 11) (b := 45) rfl)
theorem dL_law_2172 : decode cL_law 2172 = .ok (.invokestatic 379, 3) := de_184 (lb_135 (j := 12) (b := 184) rfl) (lb_135 (j := 13) (b := 1) rfl) (lb_135 (j := 14) (b := 123) rfl) rfl
theorem dL_law_2175 : decode cL_law 2175 = .ok (.istore 6, 2) := de_54 (lb_135 (j := 15) (b := 54) rfl) (lb_136 (j := 0) (b := 6) rfl) rfl
theorem dL_law_2177 : decode cL_law 2177 = .ok (.aload_n 2, 1) := de_44 (lb_136 (j := 1) (b := 44) rfl)
theorem dL_law_2178 : decode cL_law 2178 = .ok (.aload_n 0, 1) := de_42 (lb_136 (j := 2) (b := 42) rfl)
theorem dL_law_2179 : decode cL_law 2179 = .ok (.iload 5, 2) := de_21 (lb_136 (j := 3) (b := 21) rfl) (lb_136 (j := 4) (b := 5) rfl) rfl
theorem dL_law_2181 : decode cL_law 2181 = .ok (.iconst 1, 1) := de_4 (lb_136 (j := 5) (b := 4) rfl)
theorem dL_law_2182 : decode cL_law 2182 = .ok (.iadd, 1) := de_96 (lb_136 (j := 6) (b := 96) rfl)
theorem dL_law_2183 : decode cL_law 2183 = .ok (.iaload, 1) := de_46 (lb_136 (j := 7) (b := 46) rfl)
theorem dL_law_2184 : decode cL_law 2184 = .ok (.aload_n 0, 1) := de_42 (lb_136 (j := 8) (b := 42) rfl)
theorem dL_law_2185 : decode cL_law 2185 = .ok (.iload 5, 2) := de_21 (lb_136 (j := 9) (b := 21) rfl) (lb_136 (j := 10) (b := 5) rfl) rfl
theorem dL_law_2187 : decode cL_law 2187 = .ok (.iconst 2, 1) := de_5 (lb_136 (j := 11) (b := 5) rfl)
theorem dL_law_2188 : decode cL_law 2188 = .ok (.iadd, 1) := de_96 (lb_136 (j := 12) (b := 96) rfl)
theorem dL_law_2189 : decode cL_law 2189 = .ok (.iaload, 1) := de_46 (lb_136 (j := 13) (b := 46) rfl)
theorem dL_law_2190 : decode cL_law 2190 = .ok (.ifCond .eq 7, 3) := de_153 (lb_136 (j := 14) (b := 153) rfl) (lb_136 (j := 15) (b := 0) rfl) (lb_137 (j := 0) (b := 7) rfl) (by decide +kernel)
theorem dL_law_2193 : decode cL_law 2193 = .ok (.iconst 1, 1) := de_4 (lb_137 (j := 1) (b := 4) rfl)
theorem dL_law_2194 : decode cL_law 2194 = .ok (.goto 4, 3) := de_167 (lb_137 (j := 2) (b := 167) rfl) (lb_137 (j := 3) (b := 0) rfl) (lb_137 (j := 4) (b := 4) rfl) (by decide +kernel)
theorem dL_law_2197 : decode cL_law 2197 = .ok (.iconst 0, 1) := de_3 (lb_137 (j := 5) (b := 3) rfl)
theorem dL_law_2198 : decode cL_law 2198 = .ok (.invokevirtual 381, 3) := de_182 (lb_137 (j := 6) (b := 182) rfl) (lb_137 (j := 7) (b := 1) rfl) (lb_137 (j := 8) (b := 125) rfl) rfl
theorem dL_law_2201 : decode cL_law 2201 = .ok (.istore 7, 2) := de_54 (lb_137 (j := 9) (b := 54) rfl) (lb_137 (j := 10) (b := 7) rfl) rfl
theorem dL_law_2203 : decode cL_law 2203 = .ok (.goto 236, 3) := de_167 (lb_137 (j := 11) (b := 167) rfl) (lb_137 (j := 12) (b := 0) rfl) (lb_137 (j := 13) (b := 236) rfl) (by decide +kernel)
set_option maxHeartbeats 4000000 in
set_option maxRecDepth 100000 in
theorem y_a48 {p : Program} {e : Env} {s : State} {m : MethodId} {below : List Frame} {meth : Method} {c : Code} (l : Launch) (hst : l.stackTraces = false) {b L : Nat} {xs : Nat → Int32} (hx : p.tables.exec = Jvm.exec) (hb : c.code = code) (hml : c.maxLocals = 9) (hown : s.vm.findClass RL = some m.cls) (hts : ∀ w ∈ lw_tbl, w.before #[Value.ref b] s = true) (hX0 : va_X b L xs s s.heap) (hbl : b < s.heap.size) (hX : xT (fun q => s.heap.size ≤ q) s) (hN : nC s) (hTS : sAll s.heap.size s) {D : va_G} {cI cJ cZ cMic cSrc cSt cAI cAJ cD : ClassId} (hK : va_K D vwCl (CT cI cJ cZ cMic cSrc cSt cAI cAJ ++ [(cD, .double)]) s) {Q : State → Prop} {i j : Nat} (hi : i + 6 ≤ L) (hL : L ≤ 3072) (hj : j < 512) {aj ae : Nat} {ad am : Nat → Nat} {T : AT} {Sm : MS} {f : Nat → Int64} {g : Nat → UInt64} {ls : Array Slot} {H : Heap} {locs : List Loc} (hV : IV aR0 1586 aK1 aK2 T) (hrc : RC T) (hJ : JJ Sm) (G : gL cI cJ cZ cMic cSrc cSt cAI cAJ D ad (fun q => s.heap.size ≤ q) s.heap H locs T (oJ aj cJ f :: oD ae cD g :: MW cI cJ cZ am Sm)) (hl : lv_has ls 9 [(5, .int (nI i)), (4, .ref ae), (3, .ref aj), (2, .ref (am 0)), (1, .ref (ad 0)), (0, .ref b)]) (kk : ∀ {k1 : Nat} {r1 : Int32} {T1 : AT} {r2 : Int32} {S1 : MS} (ad2 : Nat → Nat) (f1 : Nat → Int64) (g1 : Nat → UInt64) (H1 : Heap) (locs1 : List Loc) (ls1 : Array Slot), g_X11_mapByte T 0 (xs (i + 1)) = some (k1, r1, T1) → fr_mapByte Sm (xs (i + 1)) = some (r2, S1) → ad2 0 = ad 0 → IV aR0 1586 aK1 aK2 T1 → RC T1 → JJ S1 → gL cI cJ cZ cMic cSrc cSt cAI cAJ D ad2 (fun q => s.heap.size ≤ q) s.heap H1 locs1 T1 (oJ aj cJ f1 :: oD ae cD g1 :: MW cI cJ cZ am S1) → lv_has ls1 9 [(5, .int (nI i)), (4, .ref ae), (3, .ref aj), (2, .ref (am 0)), (1, .ref (ad2 0)), (0, .ref b)] → W p l e room_1 s m #[Value.ref b] below meth c H1 locs1 (19 + T1.1 + (j + 1)) (38467 + sg T1 + 6 * (j + 1)) Q (F0 m 2439 ls1 [])) : W p l e room_1 s m #[Value.ref b] below meth c H locs (19 + T.1 + j) (38467 + sg T + 6 * j) Q (F0 m 1878 ls []) := by
  have E : cE p c cL_law s m #[Value.ref b] lw_tbl D RL (CT cI cJ cZ cMic cSrc cSt cAI cAJ ++ [(cD, .double)]) := ⟨hx, hb, hts, hown, hK⟩
  have hA : ∀ q : Nat, s.heap.size ≤ q → s.heap.size ≤ q := fun _ h => h
  have h0T : 0 < T.1 := Nat.lt_of_lt_of_le (by decide) hV.1.2.2
  have h0s : T.2.1 0 = (11, 0) := hV.2.1 0 ⟨by decide, by decide +kernel, by decide +kernel⟩
  refine lv_aload_n hx hb dL_law_1878 rfl (lv_at hl 4 rfl) ?_
  refine lv_aload_n hx hb dL_law_1879 rfl (lv_at hl 5 rfl) ?_
  refine lv_iload hx hb dL_law_1880 (lv_at hl 0 rfl) ?_
  refine lv_iconst (v := 1) hx hb dL_law_1882 (by decide) ?_
  refine lv_iadd hx hb dL_law_1883 ?_
  refine lv_to (y := nI (i + 1)) (nI_add i 1) ?_
  refine va_sld hx hb hX0 hbl (Nat.not_le.mpr hbl) G.2.2 (i := nI (i + 1)) (vp_in_nI (n := i + 1) (N := L) (by omega) (by omega)) dL_law_1884 ?_
  refine lv_to (y := xs (i + 1)) (congrArg xs (nI_clamp (by omega))) ?_
  refine lv_aload_n hx hb dL_law_1885 rfl (lv_at hl 2 rfl) ?_
  obtain ⟨⟨k1, r1, T1⟩, hg, hc⟩ := cs_X11_mapByte T 0 (xs (i + 1)) hV (by decide +kernel)
  have hV1 : IV aR0 1586 aK1 aK2 T1 := by rw [show T1 = T from hc.1]; exact hV
  have hg1 := (gl_sp (s_X11_mapByte hg))
  have hg2 := sg_le hg1
  have hg3 := hg1.1
  have hk := hV1.2.2.2.2.2.2
  have hrc1 := hg1.2.2 hrc
  have hr0 := a_room
  refine l_v (h0 := s.heap.size) (As := [.ref (ad 0), .int (xs (i + 1)), .ref aj]) (rest := []) E G hA hX hN (fun _ h => h) hTS hml (v_mapByte l hst D s.heap.size ad T 0 (xs (i + 1)) aj f hg hrc h0T h0s) (vx_cwSW 3 hts (glA (L := [Cond.methodLink RL 357 yL_mapByte, Cond.static yL_mapByte, Cond.initialized RL]) (gl_in [(7, 59), (7, 60), (1, 0)] (by decide +kernel) (by decide +kernel)) ⟨(t_of [Cond.codeWith yL_mapByte cL_mapByte 4 (some .int) [(0, 9, 12, 13)]] [(7, 61)] (by decide +kernel) _ List.mem_cons_self), List.all_eq_true.mp (by decide +kernel : [Cond.codeWith yL_mapByte cL_mapByte 4 (some .int) [(0, 9, 12, 13)]].all goodWord = true) _ List.mem_cons_self⟩) rfl rfl rfl (by decide +kernel) ⟨Nat.le_of_ble_eq_true rfl, Nat.le_of_ble_eq_true rfl⟩) rfl hl.1 rfl (lv_room (Nat.le_of_ble_eq_true rfl)) dL_law_1886 ⟨by show _ ≤ 601024; omega, by show _ ≤ 7293034; omega⟩ ?_
  intro ad2 H locs had G
  rw [← had 0 h0T] at hl
  refine lv_istore (lv' := [(6, .int (vck 0 1 0 k1)), (5, .int (nI i)), (4, .ref ae), (3, .ref aj), (2, .ref (am 0)), (1, .ref (ad2 0)), (0, .ref b)]) hx hb dL_law_1889 hl (by decide) rfl (fun ls hl => ?_)
  refine lv_aload_n hx hb dL_law_1891 rfl (lv_at hl 4 rfl) ?_
  refine lv_aload_n hx hb dL_law_1892 rfl (lv_at hl 6 rfl) ?_
  refine lv_iload hx hb dL_law_1893 (lv_at hl 1 rfl) ?_
  refine lv_iconst (v := 1) hx hb dL_law_1895 (by decide) ?_
  refine lv_iadd hx hb dL_law_1896 ?_
  refine lv_to (y := nI (i + 1)) (nI_add i 1) ?_
  refine va_sld hx hb hX0 hbl (Nat.not_le.mpr hbl) G.2.2 (i := nI (i + 1)) (vp_in_nI (n := i + 1) (N := L) (by omega) (by omega)) dL_law_1897 ?_
  refine lv_to (y := xs (i + 1)) (congrArg xs (nI_clamp (by omega))) ?_
  obtain ⟨⟨r2, S1⟩, hf, hj⟩ := sj_mapByte Sm (xs (i + 1)) hJ
  have hJ1 : JJ S1 := hj
  refine y_mi (As := [.int (xs (i + 1))]) (rest := []) E G hA hX.2.2.2.2 hml (tr_mapByte l D cI cJ cZ am Sm (xs (i + 1)) hf) (cwV 1 hts (glM (L := [Cond.methodLink RL 359 yX12_mapByte, Cond.instanceMethod yX12_mapByte, Cond.selects RX12 yX12_mapByte yX12_mapByte, Cond.initialized RX12]) (gl_in [(10, 129), (10, 130), (10, 131), (1, 14)] (by decide +kernel) (by decide +kernel)) ⟨(t_of [Cond.code yX12_mapByte cX12_mapByte 2 (some .int)] [(10, 132)] (by decide +kernel) _ List.mem_cons_self), List.all_eq_true.mp (by decide +kernel : [Cond.code yX12_mapByte cX12_mapByte 2 (some .int)].all goodWord = true) _ List.mem_cons_self⟩) rfl rfl rfl (by decide +kernel) ⟨Nat.le_of_ble_eq_true rfl, Nat.le_of_ble_eq_true rfl⟩) rfl hl.1 rfl (lv_room (Nat.le_of_ble_eq_true rfl)) dL_law_1898 ⟨by show _ ≤ 601024; omega, by show _ ≤ 7293034; omega⟩ (fun H locs G => ?_)
  refine lv_istore (lv' := [(7, .int r2), (6, .int (vck 0 1 0 k1)), (5, .int (nI i)), (4, .ref ae), (3, .ref aj), (2, .ref (am 0)), (1, .ref (ad2 0)), (0, .ref b)]) hx hb dL_law_1901 hl (by decide) rfl (fun ls hl => ?_)
  refine lv_goto (tgt := 2439) hx hb dL_law_1903 (by decide) ?_
  have hl := lv_sub hl [2, 3, 4, 5, 6, 7] rfl
  refine W.widen (k := 19 + T1.1 + (j + 1)) (n := 38467 + sg T1 + 6 * (j + 1)) (by omega) (by omega) ?_
  exact kk ad2 (vfJ k1 f r1.toInt64) g H locs ls hg hf (had 0 h0T) hV1 hrc1 hJ1 G hl
set_option maxHeartbeats 4000000 in
set_option maxRecDepth 100000 in
theorem y_a49 {p : Program} {e : Env} {s : State} {m : MethodId} {below : List Frame} {meth : Method} {c : Code} (l : Launch) (hst : l.stackTraces = false) {b L : Nat} {xs : Nat → Int32} (hx : p.tables.exec = Jvm.exec) (hb : c.code = code) (hml : c.maxLocals = 9) (hown : s.vm.findClass RL = some m.cls) (hts : ∀ w ∈ lw_tbl, w.before #[Value.ref b] s = true) (hX0 : va_X b L xs s s.heap) (hbl : b < s.heap.size) (hX : xT (fun q => s.heap.size ≤ q) s) (hN : nC s) (hTS : sAll s.heap.size s) {D : va_G} {cI cJ cZ cMic cSrc cSt cAI cAJ cD : ClassId} (hK : va_K D vwCl (CT cI cJ cZ cMic cSrc cSt cAI cAJ ++ [(cD, .double)]) s) {Q : State → Prop} {i j : Nat} (hi : i + 6 ≤ L) (hL : L ≤ 3072) (hj : j < 512) {aj ae : Nat} {ad am : Nat → Nat} {T : AT} {Sm : MS} {f : Nat → Int64} {g : Nat → UInt64} {ls : Array Slot} {H : Heap} {locs : List Loc} (hV : IV aR0 1586 aK1 aK2 T) (hrc : RC T) (hJ : JJ Sm) (G : gL cI cJ cZ cMic cSrc cSt cAI cAJ D ad (fun q => s.heap.size ≤ q) s.heap H locs T (oJ aj cJ f :: oD ae cD g :: MW cI cJ cZ am Sm)) (hl : lv_has ls 9 [(5, .int (nI i)), (4, .ref ae), (3, .ref aj), (2, .ref (am 0)), (1, .ref (ad 0)), (0, .ref b)]) (kk : ∀ {k1 : Nat} {r1 : Int32} {T1 : AT} {r2 : Int32} {S1 : MS} (ad2 : Nat → Nat) (f1 : Nat → Int64) (g1 : Nat → UInt64) (H1 : Heap) (locs1 : List Loc) (ls1 : Array Slot), g_X11_pointBest T 0 (xs (i + 1)) (xs (i + 2)) = some (k1, r1, T1) → fr_pointBest Sm (xs (i + 1)) (xs (i + 2)) = some (r2, S1) → ad2 0 = ad 0 → IV aR0 1586 aK1 aK2 T1 → RC T1 → JJ S1 → gL cI cJ cZ cMic cSrc cSt cAI cAJ D ad2 (fun q => s.heap.size ≤ q) s.heap H1 locs1 T1 (oJ aj cJ f1 :: oD ae cD g1 :: MW cI cJ cZ am S1) → lv_has ls1 9 [(5, .int (nI i)), (4, .ref ae), (3, .ref aj), (2, .ref (am 0)), (1, .ref (ad2 0)), (0, .ref b)] → W p l e room_1 s m #[Value.ref b] below meth c H1 locs1 (19 + T1.1 + (j + 1)) (38467 + sg T1 + 6 * (j + 1)) Q (F0 m 2439 ls1 [])) : W p l e room_1 s m #[Value.ref b] below meth c H locs (19 + T.1 + j) (38467 + sg T + 6 * j) Q (F0 m 1906 ls []) := by
  have E : cE p c cL_law s m #[Value.ref b] lw_tbl D RL (CT cI cJ cZ cMic cSrc cSt cAI cAJ ++ [(cD, .double)]) := ⟨hx, hb, hts, hown, hK⟩
  have hA : ∀ q : Nat, s.heap.size ≤ q → s.heap.size ≤ q := fun _ h => h
  have h0T : 0 < T.1 := Nat.lt_of_lt_of_le (by decide) hV.1.2.2
  have h0s : T.2.1 0 = (11, 0) := hV.2.1 0 ⟨by decide, by decide +kernel, by decide +kernel⟩
  refine lv_aload_n hx hb dL_law_1906 rfl (lv_at hl 4 rfl) ?_
  refine lv_aload_n hx hb dL_law_1907 rfl (lv_at hl 5 rfl) ?_
  refine lv_iload hx hb dL_law_1908 (lv_at hl 0 rfl) ?_
  refine lv_iconst (v := 1) hx hb dL_law_1910 (by decide) ?_
  refine lv_iadd hx hb dL_law_1911 ?_
  refine lv_to (y := nI (i + 1)) (nI_add i 1) ?_
  refine va_sld hx hb hX0 hbl (Nat.not_le.mpr hbl) G.2.2 (i := nI (i + 1)) (vp_in_nI (n := i + 1) (N := L) (by omega) (by omega)) dL_law_1912 ?_
  refine lv_to (y := xs (i + 1)) (congrArg xs (nI_clamp (by omega))) ?_
  refine lv_aload_n hx hb dL_law_1913 rfl (lv_at hl 5 rfl) ?_
  refine lv_iload hx hb dL_law_1914 (lv_at hl 0 rfl) ?_
  refine lv_iconst (v := 2) hx hb dL_law_1916 (by decide) ?_
  refine lv_iadd hx hb dL_law_1917 ?_
  refine lv_to (y := nI (i + 2)) (nI_add i 2) ?_
  refine va_sld hx hb hX0 hbl (Nat.not_le.mpr hbl) G.2.2 (i := nI (i + 2)) (vp_in_nI (n := i + 2) (N := L) (by omega) (by omega)) dL_law_1918 ?_
  refine lv_to (y := xs (i + 2)) (congrArg xs (nI_clamp (by omega))) ?_
  refine lv_aload_n hx hb dL_law_1919 rfl (lv_at hl 2 rfl) ?_
  obtain ⟨⟨k1, r1, T1⟩, hg, hc⟩ := cs_X11_pointBest T 0 (xs (i + 1)) (xs (i + 2)) hV (by decide +kernel)
  have hV1 : IV aR0 1586 aK1 aK2 T1 := hc.1.1
  have hg1 := s_X11_pointBest hg
  have hg2 := sg_le hg1
  have hg3 := hg1.1
  have hk := hV1.2.2.2.2.2.2
  have hrc1 := hg1.2.2 hrc
  have hr0 := a_room
  refine l_v (h0 := s.heap.size) (As := [.ref (ad 0), .int (xs (i + 1)), .int (xs (i + 2)), .ref aj]) (rest := []) E G hA hX hN (fun _ h => h) hTS hml (v_pointBest l hst D s.heap.size ad T 0 (xs (i + 1)) (xs (i + 2)) aj f hg hrc h0T h0s) (vx_cwSW 4 hts (glA (L := [Cond.methodLink RL 360 yL_pointBest, Cond.static yL_pointBest, Cond.initialized RL]) (gl_in [(7, 66), (7, 67), (1, 0)] (by decide +kernel) (by decide +kernel)) ⟨(t_of [Cond.codeWith yL_pointBest cL_pointBest 5 (some .int) [(0, 10, 13, 21), (0, 10, 17, 13), (0, 10, 21, 15)]] [(7, 68)] (by decide +kernel) _ List.mem_cons_self), List.all_eq_true.mp (by decide +kernel : [Cond.codeWith yL_pointBest cL_pointBest 5 (some .int) [(0, 10, 13, 21), (0, 10, 17, 13), (0, 10, 21, 15)]].all goodWord = true) _ List.mem_cons_self⟩) rfl rfl rfl (by decide +kernel) ⟨Nat.le_of_ble_eq_true rfl, Nat.le_of_ble_eq_true rfl⟩) rfl hl.1 rfl (lv_room (Nat.le_of_ble_eq_true rfl)) dL_law_1920 ⟨by show _ ≤ 601024; omega, by show _ ≤ 7293034; omega⟩ ?_
  intro ad2 H locs had G
  rw [← had 0 h0T] at hl
  refine lv_istore (lv' := [(6, .int (vck 1 2 3 k1)), (5, .int (nI i)), (4, .ref ae), (3, .ref aj), (2, .ref (am 0)), (1, .ref (ad2 0)), (0, .ref b)]) hx hb dL_law_1923 hl (by decide) rfl (fun ls hl => ?_)
  refine lv_aload_n hx hb dL_law_1925 rfl (lv_at hl 4 rfl) ?_
  refine lv_aload_n hx hb dL_law_1926 rfl (lv_at hl 6 rfl) ?_
  refine lv_iload hx hb dL_law_1927 (lv_at hl 1 rfl) ?_
  refine lv_iconst (v := 1) hx hb dL_law_1929 (by decide) ?_
  refine lv_iadd hx hb dL_law_1930 ?_
  refine lv_to (y := nI (i + 1)) (nI_add i 1) ?_
  refine va_sld hx hb hX0 hbl (Nat.not_le.mpr hbl) G.2.2 (i := nI (i + 1)) (vp_in_nI (n := i + 1) (N := L) (by omega) (by omega)) dL_law_1931 ?_
  refine lv_to (y := xs (i + 1)) (congrArg xs (nI_clamp (by omega))) ?_
  refine lv_aload_n hx hb dL_law_1932 rfl (lv_at hl 6 rfl) ?_
  refine lv_iload hx hb dL_law_1933 (lv_at hl 1 rfl) ?_
  refine lv_iconst (v := 2) hx hb dL_law_1935 (by decide) ?_
  refine lv_iadd hx hb dL_law_1936 ?_
  refine lv_to (y := nI (i + 2)) (nI_add i 2) ?_
  refine va_sld hx hb hX0 hbl (Nat.not_le.mpr hbl) G.2.2 (i := nI (i + 2)) (vp_in_nI (n := i + 2) (N := L) (by omega) (by omega)) dL_law_1937 ?_
  refine lv_to (y := xs (i + 2)) (congrArg xs (nI_clamp (by omega))) ?_
  obtain ⟨⟨r2, S1⟩, hf, hj⟩ := sj_pointBest Sm (xs (i + 1)) (xs (i + 2)) hJ
  have hJ1 : JJ S1 := hj
  refine y_mi (As := [.int (xs (i + 1)), .int (xs (i + 2))]) (rest := []) E G hA hX.2.2.2.2 hml (tr_pointBest l D cI cJ cZ am Sm (xs (i + 1)) (xs (i + 2)) hf) (cwV 2 hts (glM (L := [Cond.methodLink RL 362 yX12_pointBest, Cond.instanceMethod yX12_pointBest, Cond.selects RX12 yX12_pointBest yX12_pointBest, Cond.initialized RX12]) (gl_in [(10, 133), (10, 134), (10, 135), (1, 14)] (by decide +kernel) (by decide +kernel)) ⟨(t_of [Cond.code yX12_pointBest cX12_pointBest 3 (some .int)] [(10, 136)] (by decide +kernel) _ List.mem_cons_self), List.all_eq_true.mp (by decide +kernel : [Cond.code yX12_pointBest cX12_pointBest 3 (some .int)].all goodWord = true) _ List.mem_cons_self⟩) rfl rfl rfl (by decide +kernel) ⟨Nat.le_of_ble_eq_true rfl, Nat.le_of_ble_eq_true rfl⟩) rfl hl.1 rfl (lv_room (Nat.le_of_ble_eq_true rfl)) dL_law_1938 ⟨by show _ ≤ 601024; omega, by show _ ≤ 7293034; omega⟩ (fun H locs G => ?_)
  refine lv_istore (lv' := [(7, .int r2), (6, .int (vck 1 2 3 k1)), (5, .int (nI i)), (4, .ref ae), (3, .ref aj), (2, .ref (am 0)), (1, .ref (ad2 0)), (0, .ref b)]) hx hb dL_law_1941 hl (by decide) rfl (fun ls hl => ?_)
  refine lv_goto (tgt := 2439) hx hb dL_law_1943 (by decide) ?_
  have hl := lv_sub hl [2, 3, 4, 5, 6, 7] rfl
  refine W.widen (k := 19 + T1.1 + (j + 1)) (n := 38467 + sg T1 + 6 * (j + 1)) (by omega) (by omega) ?_
  exact kk ad2 (vfJ k1 f r1.toInt64) g H locs ls hg hf (had 0 h0T) hV1 hrc1 hJ1 G hl
set_option maxHeartbeats 4000000 in
set_option maxRecDepth 100000 in
theorem y_a50 {p : Program} {e : Env} {s : State} {m : MethodId} {below : List Frame} {meth : Method} {c : Code} (l : Launch) (hst : l.stackTraces = false) {b L : Nat} {xs : Nat → Int32} (hx : p.tables.exec = Jvm.exec) (hb : c.code = code) (hml : c.maxLocals = 9) (hown : s.vm.findClass RL = some m.cls) (hts : ∀ w ∈ lw_tbl, w.before #[Value.ref b] s = true) (hX0 : va_X b L xs s s.heap) (hbl : b < s.heap.size) (hX : xT (fun q => s.heap.size ≤ q) s) (hN : nC s) (hTS : sAll s.heap.size s) {D : va_G} {cI cJ cZ cMic cSrc cSt cAI cAJ cD : ClassId} (hK : va_K D vwCl (CT cI cJ cZ cMic cSrc cSt cAI cAJ ++ [(cD, .double)]) s) {Q : State → Prop} {i j : Nat} (hi : i + 6 ≤ L) (hL : L ≤ 3072) (hj : j < 512) {aj ae : Nat} {ad am : Nat → Nat} {T : AT} {Sm : MS} {f : Nat → Int64} {g : Nat → UInt64} {ls : Array Slot} {H : Heap} {locs : List Loc} (hV : IV aR0 1586 aK1 aK2 T) (hrc : RC T) (hJ : JJ Sm) (G : gL cI cJ cZ cMic cSrc cSt cAI cAJ D ad (fun q => s.heap.size ≤ q) s.heap H locs T (oJ aj cJ f :: oD ae cD g :: MW cI cJ cZ am Sm)) (hl : lv_has ls 9 [(5, .int (nI i)), (4, .ref ae), (3, .ref aj), (2, .ref (am 0)), (1, .ref (ad 0)), (0, .ref b)]) (kk : ∀ {k1 : Nat} {r1 : Int64} {T1 : AT} {r2 : Int64} {S1 : MS} (ad2 : Nat → Nat) (f1 : Nat → Int64) (g1 : Nat → UInt64) (H1 : Heap) (locs1 : List Loc) (ls1 : Array Slot), g_X11_pointPower T 0 (xs (i + 1)) (xs (i + 2)) (xs (i + 3)) = some (k1, r1, T1) → fr_pointPower Sm (xs (i + 1)) (xs (i + 2)) (xs (i + 3)) = some (r2, S1) → ad2 0 = ad 0 → IV aR0 1586 aK1 aK2 T1 → RC T1 → JJ S1 → gL cI cJ cZ cMic cSrc cSt cAI cAJ D ad2 (fun q => s.heap.size ≤ q) s.heap H1 locs1 T1 (oJ aj cJ f1 :: oD ae cD g1 :: MW cI cJ cZ am S1) → lv_has ls1 9 [(5, .int (nI i)), (4, .ref ae), (3, .ref aj), (2, .ref (am 0)), (1, .ref (ad2 0)), (0, .ref b)] → W p l e room_1 s m #[Value.ref b] below meth c H1 locs1 (19 + T1.1 + (j + 1)) (38467 + sg T1 + 6 * (j + 1)) Q (F0 m 2439 ls1 [])) : W p l e room_1 s m #[Value.ref b] below meth c H locs (19 + T.1 + j) (38467 + sg T + 6 * j) Q (F0 m 1946 ls []) := by
  have E : cE p c cL_law s m #[Value.ref b] lw_tbl D RL (CT cI cJ cZ cMic cSrc cSt cAI cAJ ++ [(cD, .double)]) := ⟨hx, hb, hts, hown, hK⟩
  have hA : ∀ q : Nat, s.heap.size ≤ q → s.heap.size ≤ q := fun _ h => h
  have h0T : 0 < T.1 := Nat.lt_of_lt_of_le (by decide) hV.1.2.2
  have h0s : T.2.1 0 = (11, 0) := hV.2.1 0 ⟨by decide, by decide +kernel, by decide +kernel⟩
  refine lv_aload_n hx hb dL_law_1946 rfl (lv_at hl 4 rfl) ?_
  refine lv_aload_n hx hb dL_law_1947 rfl (lv_at hl 5 rfl) ?_
  refine lv_iload hx hb dL_law_1948 (lv_at hl 0 rfl) ?_
  refine lv_iconst (v := 1) hx hb dL_law_1950 (by decide) ?_
  refine lv_iadd hx hb dL_law_1951 ?_
  refine lv_to (y := nI (i + 1)) (nI_add i 1) ?_
  refine va_sld hx hb hX0 hbl (Nat.not_le.mpr hbl) G.2.2 (i := nI (i + 1)) (vp_in_nI (n := i + 1) (N := L) (by omega) (by omega)) dL_law_1952 ?_
  refine lv_to (y := xs (i + 1)) (congrArg xs (nI_clamp (by omega))) ?_
  refine lv_aload_n hx hb dL_law_1953 rfl (lv_at hl 5 rfl) ?_
  refine lv_iload hx hb dL_law_1954 (lv_at hl 0 rfl) ?_
  refine lv_iconst (v := 2) hx hb dL_law_1956 (by decide) ?_
  refine lv_iadd hx hb dL_law_1957 ?_
  refine lv_to (y := nI (i + 2)) (nI_add i 2) ?_
  refine va_sld hx hb hX0 hbl (Nat.not_le.mpr hbl) G.2.2 (i := nI (i + 2)) (vp_in_nI (n := i + 2) (N := L) (by omega) (by omega)) dL_law_1958 ?_
  refine lv_to (y := xs (i + 2)) (congrArg xs (nI_clamp (by omega))) ?_
  refine lv_aload_n hx hb dL_law_1959 rfl (lv_at hl 5 rfl) ?_
  refine lv_iload hx hb dL_law_1960 (lv_at hl 0 rfl) ?_
  refine lv_iconst (v := 3) hx hb dL_law_1962 (by decide) ?_
  refine lv_iadd hx hb dL_law_1963 ?_
  refine lv_to (y := nI (i + 3)) (nI_add i 3) ?_
  refine va_sld hx hb hX0 hbl (Nat.not_le.mpr hbl) G.2.2 (i := nI (i + 3)) (vp_in_nI (n := i + 3) (N := L) (by omega) (by omega)) dL_law_1964 ?_
  refine lv_to (y := xs (i + 3)) (congrArg xs (nI_clamp (by omega))) ?_
  refine lv_aload_n hx hb dL_law_1965 rfl (lv_at hl 2 rfl) ?_
  obtain ⟨⟨k1, r1, T1⟩, hg, hc⟩ := cs_X11_pointPower T 0 (xs (i + 1)) (xs (i + 2)) (xs (i + 3)) hV (by decide +kernel)
  have hV1 : IV aR0 1586 aK1 aK2 T1 := hc.1.1
  have hg1 := s_X11_pointPower hg
  have hg2 := sg_le hg1
  have hg3 := hg1.1
  have hk := hV1.2.2.2.2.2.2
  have hrc1 := hg1.2.2 hrc
  have hr0 := a_room
  refine l_v (h0 := s.heap.size) (As := [.ref (ad 0), .int (xs (i + 1)), .int (xs (i + 2)), .int (xs (i + 3)), .ref aj]) (rest := []) E G hA hX hN (fun _ h => h) hTS hml (v_pointPower l hst D s.heap.size ad T 0 (xs (i + 1)) (xs (i + 2)) (xs (i + 3)) aj f hg hrc h0T h0s) (vx_cwSW 5 hts (glA (L := [Cond.methodLink RL 363 yL_pointPower, Cond.static yL_pointPower, Cond.initialized RL]) (gl_in [(7, 99), (7, 100), (1, 0)] (by decide +kernel) (by decide +kernel)) ⟨(t_of [Cond.codeWith yL_pointPower cL_pointPower 6 (some .int) [(0, 11, 14, 21), (0, 11, 18, 13), (0, 11, 22, 15)]] [(7, 101)] (by decide +kernel) _ List.mem_cons_self), List.all_eq_true.mp (by decide +kernel : [Cond.codeWith yL_pointPower cL_pointPower 6 (some .int) [(0, 11, 14, 21), (0, 11, 18, 13), (0, 11, 22, 15)]].all goodWord = true) _ List.mem_cons_self⟩) rfl rfl rfl (by decide +kernel) ⟨Nat.le_of_ble_eq_true rfl, Nat.le_of_ble_eq_true rfl⟩) rfl hl.1 rfl (lv_room (Nat.le_of_ble_eq_true rfl)) dL_law_1966 ⟨by show _ ≤ 601024; omega, by show _ ≤ 7293034; omega⟩ ?_
  intro ad2 H locs had G
  rw [← had 0 h0T] at hl
  refine lv_istore (lv' := [(6, .int (vck 1 2 3 k1)), (5, .int (nI i)), (4, .ref ae), (3, .ref aj), (2, .ref (am 0)), (1, .ref (ad2 0)), (0, .ref b)]) hx hb dL_law_1969 hl (by decide) rfl (fun ls hl => ?_)
  refine lv_aload_n hx hb dL_law_1971 rfl (lv_at hl 4 rfl) ?_
  refine lv_aload_n hx hb dL_law_1972 rfl (lv_at hl 6 rfl) ?_
  refine lv_iload hx hb dL_law_1973 (lv_at hl 1 rfl) ?_
  refine lv_iconst (v := 1) hx hb dL_law_1975 (by decide) ?_
  refine lv_iadd hx hb dL_law_1976 ?_
  refine lv_to (y := nI (i + 1)) (nI_add i 1) ?_
  refine va_sld hx hb hX0 hbl (Nat.not_le.mpr hbl) G.2.2 (i := nI (i + 1)) (vp_in_nI (n := i + 1) (N := L) (by omega) (by omega)) dL_law_1977 ?_
  refine lv_to (y := xs (i + 1)) (congrArg xs (nI_clamp (by omega))) ?_
  refine lv_aload_n hx hb dL_law_1978 rfl (lv_at hl 6 rfl) ?_
  refine lv_iload hx hb dL_law_1979 (lv_at hl 1 rfl) ?_
  refine lv_iconst (v := 2) hx hb dL_law_1981 (by decide) ?_
  refine lv_iadd hx hb dL_law_1982 ?_
  refine lv_to (y := nI (i + 2)) (nI_add i 2) ?_
  refine va_sld hx hb hX0 hbl (Nat.not_le.mpr hbl) G.2.2 (i := nI (i + 2)) (vp_in_nI (n := i + 2) (N := L) (by omega) (by omega)) dL_law_1983 ?_
  refine lv_to (y := xs (i + 2)) (congrArg xs (nI_clamp (by omega))) ?_
  refine lv_aload_n hx hb dL_law_1984 rfl (lv_at hl 6 rfl) ?_
  refine lv_iload hx hb dL_law_1985 (lv_at hl 1 rfl) ?_
  refine lv_iconst (v := 3) hx hb dL_law_1987 (by decide) ?_
  refine lv_iadd hx hb dL_law_1988 ?_
  refine lv_to (y := nI (i + 3)) (nI_add i 3) ?_
  refine va_sld hx hb hX0 hbl (Nat.not_le.mpr hbl) G.2.2 (i := nI (i + 3)) (vp_in_nI (n := i + 3) (N := L) (by omega) (by omega)) dL_law_1989 ?_
  refine lv_to (y := xs (i + 3)) (congrArg xs (nI_clamp (by omega))) ?_
  obtain ⟨⟨r2, S1⟩, hf, hj⟩ := sj_pointPower Sm (xs (i + 1)) (xs (i + 2)) (xs (i + 3)) hJ
  have hJ1 : JJ S1 := hj
  refine y_ml (As := [.int (xs (i + 1)), .int (xs (i + 2)), .int (xs (i + 3))]) (rest := []) E G hA hX.2.2.2.2 hml (tr_pointPower l D cI cJ cZ am Sm (xs (i + 1)) (xs (i + 2)) (xs (i + 3)) hf) (cwV 3 hts (glM (L := [Cond.methodLink RL 365 yX12_pointPower, Cond.instanceMethod yX12_pointPower, Cond.selects RX12 yX12_pointPower yX12_pointPower, Cond.initialized RX12]) (gl_in [(10, 141), (10, 142), (10, 143), (1, 14)] (by decide +kernel) (by decide +kernel)) ⟨(t_of [Cond.code yX12_pointPower cX12_pointPower 4 (some .long)] [(10, 144)] (by decide +kernel) _ List.mem_cons_self), List.all_eq_true.mp (by decide +kernel : [Cond.code yX12_pointPower cX12_pointPower 4 (some .long)].all goodWord = true) _ List.mem_cons_self⟩) rfl rfl rfl (by decide +kernel) ⟨Nat.le_of_ble_eq_true rfl, Nat.le_of_ble_eq_true rfl⟩) rfl hl.1 rfl (lv_room (Nat.le_of_ble_eq_true rfl)) dL_law_1990 ⟨by show _ ≤ 601024; omega, by show _ ≤ 7293034; omega⟩ (fun H locs G => ?_)
  refine lv_lstore (lv' := [(7, .long r2), (6, .int (vck 1 2 3 k1)), (5, .int (nI i)), (4, .ref ae), (3, .ref aj), (2, .ref (am 0)), (1, .ref (ad2 0)), (0, .ref b)]) hx hb dL_law_1993 hl (by decide) rfl (fun ls hl => ?_)
  refine lv_goto (tgt := 2439) hx hb dL_law_1995 (by decide) ?_
  have hl := lv_sub hl [2, 3, 4, 5, 6, 7] rfl
  refine W.widen (k := 19 + T1.1 + (j + 1)) (n := 38467 + sg T1 + 6 * (j + 1)) (by omega) (by omega) ?_
  exact kk ad2 (vfJ k1 f r1) g H locs ls hg hf (had 0 h0T) hV1 hrc1 hJ1 G hl
set_option maxHeartbeats 4000000 in
set_option maxRecDepth 100000 in
theorem y_a51 {p : Program} {e : Env} {s : State} {m : MethodId} {below : List Frame} {meth : Method} {c : Code} (l : Launch) (hst : l.stackTraces = false) {b L : Nat} {xs : Nat → Int32} (hx : p.tables.exec = Jvm.exec) (hb : c.code = code) (hml : c.maxLocals = 9) (hown : s.vm.findClass RL = some m.cls) (hts : ∀ w ∈ lw_tbl, w.before #[Value.ref b] s = true) (hX0 : va_X b L xs s s.heap) (hbl : b < s.heap.size) (hX : xT (fun q => s.heap.size ≤ q) s) (hN : nC s) (hTS : sAll s.heap.size s) {D : va_G} {cI cJ cZ cMic cSrc cSt cAI cAJ cD : ClassId} (hK : va_K D vwCl (CT cI cJ cZ cMic cSrc cSt cAI cAJ ++ [(cD, .double)]) s) {Q : State → Prop} {i j : Nat} (hi : i + 6 ≤ L) (hL : L ≤ 3072) (hj : j < 512) {aj ae : Nat} {ad am : Nat → Nat} {T : AT} {Sm : MS} {f : Nat → Int64} {g : Nat → UInt64} {ls : Array Slot} {H : Heap} {locs : List Loc} (hV : IV aR0 1586 aK1 aK2 T) (hrc : RC T) (hJ : JJ Sm) (G : gL cI cJ cZ cMic cSrc cSt cAI cAJ D ad (fun q => s.heap.size ≤ q) s.heap H locs T (oJ aj cJ f :: oD ae cD g :: MW cI cJ cZ am Sm)) (hl : lv_has ls 9 [(5, .int (nI i)), (4, .ref ae), (3, .ref aj), (2, .ref (am 0)), (1, .ref (ad 0)), (0, .ref b)]) (kk : ∀ {k1 : Nat} {r1 : Int32} {T1 : AT} {r2 : Int32} {S1 : MS} (ad2 : Nat → Nat) (f1 : Nat → Int64) (g1 : Nat → UInt64) (H1 : Heap) (locs1 : List Loc) (ls1 : Array Slot), g_X11_bestWithout T 0 (xs (i + 1)) = some (k1, r1, T1) → fr_bestWithout Sm (xs (i + 1)) = some (r2, S1) → ad2 0 = ad 0 → IV aR0 1586 aK1 aK2 T1 → RC T1 → JJ S1 → gL cI cJ cZ cMic cSrc cSt cAI cAJ D ad2 (fun q => s.heap.size ≤ q) s.heap H1 locs1 T1 (oJ aj cJ f1 :: oD ae cD g1 :: MW cI cJ cZ am S1) → lv_has ls1 9 [(5, .int (nI i)), (4, .ref ae), (3, .ref aj), (2, .ref (am 0)), (1, .ref (ad2 0)), (0, .ref b)] → W p l e room_1 s m #[Value.ref b] below meth c H1 locs1 (19 + T1.1 + (j + 1)) (38467 + sg T1 + 6 * (j + 1)) Q (F0 m 2439 ls1 [])) : W p l e room_1 s m #[Value.ref b] below meth c H locs (19 + T.1 + j) (38467 + sg T + 6 * j) Q (F0 m 1998 ls []) := by
  have E : cE p c cL_law s m #[Value.ref b] lw_tbl D RL (CT cI cJ cZ cMic cSrc cSt cAI cAJ ++ [(cD, .double)]) := ⟨hx, hb, hts, hown, hK⟩
  have hA : ∀ q : Nat, s.heap.size ≤ q → s.heap.size ≤ q := fun _ h => h
  have h0T : 0 < T.1 := Nat.lt_of_lt_of_le (by decide) hV.1.2.2
  have h0s : T.2.1 0 = (11, 0) := hV.2.1 0 ⟨by decide, by decide +kernel, by decide +kernel⟩
  refine lv_aload_n hx hb dL_law_1998 rfl (lv_at hl 4 rfl) ?_
  refine lv_aload_n hx hb dL_law_1999 rfl (lv_at hl 5 rfl) ?_
  refine lv_iload hx hb dL_law_2000 (lv_at hl 0 rfl) ?_
  refine lv_iconst (v := 1) hx hb dL_law_2002 (by decide) ?_
  refine lv_iadd hx hb dL_law_2003 ?_
  refine lv_to (y := nI (i + 1)) (nI_add i 1) ?_
  refine va_sld hx hb hX0 hbl (Nat.not_le.mpr hbl) G.2.2 (i := nI (i + 1)) (vp_in_nI (n := i + 1) (N := L) (by omega) (by omega)) dL_law_2004 ?_
  refine lv_to (y := xs (i + 1)) (congrArg xs (nI_clamp (by omega))) ?_
  refine lv_aload_n hx hb dL_law_2005 rfl (lv_at hl 2 rfl) ?_
  obtain ⟨⟨k1, r1, T1⟩, hg, hc⟩ := cs_X11_bestWithout T 0 (xs (i + 1)) hV (by decide +kernel)
  have hV1 : IV aR0 1586 aK1 aK2 T1 := hc.1.1
  have hg1 := s_X11_bestWithout hg
  have hg2 := sg_le hg1
  have hg3 := hg1.1
  have hk := hV1.2.2.2.2.2.2
  have hrc1 := hg1.2.2 hrc
  have hr0 := a_room
  refine l_v (h0 := s.heap.size) (As := [.ref (ad 0), .int (xs (i + 1)), .ref aj]) (rest := []) E G hA hX hN (fun _ h => h) hTS hml (v_bestWithout l hst D s.heap.size ad T 0 (xs (i + 1)) aj f hg hrc h0T h0s) (vx_cwSW 3 hts (glA (L := [Cond.methodLink RL 366 yL_bestWithout, Cond.static yL_bestWithout, Cond.initialized RL]) (gl_in [(7, 106), (7, 107), (1, 0)] (by decide +kernel) (by decide +kernel)) ⟨(t_of [Cond.codeWith yL_bestWithout cL_bestWithout 4 (some .int) [(0, 9, 12, 21), (0, 9, 15, 13)]] [(7, 108)] (by decide +kernel) _ List.mem_cons_self), List.all_eq_true.mp (by decide +kernel : [Cond.codeWith yL_bestWithout cL_bestWithout 4 (some .int) [(0, 9, 12, 21), (0, 9, 15, 13)]].all goodWord = true) _ List.mem_cons_self⟩) rfl rfl rfl (by decide +kernel) ⟨Nat.le_of_ble_eq_true rfl, Nat.le_of_ble_eq_true rfl⟩) rfl hl.1 rfl (lv_room (Nat.le_of_ble_eq_true rfl)) dL_law_2006 ⟨by show _ ≤ 601024; omega, by show _ ≤ 7293034; omega⟩ ?_
  intro ad2 H locs had G
  rw [← had 0 h0T] at hl
  refine lv_istore (lv' := [(6, .int (vck 1 2 0 k1)), (5, .int (nI i)), (4, .ref ae), (3, .ref aj), (2, .ref (am 0)), (1, .ref (ad2 0)), (0, .ref b)]) hx hb dL_law_2009 hl (by decide) rfl (fun ls hl => ?_)
  refine lv_aload_n hx hb dL_law_2011 rfl (lv_at hl 4 rfl) ?_
  refine lv_aload_n hx hb dL_law_2012 rfl (lv_at hl 6 rfl) ?_
  refine lv_iload hx hb dL_law_2013 (lv_at hl 1 rfl) ?_
  refine lv_iconst (v := 1) hx hb dL_law_2015 (by decide) ?_
  refine lv_iadd hx hb dL_law_2016 ?_
  refine lv_to (y := nI (i + 1)) (nI_add i 1) ?_
  refine va_sld hx hb hX0 hbl (Nat.not_le.mpr hbl) G.2.2 (i := nI (i + 1)) (vp_in_nI (n := i + 1) (N := L) (by omega) (by omega)) dL_law_2017 ?_
  refine lv_to (y := xs (i + 1)) (congrArg xs (nI_clamp (by omega))) ?_
  obtain ⟨⟨r2, S1⟩, hf, hj⟩ := sj_bestWithout Sm (xs (i + 1)) hJ
  have hJ1 : JJ S1 := hj
  refine y_mi (As := [.int (xs (i + 1))]) (rest := []) E G hA hX.2.2.2.2 hml (tr_bestWithout l D cI cJ cZ am Sm (xs (i + 1)) hf) (cwV 1 hts (glM (L := [Cond.methodLink RL 368 yX12_bestWithout, Cond.instanceMethod yX12_bestWithout, Cond.selects RX12 yX12_bestWithout yX12_bestWithout, Cond.initialized RX12]) (gl_in [(10, 145), (10, 146), (10, 147), (1, 14)] (by decide +kernel) (by decide +kernel)) ⟨(t_of [Cond.code yX12_bestWithout cX12_bestWithout 2 (some .int)] [(10, 148)] (by decide +kernel) _ List.mem_cons_self), List.all_eq_true.mp (by decide +kernel : [Cond.code yX12_bestWithout cX12_bestWithout 2 (some .int)].all goodWord = true) _ List.mem_cons_self⟩) rfl rfl rfl (by decide +kernel) ⟨Nat.le_of_ble_eq_true rfl, Nat.le_of_ble_eq_true rfl⟩) rfl hl.1 rfl (lv_room (Nat.le_of_ble_eq_true rfl)) dL_law_2018 ⟨by show _ ≤ 601024; omega, by show _ ≤ 7293034; omega⟩ (fun H locs G => ?_)
  refine lv_istore (lv' := [(7, .int r2), (6, .int (vck 1 2 0 k1)), (5, .int (nI i)), (4, .ref ae), (3, .ref aj), (2, .ref (am 0)), (1, .ref (ad2 0)), (0, .ref b)]) hx hb dL_law_2021 hl (by decide) rfl (fun ls hl => ?_)
  refine lv_goto (tgt := 2439) hx hb dL_law_2023 (by decide) ?_
  have hl := lv_sub hl [2, 3, 4, 5, 6, 7] rfl
  refine W.widen (k := 19 + T1.1 + (j + 1)) (n := 38467 + sg T1 + 6 * (j + 1)) (by omega) (by omega) ?_
  exact kk ad2 (vfJ k1 f r1.toInt64) g H locs ls hg hf (had 0 h0T) hV1 hrc1 hJ1 G hl
set_option maxHeartbeats 4000000 in
set_option maxRecDepth 100000 in
theorem y_a52 {p : Program} {e : Env} {s : State} {m : MethodId} {below : List Frame} {meth : Method} {c : Code} (l : Launch) (hst : l.stackTraces = false) {b L : Nat} {xs : Nat → Int32} (hx : p.tables.exec = Jvm.exec) (hb : c.code = code) (hml : c.maxLocals = 9) (hown : s.vm.findClass RL = some m.cls) (hts : ∀ w ∈ lw_tbl, w.before #[Value.ref b] s = true) (hX0 : va_X b L xs s s.heap) (hbl : b < s.heap.size) (hX : xT (fun q => s.heap.size ≤ q) s) (hN : nC s) (hTS : sAll s.heap.size s) {D : va_G} {cI cJ cZ cMic cSrc cSt cAI cAJ cD : ClassId} (hK : va_K D vwCl (CT cI cJ cZ cMic cSrc cSt cAI cAJ ++ [(cD, .double)]) s) {Q : State → Prop} {i j : Nat} (hi : i + 6 ≤ L) (hL : L ≤ 3072) (hj : j < 512) {aj ae : Nat} {ad am : Nat → Nat} {T : AT} {Sm : MS} {f : Nat → Int64} {g : Nat → UInt64} {ls : Array Slot} {H : Heap} {locs : List Loc} (hV : IV aR0 1586 aK1 aK2 T) (hrc : RC T) (hJ : JJ Sm) (G : gL cI cJ cZ cMic cSrc cSt cAI cAJ D ad (fun q => s.heap.size ≤ q) s.heap H locs T (oJ aj cJ f :: oD ae cD g :: MW cI cJ cZ am Sm)) (hl : lv_has ls 9 [(5, .int (nI i)), (4, .ref ae), (3, .ref aj), (2, .ref (am 0)), (1, .ref (ad 0)), (0, .ref b)]) (kk : ∀ {k1 : Nat} {r1 : Int32} {T1 : AT} {r2 : Int32} {S1 : MS} (ad2 : Nat → Nat) (f1 : Nat → Int64) (g1 : Nat → UInt64) (H1 : Heap) (locs1 : List Loc) (ls1 : Array Slot), g_X11_bestIfOff T 0 (xs (i + 1)) = some (k1, r1, T1) → fr_bestIfOff Sm (xs (i + 1)) = some (r2, S1) → ad2 0 = ad 0 → IV aR0 1586 aK1 aK2 T1 → RC T1 → JJ S1 → gL cI cJ cZ cMic cSrc cSt cAI cAJ D ad2 (fun q => s.heap.size ≤ q) s.heap H1 locs1 T1 (oJ aj cJ f1 :: oD ae cD g1 :: MW cI cJ cZ am S1) → lv_has ls1 9 [(5, .int (nI i)), (4, .ref ae), (3, .ref aj), (2, .ref (am 0)), (1, .ref (ad2 0)), (0, .ref b)] → W p l e room_1 s m #[Value.ref b] below meth c H1 locs1 (19 + T1.1 + (j + 1)) (38467 + sg T1 + 6 * (j + 1)) Q (F0 m 2439 ls1 [])) : W p l e room_1 s m #[Value.ref b] below meth c H locs (19 + T.1 + j) (38467 + sg T + 6 * j) Q (F0 m 2026 ls []) := by
  have E : cE p c cL_law s m #[Value.ref b] lw_tbl D RL (CT cI cJ cZ cMic cSrc cSt cAI cAJ ++ [(cD, .double)]) := ⟨hx, hb, hts, hown, hK⟩
  have hA : ∀ q : Nat, s.heap.size ≤ q → s.heap.size ≤ q := fun _ h => h
  have h0T : 0 < T.1 := Nat.lt_of_lt_of_le (by decide) hV.1.2.2
  have h0s : T.2.1 0 = (11, 0) := hV.2.1 0 ⟨by decide, by decide +kernel, by decide +kernel⟩
  refine lv_aload_n hx hb dL_law_2026 rfl (lv_at hl 4 rfl) ?_
  refine lv_aload_n hx hb dL_law_2027 rfl (lv_at hl 5 rfl) ?_
  refine lv_iload hx hb dL_law_2028 (lv_at hl 0 rfl) ?_
  refine lv_iconst (v := 1) hx hb dL_law_2030 (by decide) ?_
  refine lv_iadd hx hb dL_law_2031 ?_
  refine lv_to (y := nI (i + 1)) (nI_add i 1) ?_
  refine va_sld hx hb hX0 hbl (Nat.not_le.mpr hbl) G.2.2 (i := nI (i + 1)) (vp_in_nI (n := i + 1) (N := L) (by omega) (by omega)) dL_law_2032 ?_
  refine lv_to (y := xs (i + 1)) (congrArg xs (nI_clamp (by omega))) ?_
  refine lv_aload_n hx hb dL_law_2033 rfl (lv_at hl 2 rfl) ?_
  obtain ⟨⟨k1, r1, T1⟩, hg, hc⟩ := cs_X11_bestIfOff T 0 (xs (i + 1)) hV (by decide +kernel)
  have hV1 : IV aR0 1586 aK1 aK2 T1 := hc.1.1
  have hg1 := s_X11_bestIfOff hg
  have hg2 := sg_le hg1
  have hg3 := hg1.1
  have hk := hV1.2.2.2.2.2.2
  have hrc1 := hg1.2.2 hrc
  have hr0 := a_room
  refine l_v (h0 := s.heap.size) (As := [.ref (ad 0), .int (xs (i + 1)), .ref aj]) (rest := []) E G hA hX hN (fun _ h => h) hTS hml (v_bestIfOff l hst D s.heap.size ad T 0 (xs (i + 1)) aj f hg hrc h0T h0s) (vx_cwSW 3 hts (glA (L := [Cond.methodLink RL 369 yL_bestIfOff, Cond.static yL_bestIfOff, Cond.initialized RL]) (gl_in [(7, 113), (7, 114), (1, 0)] (by decide +kernel) (by decide +kernel)) ⟨(t_of [Cond.codeWith yL_bestIfOff cL_bestIfOff 4 (some .int) [(0, 9, 12, 21), (0, 9, 15, 13)]] [(7, 115)] (by decide +kernel) _ List.mem_cons_self), List.all_eq_true.mp (by decide +kernel : [Cond.codeWith yL_bestIfOff cL_bestIfOff 4 (some .int) [(0, 9, 12, 21), (0, 9, 15, 13)]].all goodWord = true) _ List.mem_cons_self⟩) rfl rfl rfl (by decide +kernel) ⟨Nat.le_of_ble_eq_true rfl, Nat.le_of_ble_eq_true rfl⟩) rfl hl.1 rfl (lv_room (Nat.le_of_ble_eq_true rfl)) dL_law_2034 ⟨by show _ ≤ 601024; omega, by show _ ≤ 7293034; omega⟩ ?_
  intro ad2 H locs had G
  rw [← had 0 h0T] at hl
  refine lv_istore (lv' := [(6, .int (vck 1 2 0 k1)), (5, .int (nI i)), (4, .ref ae), (3, .ref aj), (2, .ref (am 0)), (1, .ref (ad2 0)), (0, .ref b)]) hx hb dL_law_2037 hl (by decide) rfl (fun ls hl => ?_)
  refine lv_aload_n hx hb dL_law_2039 rfl (lv_at hl 4 rfl) ?_
  refine lv_aload_n hx hb dL_law_2040 rfl (lv_at hl 6 rfl) ?_
  refine lv_iload hx hb dL_law_2041 (lv_at hl 1 rfl) ?_
  refine lv_iconst (v := 1) hx hb dL_law_2043 (by decide) ?_
  refine lv_iadd hx hb dL_law_2044 ?_
  refine lv_to (y := nI (i + 1)) (nI_add i 1) ?_
  refine va_sld hx hb hX0 hbl (Nat.not_le.mpr hbl) G.2.2 (i := nI (i + 1)) (vp_in_nI (n := i + 1) (N := L) (by omega) (by omega)) dL_law_2045 ?_
  refine lv_to (y := xs (i + 1)) (congrArg xs (nI_clamp (by omega))) ?_
  obtain ⟨⟨r2, S1⟩, hf, hj⟩ := sj_bestIfOff Sm (xs (i + 1)) hJ
  have hJ1 : JJ S1 := hj
  refine y_mi (As := [.int (xs (i + 1))]) (rest := []) E G hA hX.2.2.2.2 hml (tr_bestIfOff l D cI cJ cZ am Sm (xs (i + 1)) hf) (cwV 1 hts (glM (L := [Cond.methodLink RL 371 yX12_bestIfOff, Cond.instanceMethod yX12_bestIfOff, Cond.selects RX12 yX12_bestIfOff yX12_bestIfOff, Cond.initialized RX12]) (gl_in [(10, 149), (10, 150), (10, 151), (1, 14)] (by decide +kernel) (by decide +kernel)) ⟨(t_of [Cond.code yX12_bestIfOff cX12_bestIfOff 2 (some .int)] [(10, 152)] (by decide +kernel) _ List.mem_cons_self), List.all_eq_true.mp (by decide +kernel : [Cond.code yX12_bestIfOff cX12_bestIfOff 2 (some .int)].all goodWord = true) _ List.mem_cons_self⟩) rfl rfl rfl (by decide +kernel) ⟨Nat.le_of_ble_eq_true rfl, Nat.le_of_ble_eq_true rfl⟩) rfl hl.1 rfl (lv_room (Nat.le_of_ble_eq_true rfl)) dL_law_2046 ⟨by show _ ≤ 601024; omega, by show _ ≤ 7293034; omega⟩ (fun H locs G => ?_)
  refine lv_istore (lv' := [(7, .int r2), (6, .int (vck 1 2 0 k1)), (5, .int (nI i)), (4, .ref ae), (3, .ref aj), (2, .ref (am 0)), (1, .ref (ad2 0)), (0, .ref b)]) hx hb dL_law_2049 hl (by decide) rfl (fun ls hl => ?_)
  refine lv_goto (tgt := 2439) hx hb dL_law_2051 (by decide) ?_
  have hl := lv_sub hl [2, 3, 4, 5, 6, 7] rfl
  refine W.widen (k := 19 + T1.1 + (j + 1)) (n := 38467 + sg T1 + 6 * (j + 1)) (by omega) (by omega) ?_
  exact kk ad2 (vfJ k1 f r1.toInt64) g H locs ls hg hf (had 0 h0T) hV1 hrc1 hJ1 G hl
set_option maxHeartbeats 4000000 in
set_option maxRecDepth 100000 in
theorem y_a53 {p : Program} {e : Env} {s : State} {m : MethodId} {below : List Frame} {meth : Method} {c : Code} (l : Launch) (hst : l.stackTraces = false) {b L : Nat} {xs : Nat → Int32} (hx : p.tables.exec = Jvm.exec) (hb : c.code = code) (hml : c.maxLocals = 9) (hown : s.vm.findClass RL = some m.cls) (hts : ∀ w ∈ lw_tbl, w.before #[Value.ref b] s = true) (hX0 : va_X b L xs s s.heap) (hbl : b < s.heap.size) (hX : xT (fun q => s.heap.size ≤ q) s) (hN : nC s) (hTS : sAll s.heap.size s) {D : va_G} {cI cJ cZ cMic cSrc cSt cAI cAJ cD : ClassId} (hK : va_K D vwCl (CT cI cJ cZ cMic cSrc cSt cAI cAJ ++ [(cD, .double)]) s) {Q : State → Prop} {i j : Nat} (hi : i + 6 ≤ L) (hL : L ≤ 3072) (hj : j < 512) {aj ae : Nat} {ad am : Nat → Nat} {T : AT} {Sm : MS} {f : Nat → Int64} {g : Nat → UInt64} {ls : Array Slot} {H : Heap} {locs : List Loc} (hV : IV aR0 1586 aK1 aK2 T) (hrc : RC T) (hJ : JJ Sm) (G : gL cI cJ cZ cMic cSrc cSt cAI cAJ D ad (fun q => s.heap.size ≤ q) s.heap H locs T (oJ aj cJ f :: oD ae cD g :: MW cI cJ cZ am Sm)) (hl : lv_has ls 9 [(5, .int (nI i)), (4, .ref ae), (3, .ref aj), (2, .ref (am 0)), (1, .ref (ad 0)), (0, .ref b)]) (kk : ∀ {k1 : Nat} {r1 : Int32} {T1 : AT} {r2 : Int32} {S1 : MS} (ad2 : Nat → Nat) (f1 : Nat → Int64) (g1 : Nat → UInt64) (H1 : Heap) (locs1 : List Loc) (ls1 : Array Slot), g_X11_mute T 0 (xs (i + 1)) (vnz (xs (i + 2))) = some (k1, r1, T1) → fr_mute Sm (xs (i + 1)) (vnz (xs (i + 2))) = some (r2, S1) → ad2 0 = ad 0 → IV aR0 1586 aK1 aK2 T1 → RC T1 → JJ S1 → gL cI cJ cZ cMic cSrc cSt cAI cAJ D ad2 (fun q => s.heap.size ≤ q) s.heap H1 locs1 T1 (oJ aj cJ f1 :: oD ae cD g1 :: MW cI cJ cZ am S1) → lv_has ls1 9 [(5, .int (nI i)), (4, .ref ae), (3, .ref aj), (2, .ref (am 0)), (1, .ref (ad2 0)), (0, .ref b)] → W p l e room_1 s m #[Value.ref b] below meth c H1 locs1 (19 + T1.1 + (j + 1)) (38467 + sg T1 + 6 * (j + 1)) Q (F0 m 2439 ls1 [])) : W p l e room_1 s m #[Value.ref b] below meth c H locs (19 + T.1 + j) (38467 + sg T + 6 * j) Q (F0 m 2054 ls []) := by
  have E : cE p c cL_law s m #[Value.ref b] lw_tbl D RL (CT cI cJ cZ cMic cSrc cSt cAI cAJ ++ [(cD, .double)]) := ⟨hx, hb, hts, hown, hK⟩
  have hA : ∀ q : Nat, s.heap.size ≤ q → s.heap.size ≤ q := fun _ h => h
  have h0T : 0 < T.1 := Nat.lt_of_lt_of_le (by decide) hV.1.2.2
  have h0s : T.2.1 0 = (11, 0) := hV.2.1 0 ⟨by decide, by decide +kernel, by decide +kernel⟩
  refine lv_aload_n hx hb dL_law_2054 rfl (lv_at hl 4 rfl) ?_
  refine lv_aload_n hx hb dL_law_2055 rfl (lv_at hl 5 rfl) ?_
  refine lv_iload hx hb dL_law_2056 (lv_at hl 0 rfl) ?_
  refine lv_iconst (v := 1) hx hb dL_law_2058 (by decide) ?_
  refine lv_iadd hx hb dL_law_2059 ?_
  refine lv_to (y := nI (i + 1)) (nI_add i 1) ?_
  refine va_sld hx hb hX0 hbl (Nat.not_le.mpr hbl) G.2.2 (i := nI (i + 1)) (vp_in_nI (n := i + 1) (N := L) (by omega) (by omega)) dL_law_2060 ?_
  refine lv_to (y := xs (i + 1)) (congrArg xs (nI_clamp (by omega))) ?_
  refine lv_aload_n hx hb dL_law_2061 rfl (lv_at hl 5 rfl) ?_
  refine lv_iload hx hb dL_law_2062 (lv_at hl 0 rfl) ?_
  refine lv_iconst (v := 2) hx hb dL_law_2064 (by decide) ?_
  refine lv_iadd hx hb dL_law_2065 ?_
  refine lv_to (y := nI (i + 2)) (nI_add i 2) ?_
  refine va_sld hx hb hX0 hbl (Nat.not_le.mpr hbl) G.2.2 (i := nI (i + 2)) (vp_in_nI (n := i + 2) (N := L) (by omega) (by omega)) dL_law_2066 ?_
  refine lv_to (y := xs (i + 2)) (congrArg xs (nI_clamp (by omega))) ?_
  have kb : W p l e room_1 s m #[Value.ref b] below meth c H locs (19 + T.1 + j) (38467 + sg T + 6 * j) Q (F0 m 2075 ls [.int (vnz (xs (i + 2))), .int (xs (i + 1)), .ref (ad 0)]) := by
    refine lv_aload_n hx hb dL_law_2075 rfl (lv_at hl 2 rfl) ?_
    obtain ⟨⟨k1, r1, T1⟩, hg, hc⟩ := cs_X11_mute T 0 (xs (i + 1)) (vnz (xs (i + 2))) hV (by decide +kernel) (vnz_r _)
    have hV1 : IV aR0 1586 aK1 aK2 T1 := hc.1.1
    have hg1 := s_X11_mute hg
    have hg2 := sg_le hg1
    have hg3 := hg1.1
    have hk := hV1.2.2.2.2.2.2
    have hrc1 := hg1.2.2 hrc
    have hr0 := a_room
    refine l_v (h0 := s.heap.size) (As := [.ref (ad 0), .int (xs (i + 1)), .int (vnz (xs (i + 2))), .ref aj]) (rest := []) E G hA hX hN (fun _ h => h) hTS hml (v_mute l hst D s.heap.size ad T 0 (xs (i + 1)) (vnz (xs (i + 2))) aj f hg hrc h0T h0s) (vx_cwSW 4 hts (glA (L := [Cond.methodLink RL 372 yL_mute, Cond.static yL_mute, Cond.initialized RL]) (gl_in [(7, 120), (7, 121), (1, 0)] (by decide +kernel) (by decide +kernel)) ⟨(t_of [Cond.codeWith yL_mute cL_mute 5 (some .int) [(0, 17, 20, 21), (0, 17, 24, 13)]] [(7, 122)] (by decide +kernel) _ List.mem_cons_self), List.all_eq_true.mp (by decide +kernel : [Cond.codeWith yL_mute cL_mute 5 (some .int) [(0, 17, 20, 21), (0, 17, 24, 13)]].all goodWord = true) _ List.mem_cons_self⟩) rfl rfl rfl (by decide +kernel) ⟨Nat.le_of_ble_eq_true rfl, Nat.le_of_ble_eq_true rfl⟩) rfl hl.1 rfl (lv_room (Nat.le_of_ble_eq_true rfl)) dL_law_2076 ⟨by show _ ≤ 601024; omega, by show _ ≤ 7293034; omega⟩ ?_
    intro ad2 H locs had G
    rw [← had 0 h0T] at hl
    refine lv_istore (lv' := [(6, .int (vck 1 2 0 k1)), (5, .int (nI i)), (4, .ref ae), (3, .ref aj), (2, .ref (am 0)), (1, .ref (ad2 0)), (0, .ref b)]) hx hb dL_law_2079 hl (by decide) rfl (fun ls hl => ?_)
    refine lv_aload_n hx hb dL_law_2081 rfl (lv_at hl 4 rfl) ?_
    refine lv_aload_n hx hb dL_law_2082 rfl (lv_at hl 6 rfl) ?_
    refine lv_iload hx hb dL_law_2083 (lv_at hl 1 rfl) ?_
    refine lv_iconst (v := 1) hx hb dL_law_2085 (by decide) ?_
    refine lv_iadd hx hb dL_law_2086 ?_
    refine lv_to (y := nI (i + 1)) (nI_add i 1) ?_
    refine va_sld hx hb hX0 hbl (Nat.not_le.mpr hbl) G.2.2 (i := nI (i + 1)) (vp_in_nI (n := i + 1) (N := L) (by omega) (by omega)) dL_law_2087 ?_
    refine lv_to (y := xs (i + 1)) (congrArg xs (nI_clamp (by omega))) ?_
    refine lv_aload_n hx hb dL_law_2088 rfl (lv_at hl 6 rfl) ?_
    refine lv_iload hx hb dL_law_2089 (lv_at hl 1 rfl) ?_
    refine lv_iconst (v := 2) hx hb dL_law_2091 (by decide) ?_
    refine lv_iadd hx hb dL_law_2092 ?_
    refine lv_to (y := nI (i + 2)) (nI_add i 2) ?_
    refine va_sld hx hb hX0 hbl (Nat.not_le.mpr hbl) G.2.2 (i := nI (i + 2)) (vp_in_nI (n := i + 2) (N := L) (by omega) (by omega)) dL_law_2093 ?_
    refine lv_to (y := xs (i + 2)) (congrArg xs (nI_clamp (by omega))) ?_
    have kb : W p l e room_1 s m #[Value.ref b] below meth c H locs (19 + T.1 + j + (T1.1 - T.1 + 1)) (38467 + sg T + 6 * j + (sg T1 - sg T + 6)) Q (F0 m 2102 ls [.int (vnz (xs (i + 2))), .int (xs (i + 1)), .ref (am 0)]) := by
      obtain ⟨⟨r2, S1⟩, hf, hj⟩ := sj_mute Sm (xs (i + 1)) (vnz (xs (i + 2))) hJ
      have hJ1 : JJ S1 := hj
      refine y_mi (As := [.int (xs (i + 1)), .int (vnz (xs (i + 2)))]) (rest := []) E G hA hX.2.2.2.2 hml (tr_mute l D cI cJ cZ am Sm (xs (i + 1)) (vnz (xs (i + 2))) hf) (cwV 2 hts (glM (L := [Cond.methodLink RL 375 yX12_mute, Cond.instanceMethod yX12_mute, Cond.selects RX12 yX12_mute yX12_mute, Cond.initialized RX12]) (gl_in [(10, 153), (10, 154), (10, 155), (1, 14)] (by decide +kernel) (by decide +kernel)) ⟨(t_of [Cond.code yX12_mute cX12_mute 3 (some .boolean)] [(10, 156)] (by decide +kernel) _ List.mem_cons_self), List.all_eq_true.mp (by decide +kernel : [Cond.code yX12_mute cX12_mute 3 (some .boolean)].all goodWord = true) _ List.mem_cons_self⟩) rfl rfl rfl (by decide +kernel) ⟨Nat.le_of_ble_eq_true rfl, Nat.le_of_ble_eq_true rfl⟩) rfl hl.1 rfl (lv_room (Nat.le_of_ble_eq_true rfl)) dL_law_2102 ⟨by show _ ≤ 601024; omega, by show _ ≤ 7293034; omega⟩ (fun H locs G => ?_)
      refine lv_istore (lv' := [(7, .int r2), (6, .int (vck 1 2 0 k1)), (5, .int (nI i)), (4, .ref ae), (3, .ref aj), (2, .ref (am 0)), (1, .ref (ad2 0)), (0, .ref b)]) hx hb dL_law_2105 hl (by decide) rfl (fun ls hl => ?_)
      refine lv_goto (tgt := 2439) hx hb dL_law_2107 (by decide) ?_
      have hl := lv_sub hl [2, 3, 4, 5, 6, 7] rfl
      refine W.widen (k := 19 + T1.1 + (j + 1)) (n := 38467 + sg T1 + 6 * (j + 1)) (by omega) (by omega) ?_
      exact kk ad2 (vfJ k1 f (vzb r1)) g H locs ls hg hf (had 0 h0T) hV1 hrc1 hJ1 G hl
    refine lv_if_eq (tgt := 2101) hx hb dL_law_2094 (by decide) (fun c1 => ?_) (fun c1 => ?_)
    · refine lv_iconst (v := 0) hx hb dL_law_2101 (by decide) ?_
      refine lv_to (y := vnz (xs (i + 2))) (if_pos c1).symm ?_
      exact kb
    · refine lv_iconst (v := 1) hx hb dL_law_2097 (by decide) ?_
      refine lv_to (y := vnz (xs (i + 2))) (if_neg c1).symm ?_
      refine lv_goto (tgt := 2102) hx hb dL_law_2098 (by decide) ?_
      exact kb
  refine lv_if_eq (tgt := 2074) hx hb dL_law_2067 (by decide) (fun c1 => ?_) (fun c1 => ?_)
  · refine lv_iconst (v := 0) hx hb dL_law_2074 (by decide) ?_
    refine lv_to (y := vnz (xs (i + 2))) (if_pos c1).symm ?_
    exact kb
  · refine lv_iconst (v := 1) hx hb dL_law_2070 (by decide) ?_
    refine lv_to (y := vnz (xs (i + 2))) (if_neg c1).symm ?_
    refine lv_goto (tgt := 2075) hx hb dL_law_2071 (by decide) ?_
    exact kb
set_option maxHeartbeats 4000000 in
set_option maxRecDepth 100000 in
theorem y_a54 {p : Program} {e : Env} {s : State} {m : MethodId} {below : List Frame} {meth : Method} {c : Code} (l : Launch) (hst : l.stackTraces = false) {b L : Nat} {xs : Nat → Int32} (hx : p.tables.exec = Jvm.exec) (hb : c.code = code) (hml : c.maxLocals = 9) (hown : s.vm.findClass RL = some m.cls) (hts : ∀ w ∈ lw_tbl, w.before #[Value.ref b] s = true) (hX0 : va_X b L xs s s.heap) (hbl : b < s.heap.size) (hX : xT (fun q => s.heap.size ≤ q) s) (hN : nC s) (hTS : sAll s.heap.size s) {D : va_G} {cI cJ cZ cMic cSrc cSt cAI cAJ cD : ClassId} (hK : va_K D vwCl (CT cI cJ cZ cMic cSrc cSt cAI cAJ ++ [(cD, .double)]) s) {Q : State → Prop} {i j : Nat} (hi : i + 6 ≤ L) (hL : L ≤ 3072) (hj : j < 512) {aj ae : Nat} {ad am : Nat → Nat} {T : AT} {Sm : MS} {f : Nat → Int64} {g : Nat → UInt64} {ls : Array Slot} {H : Heap} {locs : List Loc} (hV : IV aR0 1586 aK1 aK2 T) (hrc : RC T) (hJ : JJ Sm) (G : gL cI cJ cZ cMic cSrc cSt cAI cAJ D ad (fun q => s.heap.size ≤ q) s.heap H locs T (oJ aj cJ f :: oD ae cD g :: MW cI cJ cZ am Sm)) (hl : lv_has ls 9 [(5, .int (nI i)), (4, .ref ae), (3, .ref aj), (2, .ref (am 0)), (1, .ref (ad 0)), (0, .ref b)]) (kk : ∀ {k1 : Nat} {r1 : Int32} {T1 : AT} {r2 : Int32} {S1 : MS} (ad2 : Nat → Nat) (f1 : Nat → Int64) (g1 : Nat → UInt64) (H1 : Heap) (locs1 : List Loc) (ls1 : Array Slot), g_X11_setWeight T 0 (xs (i + 1)) (xs (i + 2)) = some (k1, r1, T1) → fr_setWeight Sm (xs (i + 1)) (xs (i + 2)) = some (r2, S1) → ad2 0 = ad 0 → IV aR0 1586 aK1 aK2 T1 → RC T1 → JJ S1 → gL cI cJ cZ cMic cSrc cSt cAI cAJ D ad2 (fun q => s.heap.size ≤ q) s.heap H1 locs1 T1 (oJ aj cJ f1 :: oD ae cD g1 :: MW cI cJ cZ am S1) → lv_has ls1 9 [(5, .int (nI i)), (4, .ref ae), (3, .ref aj), (2, .ref (am 0)), (1, .ref (ad2 0)), (0, .ref b)] → W p l e room_1 s m #[Value.ref b] below meth c H1 locs1 (19 + T1.1 + (j + 1)) (38467 + sg T1 + 6 * (j + 1)) Q (F0 m 2439 ls1 [])) : W p l e room_1 s m #[Value.ref b] below meth c H locs (19 + T.1 + j) (38467 + sg T + 6 * j) Q (F0 m 2110 ls []) := by
  have E : cE p c cL_law s m #[Value.ref b] lw_tbl D RL (CT cI cJ cZ cMic cSrc cSt cAI cAJ ++ [(cD, .double)]) := ⟨hx, hb, hts, hown, hK⟩
  have hA : ∀ q : Nat, s.heap.size ≤ q → s.heap.size ≤ q := fun _ h => h
  have h0T : 0 < T.1 := Nat.lt_of_lt_of_le (by decide) hV.1.2.2
  have h0s : T.2.1 0 = (11, 0) := hV.2.1 0 ⟨by decide, by decide +kernel, by decide +kernel⟩
  refine lv_aload_n hx hb dL_law_2110 rfl (lv_at hl 4 rfl) ?_
  refine lv_aload_n hx hb dL_law_2111 rfl (lv_at hl 5 rfl) ?_
  refine lv_iload hx hb dL_law_2112 (lv_at hl 0 rfl) ?_
  refine lv_iconst (v := 1) hx hb dL_law_2114 (by decide) ?_
  refine lv_iadd hx hb dL_law_2115 ?_
  refine lv_to (y := nI (i + 1)) (nI_add i 1) ?_
  refine va_sld hx hb hX0 hbl (Nat.not_le.mpr hbl) G.2.2 (i := nI (i + 1)) (vp_in_nI (n := i + 1) (N := L) (by omega) (by omega)) dL_law_2116 ?_
  refine lv_to (y := xs (i + 1)) (congrArg xs (nI_clamp (by omega))) ?_
  refine lv_aload_n hx hb dL_law_2117 rfl (lv_at hl 5 rfl) ?_
  refine lv_iload hx hb dL_law_2118 (lv_at hl 0 rfl) ?_
  refine lv_iconst (v := 2) hx hb dL_law_2120 (by decide) ?_
  refine lv_iadd hx hb dL_law_2121 ?_
  refine lv_to (y := nI (i + 2)) (nI_add i 2) ?_
  refine va_sld hx hb hX0 hbl (Nat.not_le.mpr hbl) G.2.2 (i := nI (i + 2)) (vp_in_nI (n := i + 2) (N := L) (by omega) (by omega)) dL_law_2122 ?_
  refine lv_to (y := xs (i + 2)) (congrArg xs (nI_clamp (by omega))) ?_
  refine lv_aload_n hx hb dL_law_2123 rfl (lv_at hl 2 rfl) ?_
  obtain ⟨⟨k1, r1, T1⟩, hg, hc⟩ := cs_X11_setWeight T 0 (xs (i + 1)) (xs (i + 2)) hV (by decide +kernel)
  have hV1 : IV aR0 1586 aK1 aK2 T1 := hc.1.1
  have hg1 := s_X11_setWeight hg
  have hg2 := sg_le hg1
  have hg3 := hg1.1
  have hk := hV1.2.2.2.2.2.2
  have hrc1 := hg1.2.2 hrc
  have hr0 := a_room
  refine l_v (h0 := s.heap.size) (As := [.ref (ad 0), .int (xs (i + 1)), .int (xs (i + 2)), .ref aj]) (rest := []) E G hA hX hN (fun _ h => h) hTS hml (v_setWeight l hst D s.heap.size ad T 0 (xs (i + 1)) (xs (i + 2)) aj f hg hrc h0T h0s) (vx_cwSW 4 hts (glA (L := [Cond.methodLink RL 376 yL_setWeight, Cond.static yL_setWeight, Cond.initialized RL]) (gl_in [(7, 131), (7, 132), (1, 0)] (by decide +kernel) (by decide +kernel)) ⟨(t_of [Cond.codeWith yL_setWeight cL_setWeight 5 (some .int) [(0, 10, 13, 21), (0, 10, 17, 13), (0, 10, 21, 15)]] [(7, 133)] (by decide +kernel) _ List.mem_cons_self), List.all_eq_true.mp (by decide +kernel : [Cond.codeWith yL_setWeight cL_setWeight 5 (some .int) [(0, 10, 13, 21), (0, 10, 17, 13), (0, 10, 21, 15)]].all goodWord = true) _ List.mem_cons_self⟩) rfl rfl rfl (by decide +kernel) ⟨Nat.le_of_ble_eq_true rfl, Nat.le_of_ble_eq_true rfl⟩) rfl hl.1 rfl (lv_room (Nat.le_of_ble_eq_true rfl)) dL_law_2124 ⟨by show _ ≤ 601024; omega, by show _ ≤ 7293034; omega⟩ ?_
  intro ad2 H locs had G
  rw [← had 0 h0T] at hl
  refine lv_istore (lv' := [(6, .int (vck 1 2 3 k1)), (5, .int (nI i)), (4, .ref ae), (3, .ref aj), (2, .ref (am 0)), (1, .ref (ad2 0)), (0, .ref b)]) hx hb dL_law_2127 hl (by decide) rfl (fun ls hl => ?_)
  refine lv_aload_n hx hb dL_law_2129 rfl (lv_at hl 4 rfl) ?_
  refine lv_aload_n hx hb dL_law_2130 rfl (lv_at hl 6 rfl) ?_
  refine lv_iload hx hb dL_law_2131 (lv_at hl 1 rfl) ?_
  refine lv_iconst (v := 1) hx hb dL_law_2133 (by decide) ?_
  refine lv_iadd hx hb dL_law_2134 ?_
  refine lv_to (y := nI (i + 1)) (nI_add i 1) ?_
  refine va_sld hx hb hX0 hbl (Nat.not_le.mpr hbl) G.2.2 (i := nI (i + 1)) (vp_in_nI (n := i + 1) (N := L) (by omega) (by omega)) dL_law_2135 ?_
  refine lv_to (y := xs (i + 1)) (congrArg xs (nI_clamp (by omega))) ?_
  refine lv_aload_n hx hb dL_law_2136 rfl (lv_at hl 6 rfl) ?_
  refine lv_iload hx hb dL_law_2137 (lv_at hl 1 rfl) ?_
  refine lv_iconst (v := 2) hx hb dL_law_2139 (by decide) ?_
  refine lv_iadd hx hb dL_law_2140 ?_
  refine lv_to (y := nI (i + 2)) (nI_add i 2) ?_
  refine va_sld hx hb hX0 hbl (Nat.not_le.mpr hbl) G.2.2 (i := nI (i + 2)) (vp_in_nI (n := i + 2) (N := L) (by omega) (by omega)) dL_law_2141 ?_
  refine lv_to (y := xs (i + 2)) (congrArg xs (nI_clamp (by omega))) ?_
  obtain ⟨⟨r2, S1⟩, hf, hj⟩ := sj_setWeight Sm (xs (i + 1)) (xs (i + 2)) hJ
  have hJ1 : JJ S1 := hj
  refine y_mi (As := [.int (xs (i + 1)), .int (xs (i + 2))]) (rest := []) E G hA hX.2.2.2.2 hml (tr_setWeight l D cI cJ cZ am Sm (xs (i + 1)) (xs (i + 2)) hf) (cwV 2 hts (glM (L := [Cond.methodLink RL 378 yX12_setWeight, Cond.instanceMethod yX12_setWeight, Cond.selects RX12 yX12_setWeight yX12_setWeight, Cond.initialized RX12]) (gl_in [(10, 165), (10, 166), (10, 167), (1, 14)] (by decide +kernel) (by decide +kernel)) ⟨(t_of [Cond.code yX12_setWeight cX12_setWeight 3 (some .int)] [(10, 168)] (by decide +kernel) _ List.mem_cons_self), List.all_eq_true.mp (by decide +kernel : [Cond.code yX12_setWeight cX12_setWeight 3 (some .int)].all goodWord = true) _ List.mem_cons_self⟩) rfl rfl rfl (by decide +kernel) ⟨Nat.le_of_ble_eq_true rfl, Nat.le_of_ble_eq_true rfl⟩) rfl hl.1 rfl (lv_room (Nat.le_of_ble_eq_true rfl)) dL_law_2142 ⟨by show _ ≤ 601024; omega, by show _ ≤ 7293034; omega⟩ (fun H locs G => ?_)
  refine lv_istore (lv' := [(7, .int r2), (6, .int (vck 1 2 3 k1)), (5, .int (nI i)), (4, .ref ae), (3, .ref aj), (2, .ref (am 0)), (1, .ref (ad2 0)), (0, .ref b)]) hx hb dL_law_2145 hl (by decide) rfl (fun ls hl => ?_)
  refine lv_goto (tgt := 2439) hx hb dL_law_2147 (by decide) ?_
  have hl := lv_sub hl [2, 3, 4, 5, 6, 7] rfl
  refine W.widen (k := 19 + T1.1 + (j + 1)) (n := 38467 + sg T1 + 6 * (j + 1)) (by omega) (by omega) ?_
  exact kk ad2 (vfJ k1 f r1.toInt64) g H locs ls hg hf (had 0 h0T) hV1 hrc1 hJ1 G hl
set_option maxHeartbeats 4000000 in
set_option maxRecDepth 100000 in
theorem y_a55 {p : Program} {e : Env} {s : State} {m : MethodId} {below : List Frame} {meth : Method} {c : Code} (l : Launch) (hst : l.stackTraces = false) {b L : Nat} {xs : Nat → Int32} (hx : p.tables.exec = Jvm.exec) (hb : c.code = code) (hml : c.maxLocals = 9) (hown : s.vm.findClass RL = some m.cls) (hts : ∀ w ∈ lw_tbl, w.before #[Value.ref b] s = true) (hX0 : va_X b L xs s s.heap) (hbl : b < s.heap.size) (hX : xT (fun q => s.heap.size ≤ q) s) (hN : nC s) (hTS : sAll s.heap.size s) {D : va_G} {cI cJ cZ cMic cSrc cSt cAI cAJ cD : ClassId} (hK : va_K D vwCl (CT cI cJ cZ cMic cSrc cSt cAI cAJ ++ [(cD, .double)]) s) {Q : State → Prop} {i j : Nat} (hi : i + 6 ≤ L) (hL : L ≤ 3072) (hj : j < 512) {aj ae : Nat} {ad am : Nat → Nat} {T : AT} {Sm : MS} {f : Nat → Int64} {g : Nat → UInt64} {ls : Array Slot} {H : Heap} {locs : List Loc} (hV : IV aR0 1586 aK1 aK2 T) (hrc : RC T) (hJ : JJ Sm) (G : gL cI cJ cZ cMic cSrc cSt cAI cAJ D ad (fun q => s.heap.size ≤ q) s.heap H locs T (oJ aj cJ f :: oD ae cD g :: MW cI cJ cZ am Sm)) (hl : lv_has ls 9 [(5, .int (nI i)), (4, .ref ae), (3, .ref aj), (2, .ref (am 0)), (1, .ref (ad 0)), (0, .ref b)]) (kk : ∀ {k1 : Nat} {r1 : Int32} {T1 : AT} {r2 : Int32} {S1 : MS} (ad2 : Nat → Nat) (f1 : Nat → Int64) (g1 : Nat → UInt64) (H1 : Heap) (locs1 : List Loc) (ls1 : Array Slot), g_X11_setOn T 0 (xs (i + 1)) (vnz (xs (i + 2))) = some (k1, r1, T1) → fr_setOn Sm (xs (i + 1)) (vnz (xs (i + 2))) = some (r2, S1) → ad2 0 = ad 0 → IV aR0 1586 aK1 aK2 T1 → RC T1 → JJ S1 → gL cI cJ cZ cMic cSrc cSt cAI cAJ D ad2 (fun q => s.heap.size ≤ q) s.heap H1 locs1 T1 (oJ aj cJ f1 :: oD ae cD g1 :: MW cI cJ cZ am S1) → lv_has ls1 9 [(5, .int (nI i)), (4, .ref ae), (3, .ref aj), (2, .ref (am 0)), (1, .ref (ad2 0)), (0, .ref b)] → W p l e room_1 s m #[Value.ref b] below meth c H1 locs1 (19 + T1.1 + (j + 1)) (38467 + sg T1 + 6 * (j + 1)) Q (F0 m 2439 ls1 [])) : W p l e room_1 s m #[Value.ref b] below meth c H locs (19 + T.1 + j) (38467 + sg T + 6 * j) Q (F0 m 2150 ls []) := by
  have E : cE p c cL_law s m #[Value.ref b] lw_tbl D RL (CT cI cJ cZ cMic cSrc cSt cAI cAJ ++ [(cD, .double)]) := ⟨hx, hb, hts, hown, hK⟩
  have hA : ∀ q : Nat, s.heap.size ≤ q → s.heap.size ≤ q := fun _ h => h
  have h0T : 0 < T.1 := Nat.lt_of_lt_of_le (by decide) hV.1.2.2
  have h0s : T.2.1 0 = (11, 0) := hV.2.1 0 ⟨by decide, by decide +kernel, by decide +kernel⟩
  refine lv_aload_n hx hb dL_law_2150 rfl (lv_at hl 4 rfl) ?_
  refine lv_aload_n hx hb dL_law_2151 rfl (lv_at hl 5 rfl) ?_
  refine lv_iload hx hb dL_law_2152 (lv_at hl 0 rfl) ?_
  refine lv_iconst (v := 1) hx hb dL_law_2154 (by decide) ?_
  refine lv_iadd hx hb dL_law_2155 ?_
  refine lv_to (y := nI (i + 1)) (nI_add i 1) ?_
  refine va_sld hx hb hX0 hbl (Nat.not_le.mpr hbl) G.2.2 (i := nI (i + 1)) (vp_in_nI (n := i + 1) (N := L) (by omega) (by omega)) dL_law_2156 ?_
  refine lv_to (y := xs (i + 1)) (congrArg xs (nI_clamp (by omega))) ?_
  refine lv_aload_n hx hb dL_law_2157 rfl (lv_at hl 5 rfl) ?_
  refine lv_iload hx hb dL_law_2158 (lv_at hl 0 rfl) ?_
  refine lv_iconst (v := 2) hx hb dL_law_2160 (by decide) ?_
  refine lv_iadd hx hb dL_law_2161 ?_
  refine lv_to (y := nI (i + 2)) (nI_add i 2) ?_
  refine va_sld hx hb hX0 hbl (Nat.not_le.mpr hbl) G.2.2 (i := nI (i + 2)) (vp_in_nI (n := i + 2) (N := L) (by omega) (by omega)) dL_law_2162 ?_
  refine lv_to (y := xs (i + 2)) (congrArg xs (nI_clamp (by omega))) ?_
  have kb : W p l e room_1 s m #[Value.ref b] below meth c H locs (19 + T.1 + j) (38467 + sg T + 6 * j) Q (F0 m 2171 ls [.int (vnz (xs (i + 2))), .int (xs (i + 1)), .ref (ad 0)]) := by
    refine lv_aload_n hx hb dL_law_2171 rfl (lv_at hl 2 rfl) ?_
    obtain ⟨⟨k1, r1, T1⟩, hg, hc⟩ := cs_X11_setOn T 0 (xs (i + 1)) (vnz (xs (i + 2))) hV (by decide +kernel) (vnz_r _)
    have hV1 : IV aR0 1586 aK1 aK2 T1 := hc.1.1
    have hg1 := s_X11_setOn hg
    have hg2 := sg_le hg1
    have hg3 := hg1.1
    have hk := hV1.2.2.2.2.2.2
    have hrc1 := hg1.2.2 hrc
    have hr0 := a_room
    refine l_v (h0 := s.heap.size) (As := [.ref (ad 0), .int (xs (i + 1)), .int (vnz (xs (i + 2))), .ref aj]) (rest := []) E G hA hX hN (fun _ h => h) hTS hml (v_setOn l hst D s.heap.size ad T 0 (xs (i + 1)) (vnz (xs (i + 2))) aj f hg hrc h0T h0s) (vx_cwSW 4 hts (glA (L := [Cond.methodLink RL 379 yL_setOn, Cond.static yL_setOn, Cond.initialized RL]) (gl_in [(7, 138), (7, 139), (1, 0)] (by decide +kernel) (by decide +kernel)) ⟨(t_of [Cond.codeWith yL_setOn cL_setOn 5 (some .int) [(0, 17, 20, 21), (0, 17, 24, 13)]] [(7, 140)] (by decide +kernel) _ List.mem_cons_self), List.all_eq_true.mp (by decide +kernel : [Cond.codeWith yL_setOn cL_setOn 5 (some .int) [(0, 17, 20, 21), (0, 17, 24, 13)]].all goodWord = true) _ List.mem_cons_self⟩) rfl rfl rfl (by decide +kernel) ⟨Nat.le_of_ble_eq_true rfl, Nat.le_of_ble_eq_true rfl⟩) rfl hl.1 rfl (lv_room (Nat.le_of_ble_eq_true rfl)) dL_law_2172 ⟨by show _ ≤ 601024; omega, by show _ ≤ 7293034; omega⟩ ?_
    intro ad2 H locs had G
    rw [← had 0 h0T] at hl
    refine lv_istore (lv' := [(6, .int (vck 1 2 0 k1)), (5, .int (nI i)), (4, .ref ae), (3, .ref aj), (2, .ref (am 0)), (1, .ref (ad2 0)), (0, .ref b)]) hx hb dL_law_2175 hl (by decide) rfl (fun ls hl => ?_)
    refine lv_aload_n hx hb dL_law_2177 rfl (lv_at hl 4 rfl) ?_
    refine lv_aload_n hx hb dL_law_2178 rfl (lv_at hl 6 rfl) ?_
    refine lv_iload hx hb dL_law_2179 (lv_at hl 1 rfl) ?_
    refine lv_iconst (v := 1) hx hb dL_law_2181 (by decide) ?_
    refine lv_iadd hx hb dL_law_2182 ?_
    refine lv_to (y := nI (i + 1)) (nI_add i 1) ?_
    refine va_sld hx hb hX0 hbl (Nat.not_le.mpr hbl) G.2.2 (i := nI (i + 1)) (vp_in_nI (n := i + 1) (N := L) (by omega) (by omega)) dL_law_2183 ?_
    refine lv_to (y := xs (i + 1)) (congrArg xs (nI_clamp (by omega))) ?_
    refine lv_aload_n hx hb dL_law_2184 rfl (lv_at hl 6 rfl) ?_
    refine lv_iload hx hb dL_law_2185 (lv_at hl 1 rfl) ?_
    refine lv_iconst (v := 2) hx hb dL_law_2187 (by decide) ?_
    refine lv_iadd hx hb dL_law_2188 ?_
    refine lv_to (y := nI (i + 2)) (nI_add i 2) ?_
    refine va_sld hx hb hX0 hbl (Nat.not_le.mpr hbl) G.2.2 (i := nI (i + 2)) (vp_in_nI (n := i + 2) (N := L) (by omega) (by omega)) dL_law_2189 ?_
    refine lv_to (y := xs (i + 2)) (congrArg xs (nI_clamp (by omega))) ?_
    have kb : W p l e room_1 s m #[Value.ref b] below meth c H locs (19 + T.1 + j + (T1.1 - T.1 + 1)) (38467 + sg T + 6 * j + (sg T1 - sg T + 6)) Q (F0 m 2198 ls [.int (vnz (xs (i + 2))), .int (xs (i + 1)), .ref (am 0)]) := by
      obtain ⟨⟨r2, S1⟩, hf, hj⟩ := sj_setOn Sm (xs (i + 1)) (vnz (xs (i + 2))) hJ
      have hJ1 : JJ S1 := hj
      refine y_mi (As := [.int (xs (i + 1)), .int (vnz (xs (i + 2)))]) (rest := []) E G hA hX.2.2.2.2 hml (tr_setOn l D cI cJ cZ am Sm (xs (i + 1)) (vnz (xs (i + 2))) hf) (cwV 2 hts (glM (L := [Cond.methodLink RL 381 yX12_setOn, Cond.instanceMethod yX12_setOn, Cond.selects RX12 yX12_setOn yX12_setOn, Cond.initialized RX12]) (gl_in [(10, 169), (10, 170), (10, 171), (1, 14)] (by decide +kernel) (by decide +kernel)) ⟨(t_of [Cond.code yX12_setOn cX12_setOn 4 (some .boolean)] [(10, 172)] (by decide +kernel) _ List.mem_cons_self), List.all_eq_true.mp (by decide +kernel : [Cond.code yX12_setOn cX12_setOn 4 (some .boolean)].all goodWord = true) _ List.mem_cons_self⟩) rfl rfl rfl (by decide +kernel) ⟨Nat.le_of_ble_eq_true rfl, Nat.le_of_ble_eq_true rfl⟩) rfl hl.1 rfl (lv_room (Nat.le_of_ble_eq_true rfl)) dL_law_2198 ⟨by show _ ≤ 601024; omega, by show _ ≤ 7293034; omega⟩ (fun H locs G => ?_)
      refine lv_istore (lv' := [(7, .int r2), (6, .int (vck 1 2 0 k1)), (5, .int (nI i)), (4, .ref ae), (3, .ref aj), (2, .ref (am 0)), (1, .ref (ad2 0)), (0, .ref b)]) hx hb dL_law_2201 hl (by decide) rfl (fun ls hl => ?_)
      refine lv_goto (tgt := 2439) hx hb dL_law_2203 (by decide) ?_
      have hl := lv_sub hl [2, 3, 4, 5, 6, 7] rfl
      refine W.widen (k := 19 + T1.1 + (j + 1)) (n := 38467 + sg T1 + 6 * (j + 1)) (by omega) (by omega) ?_
      exact kk ad2 (vfJ k1 f (vzb r1)) g H locs ls hg hf (had 0 h0T) hV1 hrc1 hJ1 G hl
    refine lv_if_eq (tgt := 2197) hx hb dL_law_2190 (by decide) (fun c1 => ?_) (fun c1 => ?_)
    · refine lv_iconst (v := 0) hx hb dL_law_2197 (by decide) ?_
      refine lv_to (y := vnz (xs (i + 2))) (if_pos c1).symm ?_
      exact kb
    · refine lv_iconst (v := 1) hx hb dL_law_2193 (by decide) ?_
      refine lv_to (y := vnz (xs (i + 2))) (if_neg c1).symm ?_
      refine lv_goto (tgt := 2198) hx hb dL_law_2194 (by decide) ?_
      exact kb
  refine lv_if_eq (tgt := 2170) hx hb dL_law_2163 (by decide) (fun c1 => ?_) (fun c1 => ?_)
  · refine lv_iconst (v := 0) hx hb dL_law_2170 (by decide) ?_
    refine lv_to (y := vnz (xs (i + 2))) (if_pos c1).symm ?_
    exact kb
  · refine lv_iconst (v := 1) hx hb dL_law_2166 (by decide) ?_
    refine lv_to (y := vnz (xs (i + 2))) (if_neg c1).symm ?_
    refine lv_goto (tgt := 2171) hx hb dL_law_2167 (by decide) ?_
    exact kb
