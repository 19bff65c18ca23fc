theorem dL_law_1850 : decode cL_law 1850 = .ok (.aload_n 1, 1) := by decide +kernel
theorem dL_law_1851 : decode cL_law 1851 = .ok (.aload_n 0, 1) := by decide +kernel
theorem dL_law_1852 : decode cL_law 1852 = .ok (.iload 5, 2) := by decide +kernel
theorem dL_law_1854 : decode cL_law 1854 = .ok (.iconst 1, 1) := by decide +kernel
theorem dL_law_1855 : decode cL_law 1855 = .ok (.iadd, 1) := by decide +kernel
theorem dL_law_1856 : decode cL_law 1856 = .ok (.iaload, 1) := by decide +kernel
theorem dL_law_1857 : decode cL_law 1857 = .ok (.aload_n 3, 1) := by decide +kernel
theorem dL_law_1858 : decode cL_law 1858 = .ok (.invokestatic 354, 3) := by decide +kernel
theorem dL_law_1861 : decode cL_law 1861 = .ok (.istore 6, 2) := by decide +kernel
theorem dL_law_1863 : decode cL_law 1863 = .ok (.aload_n 2, 1) := by decide +kernel
theorem dL_law_1864 : decode cL_law 1864 = .ok (.aload_n 0, 1) := by decide +kernel
theorem dL_law_1865 : decode cL_law 1865 = .ok (.iload 5, 2) := by decide +kernel
theorem dL_law_1867 : decode cL_law 1867 = .ok (.iconst 1, 1) := by decide +kernel
theorem dL_law_1868 : decode cL_law 1868 = .ok (.iadd, 1) := by decide +kernel
theorem dL_law_1869 : decode cL_law 1869 = .ok (.iaload, 1) := by decide +kernel
theorem dL_law_1870 : decode cL_law 1870 = .ok (.invokevirtual 356, 3) := by decide +kernel
theorem dL_law_1873 : decode cL_law 1873 = .ok (.istore 7, 2) := by decide +kernel
theorem dL_law_1875 : decode cL_law 1875 = .ok (.goto 536, 3) := by decide +kernel
theorem dL_law_1878 : decode cL_law 1878 = .ok (.aload_n 1, 1) := by decide +kernel
theorem dL_law_1879 : decode cL_law 1879 = .ok (.aload_n 0, 1) := by decide +kernel
theorem dL_law_1880 : decode cL_law 1880 = .ok (.iload 5, 2) := by decide +kernel
theorem dL_law_1882 : decode cL_law 1882 = .ok (.iconst 1, 1) := by decide +kernel
theorem dL_law_1883 : decode cL_law 1883 = .ok (.iadd, 1) := by decide +kernel
theorem dL_law_1884 : decode cL_law 1884 = .ok (.iaload, 1) := by decide +kernel
theorem dL_law_1885 : decode cL_law 1885 = .ok (.aload_n 0, 1) := by decide +kernel
theorem dL_law_1886 : decode cL_law 1886 = .ok (.iload 5, 2) := by decide +kernel
theorem dL_law_1888 : decode cL_law 1888 = .ok (.iconst 2, 1) := by decide +kernel
theorem dL_law_1889 : decode cL_law 1889 = .ok (.iadd, 1) := by decide +kernel
theorem dL_law_1890 : decode cL_law 1890 = .ok (.iaload, 1) := by decide +kernel
theorem dL_law_1891 : decode cL_law 1891 = .ok (.aload_n 3, 1) := by decide +kernel
theorem dL_law_1892 : decode cL_law 1892 = .ok (.invokestatic 357, 3) := by decide +kernel
theorem dL_law_1895 : decode cL_law 1895 = .ok (.istore 6, 2) := by decide +kernel
theorem dL_law_1897 : decode cL_law 1897 = .ok (.aload_n 2, 1) := by decide +kernel
theorem dL_law_1898 : decode cL_law 1898 = .ok (.aload_n 0, 1) := by decide +kernel
theorem dL_law_1899 : decode cL_law 1899 = .ok (.iload 5, 2) := by decide +kernel
theorem dL_law_1901 : decode cL_law 1901 = .ok (.iconst 1, 1) := by decide +kernel
theorem dL_law_1902 : decode cL_law 1902 = .ok (.iadd, 1) := by decide +kernel
theorem dL_law_1903 : decode cL_law 1903 = .ok (.iaload, 1) := by decide +kernel
theorem dL_law_1904 : decode cL_law 1904 = .ok (.aload_n 0, 1) := by decide +kernel
theorem dL_law_1905 : decode cL_law 1905 = .ok (.iload 5, 2) := by decide +kernel
theorem dL_law_1907 : decode cL_law 1907 = .ok (.iconst 2, 1) := by decide +kernel
theorem dL_law_1908 : decode cL_law 1908 = .ok (.iadd, 1) := by decide +kernel
theorem dL_law_1909 : decode cL_law 1909 = .ok (.iaload, 1) := by decide +kernel
theorem dL_law_1910 : decode cL_law 1910 = .ok (.invokevirtual 359, 3) := by decide +kernel
theorem dL_law_1913 : decode cL_law 1913 = .ok (.istore 7, 2) := by decide +kernel
theorem dL_law_1915 : decode cL_law 1915 = .ok (.goto 496, 3) := by decide +kernel
theorem dL_law_1918 : decode cL_law 1918 = .ok (.aload_n 1, 1) := by decide +kernel
theorem dL_law_1919 : decode cL_law 1919 = .ok (.aload_n 0, 1) := by decide +kernel
theorem dL_law_1920 : decode cL_law 1920 = .ok (.iload 5, 2) := by decide +kernel
theorem dL_law_1922 : decode cL_law 1922 = .ok (.iconst 1, 1) := by decide +kernel
theorem dL_law_1923 : decode cL_law 1923 = .ok (.iadd, 1) := by decide +kernel
theorem dL_law_1924 : decode cL_law 1924 = .ok (.iaload, 1) := by decide +kernel
theorem dL_law_1925 : decode cL_law 1925 = .ok (.aload_n 0, 1) := by decide +kernel
theorem dL_law_1926 : decode cL_law 1926 = .ok (.iload 5, 2) := by decide +kernel
theorem dL_law_1928 : decode cL_law 1928 = .ok (.iconst 2, 1) := by decide +kernel
theorem dL_law_1929 : decode cL_law 1929 = .ok (.iadd, 1) := by decide +kernel
theorem dL_law_1930 : decode cL_law 1930 = .ok (.iaload, 1) := by decide +kernel
theorem dL_law_1931 : decode cL_law 1931 = .ok (.aload_n 0, 1) := by decide +kernel
theorem dL_law_1932 : decode cL_law 1932 = .ok (.iload 5, 2) := by decide +kernel
theorem dL_law_1934 : decode cL_law 1934 = .ok (.iconst 3, 1) := by decide +kernel
theorem dL_law_1935 : decode cL_law 1935 = .ok (.iadd, 1) := by decide +kernel
theorem dL_law_1936 : decode cL_law 1936 = .ok (.iaload, 1) := by decide +kernel
theorem dL_law_1937 : decode cL_law 1937 = .ok (.aload_n 3, 1) := by decide +kernel
theorem dL_law_1938 : decode cL_law 1938 = .ok (.invokestatic 360, 3) := by decide +kernel
theorem dL_law_1941 : decode cL_law 1941 = .ok (.istore 6, 2) := by decide +kernel
theorem dL_law_1943 : decode cL_law 1943 = .ok (.aload_n 2, 1) := by decide +kernel
theorem dL_law_1944 : decode cL_law 1944 = .ok (.aload_n 0, 1) := by decide +kernel
theorem dL_law_1945 : decode cL_law 1945 = .ok (.iload 5, 2) := by decide +kernel
theorem dL_law_1947 : decode cL_law 1947 = .ok (.iconst 1, 1) := by decide +kernel
theorem dL_law_1948 : decode cL_law 1948 = .ok (.iadd, 1) := by decide +kernel
theorem dL_law_1949 : decode cL_law 1949 = .ok (.iaload, 1) := by decide +kernel
theorem dL_law_1950 : decode cL_law 1950 = .ok (.aload_n 0, 1) := by decide +kernel
theorem dL_law_1951 : decode cL_law 1951 = .ok (.iload 5, 2) := by decide +kernel
theorem dL_law_1953 : decode cL_law 1953 = .ok (.iconst 2, 1) := by decide +kernel
theorem dL_law_1954 : decode cL_law 1954 = .ok (.iadd, 1) := by decide +kernel
theorem dL_law_1955 : decode cL_law 1955 = .ok (.iaload, 1) := by decide +kernel
theorem dL_law_1956 : decode cL_law 1956 = .ok (.aload_n 0, 1) := by decide +kernel
theorem dL_law_1957 : decode cL_law 1957 = .ok (.iload 5, 2) := by decide +kernel
theorem dL_law_1959 : decode cL_law 1959 = .ok (.iconst 3, 1) := by decide +kernel
theorem dL_law_1960 : decode cL_law 1960 = .ok (.iadd, 1) := by decide +kernel
theorem dL_law_1961 : decode cL_law 1961 = .ok (.iaload, 1) := by decide +kernel
theorem dL_law_1962 : decode cL_law 1962 = .ok (.invokevirtual 362, 3) := by decide +kernel
theorem dL_law_1965 : decode cL_law 1965 = .ok (.lstore 7, 2) := by decide +kernel
theorem dL_law_1967 : decode cL_law 1967 = .ok (.goto 444, 3) := by decide +kernel
theorem dL_law_1970 : decode cL_law 1970 = .ok (.aload_n 1, 1) := by decide +kernel
theorem dL_law_1971 : decode cL_law 1971 = .ok (.aload_n 0, 1) := by decide +kernel
theorem dL_law_1972 : decode cL_law 1972 = .ok (.iload 5, 2) := by decide +kernel
theorem dL_law_1974 : decode cL_law 1974 = .ok (.iconst 1, 1) := by decide +kernel
theorem dL_law_1975 : decode cL_law 1975 = .ok (.iadd, 1) := by decide +kernel
theorem dL_law_1976 : decode cL_law 1976 = .ok (.iaload, 1) := by decide +kernel
theorem dL_law_1977 : decode cL_law 1977 = .ok (.aload_n 3, 1) := by decide +kernel
theorem dL_law_1978 : decode cL_law 1978 = .ok (.invokestatic 363, 3) := by decide +kernel
theorem dL_law_1981 : decode cL_law 1981 = .ok (.istore 6, 2) := by decide +kernel
theorem dL_law_1983 : decode cL_law 1983 = .ok (.aload_n 2, 1) := by decide +kernel
theorem dL_law_1984 : decode cL_law 1984 = .ok (.aload_n 0, 1) := by decide +kernel
theorem dL_law_1985 : decode cL_law 1985 = .ok (.iload 5, 2) := by decide +kernel
theorem dL_law_1987 : decode cL_law 1987 = .ok (.iconst 1, 1) := by decide +kernel
theorem dL_law_1988 : decode cL_law 1988 = .ok (.iadd, 1) := by decide +kernel
theorem dL_law_1989 : decode cL_law 1989 = .ok (.iaload, 1) := by decide +kernel
theorem dL_law_1990 : decode cL_law 1990 = .ok (.invokevirtual 365, 3) := by decide +kernel
theorem dL_law_1993 : decode cL_law 1993 = .ok (.istore 7, 2) := by decide +kernel
theorem dL_law_1995 : decode cL_law 1995 = .ok (.goto 416, 3) := by decide +kernel
theorem dL_law_1998 : decode cL_law 1998 = .ok (.aload_n 1, 1) := by decide +kernel
theorem dL_law_1999 : decode cL_law 1999 = .ok (.aload_n 0, 1) := by decide +kernel
theorem dL_law_2000 : decode cL_law 2000 = .ok (.iload 5, 2) := by decide +kernel
theorem dL_law_2002 : decode cL_law 2002 = .ok (.iconst 1, 1) := by decide +kernel
theorem dL_law_2003 : decode cL_law 2003 = .ok (.iadd, 1) := by decide +kernel
theorem dL_law_2004 : decode cL_law 2004 = .ok (.iaload, 1) := by decide +kernel
theorem dL_law_2005 : decode cL_law 2005 = .ok (.aload_n 3, 1) := by decide +kernel
theorem dL_law_2006 : decode cL_law 2006 = .ok (.invokestatic 366, 3) := by decide +kernel
theorem dL_law_2009 : decode cL_law 2009 = .ok (.istore 6, 2) := by decide +kernel
theorem dL_law_2011 : decode cL_law 2011 = .ok (.aload_n 2, 1) := by decide +kernel
theorem dL_law_2012 : decode cL_law 2012 = .ok (.aload_n 0, 1) := by decide +kernel
theorem dL_law_2013 : decode cL_law 2013 = .ok (.iload 5, 2) := by decide +kernel
theorem dL_law_2015 : decode cL_law 2015 = .ok (.iconst 1, 1) := by decide +kernel
theorem dL_law_2016 : decode cL_law 2016 = .ok (.iadd, 1) := by decide +kernel
theorem dL_law_2017 : decode cL_law 2017 = .ok (.iaload, 1) := by decide +kernel
theorem dL_law_2018 : decode cL_law 2018 = .ok (.invokevirtual 368, 3) := by decide +kernel
theorem dL_law_2021 : decode cL_law 2021 = .ok (.istore 7, 2) := by decide +kernel
theorem dL_law_2023 : decode cL_law 2023 = .ok (.goto 388, 3) := by decide +kernel
theorem dL_law_2026 : decode cL_law 2026 = .ok (.aload_n 1, 1) := by decide +kernel
theorem dL_law_2027 : decode cL_law 2027 = .ok (.aload_n 0, 1) := by decide +kernel
theorem dL_law_2028 : decode cL_law 2028 = .ok (.iload 5, 2) := by decide +kernel
theorem dL_law_2030 : decode cL_law 2030 = .ok (.iconst 1, 1) := by decide +kernel
theorem dL_law_2031 : decode cL_law 2031 = .ok (.iadd, 1) := by decide +kernel
theorem dL_law_2032 : decode cL_law 2032 = .ok (.iaload, 1) := by decide +kernel
theorem dL_law_2033 : decode cL_law 2033 = .ok (.aload_n 0, 1) := by decide +kernel
theorem dL_law_2034 : decode cL_law 2034 = .ok (.iload 5, 2) := by decide +kernel
theorem dL_law_2036 : decode cL_law 2036 = .ok (.iconst 2, 1) := by decide +kernel
theorem dL_law_2037 : decode cL_law 2037 = .ok (.iadd, 1) := by decide +kernel
theorem dL_law_2038 : decode cL_law 2038 = .ok (.iaload, 1) := by decide +kernel
theorem dL_law_2039 : decode cL_law 2039 = .ok (.ifCond .eq 7, 3) := by decide +kernel
theorem dL_law_2042 : decode cL_law 2042 = .ok (.iconst 1, 1) := by decide +kernel
theorem dL_law_2043 : decode cL_law 2043 = .ok (.goto 4, 3) := by decide +kernel
theorem dL_law_2046 : decode cL_law 2046 = .ok (.iconst 0, 1) := by decide +kernel
theorem dL_law_2047 : decode cL_law 2047 = .ok (.aload_n 3, 1) := by decide +kernel
theorem dL_law_2048 : decode cL_law 2048 = .ok (.invokestatic 369, 3) := by decide +kernel
theorem dL_law_2051 : decode cL_law 2051 = .ok (.istore 6, 2) := by decide +kernel
theorem dL_law_2053 : decode cL_law 2053 = .ok (.aload_n 2, 1) := by decide +kernel
theorem dL_law_2054 : decode cL_law 2054 = .ok (.aload_n 0, 1) := by decide +kernel
theorem dL_law_2055 : decode cL_law 2055 = .ok (.iload 5, 2) := by decide +kernel
theorem dL_law_2057 : decode cL_law 2057 = .ok (.iconst 1, 1) := by decide +kernel
theorem dL_law_2058 : decode cL_law 2058 = .ok (.iadd, 1) := by decide +kernel
theorem dL_law_2059 : decode cL_law 2059 = .ok (.iaload, 1) := by decide +kernel
theorem dL_law_2060 : decode cL_law 2060 = .ok (.aload_n 0, 1) := by decide +kernel
theorem dL_law_2061 : decode cL_law 2061 = .ok (.iload 5, 2) := by decide +kernel
theorem dL_law_2063 : decode cL_law 2063 = .ok (.iconst 2, 1) := by decide +kernel
theorem dL_law_2064 : decode cL_law 2064 = .ok (.iadd, 1) := by decide +kernel
theorem dL_law_2065 : decode cL_law 2065 = .ok (.iaload, 1) := by decide +kernel
theorem dL_law_2066 : decode cL_law 2066 = .ok (.ifCond .eq 7, 3) := by decide +kernel
theorem dL_law_2069 : decode cL_law 2069 = .ok (.iconst 1, 1) := by decide +kernel
theorem dL_law_2070 : decode cL_law 2070 = .ok (.goto 4, 3) := by decide +kernel
theorem dL_law_2073 : decode cL_law 2073 = .ok (.iconst 0, 1) := by decide +kernel
theorem dL_law_2074 : decode cL_law 2074 = .ok (.invokevirtual 372, 3) := by decide +kernel
theorem dL_law_2077 : decode cL_law 2077 = .ok (.istore 7, 2) := by decide +kernel
theorem dL_law_2079 : decode cL_law 2079 = .ok (.goto 332, 3) := by decide +kernel
theorem dL_law_2082 : decode cL_law 2082 = .ok (.aload_n 1, 1) := by decide +kernel
theorem dL_law_2083 : decode cL_law 2083 = .ok (.aload_n 0, 1) := by decide +kernel
theorem dL_law_2084 : decode cL_law 2084 = .ok (.iload 5, 2) := by decide +kernel
theorem dL_law_2086 : decode cL_law 2086 = .ok (.iconst 1, 1) := by decide +kernel
theorem dL_law_2087 : decode cL_law 2087 = .ok (.iadd, 1) := by decide +kernel
theorem dL_law_2088 : decode cL_law 2088 = .ok (.iaload, 1) := by decide +kernel
theorem dL_law_2089 : decode cL_law 2089 = .ok (.aload_n 0, 1) := by decide +kernel
theorem dL_law_2090 : decode cL_law 2090 = .ok (.iload 5, 2) := by decide +kernel
theorem dL_law_2092 : decode cL_law 2092 = .ok (.iconst 2, 1) := by decide +kernel
theorem dL_law_2093 : decode cL_law 2093 = .ok (.iadd, 1) := by decide +kernel
theorem dL_law_2094 : decode cL_law 2094 = .ok (.iaload, 1) := by decide +kernel
theorem dL_law_2095 : decode cL_law 2095 = .ok (.aload_n 3, 1) := by decide +kernel
theorem dL_law_2096 : decode cL_law 2096 = .ok (.invokestatic 373, 3) := by decide +kernel
theorem dL_law_2099 : decode cL_law 2099 = .ok (.istore 6, 2) := by decide +kernel
theorem dL_law_2101 : decode cL_law 2101 = .ok (.aload_n 2, 1) := by decide +kernel
theorem dL_law_2102 : decode cL_law 2102 = .ok (.aload_n 0, 1) := by decide +kernel
theorem dL_law_2103 : decode cL_law 2103 = .ok (.iload 5, 2) := by decide +kernel
theorem dL_law_2105 : decode cL_law 2105 = .ok (.iconst 1, 1) := by decide +kernel
theorem dL_law_2106 : decode cL_law 2106 = .ok (.iadd, 1) := by decide +kernel
theorem dL_law_2107 : decode cL_law 2107 = .ok (.iaload, 1) := by decide +kernel
theorem dL_law_2108 : decode cL_law 2108 = .ok (.aload_n 0, 1) := by decide +kernel
theorem dL_law_2109 : decode cL_law 2109 = .ok (.iload 5, 2) := by decide +kernel
theorem dL_law_2111 : decode cL_law 2111 = .ok (.iconst 2, 1) := by decide +kernel
theorem dL_law_2112 : decode cL_law 2112 = .ok (.iadd, 1) := by decide +kernel
theorem dL_law_2113 : decode cL_law 2113 = .ok (.iaload, 1) := by decide +kernel
theorem dL_law_2114 : decode cL_law 2114 = .ok (.invokevirtual 375, 3) := by decide +kernel
theorem dL_law_2117 : decode cL_law 2117 = .ok (.istore 7, 2) := by decide +kernel
theorem dL_law_2119 : decode cL_law 2119 = .ok (.goto 292, 3) := by decide +kernel
theorem dL_law_2122 : decode cL_law 2122 = .ok (.aload_n 1, 1) := by decide +kernel
theorem dL_law_2123 : decode cL_law 2123 = .ok (.aload_n 0, 1) := by decide +kernel
theorem dL_law_2124 : decode cL_law 2124 = .ok (.iload 5, 2) := by decide +kernel
theorem dL_law_2126 : decode cL_law 2126 = .ok (.iconst 1, 1) := by decide +kernel
theorem dL_law_2127 : decode cL_law 2127 = .ok (.iadd, 1) := by decide +kernel
theorem dL_law_2128 : decode cL_law 2128 = .ok (.iaload, 1) := by decide +kernel
theorem dL_law_2129 : decode cL_law 2129 = .ok (.aload_n 0, 1) := by decide +kernel
theorem dL_law_2130 : decode cL_law 2130 = .ok (.iload 5, 2) := by decide +kernel
theorem dL_law_2132 : decode cL_law 2132 = .ok (.iconst 2, 1) := by decide +kernel
theorem dL_law_2133 : decode cL_law 2133 = .ok (.iadd, 1) := by decide +kernel
theorem dL_law_2134 : decode cL_law 2134 = .ok (.iaload, 1) := by decide +kernel
theorem dL_law_2135 : decode cL_law 2135 = .ok (.ifCond .eq 7, 3) := by decide +kernel
theorem dL_law_2138 : decode cL_law 2138 = .ok (.iconst 1, 1) := by decide +kernel
theorem dL_law_2139 : decode cL_law 2139 = .ok (.goto 4, 3) := by decide +kernel
theorem dL_law_2142 : decode cL_law 2142 = .ok (.iconst 0, 1) := by decide +kernel
theorem dL_law_2143 : decode cL_law 2143 = .ok (.aload_n 3, 1) := by decide +kernel
theorem dL_law_2144 : decode cL_law 2144 = .ok (.invokestatic 376, 3) := by decide +kernel
theorem dL_law_2147 : decode cL_law 2147 = .ok (.istore 6, 2) := by decide +kernel
theorem dL_law_2149 : decode cL_law 2149 = .ok (.aload_n 2, 1) := by decide +kernel
theorem dL_law_2150 : decode cL_law 2150 = .ok (.aload_n 0, 1) := by decide +kernel
theorem dL_law_2151 : decode cL_law 2151 = .ok (.iload 5, 2) := by decide +kernel
theorem dL_law_2153 : decode cL_law 2153 = .ok (.iconst 1, 1) := by decide +kernel
theorem dL_law_2154 : decode cL_law 2154 = .ok (.iadd, 1) := by decide +kernel
theorem dL_law_2155 : decode cL_law 2155 = .ok (.iaload, 1) := by decide +kernel
theorem dL_law_2156 : decode cL_law 2156 = .ok (.aload_n 0, 1) := by decide +kernel
theorem dL_law_2157 : decode cL_law 2157 = .ok (.iload 5, 2) := by decide +kernel
theorem dL_law_2159 : decode cL_law 2159 = .ok (.iconst 2, 1) := by decide +kernel
theorem dL_law_2160 : decode cL_law 2160 = .ok (.iadd, 1) := by decide +kernel
theorem dL_law_2161 : decode cL_law 2161 = .ok (.iaload, 1) := by decide +kernel
theorem dL_law_2162 : decode cL_law 2162 = .ok (.ifCond .eq 7, 3) := by decide +kernel
theorem dL_law_2165 : decode cL_law 2165 = .ok (.iconst 1, 1) := by decide +kernel
theorem dL_law_2166 : decode cL_law 2166 = .ok (.goto 4, 3) := by decide +kernel
theorem dL_law_2169 : decode cL_law 2169 = .ok (.iconst 0, 1) := by decide +kernel
theorem dL_law_2170 : decode cL_law 2170 = .ok (.invokevirtual 378, 3) := by decide +kernel
theorem dL_law_2173 : decode cL_law 2173 = .ok (.istore 7, 2) := by decide +kernel
theorem dL_law_2175 : decode cL_law 2175 = .ok (.goto 236, 3) := by decide +kernel
set_option maxHeartbeats 4000000 in
set_option maxRecDepth 100000 in
theorem y_a48 {p : Program} {e : Env} {s : State} {m : MethodId} {below : List Frame} {meth : Method} {c : Code} (l : Launch) (hst : l.stackTraces = false) {b L : Nat} {xs : Nat → Int32} (hx : p.tables.exec = Jvm.exec) (hb : c.code = code) (hml : c.maxLocals = 9) (hown : s.vm.findClass RL = some m.cls) (hts : ∀ w ∈ lw_tbl, w.before #[Value.ref b] s = true) (hX0 : va_X b L xs s s.heap) (hbl : b < s.heap.size) (hX : xT (fun q => s.heap.size ≤ q) s) (hN : nC s) (hTS : sAll s.heap.size s) {D : va_G} {cI cJ cZ cMic cSrc cSt cAI cAJ cD : ClassId} (hK : va_K D vwCl (CT cI cJ cZ cMic cSrc cSt cAI cAJ ++ [(cD, .double)]) s) {Q : State → Prop} {i j : Nat} (hi : i + 6 ≤ L) (hL : L ≤ 3072) (hj : j < 512) {aj ae : Nat} {ad am : Nat → Nat} {T : AT} {Sm : MS} {f : Nat → Int64} {g : Nat → UInt64} {ls : Array Slot} {H : Heap} {locs : List Loc} (hV : IV aR0 1586 aK1 aK2 T) (hrc : RC T) (hJ : JJ Sm) (G : gL cI cJ cZ cMic cSrc cSt cAI cAJ D ad (fun q => s.heap.size ≤ q) s.heap H locs T (oJ aj cJ f :: oD ae cD g :: MW cI cJ cZ am Sm)) (hl : lv_has ls 9 [(5, .int (nI i)), (4, .ref ae), (3, .ref aj), (2, .ref (am 0)), (1, .ref (ad 0)), (0, .ref b)]) (kk : ∀ {k1 : Nat} {r1 : Int32} {T1 : AT} {r2 : Int32} {S1 : MS} (ad2 : Nat → Nat) (f1 : Nat → Int64) (g1 : Nat → UInt64) (H1 : Heap) (locs1 : List Loc) (ls1 : Array Slot), g_X11_mapByte T 0 (xs (i + 1)) = some (k1, r1, T1) → fr_mapByte Sm (xs (i + 1)) = some (r2, S1) → ad2 0 = ad 0 → IV aR0 1586 aK1 aK2 T1 → RC T1 → JJ S1 → gL cI cJ cZ cMic cSrc cSt cAI cAJ D ad2 (fun q => s.heap.size ≤ q) s.heap H1 locs1 T1 (oJ aj cJ f1 :: oD ae cD g1 :: MW cI cJ cZ am S1) → lv_has ls1 9 [(5, .int (nI i)), (4, .ref ae), (3, .ref aj), (2, .ref (am 0)), (1, .ref (ad2 0)), (0, .ref b)] → W p l e room_1 s m #[Value.ref b] below meth c H1 locs1 (19 + T1.1 + (j + 1)) (38467 + sg T1 + 6 * (j + 1)) Q (F0 m 2411 ls1 [])) : W p l e room_1 s m #[Value.ref b] below meth c H locs (19 + T.1 + j) (38467 + sg T + 6 * j) Q (F0 m 1850 ls []) := by
  have E : cE p c cL_law s m #[Value.ref b] lw_tbl D RL (CT cI cJ cZ cMic cSrc cSt cAI cAJ ++ [(cD, .double)]) := ⟨hx, hb, hts, hown, hK⟩
  have hA : ∀ q : Nat, s.heap.size ≤ q → s.heap.size ≤ q := fun _ h => h
  have h0T : 0 < T.1 := Nat.lt_of_lt_of_le (by decide) hV.1.2.2
  have h0s : T.2.1 0 = (11, 0) := hV.2.1 0 ⟨by decide, by decide +kernel, by decide +kernel⟩
  refine lv_aload_n hx hb dL_law_1850 rfl (lv_at hl 4 rfl) ?_
  refine lv_aload_n hx hb dL_law_1851 rfl (lv_at hl 5 rfl) ?_
  refine lv_iload hx hb dL_law_1852 (lv_at hl 0 rfl) ?_
  refine lv_iconst (v := 1) hx hb dL_law_1854 (by decide) ?_
  refine lv_iadd hx hb dL_law_1855 ?_
  refine lv_to (y := nI (i + 1)) (nI_add i 1) ?_
  refine va_sld hx hb hX0 hbl (Nat.not_le.mpr hbl) G.2.2 (i := nI (i + 1)) (vp_in_nI (n := i + 1) (N := L) (by omega) (by omega)) dL_law_1856 ?_
  refine lv_to (y := xs (i + 1)) (congrArg xs (nI_clamp (by omega))) ?_
  refine lv_aload_n hx hb dL_law_1857 rfl (lv_at hl 2 rfl) ?_
  obtain ⟨⟨k1, r1, T1⟩, hg, hc⟩ := cs_X11_mapByte T 0 (xs (i + 1)) hV (by decide +kernel)
  have hV1 : IV aR0 1586 aK1 aK2 T1 := by rw [show T1 = T from hc.1]; exact hV
  have hg1 := (gl_sp (s_X11_mapByte hg))
  have hg2 := sg_le hg1
  have hg3 := hg1.1
  have hk := hV1.2.2.2.2.2.2
  have hrc1 := hg1.2.2 hrc
  have hr0 := a_room
  refine l_v (h0 := s.heap.size) (As := [.ref (ad 0), .int (xs (i + 1)), .ref aj]) (rest := []) E G hA hX hN (fun _ h => h) hTS hml (v_mapByte l hst D s.heap.size ad T 0 (xs (i + 1)) aj f hg hrc h0T h0s) (vx_cwSW 3 hts (glA (L := [Cond.methodLink RL 354 yL_mapByte, Cond.static yL_mapByte, Cond.initialized RL]) (gl_in [(7, 59), (7, 60), (1, 0)] (by decide +kernel) (by decide +kernel)) ⟨(t_of [Cond.codeWith yL_mapByte cL_mapByte 4 (some .int) [(0, 9, 12, 13)]] [(7, 61)] (by decide +kernel) _ List.mem_cons_self), List.all_eq_true.mp (by decide +kernel : [Cond.codeWith yL_mapByte cL_mapByte 4 (some .int) [(0, 9, 12, 13)]].all goodWord = true) _ List.mem_cons_self⟩) rfl rfl rfl (by decide +kernel) ⟨Nat.le_of_ble_eq_true rfl, Nat.le_of_ble_eq_true rfl⟩) rfl hl.1 rfl (lv_room (Nat.le_of_ble_eq_true rfl)) dL_law_1858 ⟨by show _ ≤ 601024; omega, by show _ ≤ 7293034; omega⟩ ?_
  intro ad2 H locs had G
  rw [← had 0 h0T] at hl
  refine lv_istore (lv' := [(6, .int (vck 0 1 0 k1)), (5, .int (nI i)), (4, .ref ae), (3, .ref aj), (2, .ref (am 0)), (1, .ref (ad2 0)), (0, .ref b)]) hx hb dL_law_1861 hl (by decide) rfl (fun ls hl => ?_)
  refine lv_aload_n hx hb dL_law_1863 rfl (lv_at hl 4 rfl) ?_
  refine lv_aload_n hx hb dL_law_1864 rfl (lv_at hl 6 rfl) ?_
  refine lv_iload hx hb dL_law_1865 (lv_at hl 1 rfl) ?_
  refine lv_iconst (v := 1) hx hb dL_law_1867 (by decide) ?_
  refine lv_iadd hx hb dL_law_1868 ?_
  refine lv_to (y := nI (i + 1)) (nI_add i 1) ?_
  refine va_sld hx hb hX0 hbl (Nat.not_le.mpr hbl) G.2.2 (i := nI (i + 1)) (vp_in_nI (n := i + 1) (N := L) (by omega) (by omega)) dL_law_1869 ?_
  refine lv_to (y := xs (i + 1)) (congrArg xs (nI_clamp (by omega))) ?_
  obtain ⟨⟨r2, S1⟩, hf, hj⟩ := sj_mapByte Sm (xs (i + 1)) hJ
  have hJ1 : JJ S1 := hj
  refine y_mi (As := [.int (xs (i + 1))]) (rest := []) E G hA hX.2.2.2.2 hml (tr_mapByte l D cI cJ cZ am Sm (xs (i + 1)) hf) (cwV 1 hts (glM (L := [Cond.methodLink RL 356 yX12_mapByte, Cond.instanceMethod yX12_mapByte, Cond.selects RX12 yX12_mapByte yX12_mapByte, Cond.initialized RX12]) (gl_in [(10, 125), (10, 126), (10, 127), (1, 14)] (by decide +kernel) (by decide +kernel)) ⟨(t_of [Cond.code yX12_mapByte cX12_mapByte 2 (some .int)] [(10, 128)] (by decide +kernel) _ List.mem_cons_self), List.all_eq_true.mp (by decide +kernel : [Cond.code yX12_mapByte cX12_mapByte 2 (some .int)].all goodWord = true) _ List.mem_cons_self⟩) rfl rfl rfl (by decide +kernel) ⟨Nat.le_of_ble_eq_true rfl, Nat.le_of_ble_eq_true rfl⟩) rfl hl.1 rfl (lv_room (Nat.le_of_ble_eq_true rfl)) dL_law_1870 ⟨by show _ ≤ 601024; omega, by show _ ≤ 7293034; omega⟩ (fun H locs G => ?_)
  refine lv_istore (lv' := [(7, .int r2), (6, .int (vck 0 1 0 k1)), (5, .int (nI i)), (4, .ref ae), (3, .ref aj), (2, .ref (am 0)), (1, .ref (ad2 0)), (0, .ref b)]) hx hb dL_law_1873 hl (by decide) rfl (fun ls hl => ?_)
  refine lv_goto (tgt := 2411) hx hb dL_law_1875 (by decide) ?_
  have hl := lv_sub hl [2, 3, 4, 5, 6, 7] rfl
  refine W.widen (k := 19 + T1.1 + (j + 1)) (n := 38467 + sg T1 + 6 * (j + 1)) (by omega) (by omega) ?_
  exact kk ad2 (vfJ k1 f r1.toInt64) g H locs ls hg hf (had 0 h0T) hV1 hrc1 hJ1 G hl
set_option maxHeartbeats 4000000 in
set_option maxRecDepth 100000 in
theorem y_a49 {p : Program} {e : Env} {s : State} {m : MethodId} {below : List Frame} {meth : Method} {c : Code} (l : Launch) (hst : l.stackTraces = false) {b L : Nat} {xs : Nat → Int32} (hx : p.tables.exec = Jvm.exec) (hb : c.code = code) (hml : c.maxLocals = 9) (hown : s.vm.findClass RL = some m.cls) (hts : ∀ w ∈ lw_tbl, w.before #[Value.ref b] s = true) (hX0 : va_X b L xs s s.heap) (hbl : b < s.heap.size) (hX : xT (fun q => s.heap.size ≤ q) s) (hN : nC s) (hTS : sAll s.heap.size s) {D : va_G} {cI cJ cZ cMic cSrc cSt cAI cAJ cD : ClassId} (hK : va_K D vwCl (CT cI cJ cZ cMic cSrc cSt cAI cAJ ++ [(cD, .double)]) s) {Q : State → Prop} {i j : Nat} (hi : i + 6 ≤ L) (hL : L ≤ 3072) (hj : j < 512) {aj ae : Nat} {ad am : Nat → Nat} {T : AT} {Sm : MS} {f : Nat → Int64} {g : Nat → UInt64} {ls : Array Slot} {H : Heap} {locs : List Loc} (hV : IV aR0 1586 aK1 aK2 T) (hrc : RC T) (hJ : JJ Sm) (G : gL cI cJ cZ cMic cSrc cSt cAI cAJ D ad (fun q => s.heap.size ≤ q) s.heap H locs T (oJ aj cJ f :: oD ae cD g :: MW cI cJ cZ am Sm)) (hl : lv_has ls 9 [(5, .int (nI i)), (4, .ref ae), (3, .ref aj), (2, .ref (am 0)), (1, .ref (ad 0)), (0, .ref b)]) (kk : ∀ {k1 : Nat} {r1 : Int32} {T1 : AT} {r2 : Int32} {S1 : MS} (ad2 : Nat → Nat) (f1 : Nat → Int64) (g1 : Nat → UInt64) (H1 : Heap) (locs1 : List Loc) (ls1 : Array Slot), g_X11_pointBest T 0 (xs (i + 1)) (xs (i + 2)) = some (k1, r1, T1) → fr_pointBest Sm (xs (i + 1)) (xs (i + 2)) = some (r2, S1) → ad2 0 = ad 0 → IV aR0 1586 aK1 aK2 T1 → RC T1 → JJ S1 → gL cI cJ cZ cMic cSrc cSt cAI cAJ D ad2 (fun q => s.heap.size ≤ q) s.heap H1 locs1 T1 (oJ aj cJ f1 :: oD ae cD g1 :: MW cI cJ cZ am S1) → lv_has ls1 9 [(5, .int (nI i)), (4, .ref ae), (3, .ref aj), (2, .ref (am 0)), (1, .ref (ad2 0)), (0, .ref b)] → W p l e room_1 s m #[Value.ref b] below meth c H1 locs1 (19 + T1.1 + (j + 1)) (38467 + sg T1 + 6 * (j + 1)) Q (F0 m 2411 ls1 [])) : W p l e room_1 s m #[Value.ref b] below meth c H locs (19 + T.1 + j) (38467 + sg T + 6 * j) Q (F0 m 1878 ls []) := by
  have E : cE p c cL_law s m #[Value.ref b] lw_tbl D RL (CT cI cJ cZ cMic cSrc cSt cAI cAJ ++ [(cD, .double)]) := ⟨hx, hb, hts, hown, hK⟩
  have hA : ∀ q : Nat, s.heap.size ≤ q → s.heap.size ≤ q := fun _ h => h
  have h0T : 0 < T.1 := Nat.lt_of_lt_of_le (by decide) hV.1.2.2
  have h0s : T.2.1 0 = (11, 0) := hV.2.1 0 ⟨by decide, by decide +kernel, by decide +kernel⟩
  refine lv_aload_n hx hb dL_law_1878 rfl (lv_at hl 4 rfl) ?_
  refine lv_aload_n hx hb dL_law_1879 rfl (lv_at hl 5 rfl) ?_
  refine lv_iload hx hb dL_law_1880 (lv_at hl 0 rfl) ?_
  refine lv_iconst (v := 1) hx hb dL_law_1882 (by decide) ?_
  refine lv_iadd hx hb dL_law_1883 ?_
  refine lv_to (y := nI (i + 1)) (nI_add i 1) ?_
  refine va_sld hx hb hX0 hbl (Nat.not_le.mpr hbl) G.2.2 (i := nI (i + 1)) (vp_in_nI (n := i + 1) (N := L) (by omega) (by omega)) dL_law_1884 ?_
  refine lv_to (y := xs (i + 1)) (congrArg xs (nI_clamp (by omega))) ?_
  refine lv_aload_n hx hb dL_law_1885 rfl (lv_at hl 5 rfl) ?_
  refine lv_iload hx hb dL_law_1886 (lv_at hl 0 rfl) ?_
  refine lv_iconst (v := 2) hx hb dL_law_1888 (by decide) ?_
  refine lv_iadd hx hb dL_law_1889 ?_
  refine lv_to (y := nI (i + 2)) (nI_add i 2) ?_
  refine va_sld hx hb hX0 hbl (Nat.not_le.mpr hbl) G.2.2 (i := nI (i + 2)) (vp_in_nI (n := i + 2) (N := L) (by omega) (by omega)) dL_law_1890 ?_
  refine lv_to (y := xs (i + 2)) (congrArg xs (nI_clamp (by omega))) ?_
  refine lv_aload_n hx hb dL_law_1891 rfl (lv_at hl 2 rfl) ?_
  obtain ⟨⟨k1, r1, T1⟩, hg, hc⟩ := cs_X11_pointBest T 0 (xs (i + 1)) (xs (i + 2)) hV (by decide +kernel)
  have hV1 : IV aR0 1586 aK1 aK2 T1 := hc.1.1
  have hg1 := s_X11_pointBest hg
  have hg2 := sg_le hg1
  have hg3 := hg1.1
  have hk := hV1.2.2.2.2.2.2
  have hrc1 := hg1.2.2 hrc
  have hr0 := a_room
  refine l_v (h0 := s.heap.size) (As := [.ref (ad 0), .int (xs (i + 1)), .int (xs (i + 2)), .ref aj]) (rest := []) E G hA hX hN (fun _ h => h) hTS hml (v_pointBest l hst D s.heap.size ad T 0 (xs (i + 1)) (xs (i + 2)) aj f hg hrc h0T h0s) (vx_cwSW 4 hts (glA (L := [Cond.methodLink RL 357 yL_pointBest, Cond.static yL_pointBest, Cond.initialized RL]) (gl_in [(7, 66), (7, 67), (1, 0)] (by decide +kernel) (by decide +kernel)) ⟨(t_of [Cond.codeWith yL_pointBest cL_pointBest 5 (some .int) [(0, 10, 13, 21), (0, 10, 17, 13), (0, 10, 21, 15)]] [(7, 68)] (by decide +kernel) _ List.mem_cons_self), List.all_eq_true.mp (by decide +kernel : [Cond.codeWith yL_pointBest cL_pointBest 5 (some .int) [(0, 10, 13, 21), (0, 10, 17, 13), (0, 10, 21, 15)]].all goodWord = true) _ List.mem_cons_self⟩) rfl rfl rfl (by decide +kernel) ⟨Nat.le_of_ble_eq_true rfl, Nat.le_of_ble_eq_true rfl⟩) rfl hl.1 rfl (lv_room (Nat.le_of_ble_eq_true rfl)) dL_law_1892 ⟨by show _ ≤ 601024; omega, by show _ ≤ 7293034; omega⟩ ?_
  intro ad2 H locs had G
  rw [← had 0 h0T] at hl
  refine lv_istore (lv' := [(6, .int (vck 1 2 3 k1)), (5, .int (nI i)), (4, .ref ae), (3, .ref aj), (2, .ref (am 0)), (1, .ref (ad2 0)), (0, .ref b)]) hx hb dL_law_1895 hl (by decide) rfl (fun ls hl => ?_)
  refine lv_aload_n hx hb dL_law_1897 rfl (lv_at hl 4 rfl) ?_
  refine lv_aload_n hx hb dL_law_1898 rfl (lv_at hl 6 rfl) ?_
  refine lv_iload hx hb dL_law_1899 (lv_at hl 1 rfl) ?_
  refine lv_iconst (v := 1) hx hb dL_law_1901 (by decide) ?_
  refine lv_iadd hx hb dL_law_1902 ?_
  refine lv_to (y := nI (i + 1)) (nI_add i 1) ?_
  refine va_sld hx hb hX0 hbl (Nat.not_le.mpr hbl) G.2.2 (i := nI (i + 1)) (vp_in_nI (n := i + 1) (N := L) (by omega) (by omega)) dL_law_1903 ?_
  refine lv_to (y := xs (i + 1)) (congrArg xs (nI_clamp (by omega))) ?_
  refine lv_aload_n hx hb dL_law_1904 rfl (lv_at hl 6 rfl) ?_
  refine lv_iload hx hb dL_law_1905 (lv_at hl 1 rfl) ?_
  refine lv_iconst (v := 2) hx hb dL_law_1907 (by decide) ?_
  refine lv_iadd hx hb dL_law_1908 ?_
  refine lv_to (y := nI (i + 2)) (nI_add i 2) ?_
  refine va_sld hx hb hX0 hbl (Nat.not_le.mpr hbl) G.2.2 (i := nI (i + 2)) (vp_in_nI (n := i + 2) (N := L) (by omega) (by omega)) dL_law_1909 ?_
  refine lv_to (y := xs (i + 2)) (congrArg xs (nI_clamp (by omega))) ?_
  obtain ⟨⟨r2, S1⟩, hf, hj⟩ := sj_pointBest Sm (xs (i + 1)) (xs (i + 2)) hJ
  have hJ1 : JJ S1 := hj
  refine y_mi (As := [.int (xs (i + 1)), .int (xs (i + 2))]) (rest := []) E G hA hX.2.2.2.2 hml (tr_pointBest l D cI cJ cZ am Sm (xs (i + 1)) (xs (i + 2)) hf) (cwV 2 hts (glM (L := [Cond.methodLink RL 359 yX12_pointBest, Cond.instanceMethod yX12_pointBest, Cond.selects RX12 yX12_pointBest yX12_pointBest, Cond.initialized RX12]) (gl_in [(10, 129), (10, 130), (10, 131), (1, 14)] (by decide +kernel) (by decide +kernel)) ⟨(t_of [Cond.code yX12_pointBest cX12_pointBest 3 (some .int)] [(10, 132)] (by decide +kernel) _ List.mem_cons_self), List.all_eq_true.mp (by decide +kernel : [Cond.code yX12_pointBest cX12_pointBest 3 (some .int)].all goodWord = true) _ List.mem_cons_self⟩) rfl rfl rfl (by decide +kernel) ⟨Nat.le_of_ble_eq_true rfl, Nat.le_of_ble_eq_true rfl⟩) rfl hl.1 rfl (lv_room (Nat.le_of_ble_eq_true rfl)) dL_law_1910 ⟨by show _ ≤ 601024; omega, by show _ ≤ 7293034; omega⟩ (fun H locs G => ?_)
  refine lv_istore (lv' := [(7, .int r2), (6, .int (vck 1 2 3 k1)), (5, .int (nI i)), (4, .ref ae), (3, .ref aj), (2, .ref (am 0)), (1, .ref (ad2 0)), (0, .ref b)]) hx hb dL_law_1913 hl (by decide) rfl (fun ls hl => ?_)
  refine lv_goto (tgt := 2411) hx hb dL_law_1915 (by decide) ?_
  have hl := lv_sub hl [2, 3, 4, 5, 6, 7] rfl
  refine W.widen (k := 19 + T1.1 + (j + 1)) (n := 38467 + sg T1 + 6 * (j + 1)) (by omega) (by omega) ?_
  exact kk ad2 (vfJ k1 f r1.toInt64) g H locs ls hg hf (had 0 h0T) hV1 hrc1 hJ1 G hl
set_option maxHeartbeats 4000000 in
set_option maxRecDepth 100000 in
theorem y_a50 {p : Program} {e : Env} {s : State} {m : MethodId} {below : List Frame} {meth : Method} {c : Code} (l : Launch) (hst : l.stackTraces = false) {b L : Nat} {xs : Nat → Int32} (hx : p.tables.exec = Jvm.exec) (hb : c.code = code) (hml : c.maxLocals = 9) (hown : s.vm.findClass RL = some m.cls) (hts : ∀ w ∈ lw_tbl, w.before #[Value.ref b] s = true) (hX0 : va_X b L xs s s.heap) (hbl : b < s.heap.size) (hX : xT (fun q => s.heap.size ≤ q) s) (hN : nC s) (hTS : sAll s.heap.size s) {D : va_G} {cI cJ cZ cMic cSrc cSt cAI cAJ cD : ClassId} (hK : va_K D vwCl (CT cI cJ cZ cMic cSrc cSt cAI cAJ ++ [(cD, .double)]) s) {Q : State → Prop} {i j : Nat} (hi : i + 6 ≤ L) (hL : L ≤ 3072) (hj : j < 512) {aj ae : Nat} {ad am : Nat → Nat} {T : AT} {Sm : MS} {f : Nat → Int64} {g : Nat → UInt64} {ls : Array Slot} {H : Heap} {locs : List Loc} (hV : IV aR0 1586 aK1 aK2 T) (hrc : RC T) (hJ : JJ Sm) (G : gL cI cJ cZ cMic cSrc cSt cAI cAJ D ad (fun q => s.heap.size ≤ q) s.heap H locs T (oJ aj cJ f :: oD ae cD g :: MW cI cJ cZ am Sm)) (hl : lv_has ls 9 [(5, .int (nI i)), (4, .ref ae), (3, .ref aj), (2, .ref (am 0)), (1, .ref (ad 0)), (0, .ref b)]) (kk : ∀ {k1 : Nat} {r1 : Int64} {T1 : AT} {r2 : Int64} {S1 : MS} (ad2 : Nat → Nat) (f1 : Nat → Int64) (g1 : Nat → UInt64) (H1 : Heap) (locs1 : List Loc) (ls1 : Array Slot), g_X11_pointPower T 0 (xs (i + 1)) (xs (i + 2)) (xs (i + 3)) = some (k1, r1, T1) → fr_pointPower Sm (xs (i + 1)) (xs (i + 2)) (xs (i + 3)) = some (r2, S1) → ad2 0 = ad 0 → IV aR0 1586 aK1 aK2 T1 → RC T1 → JJ S1 → gL cI cJ cZ cMic cSrc cSt cAI cAJ D ad2 (fun q => s.heap.size ≤ q) s.heap H1 locs1 T1 (oJ aj cJ f1 :: oD ae cD g1 :: MW cI cJ cZ am S1) → lv_has ls1 9 [(5, .int (nI i)), (4, .ref ae), (3, .ref aj), (2, .ref (am 0)), (1, .ref (ad2 0)), (0, .ref b)] → W p l e room_1 s m #[Value.ref b] below meth c H1 locs1 (19 + T1.1 + (j + 1)) (38467 + sg T1 + 6 * (j + 1)) Q (F0 m 2411 ls1 [])) : W p l e room_1 s m #[Value.ref b] below meth c H locs (19 + T.1 + j) (38467 + sg T + 6 * j) Q (F0 m 1918 ls []) := by
  have E : cE p c cL_law s m #[Value.ref b] lw_tbl D RL (CT cI cJ cZ cMic cSrc cSt cAI cAJ ++ [(cD, .double)]) := ⟨hx, hb, hts, hown, hK⟩
  have hA : ∀ q : Nat, s.heap.size ≤ q → s.heap.size ≤ q := fun _ h => h
  have h0T : 0 < T.1 := Nat.lt_of_lt_of_le (by decide) hV.1.2.2
  have h0s : T.2.1 0 = (11, 0) := hV.2.1 0 ⟨by decide, by decide +kernel, by decide +kernel⟩
  refine lv_aload_n hx hb dL_law_1918 rfl (lv_at hl 4 rfl) ?_
  refine lv_aload_n hx hb dL_law_1919 rfl (lv_at hl 5 rfl) ?_
  refine lv_iload hx hb dL_law_1920 (lv_at hl 0 rfl) ?_
  refine lv_iconst (v := 1) hx hb dL_law_1922 (by decide) ?_
  refine lv_iadd hx hb dL_law_1923 ?_
  refine lv_to (y := nI (i + 1)) (nI_add i 1) ?_
  refine va_sld hx hb hX0 hbl (Nat.not_le.mpr hbl) G.2.2 (i := nI (i + 1)) (vp_in_nI (n := i + 1) (N := L) (by omega) (by omega)) dL_law_1924 ?_
  refine lv_to (y := xs (i + 1)) (congrArg xs (nI_clamp (by omega))) ?_
  refine lv_aload_n hx hb dL_law_1925 rfl (lv_at hl 5 rfl) ?_
  refine lv_iload hx hb dL_law_1926 (lv_at hl 0 rfl) ?_
  refine lv_iconst (v := 2) hx hb dL_law_1928 (by decide) ?_
  refine lv_iadd hx hb dL_law_1929 ?_
  refine lv_to (y := nI (i + 2)) (nI_add i 2) ?_
  refine va_sld hx hb hX0 hbl (Nat.not_le.mpr hbl) G.2.2 (i := nI (i + 2)) (vp_in_nI (n := i + 2) (N := L) (by omega) (by omega)) dL_law_1930 ?_
  refine lv_to (y := xs (i + 2)) (congrArg xs (nI_clamp (by omega))) ?_
  refine lv_aload_n hx hb dL_law_1931 rfl (lv_at hl 5 rfl) ?_
  refine lv_iload hx hb dL_law_1932 (lv_at hl 0 rfl) ?_
  refine lv_iconst (v := 3) hx hb dL_law_1934 (by decide) ?_
  refine lv_iadd hx hb dL_law_1935 ?_
  refine lv_to (y := nI (i + 3)) (nI_add i 3) ?_
  refine va_sld hx hb hX0 hbl (Nat.not_le.mpr hbl) G.2.2 (i := nI (i + 3)) (vp_in_nI (n := i + 3) (N := L) (by omega) (by omega)) dL_law_1936 ?_
  refine lv_to (y := xs (i + 3)) (congrArg xs (nI_clamp (by omega))) ?_
  refine lv_aload_n hx hb dL_law_1937 rfl (lv_at hl 2 rfl) ?_
  obtain ⟨⟨k1, r1, T1⟩, hg, hc⟩ := cs_X11_pointPower T 0 (xs (i + 1)) (xs (i + 2)) (xs (i + 3)) hV (by decide +kernel)
  have hV1 : IV aR0 1586 aK1 aK2 T1 := hc.1.1
  have hg1 := s_X11_pointPower hg
  have hg2 := sg_le hg1
  have hg3 := hg1.1
  have hk := hV1.2.2.2.2.2.2
  have hrc1 := hg1.2.2 hrc
  have hr0 := a_room
  refine l_v (h0 := s.heap.size) (As := [.ref (ad 0), .int (xs (i + 1)), .int (xs (i + 2)), .int (xs (i + 3)), .ref aj]) (rest := []) E G hA hX hN (fun _ h => h) hTS hml (v_pointPower l hst D s.heap.size ad T 0 (xs (i + 1)) (xs (i + 2)) (xs (i + 3)) aj f hg hrc h0T h0s) (vx_cwSW 5 hts (glA (L := [Cond.methodLink RL 360 yL_pointPower, Cond.static yL_pointPower, Cond.initialized RL]) (gl_in [(7, 99), (7, 100), (1, 0)] (by decide +kernel) (by decide +kernel)) ⟨(t_of [Cond.codeWith yL_pointPower cL_pointPower 6 (some .int) [(0, 11, 14, 21), (0, 11, 18, 13), (0, 11, 22, 15)]] [(7, 101)] (by decide +kernel) _ List.mem_cons_self), List.all_eq_true.mp (by decide +kernel : [Cond.codeWith yL_pointPower cL_pointPower 6 (some .int) [(0, 11, 14, 21), (0, 11, 18, 13), (0, 11, 22, 15)]].all goodWord = true) _ List.mem_cons_self⟩) rfl rfl rfl (by decide +kernel) ⟨Nat.le_of_ble_eq_true rfl, Nat.le_of_ble_eq_true rfl⟩) rfl hl.1 rfl (lv_room (Nat.le_of_ble_eq_true rfl)) dL_law_1938 ⟨by show _ ≤ 601024; omega, by show _ ≤ 7293034; omega⟩ ?_
  intro ad2 H locs had G
  rw [← had 0 h0T] at hl
  refine lv_istore (lv' := [(6, .int (vck 1 2 3 k1)), (5, .int (nI i)), (4, .ref ae), (3, .ref aj), (2, .ref (am 0)), (1, .ref (ad2 0)), (0, .ref b)]) hx hb dL_law_1941 hl (by decide) rfl (fun ls hl => ?_)
  refine lv_aload_n hx hb dL_law_1943 rfl (lv_at hl 4 rfl) ?_
  refine lv_aload_n hx hb dL_law_1944 rfl (lv_at hl 6 rfl) ?_
  refine lv_iload hx hb dL_law_1945 (lv_at hl 1 rfl) ?_
  refine lv_iconst (v := 1) hx hb dL_law_1947 (by decide) ?_
  refine lv_iadd hx hb dL_law_1948 ?_
  refine lv_to (y := nI (i + 1)) (nI_add i 1) ?_
  refine va_sld hx hb hX0 hbl (Nat.not_le.mpr hbl) G.2.2 (i := nI (i + 1)) (vp_in_nI (n := i + 1) (N := L) (by omega) (by omega)) dL_law_1949 ?_
  refine lv_to (y := xs (i + 1)) (congrArg xs (nI_clamp (by omega))) ?_
  refine lv_aload_n hx hb dL_law_1950 rfl (lv_at hl 6 rfl) ?_
  refine lv_iload hx hb dL_law_1951 (lv_at hl 1 rfl) ?_
  refine lv_iconst (v := 2) hx hb dL_law_1953 (by decide) ?_
  refine lv_iadd hx hb dL_law_1954 ?_
  refine lv_to (y := nI (i + 2)) (nI_add i 2) ?_
  refine va_sld hx hb hX0 hbl (Nat.not_le.mpr hbl) G.2.2 (i := nI (i + 2)) (vp_in_nI (n := i + 2) (N := L) (by omega) (by omega)) dL_law_1955 ?_
  refine lv_to (y := xs (i + 2)) (congrArg xs (nI_clamp (by omega))) ?_
  refine lv_aload_n hx hb dL_law_1956 rfl (lv_at hl 6 rfl) ?_
  refine lv_iload hx hb dL_law_1957 (lv_at hl 1 rfl) ?_
  refine lv_iconst (v := 3) hx hb dL_law_1959 (by decide) ?_
  refine lv_iadd hx hb dL_law_1960 ?_
  refine lv_to (y := nI (i + 3)) (nI_add i 3) ?_
  refine va_sld hx hb hX0 hbl (Nat.not_le.mpr hbl) G.2.2 (i := nI (i + 3)) (vp_in_nI (n := i + 3) (N := L) (by omega) (by omega)) dL_law_1961 ?_
  refine lv_to (y := xs (i + 3)) (congrArg xs (nI_clamp (by omega))) ?_
  obtain ⟨⟨r2, S1⟩, hf, hj⟩ := sj_pointPower Sm (xs (i + 1)) (xs (i + 2)) (xs (i + 3)) hJ
  have hJ1 : JJ S1 := hj
  refine y_ml (As := [.int (xs (i + 1)), .int (xs (i + 2)), .int (xs (i + 3))]) (rest := []) E G hA hX.2.2.2.2 hml (tr_pointPower l D cI cJ cZ am Sm (xs (i + 1)) (xs (i + 2)) (xs (i + 3)) hf) (cwV 3 hts (glM (L := [Cond.methodLink RL 362 yX12_pointPower, Cond.instanceMethod yX12_pointPower, Cond.selects RX12 yX12_pointPower yX12_pointPower, Cond.initialized RX12]) (gl_in [(10, 137), (10, 138), (10, 139), (1, 14)] (by decide +kernel) (by decide +kernel)) ⟨(t_of [Cond.code yX12_pointPower cX12_pointPower 4 (some .long)] [(10, 140)] (by decide +kernel) _ List.mem_cons_self), List.all_eq_true.mp (by decide +kernel : [Cond.code yX12_pointPower cX12_pointPower 4 (some .long)].all goodWord = true) _ List.mem_cons_self⟩) rfl rfl rfl (by decide +kernel) ⟨Nat.le_of_ble_eq_true rfl, Nat.le_of_ble_eq_true rfl⟩) rfl hl.1 rfl (lv_room (Nat.le_of_ble_eq_true rfl)) dL_law_1962 ⟨by show _ ≤ 601024; omega, by show _ ≤ 7293034; omega⟩ (fun H locs G => ?_)
  refine lv_lstore (lv' := [(7, .long r2), (6, .int (vck 1 2 3 k1)), (5, .int (nI i)), (4, .ref ae), (3, .ref aj), (2, .ref (am 0)), (1, .ref (ad2 0)), (0, .ref b)]) hx hb dL_law_1965 hl (by decide) rfl (fun ls hl => ?_)
  refine lv_goto (tgt := 2411) hx hb dL_law_1967 (by decide) ?_
  have hl := lv_sub hl [2, 3, 4, 5, 6, 7] rfl
  refine W.widen (k := 19 + T1.1 + (j + 1)) (n := 38467 + sg T1 + 6 * (j + 1)) (by omega) (by omega) ?_
  exact kk ad2 (vfJ k1 f r1) g H locs ls hg hf (had 0 h0T) hV1 hrc1 hJ1 G hl
set_option maxHeartbeats 4000000 in
set_option maxRecDepth 100000 in
theorem y_a51 {p : Program} {e : Env} {s : State} {m : MethodId} {below : List Frame} {meth : Method} {c : Code} (l : Launch) (hst : l.stackTraces = false) {b L : Nat} {xs : Nat → Int32} (hx : p.tables.exec = Jvm.exec) (hb : c.code = code) (hml : c.maxLocals = 9) (hown : s.vm.findClass RL = some m.cls) (hts : ∀ w ∈ lw_tbl, w.before #[Value.ref b] s = true) (hX0 : va_X b L xs s s.heap) (hbl : b < s.heap.size) (hX : xT (fun q => s.heap.size ≤ q) s) (hN : nC s) (hTS : sAll s.heap.size s) {D : va_G} {cI cJ cZ cMic cSrc cSt cAI cAJ cD : ClassId} (hK : va_K D vwCl (CT cI cJ cZ cMic cSrc cSt cAI cAJ ++ [(cD, .double)]) s) {Q : State → Prop} {i j : Nat} (hi : i + 6 ≤ L) (hL : L ≤ 3072) (hj : j < 512) {aj ae : Nat} {ad am : Nat → Nat} {T : AT} {Sm : MS} {f : Nat → Int64} {g : Nat → UInt64} {ls : Array Slot} {H : Heap} {locs : List Loc} (hV : IV aR0 1586 aK1 aK2 T) (hrc : RC T) (hJ : JJ Sm) (G : gL cI cJ cZ cMic cSrc cSt cAI cAJ D ad (fun q => s.heap.size ≤ q) s.heap H locs T (oJ aj cJ f :: oD ae cD g :: MW cI cJ cZ am Sm)) (hl : lv_has ls 9 [(5, .int (nI i)), (4, .ref ae), (3, .ref aj), (2, .ref (am 0)), (1, .ref (ad 0)), (0, .ref b)]) (kk : ∀ {k1 : Nat} {r1 : Int32} {T1 : AT} {r2 : Int32} {S1 : MS} (ad2 : Nat → Nat) (f1 : Nat → Int64) (g1 : Nat → UInt64) (H1 : Heap) (locs1 : List Loc) (ls1 : Array Slot), g_X11_bestWithout T 0 (xs (i + 1)) = some (k1, r1, T1) → fr_bestWithout Sm (xs (i + 1)) = some (r2, S1) → ad2 0 = ad 0 → IV aR0 1586 aK1 aK2 T1 → RC T1 → JJ S1 → gL cI cJ cZ cMic cSrc cSt cAI cAJ D ad2 (fun q => s.heap.size ≤ q) s.heap H1 locs1 T1 (oJ aj cJ f1 :: oD ae cD g1 :: MW cI cJ cZ am S1) → lv_has ls1 9 [(5, .int (nI i)), (4, .ref ae), (3, .ref aj), (2, .ref (am 0)), (1, .ref (ad2 0)), (0, .ref b)] → W p l e room_1 s m #[Value.ref b] below meth c H1 locs1 (19 + T1.1 + (j + 1)) (38467 + sg T1 + 6 * (j + 1)) Q (F0 m 2411 ls1 [])) : W p l e room_1 s m #[Value.ref b] below meth c H locs (19 + T.1 + j) (38467 + sg T + 6 * j) Q (F0 m 1970 ls []) := by
  have E : cE p c cL_law s m #[Value.ref b] lw_tbl D RL (CT cI cJ cZ cMic cSrc cSt cAI cAJ ++ [(cD, .double)]) := ⟨hx, hb, hts, hown, hK⟩
  have hA : ∀ q : Nat, s.heap.size ≤ q → s.heap.size ≤ q := fun _ h => h
  have h0T : 0 < T.1 := Nat.lt_of_lt_of_le (by decide) hV.1.2.2
  have h0s : T.2.1 0 = (11, 0) := hV.2.1 0 ⟨by decide, by decide +kernel, by decide +kernel⟩
  refine lv_aload_n hx hb dL_law_1970 rfl (lv_at hl 4 rfl) ?_
  refine lv_aload_n hx hb dL_law_1971 rfl (lv_at hl 5 rfl) ?_
  refine lv_iload hx hb dL_law_1972 (lv_at hl 0 rfl) ?_
  refine lv_iconst (v := 1) hx hb dL_law_1974 (by decide) ?_
  refine lv_iadd hx hb dL_law_1975 ?_
  refine lv_to (y := nI (i + 1)) (nI_add i 1) ?_
  refine va_sld hx hb hX0 hbl (Nat.not_le.mpr hbl) G.2.2 (i := nI (i + 1)) (vp_in_nI (n := i + 1) (N := L) (by omega) (by omega)) dL_law_1976 ?_
  refine lv_to (y := xs (i + 1)) (congrArg xs (nI_clamp (by omega))) ?_
  refine lv_aload_n hx hb dL_law_1977 rfl (lv_at hl 2 rfl) ?_
  obtain ⟨⟨k1, r1, T1⟩, hg, hc⟩ := cs_X11_bestWithout T 0 (xs (i + 1)) hV (by decide +kernel)
  have hV1 : IV aR0 1586 aK1 aK2 T1 := hc.1.1
  have hg1 := s_X11_bestWithout hg
  have hg2 := sg_le hg1
  have hg3 := hg1.1
  have hk := hV1.2.2.2.2.2.2
  have hrc1 := hg1.2.2 hrc
  have hr0 := a_room
  refine l_v (h0 := s.heap.size) (As := [.ref (ad 0), .int (xs (i + 1)), .ref aj]) (rest := []) E G hA hX hN (fun _ h => h) hTS hml (v_bestWithout l hst D s.heap.size ad T 0 (xs (i + 1)) aj f hg hrc h0T h0s) (vx_cwSW 3 hts (glA (L := [Cond.methodLink RL 363 yL_bestWithout, Cond.static yL_bestWithout, Cond.initialized RL]) (gl_in [(7, 106), (7, 107), (1, 0)] (by decide +kernel) (by decide +kernel)) ⟨(t_of [Cond.codeWith yL_bestWithout cL_bestWithout 4 (some .int) [(0, 9, 12, 21), (0, 9, 15, 13)]] [(7, 108)] (by decide +kernel) _ List.mem_cons_self), List.all_eq_true.mp (by decide +kernel : [Cond.codeWith yL_bestWithout cL_bestWithout 4 (some .int) [(0, 9, 12, 21), (0, 9, 15, 13)]].all goodWord = true) _ List.mem_cons_self⟩) rfl rfl rfl (by decide +kernel) ⟨Nat.le_of_ble_eq_true rfl, Nat.le_of_ble_eq_true rfl⟩) rfl hl.1 rfl (lv_room (Nat.le_of_ble_eq_true rfl)) dL_law_1978 ⟨by show _ ≤ 601024; omega, by show _ ≤ 7293034; omega⟩ ?_
  intro ad2 H locs had G
  rw [← had 0 h0T] at hl
  refine lv_istore (lv' := [(6, .int (vck 1 2 0 k1)), (5, .int (nI i)), (4, .ref ae), (3, .ref aj), (2, .ref (am 0)), (1, .ref (ad2 0)), (0, .ref b)]) hx hb dL_law_1981 hl (by decide) rfl (fun ls hl => ?_)
  refine lv_aload_n hx hb dL_law_1983 rfl (lv_at hl 4 rfl) ?_
  refine lv_aload_n hx hb dL_law_1984 rfl (lv_at hl 6 rfl) ?_
  refine lv_iload hx hb dL_law_1985 (lv_at hl 1 rfl) ?_
  refine lv_iconst (v := 1) hx hb dL_law_1987 (by decide) ?_
  refine lv_iadd hx hb dL_law_1988 ?_
  refine lv_to (y := nI (i + 1)) (nI_add i 1) ?_
  refine va_sld hx hb hX0 hbl (Nat.not_le.mpr hbl) G.2.2 (i := nI (i + 1)) (vp_in_nI (n := i + 1) (N := L) (by omega) (by omega)) dL_law_1989 ?_
  refine lv_to (y := xs (i + 1)) (congrArg xs (nI_clamp (by omega))) ?_
  obtain ⟨⟨r2, S1⟩, hf, hj⟩ := sj_bestWithout Sm (xs (i + 1)) hJ
  have hJ1 : JJ S1 := hj
  refine y_mi (As := [.int (xs (i + 1))]) (rest := []) E G hA hX.2.2.2.2 hml (tr_bestWithout l D cI cJ cZ am Sm (xs (i + 1)) hf) (cwV 1 hts (glM (L := [Cond.methodLink RL 365 yX12_bestWithout, Cond.instanceMethod yX12_bestWithout, Cond.selects RX12 yX12_bestWithout yX12_bestWithout, Cond.initialized RX12]) (gl_in [(10, 141), (10, 142), (10, 143), (1, 14)] (by decide +kernel) (by decide +kernel)) ⟨(t_of [Cond.code yX12_bestWithout cX12_bestWithout 2 (some .int)] [(10, 144)] (by decide +kernel) _ List.mem_cons_self), List.all_eq_true.mp (by decide +kernel : [Cond.code yX12_bestWithout cX12_bestWithout 2 (some .int)].all goodWord = true) _ List.mem_cons_self⟩) rfl rfl rfl (by decide +kernel) ⟨Nat.le_of_ble_eq_true rfl, Nat.le_of_ble_eq_true rfl⟩) rfl hl.1 rfl (lv_room (Nat.le_of_ble_eq_true rfl)) dL_law_1990 ⟨by show _ ≤ 601024; omega, by show _ ≤ 7293034; omega⟩ (fun H locs G => ?_)
  refine lv_istore (lv' := [(7, .int r2), (6, .int (vck 1 2 0 k1)), (5, .int (nI i)), (4, .ref ae), (3, .ref aj), (2, .ref (am 0)), (1, .ref (ad2 0)), (0, .ref b)]) hx hb dL_law_1993 hl (by decide) rfl (fun ls hl => ?_)
  refine lv_goto (tgt := 2411) hx hb dL_law_1995 (by decide) ?_
  have hl := lv_sub hl [2, 3, 4, 5, 6, 7] rfl
  refine W.widen (k := 19 + T1.1 + (j + 1)) (n := 38467 + sg T1 + 6 * (j + 1)) (by omega) (by omega) ?_
  exact kk ad2 (vfJ k1 f r1.toInt64) g H locs ls hg hf (had 0 h0T) hV1 hrc1 hJ1 G hl
set_option maxHeartbeats 4000000 in
set_option maxRecDepth 100000 in
theorem y_a52 {p : Program} {e : Env} {s : State} {m : MethodId} {below : List Frame} {meth : Method} {c : Code} (l : Launch) (hst : l.stackTraces = false) {b L : Nat} {xs : Nat → Int32} (hx : p.tables.exec = Jvm.exec) (hb : c.code = code) (hml : c.maxLocals = 9) (hown : s.vm.findClass RL = some m.cls) (hts : ∀ w ∈ lw_tbl, w.before #[Value.ref b] s = true) (hX0 : va_X b L xs s s.heap) (hbl : b < s.heap.size) (hX : xT (fun q => s.heap.size ≤ q) s) (hN : nC s) (hTS : sAll s.heap.size s) {D : va_G} {cI cJ cZ cMic cSrc cSt cAI cAJ cD : ClassId} (hK : va_K D vwCl (CT cI cJ cZ cMic cSrc cSt cAI cAJ ++ [(cD, .double)]) s) {Q : State → Prop} {i j : Nat} (hi : i + 6 ≤ L) (hL : L ≤ 3072) (hj : j < 512) {aj ae : Nat} {ad am : Nat → Nat} {T : AT} {Sm : MS} {f : Nat → Int64} {g : Nat → UInt64} {ls : Array Slot} {H : Heap} {locs : List Loc} (hV : IV aR0 1586 aK1 aK2 T) (hrc : RC T) (hJ : JJ Sm) (G : gL cI cJ cZ cMic cSrc cSt cAI cAJ D ad (fun q => s.heap.size ≤ q) s.heap H locs T (oJ aj cJ f :: oD ae cD g :: MW cI cJ cZ am Sm)) (hl : lv_has ls 9 [(5, .int (nI i)), (4, .ref ae), (3, .ref aj), (2, .ref (am 0)), (1, .ref (ad 0)), (0, .ref b)]) (kk : ∀ {k1 : Nat} {r1 : Int32} {T1 : AT} {r2 : Int32} {S1 : MS} (ad2 : Nat → Nat) (f1 : Nat → Int64) (g1 : Nat → UInt64) (H1 : Heap) (locs1 : List Loc) (ls1 : Array Slot), g_X11_bestIfOff T 0 (xs (i + 1)) = some (k1, r1, T1) → fr_bestIfOff Sm (xs (i + 1)) = some (r2, S1) → ad2 0 = ad 0 → IV aR0 1586 aK1 aK2 T1 → RC T1 → JJ S1 → gL cI cJ cZ cMic cSrc cSt cAI cAJ D ad2 (fun q => s.heap.size ≤ q) s.heap H1 locs1 T1 (oJ aj cJ f1 :: oD ae cD g1 :: MW cI cJ cZ am S1) → lv_has ls1 9 [(5, .int (nI i)), (4, .ref ae), (3, .ref aj), (2, .ref (am 0)), (1, .ref (ad2 0)), (0, .ref b)] → W p l e room_1 s m #[Value.ref b] below meth c H1 locs1 (19 + T1.1 + (j + 1)) (38467 + sg T1 + 6 * (j + 1)) Q (F0 m 2411 ls1 [])) : W p l e room_1 s m #[Value.ref b] below meth c H locs (19 + T.1 + j) (38467 + sg T + 6 * j) Q (F0 m 1998 ls []) := by
  have E : cE p c cL_law s m #[Value.ref b] lw_tbl D RL (CT cI cJ cZ cMic cSrc cSt cAI cAJ ++ [(cD, .double)]) := ⟨hx, hb, hts, hown, hK⟩
  have hA : ∀ q : Nat, s.heap.size ≤ q → s.heap.size ≤ q := fun _ h => h
  have h0T : 0 < T.1 := Nat.lt_of_lt_of_le (by decide) hV.1.2.2
  have h0s : T.2.1 0 = (11, 0) := hV.2.1 0 ⟨by decide, by decide +kernel, by decide +kernel⟩
  refine lv_aload_n hx hb dL_law_1998 rfl (lv_at hl 4 rfl) ?_
  refine lv_aload_n hx hb dL_law_1999 rfl (lv_at hl 5 rfl) ?_
  refine lv_iload hx hb dL_law_2000 (lv_at hl 0 rfl) ?_
  refine lv_iconst (v := 1) hx hb dL_law_2002 (by decide) ?_
  refine lv_iadd hx hb dL_law_2003 ?_
  refine lv_to (y := nI (i + 1)) (nI_add i 1) ?_
  refine va_sld hx hb hX0 hbl (Nat.not_le.mpr hbl) G.2.2 (i := nI (i + 1)) (vp_in_nI (n := i + 1) (N := L) (by omega) (by omega)) dL_law_2004 ?_
  refine lv_to (y := xs (i + 1)) (congrArg xs (nI_clamp (by omega))) ?_
  refine lv_aload_n hx hb dL_law_2005 rfl (lv_at hl 2 rfl) ?_
  obtain ⟨⟨k1, r1, T1⟩, hg, hc⟩ := cs_X11_bestIfOff T 0 (xs (i + 1)) hV (by decide +kernel)
  have hV1 : IV aR0 1586 aK1 aK2 T1 := hc.1.1
  have hg1 := s_X11_bestIfOff hg
  have hg2 := sg_le hg1
  have hg3 := hg1.1
  have hk := hV1.2.2.2.2.2.2
  have hrc1 := hg1.2.2 hrc
  have hr0 := a_room
  refine l_v (h0 := s.heap.size) (As := [.ref (ad 0), .int (xs (i + 1)), .ref aj]) (rest := []) E G hA hX hN (fun _ h => h) hTS hml (v_bestIfOff l hst D s.heap.size ad T 0 (xs (i + 1)) aj f hg hrc h0T h0s) (vx_cwSW 3 hts (glA (L := [Cond.methodLink RL 366 yL_bestIfOff, Cond.static yL_bestIfOff, Cond.initialized RL]) (gl_in [(7, 113), (7, 114), (1, 0)] (by decide +kernel) (by decide +kernel)) ⟨(t_of [Cond.codeWith yL_bestIfOff cL_bestIfOff 4 (some .int) [(0, 9, 12, 21), (0, 9, 15, 13)]] [(7, 115)] (by decide +kernel) _ List.mem_cons_self), List.all_eq_true.mp (by decide +kernel : [Cond.codeWith yL_bestIfOff cL_bestIfOff 4 (some .int) [(0, 9, 12, 21), (0, 9, 15, 13)]].all goodWord = true) _ List.mem_cons_self⟩) rfl rfl rfl (by decide +kernel) ⟨Nat.le_of_ble_eq_true rfl, Nat.le_of_ble_eq_true rfl⟩) rfl hl.1 rfl (lv_room (Nat.le_of_ble_eq_true rfl)) dL_law_2006 ⟨by show _ ≤ 601024; omega, by show _ ≤ 7293034; omega⟩ ?_
  intro ad2 H locs had G
  rw [← had 0 h0T] at hl
  refine lv_istore (lv' := [(6, .int (vck 1 2 0 k1)), (5, .int (nI i)), (4, .ref ae), (3, .ref aj), (2, .ref (am 0)), (1, .ref (ad2 0)), (0, .ref b)]) hx hb dL_law_2009 hl (by decide) rfl (fun ls hl => ?_)
  refine lv_aload_n hx hb dL_law_2011 rfl (lv_at hl 4 rfl) ?_
  refine lv_aload_n hx hb dL_law_2012 rfl (lv_at hl 6 rfl) ?_
  refine lv_iload hx hb dL_law_2013 (lv_at hl 1 rfl) ?_
  refine lv_iconst (v := 1) hx hb dL_law_2015 (by decide) ?_
  refine lv_iadd hx hb dL_law_2016 ?_
  refine lv_to (y := nI (i + 1)) (nI_add i 1) ?_
  refine va_sld hx hb hX0 hbl (Nat.not_le.mpr hbl) G.2.2 (i := nI (i + 1)) (vp_in_nI (n := i + 1) (N := L) (by omega) (by omega)) dL_law_2017 ?_
  refine lv_to (y := xs (i + 1)) (congrArg xs (nI_clamp (by omega))) ?_
  obtain ⟨⟨r2, S1⟩, hf, hj⟩ := sj_bestIfOff Sm (xs (i + 1)) hJ
  have hJ1 : JJ S1 := hj
  refine y_mi (As := [.int (xs (i + 1))]) (rest := []) E G hA hX.2.2.2.2 hml (tr_bestIfOff l D cI cJ cZ am Sm (xs (i + 1)) hf) (cwV 1 hts (glM (L := [Cond.methodLink RL 368 yX12_bestIfOff, Cond.instanceMethod yX12_bestIfOff, Cond.selects RX12 yX12_bestIfOff yX12_bestIfOff, Cond.initialized RX12]) (gl_in [(10, 145), (10, 146), (10, 147), (1, 14)] (by decide +kernel) (by decide +kernel)) ⟨(t_of [Cond.code yX12_bestIfOff cX12_bestIfOff 2 (some .int)] [(10, 148)] (by decide +kernel) _ List.mem_cons_self), List.all_eq_true.mp (by decide +kernel : [Cond.code yX12_bestIfOff cX12_bestIfOff 2 (some .int)].all goodWord = true) _ List.mem_cons_self⟩) rfl rfl rfl (by decide +kernel) ⟨Nat.le_of_ble_eq_true rfl, Nat.le_of_ble_eq_true rfl⟩) rfl hl.1 rfl (lv_room (Nat.le_of_ble_eq_true rfl)) dL_law_2018 ⟨by show _ ≤ 601024; omega, by show _ ≤ 7293034; omega⟩ (fun H locs G => ?_)
  refine lv_istore (lv' := [(7, .int r2), (6, .int (vck 1 2 0 k1)), (5, .int (nI i)), (4, .ref ae), (3, .ref aj), (2, .ref (am 0)), (1, .ref (ad2 0)), (0, .ref b)]) hx hb dL_law_2021 hl (by decide) rfl (fun ls hl => ?_)
  refine lv_goto (tgt := 2411) hx hb dL_law_2023 (by decide) ?_
  have hl := lv_sub hl [2, 3, 4, 5, 6, 7] rfl
  refine W.widen (k := 19 + T1.1 + (j + 1)) (n := 38467 + sg T1 + 6 * (j + 1)) (by omega) (by omega) ?_
  exact kk ad2 (vfJ k1 f r1.toInt64) g H locs ls hg hf (had 0 h0T) hV1 hrc1 hJ1 G hl
set_option maxHeartbeats 4000000 in
set_option maxRecDepth 100000 in
theorem y_a53 {p : Program} {e : Env} {s : State} {m : MethodId} {below : List Frame} {meth : Method} {c : Code} (l : Launch) (hst : l.stackTraces = false) {b L : Nat} {xs : Nat → Int32} (hx : p.tables.exec = Jvm.exec) (hb : c.code = code) (hml : c.maxLocals = 9) (hown : s.vm.findClass RL = some m.cls) (hts : ∀ w ∈ lw_tbl, w.before #[Value.ref b] s = true) (hX0 : va_X b L xs s s.heap) (hbl : b < s.heap.size) (hX : xT (fun q => s.heap.size ≤ q) s) (hN : nC s) (hTS : sAll s.heap.size s) {D : va_G} {cI cJ cZ cMic cSrc cSt cAI cAJ cD : ClassId} (hK : va_K D vwCl (CT cI cJ cZ cMic cSrc cSt cAI cAJ ++ [(cD, .double)]) s) {Q : State → Prop} {i j : Nat} (hi : i + 6 ≤ L) (hL : L ≤ 3072) (hj : j < 512) {aj ae : Nat} {ad am : Nat → Nat} {T : AT} {Sm : MS} {f : Nat → Int64} {g : Nat → UInt64} {ls : Array Slot} {H : Heap} {locs : List Loc} (hV : IV aR0 1586 aK1 aK2 T) (hrc : RC T) (hJ : JJ Sm) (G : gL cI cJ cZ cMic cSrc cSt cAI cAJ D ad (fun q => s.heap.size ≤ q) s.heap H locs T (oJ aj cJ f :: oD ae cD g :: MW cI cJ cZ am Sm)) (hl : lv_has ls 9 [(5, .int (nI i)), (4, .ref ae), (3, .ref aj), (2, .ref (am 0)), (1, .ref (ad 0)), (0, .ref b)]) (kk : ∀ {k1 : Nat} {r1 : Int32} {T1 : AT} {r2 : Int32} {S1 : MS} (ad2 : Nat → Nat) (f1 : Nat → Int64) (g1 : Nat → UInt64) (H1 : Heap) (locs1 : List Loc) (ls1 : Array Slot), g_X11_mute T 0 (xs (i + 1)) (vnz (xs (i + 2))) = some (k1, r1, T1) → fr_mute Sm (xs (i + 1)) (vnz (xs (i + 2))) = some (r2, S1) → ad2 0 = ad 0 → IV aR0 1586 aK1 aK2 T1 → RC T1 → JJ S1 → gL cI cJ cZ cMic cSrc cSt cAI cAJ D ad2 (fun q => s.heap.size ≤ q) s.heap H1 locs1 T1 (oJ aj cJ f1 :: oD ae cD g1 :: MW cI cJ cZ am S1) → lv_has ls1 9 [(5, .int (nI i)), (4, .ref ae), (3, .ref aj), (2, .ref (am 0)), (1, .ref (ad2 0)), (0, .ref b)] → W p l e room_1 s m #[Value.ref b] below meth c H1 locs1 (19 + T1.1 + (j + 1)) (38467 + sg T1 + 6 * (j + 1)) Q (F0 m 2411 ls1 [])) : W p l e room_1 s m #[Value.ref b] below meth c H locs (19 + T.1 + j) (38467 + sg T + 6 * j) Q (F0 m 2026 ls []) := by
  have E : cE p c cL_law s m #[Value.ref b] lw_tbl D RL (CT cI cJ cZ cMic cSrc cSt cAI cAJ ++ [(cD, .double)]) := ⟨hx, hb, hts, hown, hK⟩
  have hA : ∀ q : Nat, s.heap.size ≤ q → s.heap.size ≤ q := fun _ h => h
  have h0T : 0 < T.1 := Nat.lt_of_lt_of_le (by decide) hV.1.2.2
  have h0s : T.2.1 0 = (11, 0) := hV.2.1 0 ⟨by decide, by decide +kernel, by decide +kernel⟩
  refine lv_aload_n hx hb dL_law_2026 rfl (lv_at hl 4 rfl) ?_
  refine lv_aload_n hx hb dL_law_2027 rfl (lv_at hl 5 rfl) ?_
  refine lv_iload hx hb dL_law_2028 (lv_at hl 0 rfl) ?_
  refine lv_iconst (v := 1) hx hb dL_law_2030 (by decide) ?_
  refine lv_iadd hx hb dL_law_2031 ?_
  refine lv_to (y := nI (i + 1)) (nI_add i 1) ?_
  refine va_sld hx hb hX0 hbl (Nat.not_le.mpr hbl) G.2.2 (i := nI (i + 1)) (vp_in_nI (n := i + 1) (N := L) (by omega) (by omega)) dL_law_2032 ?_
  refine lv_to (y := xs (i + 1)) (congrArg xs (nI_clamp (by omega))) ?_
  refine lv_aload_n hx hb dL_law_2033 rfl (lv_at hl 5 rfl) ?_
  refine lv_iload hx hb dL_law_2034 (lv_at hl 0 rfl) ?_
  refine lv_iconst (v := 2) hx hb dL_law_2036 (by decide) ?_
  refine lv_iadd hx hb dL_law_2037 ?_
  refine lv_to (y := nI (i + 2)) (nI_add i 2) ?_
  refine va_sld hx hb hX0 hbl (Nat.not_le.mpr hbl) G.2.2 (i := nI (i + 2)) (vp_in_nI (n := i + 2) (N := L) (by omega) (by omega)) dL_law_2038 ?_
  refine lv_to (y := xs (i + 2)) (congrArg xs (nI_clamp (by omega))) ?_
  have kb : W p l e room_1 s m #[Value.ref b] below meth c H locs (19 + T.1 + j) (38467 + sg T + 6 * j) Q (F0 m 2047 ls [.int (vnz (xs (i + 2))), .int (xs (i + 1)), .ref (ad 0)]) := by
    refine lv_aload_n hx hb dL_law_2047 rfl (lv_at hl 2 rfl) ?_
    obtain ⟨⟨k1, r1, T1⟩, hg, hc⟩ := cs_X11_mute T 0 (xs (i + 1)) (vnz (xs (i + 2))) hV (by decide +kernel) (vnz_r _)
    have hV1 : IV aR0 1586 aK1 aK2 T1 := hc.1.1
    have hg1 := s_X11_mute hg
    have hg2 := sg_le hg1
    have hg3 := hg1.1
    have hk := hV1.2.2.2.2.2.2
    have hrc1 := hg1.2.2 hrc
    have hr0 := a_room
    refine l_v (h0 := s.heap.size) (As := [.ref (ad 0), .int (xs (i + 1)), .int (vnz (xs (i + 2))), .ref aj]) (rest := []) E G hA hX hN (fun _ h => h) hTS hml (v_mute l hst D s.heap.size ad T 0 (xs (i + 1)) (vnz (xs (i + 2))) aj f hg hrc h0T h0s) (vx_cwSW 4 hts (glA (L := [Cond.methodLink RL 369 yL_mute, Cond.static yL_mute, Cond.initialized RL]) (gl_in [(7, 120), (7, 121), (1, 0)] (by decide +kernel) (by decide +kernel)) ⟨(t_of [Cond.codeWith yL_mute cL_mute 5 (some .int) [(0, 17, 20, 21), (0, 17, 24, 13)]] [(7, 122)] (by decide +kernel) _ List.mem_cons_self), List.all_eq_true.mp (by decide +kernel : [Cond.codeWith yL_mute cL_mute 5 (some .int) [(0, 17, 20, 21), (0, 17, 24, 13)]].all goodWord = true) _ List.mem_cons_self⟩) rfl rfl rfl (by decide +kernel) ⟨Nat.le_of_ble_eq_true rfl, Nat.le_of_ble_eq_true rfl⟩) rfl hl.1 rfl (lv_room (Nat.le_of_ble_eq_true rfl)) dL_law_2048 ⟨by show _ ≤ 601024; omega, by show _ ≤ 7293034; omega⟩ ?_
    intro ad2 H locs had G
    rw [← had 0 h0T] at hl
    refine lv_istore (lv' := [(6, .int (vck 1 2 0 k1)), (5, .int (nI i)), (4, .ref ae), (3, .ref aj), (2, .ref (am 0)), (1, .ref (ad2 0)), (0, .ref b)]) hx hb dL_law_2051 hl (by decide) rfl (fun ls hl => ?_)
    refine lv_aload_n hx hb dL_law_2053 rfl (lv_at hl 4 rfl) ?_
    refine lv_aload_n hx hb dL_law_2054 rfl (lv_at hl 6 rfl) ?_
    refine lv_iload hx hb dL_law_2055 (lv_at hl 1 rfl) ?_
    refine lv_iconst (v := 1) hx hb dL_law_2057 (by decide) ?_
    refine lv_iadd hx hb dL_law_2058 ?_
    refine lv_to (y := nI (i + 1)) (nI_add i 1) ?_
    refine va_sld hx hb hX0 hbl (Nat.not_le.mpr hbl) G.2.2 (i := nI (i + 1)) (vp_in_nI (n := i + 1) (N := L) (by omega) (by omega)) dL_law_2059 ?_
    refine lv_to (y := xs (i + 1)) (congrArg xs (nI_clamp (by omega))) ?_
    refine lv_aload_n hx hb dL_law_2060 rfl (lv_at hl 6 rfl) ?_
    refine lv_iload hx hb dL_law_2061 (lv_at hl 1 rfl) ?_
    refine lv_iconst (v := 2) hx hb dL_law_2063 (by decide) ?_
    refine lv_iadd hx hb dL_law_2064 ?_
    refine lv_to (y := nI (i + 2)) (nI_add i 2) ?_
    refine va_sld hx hb hX0 hbl (Nat.not_le.mpr hbl) G.2.2 (i := nI (i + 2)) (vp_in_nI (n := i + 2) (N := L) (by omega) (by omega)) dL_law_2065 ?_
    refine lv_to (y := xs (i + 2)) (congrArg xs (nI_clamp (by omega))) ?_
    have kb : W p l e room_1 s m #[Value.ref b] below meth c H locs (19 + T.1 + j + (T1.1 - T.1 + 1)) (38467 + sg T + 6 * j + (sg T1 - sg T + 6)) Q (F0 m 2074 ls [.int (vnz (xs (i + 2))), .int (xs (i + 1)), .ref (am 0)]) := by
      obtain ⟨⟨r2, S1⟩, hf, hj⟩ := sj_mute Sm (xs (i + 1)) (vnz (xs (i + 2))) hJ
      have hJ1 : JJ S1 := hj
      refine y_mi (As := [.int (xs (i + 1)), .int (vnz (xs (i + 2)))]) (rest := []) E G hA hX.2.2.2.2 hml (tr_mute l D cI cJ cZ am Sm (xs (i + 1)) (vnz (xs (i + 2))) hf) (cwV 2 hts (glM (L := [Cond.methodLink RL 372 yX12_mute, Cond.instanceMethod yX12_mute, Cond.selects RX12 yX12_mute yX12_mute, Cond.initialized RX12]) (gl_in [(10, 149), (10, 150), (10, 151), (1, 14)] (by decide +kernel) (by decide +kernel)) ⟨(t_of [Cond.code yX12_mute cX12_mute 3 (some .boolean)] [(10, 152)] (by decide +kernel) _ List.mem_cons_self), List.all_eq_true.mp (by decide +kernel : [Cond.code yX12_mute cX12_mute 3 (some .boolean)].all goodWord = true) _ List.mem_cons_self⟩) rfl rfl rfl (by decide +kernel) ⟨Nat.le_of_ble_eq_true rfl, Nat.le_of_ble_eq_true rfl⟩) rfl hl.1 rfl (lv_room (Nat.le_of_ble_eq_true rfl)) dL_law_2074 ⟨by show _ ≤ 601024; omega, by show _ ≤ 7293034; omega⟩ (fun H locs G => ?_)
      refine lv_istore (lv' := [(7, .int r2), (6, .int (vck 1 2 0 k1)), (5, .int (nI i)), (4, .ref ae), (3, .ref aj), (2, .ref (am 0)), (1, .ref (ad2 0)), (0, .ref b)]) hx hb dL_law_2077 hl (by decide) rfl (fun ls hl => ?_)
      refine lv_goto (tgt := 2411) hx hb dL_law_2079 (by decide) ?_
      have hl := lv_sub hl [2, 3, 4, 5, 6, 7] rfl
      refine W.widen (k := 19 + T1.1 + (j + 1)) (n := 38467 + sg T1 + 6 * (j + 1)) (by omega) (by omega) ?_
      exact kk ad2 (vfJ k1 f (vzb r1)) g H locs ls hg hf (had 0 h0T) hV1 hrc1 hJ1 G hl
    refine lv_if_eq (tgt := 2073) hx hb dL_law_2066 (by decide) (fun c1 => ?_) (fun c1 => ?_)
    · refine lv_iconst (v := 0) hx hb dL_law_2073 (by decide) ?_
      refine lv_to (y := vnz (xs (i + 2))) (if_pos c1).symm ?_
      exact kb
    · refine lv_iconst (v := 1) hx hb dL_law_2069 (by decide) ?_
      refine lv_to (y := vnz (xs (i + 2))) (if_neg c1).symm ?_
      refine lv_goto (tgt := 2074) hx hb dL_law_2070 (by decide) ?_
      exact kb
  refine lv_if_eq (tgt := 2046) hx hb dL_law_2039 (by decide) (fun c1 => ?_) (fun c1 => ?_)
  · refine lv_iconst (v := 0) hx hb dL_law_2046 (by decide) ?_
    refine lv_to (y := vnz (xs (i + 2))) (if_pos c1).symm ?_
    exact kb
  · refine lv_iconst (v := 1) hx hb dL_law_2042 (by decide) ?_
    refine lv_to (y := vnz (xs (i + 2))) (if_neg c1).symm ?_
    refine lv_goto (tgt := 2047) hx hb dL_law_2043 (by decide) ?_
    exact kb
set_option maxHeartbeats 4000000 in
set_option maxRecDepth 100000 in
theorem y_a54 {p : Program} {e : Env} {s : State} {m : MethodId} {below : List Frame} {meth : Method} {c : Code} (l : Launch) (hst : l.stackTraces = false) {b L : Nat} {xs : Nat → Int32} (hx : p.tables.exec = Jvm.exec) (hb : c.code = code) (hml : c.maxLocals = 9) (hown : s.vm.findClass RL = some m.cls) (hts : ∀ w ∈ lw_tbl, w.before #[Value.ref b] s = true) (hX0 : va_X b L xs s s.heap) (hbl : b < s.heap.size) (hX : xT (fun q => s.heap.size ≤ q) s) (hN : nC s) (hTS : sAll s.heap.size s) {D : va_G} {cI cJ cZ cMic cSrc cSt cAI cAJ cD : ClassId} (hK : va_K D vwCl (CT cI cJ cZ cMic cSrc cSt cAI cAJ ++ [(cD, .double)]) s) {Q : State → Prop} {i j : Nat} (hi : i + 6 ≤ L) (hL : L ≤ 3072) (hj : j < 512) {aj ae : Nat} {ad am : Nat → Nat} {T : AT} {Sm : MS} {f : Nat → Int64} {g : Nat → UInt64} {ls : Array Slot} {H : Heap} {locs : List Loc} (hV : IV aR0 1586 aK1 aK2 T) (hrc : RC T) (hJ : JJ Sm) (G : gL cI cJ cZ cMic cSrc cSt cAI cAJ D ad (fun q => s.heap.size ≤ q) s.heap H locs T (oJ aj cJ f :: oD ae cD g :: MW cI cJ cZ am Sm)) (hl : lv_has ls 9 [(5, .int (nI i)), (4, .ref ae), (3, .ref aj), (2, .ref (am 0)), (1, .ref (ad 0)), (0, .ref b)]) (kk : ∀ {k1 : Nat} {r1 : Int32} {T1 : AT} {r2 : Int32} {S1 : MS} (ad2 : Nat → Nat) (f1 : Nat → Int64) (g1 : Nat → UInt64) (H1 : Heap) (locs1 : List Loc) (ls1 : Array Slot), g_X11_setWeight T 0 (xs (i + 1)) (xs (i + 2)) = some (k1, r1, T1) → fr_setWeight Sm (xs (i + 1)) (xs (i + 2)) = some (r2, S1) → ad2 0 = ad 0 → IV aR0 1586 aK1 aK2 T1 → RC T1 → JJ S1 → gL cI cJ cZ cMic cSrc cSt cAI cAJ D ad2 (fun q => s.heap.size ≤ q) s.heap H1 locs1 T1 (oJ aj cJ f1 :: oD ae cD g1 :: MW cI cJ cZ am S1) → lv_has ls1 9 [(5, .int (nI i)), (4, .ref ae), (3, .ref aj), (2, .ref (am 0)), (1, .ref (ad2 0)), (0, .ref b)] → W p l e room_1 s m #[Value.ref b] below meth c H1 locs1 (19 + T1.1 + (j + 1)) (38467 + sg T1 + 6 * (j + 1)) Q (F0 m 2411 ls1 [])) : W p l e room_1 s m #[Value.ref b] below meth c H locs (19 + T.1 + j) (38467 + sg T + 6 * j) Q (F0 m 2082 ls []) := by
  have E : cE p c cL_law s m #[Value.ref b] lw_tbl D RL (CT cI cJ cZ cMic cSrc cSt cAI cAJ ++ [(cD, .double)]) := ⟨hx, hb, hts, hown, hK⟩
  have hA : ∀ q : Nat, s.heap.size ≤ q → s.heap.size ≤ q := fun _ h => h
  have h0T : 0 < T.1 := Nat.lt_of_lt_of_le (by decide) hV.1.2.2
  have h0s : T.2.1 0 = (11, 0) := hV.2.1 0 ⟨by decide, by decide +kernel, by decide +kernel⟩
  refine lv_aload_n hx hb dL_law_2082 rfl (lv_at hl 4 rfl) ?_
  refine lv_aload_n hx hb dL_law_2083 rfl (lv_at hl 5 rfl) ?_
  refine lv_iload hx hb dL_law_2084 (lv_at hl 0 rfl) ?_
  refine lv_iconst (v := 1) hx hb dL_law_2086 (by decide) ?_
  refine lv_iadd hx hb dL_law_2087 ?_
  refine lv_to (y := nI (i + 1)) (nI_add i 1) ?_
  refine va_sld hx hb hX0 hbl (Nat.not_le.mpr hbl) G.2.2 (i := nI (i + 1)) (vp_in_nI (n := i + 1) (N := L) (by omega) (by omega)) dL_law_2088 ?_
  refine lv_to (y := xs (i + 1)) (congrArg xs (nI_clamp (by omega))) ?_
  refine lv_aload_n hx hb dL_law_2089 rfl (lv_at hl 5 rfl) ?_
  refine lv_iload hx hb dL_law_2090 (lv_at hl 0 rfl) ?_
  refine lv_iconst (v := 2) hx hb dL_law_2092 (by decide) ?_
  refine lv_iadd hx hb dL_law_2093 ?_
  refine lv_to (y := nI (i + 2)) (nI_add i 2) ?_
  refine va_sld hx hb hX0 hbl (Nat.not_le.mpr hbl) G.2.2 (i := nI (i + 2)) (vp_in_nI (n := i + 2) (N := L) (by omega) (by omega)) dL_law_2094 ?_
  refine lv_to (y := xs (i + 2)) (congrArg xs (nI_clamp (by omega))) ?_
  refine lv_aload_n hx hb dL_law_2095 rfl (lv_at hl 2 rfl) ?_
  obtain ⟨⟨k1, r1, T1⟩, hg, hc⟩ := cs_X11_setWeight T 0 (xs (i + 1)) (xs (i + 2)) hV (by decide +kernel)
  have hV1 : IV aR0 1586 aK1 aK2 T1 := hc.1.1
  have hg1 := s_X11_setWeight hg
  have hg2 := sg_le hg1
  have hg3 := hg1.1
  have hk := hV1.2.2.2.2.2.2
  have hrc1 := hg1.2.2 hrc
  have hr0 := a_room
  refine l_v (h0 := s.heap.size) (As := [.ref (ad 0), .int (xs (i + 1)), .int (xs (i + 2)), .ref aj]) (rest := []) E G hA hX hN (fun _ h => h) hTS hml (v_setWeight l hst D s.heap.size ad T 0 (xs (i + 1)) (xs (i + 2)) aj f hg hrc h0T h0s) (vx_cwSW 4 hts (glA (L := [Cond.methodLink RL 373 yL_setWeight, Cond.static yL_setWeight, Cond.initialized RL]) (gl_in [(7, 131), (7, 132), (1, 0)] (by decide +kernel) (by decide +kernel)) ⟨(t_of [Cond.codeWith yL_setWeight cL_setWeight 5 (some .int) [(0, 10, 13, 21), (0, 10, 17, 13), (0, 10, 21, 15)]] [(7, 133)] (by decide +kernel) _ List.mem_cons_self), List.all_eq_true.mp (by decide +kernel : [Cond.codeWith yL_setWeight cL_setWeight 5 (some .int) [(0, 10, 13, 21), (0, 10, 17, 13), (0, 10, 21, 15)]].all goodWord = true) _ List.mem_cons_self⟩) rfl rfl rfl (by decide +kernel) ⟨Nat.le_of_ble_eq_true rfl, Nat.le_of_ble_eq_true rfl⟩) rfl hl.1 rfl (lv_room (Nat.le_of_ble_eq_true rfl)) dL_law_2096 ⟨by show _ ≤ 601024; omega, by show _ ≤ 7293034; omega⟩ ?_
  intro ad2 H locs had G
  rw [← had 0 h0T] at hl
  refine lv_istore (lv' := [(6, .int (vck 1 2 3 k1)), (5, .int (nI i)), (4, .ref ae), (3, .ref aj), (2, .ref (am 0)), (1, .ref (ad2 0)), (0, .ref b)]) hx hb dL_law_2099 hl (by decide) rfl (fun ls hl => ?_)
  refine lv_aload_n hx hb dL_law_2101 rfl (lv_at hl 4 rfl) ?_
  refine lv_aload_n hx hb dL_law_2102 rfl (lv_at hl 6 rfl) ?_
  refine lv_iload hx hb dL_law_2103 (lv_at hl 1 rfl) ?_
  refine lv_iconst (v := 1) hx hb dL_law_2105 (by decide) ?_
  refine lv_iadd hx hb dL_law_2106 ?_
  refine lv_to (y := nI (i + 1)) (nI_add i 1) ?_
  refine va_sld hx hb hX0 hbl (Nat.not_le.mpr hbl) G.2.2 (i := nI (i + 1)) (vp_in_nI (n := i + 1) (N := L) (by omega) (by omega)) dL_law_2107 ?_
  refine lv_to (y := xs (i + 1)) (congrArg xs (nI_clamp (by omega))) ?_
  refine lv_aload_n hx hb dL_law_2108 rfl (lv_at hl 6 rfl) ?_
  refine lv_iload hx hb dL_law_2109 (lv_at hl 1 rfl) ?_
  refine lv_iconst (v := 2) hx hb dL_law_2111 (by decide) ?_
  refine lv_iadd hx hb dL_law_2112 ?_
  refine lv_to (y := nI (i + 2)) (nI_add i 2) ?_
  refine va_sld hx hb hX0 hbl (Nat.not_le.mpr hbl) G.2.2 (i := nI (i + 2)) (vp_in_nI (n := i + 2) (N := L) (by omega) (by omega)) dL_law_2113 ?_
  refine lv_to (y := xs (i + 2)) (congrArg xs (nI_clamp (by omega))) ?_
  obtain ⟨⟨r2, S1⟩, hf, hj⟩ := sj_setWeight Sm (xs (i + 1)) (xs (i + 2)) hJ
  have hJ1 : JJ S1 := hj
  refine y_mi (As := [.int (xs (i + 1)), .int (xs (i + 2))]) (rest := []) E G hA hX.2.2.2.2 hml (tr_setWeight l D cI cJ cZ am Sm (xs (i + 1)) (xs (i + 2)) hf) (cwV 2 hts (glM (L := [Cond.methodLink RL 375 yX12_setWeight, Cond.instanceMethod yX12_setWeight, Cond.selects RX12 yX12_setWeight yX12_setWeight, Cond.initialized RX12]) (gl_in [(10, 161), (10, 162), (10, 163), (1, 14)] (by decide +kernel) (by decide +kernel)) ⟨(t_of [Cond.code yX12_setWeight cX12_setWeight 3 (some .int)] [(10, 164)] (by decide +kernel) _ List.mem_cons_self), List.all_eq_true.mp (by decide +kernel : [Cond.code yX12_setWeight cX12_setWeight 3 (some .int)].all goodWord = true) _ List.mem_cons_self⟩) rfl rfl rfl (by decide +kernel) ⟨Nat.le_of_ble_eq_true rfl, Nat.le_of_ble_eq_true rfl⟩) rfl hl.1 rfl (lv_room (Nat.le_of_ble_eq_true rfl)) dL_law_2114 ⟨by show _ ≤ 601024; omega, by show _ ≤ 7293034; omega⟩ (fun H locs G => ?_)
  refine lv_istore (lv' := [(7, .int r2), (6, .int (vck 1 2 3 k1)), (5, .int (nI i)), (4, .ref ae), (3, .ref aj), (2, .ref (am 0)), (1, .ref (ad2 0)), (0, .ref b)]) hx hb dL_law_2117 hl (by decide) rfl (fun ls hl => ?_)
  refine lv_goto (tgt := 2411) hx hb dL_law_2119 (by decide) ?_
  have hl := lv_sub hl [2, 3, 4, 5, 6, 7] rfl
  refine W.widen (k := 19 + T1.1 + (j + 1)) (n := 38467 + sg T1 + 6 * (j + 1)) (by omega) (by omega) ?_
  exact kk ad2 (vfJ k1 f r1.toInt64) g H locs ls hg hf (had 0 h0T) hV1 hrc1 hJ1 G hl
set_option maxHeartbeats 4000000 in
set_option maxRecDepth 100000 in
theorem y_a55 {p : Program} {e : Env} {s : State} {m : MethodId} {below : List Frame} {meth : Method} {c : Code} (l : Launch) (hst : l.stackTraces = false) {b L : Nat} {xs : Nat → Int32} (hx : p.tables.exec = Jvm.exec) (hb : c.code = code) (hml : c.maxLocals = 9) (hown : s.vm.findClass RL = some m.cls) (hts : ∀ w ∈ lw_tbl, w.before #[Value.ref b] s = true) (hX0 : va_X b L xs s s.heap) (hbl : b < s.heap.size) (hX : xT (fun q => s.heap.size ≤ q) s) (hN : nC s) (hTS : sAll s.heap.size s) {D : va_G} {cI cJ cZ cMic cSrc cSt cAI cAJ cD : ClassId} (hK : va_K D vwCl (CT cI cJ cZ cMic cSrc cSt cAI cAJ ++ [(cD, .double)]) s) {Q : State → Prop} {i j : Nat} (hi : i + 6 ≤ L) (hL : L ≤ 3072) (hj : j < 512) {aj ae : Nat} {ad am : Nat → Nat} {T : AT} {Sm : MS} {f : Nat → Int64} {g : Nat → UInt64} {ls : Array Slot} {H : Heap} {locs : List Loc} (hV : IV aR0 1586 aK1 aK2 T) (hrc : RC T) (hJ : JJ Sm) (G : gL cI cJ cZ cMic cSrc cSt cAI cAJ D ad (fun q => s.heap.size ≤ q) s.heap H locs T (oJ aj cJ f :: oD ae cD g :: MW cI cJ cZ am Sm)) (hl : lv_has ls 9 [(5, .int (nI i)), (4, .ref ae), (3, .ref aj), (2, .ref (am 0)), (1, .ref (ad 0)), (0, .ref b)]) (kk : ∀ {k1 : Nat} {r1 : Int32} {T1 : AT} {r2 : Int32} {S1 : MS} (ad2 : Nat → Nat) (f1 : Nat → Int64) (g1 : Nat → UInt64) (H1 : Heap) (locs1 : List Loc) (ls1 : Array Slot), g_X11_setOn T 0 (xs (i + 1)) (vnz (xs (i + 2))) = some (k1, r1, T1) → fr_setOn Sm (xs (i + 1)) (vnz (xs (i + 2))) = some (r2, S1) → ad2 0 = ad 0 → IV aR0 1586 aK1 aK2 T1 → RC T1 → JJ S1 → gL cI cJ cZ cMic cSrc cSt cAI cAJ D ad2 (fun q => s.heap.size ≤ q) s.heap H1 locs1 T1 (oJ aj cJ f1 :: oD ae cD g1 :: MW cI cJ cZ am S1) → lv_has ls1 9 [(5, .int (nI i)), (4, .ref ae), (3, .ref aj), (2, .ref (am 0)), (1, .ref (ad2 0)), (0, .ref b)] → W p l e room_1 s m #[Value.ref b] below meth c H1 locs1 (19 + T1.1 + (j + 1)) (38467 + sg T1 + 6 * (j + 1)) Q (F0 m 2411 ls1 [])) : W p l e room_1 s m #[Value.ref b] below meth c H locs (19 + T.1 + j) (38467 + sg T + 6 * j) Q (F0 m 2122 ls []) := by
  have E : cE p c cL_law s m #[Value.ref b] lw_tbl D RL (CT cI cJ cZ cMic cSrc cSt cAI cAJ ++ [(cD, .double)]) := ⟨hx, hb, hts, hown, hK⟩
  have hA : ∀ q : Nat, s.heap.size ≤ q → s.heap.size ≤ q := fun _ h => h
  have h0T : 0 < T.1 := Nat.lt_of_lt_of_le (by decide) hV.1.2.2
  have h0s : T.2.1 0 = (11, 0) := hV.2.1 0 ⟨by decide, by decide +kernel, by decide +kernel⟩
  refine lv_aload_n hx hb dL_law_2122 rfl (lv_at hl 4 rfl) ?_
  refine lv_aload_n hx hb dL_law_2123 rfl (lv_at hl 5 rfl) ?_
  refine lv_iload hx hb dL_law_2124 (lv_at hl 0 rfl) ?_
  refine lv_iconst (v := 1) hx hb dL_law_2126 (by decide) ?_
  refine lv_iadd hx hb dL_law_2127 ?_
  refine lv_to (y := nI (i + 1)) (nI_add i 1) ?_
  refine va_sld hx hb hX0 hbl (Nat.not_le.mpr hbl) G.2.2 (i := nI (i + 1)) (vp_in_nI (n := i + 1) (N := L) (by omega) (by omega)) dL_law_2128 ?_
  refine lv_to (y := xs (i + 1)) (congrArg xs (nI_clamp (by omega))) ?_
  refine lv_aload_n hx hb dL_law_2129 rfl (lv_at hl 5 rfl) ?_
  refine lv_iload hx hb dL_law_2130 (lv_at hl 0 rfl) ?_
  refine lv_iconst (v := 2) hx hb dL_law_2132 (by decide) ?_
  refine lv_iadd hx hb dL_law_2133 ?_
  refine lv_to (y := nI (i + 2)) (nI_add i 2) ?_
  refine va_sld hx hb hX0 hbl (Nat.not_le.mpr hbl) G.2.2 (i := nI (i + 2)) (vp_in_nI (n := i + 2) (N := L) (by omega) (by omega)) dL_law_2134 ?_
  refine lv_to (y := xs (i + 2)) (congrArg xs (nI_clamp (by omega))) ?_
  have kb : W p l e room_1 s m #[Value.ref b] below meth c H locs (19 + T.1 + j) (38467 + sg T + 6 * j) Q (F0 m 2143 ls [.int (vnz (xs (i + 2))), .int (xs (i + 1)), .ref (ad 0)]) := by
    refine lv_aload_n hx hb dL_law_2143 rfl (lv_at hl 2 rfl) ?_
    obtain ⟨⟨k1, r1, T1⟩, hg, hc⟩ := cs_X11_setOn T 0 (xs (i + 1)) (vnz (xs (i + 2))) hV (by decide +kernel) (vnz_r _)
    have hV1 : IV aR0 1586 aK1 aK2 T1 := hc.1.1
    have hg1 := s_X11_setOn hg
    have hg2 := sg_le hg1
    have hg3 := hg1.1
    have hk := hV1.2.2.2.2.2.2
    have hrc1 := hg1.2.2 hrc
    have hr0 := a_room
    refine l_v (h0 := s.heap.size) (As := [.ref (ad 0), .int (xs (i + 1)), .int (vnz (xs (i + 2))), .ref aj]) (rest := []) E G hA hX hN (fun _ h => h) hTS hml (v_setOn l hst D s.heap.size ad T 0 (xs (i + 1)) (vnz (xs (i + 2))) aj f hg hrc h0T h0s) (vx_cwSW 4 hts (glA (L := [Cond.methodLink RL 376 yL_setOn, Cond.static yL_setOn, Cond.initialized RL]) (gl_in [(7, 138), (7, 139), (1, 0)] (by decide +kernel) (by decide +kernel)) ⟨(t_of [Cond.codeWith yL_setOn cL_setOn 5 (some .int) [(0, 17, 20, 21), (0, 17, 24, 13)]] [(7, 140)] (by decide +kernel) _ List.mem_cons_self), List.all_eq_true.mp (by decide +kernel : [Cond.codeWith yL_setOn cL_setOn 5 (some .int) [(0, 17, 20, 21), (0, 17, 24, 13)]].all goodWord = true) _ List.mem_cons_self⟩) rfl rfl rfl (by decide +kernel) ⟨Nat.le_of_ble_eq_true rfl, Nat.le_of_ble_eq_true rfl⟩) rfl hl.1 rfl (lv_room (Nat.le_of_ble_eq_true rfl)) dL_law_2144 ⟨by show _ ≤ 601024; omega, by show _ ≤ 7293034; omega⟩ ?_
    intro ad2 H locs had G
    rw [← had 0 h0T] at hl
    refine lv_istore (lv' := [(6, .int (vck 1 2 0 k1)), (5, .int (nI i)), (4, .ref ae), (3, .ref aj), (2, .ref (am 0)), (1, .ref (ad2 0)), (0, .ref b)]) hx hb dL_law_2147 hl (by decide) rfl (fun ls hl => ?_)
    refine lv_aload_n hx hb dL_law_2149 rfl (lv_at hl 4 rfl) ?_
    refine lv_aload_n hx hb dL_law_2150 rfl (lv_at hl 6 rfl) ?_
    refine lv_iload hx hb dL_law_2151 (lv_at hl 1 rfl) ?_
    refine lv_iconst (v := 1) hx hb dL_law_2153 (by decide) ?_
    refine lv_iadd hx hb dL_law_2154 ?_
    refine lv_to (y := nI (i + 1)) (nI_add i 1) ?_
    refine va_sld hx hb hX0 hbl (Nat.not_le.mpr hbl) G.2.2 (i := nI (i + 1)) (vp_in_nI (n := i + 1) (N := L) (by omega) (by omega)) dL_law_2155 ?_
    refine lv_to (y := xs (i + 1)) (congrArg xs (nI_clamp (by omega))) ?_
    refine lv_aload_n hx hb dL_law_2156 rfl (lv_at hl 6 rfl) ?_
    refine lv_iload hx hb dL_law_2157 (lv_at hl 1 rfl) ?_
    refine lv_iconst (v := 2) hx hb dL_law_2159 (by decide) ?_
    refine lv_iadd hx hb dL_law_2160 ?_
    refine lv_to (y := nI (i + 2)) (nI_add i 2) ?_
    refine va_sld hx hb hX0 hbl (Nat.not_le.mpr hbl) G.2.2 (i := nI (i + 2)) (vp_in_nI (n := i + 2) (N := L) (by omega) (by omega)) dL_law_2161 ?_
    refine lv_to (y := xs (i + 2)) (congrArg xs (nI_clamp (by omega))) ?_
    have kb : W p l e room_1 s m #[Value.ref b] below meth c H locs (19 + T.1 + j + (T1.1 - T.1 + 1)) (38467 + sg T + 6 * j + (sg T1 - sg T + 6)) Q (F0 m 2170 ls [.int (vnz (xs (i + 2))), .int (xs (i + 1)), .ref (am 0)]) := by
      obtain ⟨⟨r2, S1⟩, hf, hj⟩ := sj_setOn Sm (xs (i + 1)) (vnz (xs (i + 2))) hJ
      have hJ1 : JJ S1 := hj
      refine y_mi (As := [.int (xs (i + 1)), .int (vnz (xs (i + 2)))]) (rest := []) E G hA hX.2.2.2.2 hml (tr_setOn l D cI cJ cZ am Sm (xs (i + 1)) (vnz (xs (i + 2))) hf) (cwV 2 hts (glM (L := [Cond.methodLink RL 378 yX12_setOn, Cond.instanceMethod yX12_setOn, Cond.selects RX12 yX12_setOn yX12_setOn, Cond.initialized RX12]) (gl_in [(10, 165), (10, 166), (10, 167), (1, 14)] (by decide +kernel) (by decide +kernel)) ⟨(t_of [Cond.code yX12_setOn cX12_setOn 4 (some .boolean)] [(10, 168)] (by decide +kernel) _ List.mem_cons_self), List.all_eq_true.mp (by decide +kernel : [Cond.code yX12_setOn cX12_setOn 4 (some .boolean)].all goodWord = true) _ List.mem_cons_self⟩) rfl rfl rfl (by decide +kernel) ⟨Nat.le_of_ble_eq_true rfl, Nat.le_of_ble_eq_true rfl⟩) rfl hl.1 rfl (lv_room (Nat.le_of_ble_eq_true rfl)) dL_law_2170 ⟨by show _ ≤ 601024; omega, by show _ ≤ 7293034; omega⟩ (fun H locs G => ?_)
      refine lv_istore (lv' := [(7, .int r2), (6, .int (vck 1 2 0 k1)), (5, .int (nI i)), (4, .ref ae), (3, .ref aj), (2, .ref (am 0)), (1, .ref (ad2 0)), (0, .ref b)]) hx hb dL_law_2173 hl (by decide) rfl (fun ls hl => ?_)
      refine lv_goto (tgt := 2411) hx hb dL_law_2175 (by decide) ?_
      have hl := lv_sub hl [2, 3, 4, 5, 6, 7] rfl
      refine W.widen (k := 19 + T1.1 + (j + 1)) (n := 38467 + sg T1 + 6 * (j + 1)) (by omega) (by omega) ?_
      exact kk ad2 (vfJ k1 f (vzb r1)) g H locs ls hg hf (had 0 h0T) hV1 hrc1 hJ1 G hl
    refine lv_if_eq (tgt := 2169) hx hb dL_law_2162 (by decide) (fun c1 => ?_) (fun c1 => ?_)
    · refine lv_iconst (v := 0) hx hb dL_law_2169 (by decide) ?_
      refine lv_to (y := vnz (xs (i + 2))) (if_pos c1).symm ?_
      exact kb
    · refine lv_iconst (v := 1) hx hb dL_law_2165 (by decide) ?_
      refine lv_to (y := vnz (xs (i + 2))) (if_neg c1).symm ?_
      refine lv_goto (tgt := 2170) hx hb dL_law_2166 (by decide) ?_
      exact kb
  refine lv_if_eq (tgt := 2142) hx hb dL_law_2135 (by decide) (fun c1 => ?_) (fun c1 => ?_)
  · refine lv_iconst (v := 0) hx hb dL_law_2142 (by decide) ?_
    refine lv_to (y := vnz (xs (i + 2))) (if_pos c1).symm ?_
    exact kb
  · refine lv_iconst (v := 1) hx hb dL_law_2138 (by decide) ?_
    refine lv_to (y := vnz (xs (i + 2))) (if_neg c1).symm ?_
    refine lv_goto (tgt := 2143) hx hb dL_law_2139 (by decide) ?_
    exact kb
