theorem dL_law_1885 : decode cL_law 1885 = .ok (.aload_n 1, 1) := by decide +kernel
theorem dL_law_1886 : decode cL_law 1886 = .ok (.aload_n 0, 1) := by decide +kernel
theorem dL_law_1887 : decode cL_law 1887 = .ok (.iload 5, 2) := by decide +kernel
theorem dL_law_1889 : decode cL_law 1889 = .ok (.iconst 1, 1) := by decide +kernel
theorem dL_law_1890 : decode cL_law 1890 = .ok (.iadd, 1) := by decide +kernel
theorem dL_law_1891 : decode cL_law 1891 = .ok (.iaload, 1) := by decide +kernel
theorem dL_law_1892 : decode cL_law 1892 = .ok (.aload_n 3, 1) := by decide +kernel
theorem dL_law_1893 : decode cL_law 1893 = .ok (.invokestatic 357, 3) := by decide +kernel
theorem dL_law_1896 : decode cL_law 1896 = .ok (.istore 6, 2) := by decide +kernel
theorem dL_law_1898 : decode cL_law 1898 = .ok (.aload_n 2, 1) := by decide +kernel
theorem dL_law_1899 : decode cL_law 1899 = .ok (.aload_n 0, 1) := by decide +kernel
theorem dL_law_1900 : decode cL_law 1900 = .ok (.iload 5, 2) := by decide +kernel
theorem dL_law_1902 : decode cL_law 1902 = .ok (.iconst 1, 1) := by decide +kernel
theorem dL_law_1903 : decode cL_law 1903 = .ok (.iadd, 1) := by decide +kernel
theorem dL_law_1904 : decode cL_law 1904 = .ok (.iaload, 1) := by decide +kernel
theorem dL_law_1905 : decode cL_law 1905 = .ok (.invokevirtual 359, 3) := by decide +kernel
theorem dL_law_1908 : decode cL_law 1908 = .ok (.istore 7, 2) := by decide +kernel
theorem dL_law_1910 : decode cL_law 1910 = .ok (.goto 536, 3) := by decide +kernel
theorem dL_law_1913 : decode cL_law 1913 = .ok (.aload_n 1, 1) := by decide +kernel
theorem dL_law_1914 : decode cL_law 1914 = .ok (.aload_n 0, 1) := by decide +kernel
theorem dL_law_1915 : decode cL_law 1915 = .ok (.iload 5, 2) := by decide +kernel
theorem dL_law_1917 : decode cL_law 1917 = .ok (.iconst 1, 1) := by decide +kernel
theorem dL_law_1918 : decode cL_law 1918 = .ok (.iadd, 1) := by decide +kernel
theorem dL_law_1919 : decode cL_law 1919 = .ok (.iaload, 1) := by decide +kernel
theorem dL_law_1920 : decode cL_law 1920 = .ok (.aload_n 0, 1) := by decide +kernel
theorem dL_law_1921 : decode cL_law 1921 = .ok (.iload 5, 2) := by decide +kernel
theorem dL_law_1923 : decode cL_law 1923 = .ok (.iconst 2, 1) := by decide +kernel
theorem dL_law_1924 : decode cL_law 1924 = .ok (.iadd, 1) := by decide +kernel
theorem dL_law_1925 : decode cL_law 1925 = .ok (.iaload, 1) := by decide +kernel
theorem dL_law_1926 : decode cL_law 1926 = .ok (.aload_n 3, 1) := by decide +kernel
theorem dL_law_1927 : decode cL_law 1927 = .ok (.invokestatic 360, 3) := by decide +kernel
theorem dL_law_1930 : decode cL_law 1930 = .ok (.istore 6, 2) := by decide +kernel
theorem dL_law_1932 : decode cL_law 1932 = .ok (.aload_n 2, 1) := by decide +kernel
theorem dL_law_1933 : decode cL_law 1933 = .ok (.aload_n 0, 1) := by decide +kernel
theorem dL_law_1934 : decode cL_law 1934 = .ok (.iload 5, 2) := by decide +kernel
theorem dL_law_1936 : decode cL_law 1936 = .ok (.iconst 1, 1) := by decide +kernel
theorem dL_law_1937 : decode cL_law 1937 = .ok (.iadd, 1) := by decide +kernel
theorem dL_law_1938 : decode cL_law 1938 = .ok (.iaload, 1) := by decide +kernel
theorem dL_law_1939 : decode cL_law 1939 = .ok (.aload_n 0, 1) := by decide +kernel
theorem dL_law_1940 : decode cL_law 1940 = .ok (.iload 5, 2) := by decide +kernel
theorem dL_law_1942 : decode cL_law 1942 = .ok (.iconst 2, 1) := by decide +kernel
theorem dL_law_1943 : decode cL_law 1943 = .ok (.iadd, 1) := by decide +kernel
theorem dL_law_1944 : decode cL_law 1944 = .ok (.iaload, 1) := by decide +kernel
theorem dL_law_1945 : decode cL_law 1945 = .ok (.invokevirtual 362, 3) := by decide +kernel
theorem dL_law_1948 : decode cL_law 1948 = .ok (.istore 7, 2) := by decide +kernel
theorem dL_law_1950 : decode cL_law 1950 = .ok (.goto 496, 3) := by decide +kernel
theorem dL_law_1953 : decode cL_law 1953 = .ok (.aload_n 1, 1) := by decide +kernel
theorem dL_law_1954 : decode cL_law 1954 = .ok (.aload_n 0, 1) := by decide +kernel
theorem dL_law_1955 : decode cL_law 1955 = .ok (.iload 5, 2) := by decide +kernel
theorem dL_law_1957 : decode cL_law 1957 = .ok (.iconst 1, 1) := by decide +kernel
theorem dL_law_1958 : decode cL_law 1958 = .ok (.iadd, 1) := by decide +kernel
theorem dL_law_1959 : decode cL_law 1959 = .ok (.iaload, 1) := by decide +kernel
theorem dL_law_1960 : decode cL_law 1960 = .ok (.aload_n 0, 1) := by decide +kernel
theorem dL_law_1961 : decode cL_law 1961 = .ok (.iload 5, 2) := by decide +kernel
theorem dL_law_1963 : decode cL_law 1963 = .ok (.iconst 2, 1) := by decide +kernel
theorem dL_law_1964 : decode cL_law 1964 = .ok (.iadd, 1) := by decide +kernel
theorem dL_law_1965 : decode cL_law 1965 = .ok (.iaload, 1) := by decide +kernel
theorem dL_law_1966 : decode cL_law 1966 = .ok (.aload_n 0, 1) := by decide +kernel
theorem dL_law_1967 : decode cL_law 1967 = .ok (.iload 5, 2) := by decide +kernel
theorem dL_law_1969 : decode cL_law 1969 = .ok (.iconst 3, 1) := by decide +kernel
theorem dL_law_1970 : decode cL_law 1970 = .ok (.iadd, 1) := by decide +kernel
theorem dL_law_1971 : decode cL_law 1971 = .ok (.iaload, 1) := by decide +kernel
theorem dL_law_1972 : decode cL_law 1972 = .ok (.aload_n 3, 1) := by decide +kernel
theorem dL_law_1973 : decode cL_law 1973 = .ok (.invokestatic 363, 3) := by decide +kernel
theorem dL_law_1976 : decode cL_law 1976 = .ok (.istore 6, 2) := by decide +kernel
theorem dL_law_1978 : decode cL_law 1978 = .ok (.aload_n 2, 1) := by decide +kernel
theorem dL_law_1979 : decode cL_law 1979 = .ok (.aload_n 0, 1) := by decide +kernel
theorem dL_law_1980 : decode cL_law 1980 = .ok (.iload 5, 2) := by decide +kernel
theorem dL_law_1982 : decode cL_law 1982 = .ok (.iconst 1, 1) := by decide +kernel
theorem dL_law_1983 : decode cL_law 1983 = .ok (.iadd, 1) := by decide +kernel
theorem dL_law_1984 : decode cL_law 1984 = .ok (.iaload, 1) := by decide +kernel
theorem dL_law_1985 : decode cL_law 1985 = .ok (.aload_n 0, 1) := by decide +kernel
theorem dL_law_1986 : decode cL_law 1986 = .ok (.iload 5, 2) := by decide +kernel
theorem dL_law_1988 : decode cL_law 1988 = .ok (.iconst 2, 1) := by decide +kernel
theorem dL_law_1989 : decode cL_law 1989 = .ok (.iadd, 1) := by decide +kernel
theorem dL_law_1990 : decode cL_law 1990 = .ok (.iaload, 1) := by decide +kernel
theorem dL_law_1991 : decode cL_law 1991 = .ok (.aload_n 0, 1) := by decide +kernel
theorem dL_law_1992 : decode cL_law 1992 = .ok (.iload 5, 2) := by decide +kernel
theorem dL_law_1994 : decode cL_law 1994 = .ok (.iconst 3, 1) := by decide +kernel
theorem dL_law_1995 : decode cL_law 1995 = .ok (.iadd, 1) := by decide +kernel
theorem dL_law_1996 : decode cL_law 1996 = .ok (.iaload, 1) := by decide +kernel
theorem dL_law_1997 : decode cL_law 1997 = .ok (.invokevirtual 365, 3) := by decide +kernel
theorem dL_law_2000 : decode cL_law 2000 = .ok (.lstore 7, 2) := by decide +kernel
theorem dL_law_2002 : decode cL_law 2002 = .ok (.goto 444, 3) := by decide +kernel
theorem dL_law_2005 : decode cL_law 2005 = .ok (.aload_n 1, 1) := by decide +kernel
theorem dL_law_2006 : decode cL_law 2006 = .ok (.aload_n 0, 1) := by decide +kernel
theorem dL_law_2007 : decode cL_law 2007 = .ok (.iload 5, 2) := by decide +kernel
theorem dL_law_2009 : decode cL_law 2009 = .ok (.iconst 1, 1) := by decide +kernel
theorem dL_law_2010 : decode cL_law 2010 = .ok (.iadd, 1) := by decide +kernel
theorem dL_law_2011 : decode cL_law 2011 = .ok (.iaload, 1) := by decide +kernel
theorem dL_law_2012 : decode cL_law 2012 = .ok (.aload_n 3, 1) := by decide +kernel
theorem dL_law_2013 : decode cL_law 2013 = .ok (.invokestatic 366, 3) := by decide +kernel
theorem dL_law_2016 : decode cL_law 2016 = .ok (.istore 6, 2) := by decide +kernel
theorem dL_law_2018 : decode cL_law 2018 = .ok (.aload_n 2, 1) := by decide +kernel
theorem dL_law_2019 : decode cL_law 2019 = .ok (.aload_n 0, 1) := by decide +kernel
theorem dL_law_2020 : decode cL_law 2020 = .ok (.iload 5, 2) := by decide +kernel
theorem dL_law_2022 : decode cL_law 2022 = .ok (.iconst 1, 1) := by decide +kernel
theorem dL_law_2023 : decode cL_law 2023 = .ok (.iadd, 1) := by decide +kernel
theorem dL_law_2024 : decode cL_law 2024 = .ok (.iaload, 1) := by decide +kernel
theorem dL_law_2025 : decode cL_law 2025 = .ok (.invokevirtual 368, 3) := by decide +kernel
theorem dL_law_2028 : decode cL_law 2028 = .ok (.istore 7, 2) := by decide +kernel
theorem dL_law_2030 : decode cL_law 2030 = .ok (.goto 416, 3) := by decide +kernel
theorem dL_law_2033 : decode cL_law 2033 = .ok (.aload_n 1, 1) := by decide +kernel
theorem dL_law_2034 : decode cL_law 2034 = .ok (.aload_n 0, 1) := by decide +kernel
theorem dL_law_2035 : decode cL_law 2035 = .ok (.iload 5, 2) := by decide +kernel
theorem dL_law_2037 : decode cL_law 2037 = .ok (.iconst 1, 1) := by decide +kernel
theorem dL_law_2038 : decode cL_law 2038 = .ok (.iadd, 1) := by decide +kernel
theorem dL_law_2039 : decode cL_law 2039 = .ok (.iaload, 1) := by decide +kernel
theorem dL_law_2040 : decode cL_law 2040 = .ok (.aload_n 3, 1) := by decide +kernel
theorem dL_law_2041 : decode cL_law 2041 = .ok (.invokestatic 369, 3) := by decide +kernel
theorem dL_law_2044 : decode cL_law 2044 = .ok (.istore 6, 2) := by decide +kernel
theorem dL_law_2046 : decode cL_law 2046 = .ok (.aload_n 2, 1) := by decide +kernel
theorem dL_law_2047 : decode cL_law 2047 = .ok (.aload_n 0, 1) := by decide +kernel
theorem dL_law_2048 : decode cL_law 2048 = .ok (.iload 5, 2) := by decide +kernel
theorem dL_law_2050 : decode cL_law 2050 = .ok (.iconst 1, 1) := by decide +kernel
theorem dL_law_2051 : decode cL_law 2051 = .ok (.iadd, 1) := by decide +kernel
theorem dL_law_2052 : decode cL_law 2052 = .ok (.iaload, 1) := by decide +kernel
theorem dL_law_2053 : decode cL_law 2053 = .ok (.invokevirtual 371, 3) := by decide +kernel
theorem dL_law_2056 : decode cL_law 2056 = .ok (.istore 7, 2) := by decide +kernel
theorem dL_law_2058 : decode cL_law 2058 = .ok (.goto 388, 3) := by decide +kernel
theorem dL_law_2061 : decode cL_law 2061 = .ok (.aload_n 1, 1) := by decide +kernel
theorem dL_law_2062 : decode cL_law 2062 = .ok (.aload_n 0, 1) := by decide +kernel
theorem dL_law_2063 : decode cL_law 2063 = .ok (.iload 5, 2) := by decide +kernel
theorem dL_law_2065 : decode cL_law 2065 = .ok (.iconst 1, 1) := by decide +kernel
theorem dL_law_2066 : decode cL_law 2066 = .ok (.iadd, 1) := by decide +kernel
theorem dL_law_2067 : decode cL_law 2067 = .ok (.iaload, 1) := by decide +kernel
theorem dL_law_2068 : decode cL_law 2068 = .ok (.aload_n 0, 1) := by decide +kernel
theorem dL_law_2069 : decode cL_law 2069 = .ok (.iload 5, 2) := by decide +kernel
theorem dL_law_2071 : decode cL_law 2071 = .ok (.iconst 2, 1) := by decide +kernel
theorem dL_law_2072 : decode cL_law 2072 = .ok (.iadd, 1) := by decide +kernel
theorem dL_law_2073 : decode cL_law 2073 = .ok (.iaload, 1) := by decide +kernel
theorem dL_law_2074 : decode cL_law 2074 = .ok (.ifCond .eq 7, 3) := by decide +kernel
theorem dL_law_2077 : decode cL_law 2077 = .ok (.iconst 1, 1) := by decide +kernel
theorem dL_law_2078 : decode cL_law 2078 = .ok (.goto 4, 3) := by decide +kernel
theorem dL_law_2081 : decode cL_law 2081 = .ok (.iconst 0, 1) := by decide +kernel
theorem dL_law_2082 : decode cL_law 2082 = .ok (.aload_n 3, 1) := by decide +kernel
theorem dL_law_2083 : decode cL_law 2083 = .ok (.invokestatic 372, 3) := by decide +kernel
theorem dL_law_2086 : decode cL_law 2086 = .ok (.istore 6, 2) := by decide +kernel
theorem dL_law_2088 : decode cL_law 2088 = .ok (.aload_n 2, 1) := by decide +kernel
theorem dL_law_2089 : decode cL_law 2089 = .ok (.aload_n 0, 1) := by decide +kernel
theorem dL_law_2090 : decode cL_law 2090 = .ok (.iload 5, 2) := by decide +kernel
theorem dL_law_2092 : decode cL_law 2092 = .ok (.iconst 1, 1) := by decide +kernel
theorem dL_law_2093 : decode cL_law 2093 = .ok (.iadd, 1) := by decide +kernel
theorem dL_law_2094 : decode cL_law 2094 = .ok (.iaload, 1) := by decide +kernel
theorem dL_law_2095 : decode cL_law 2095 = .ok (.aload_n 0, 1) := by decide +kernel
theorem dL_law_2096 : decode cL_law 2096 = .ok (.iload 5, 2) := by decide +kernel
theorem dL_law_2098 : decode cL_law 2098 = .ok (.iconst 2, 1) := by decide +kernel
theorem dL_law_2099 : decode cL_law 2099 = .ok (.iadd, 1) := by decide +kernel
theorem dL_law_2100 : decode cL_law 2100 = .ok (.iaload, 1) := by decide +kernel
theorem dL_law_2101 : decode cL_law 2101 = .ok (.ifCond .eq 7, 3) := by decide +kernel
theorem dL_law_2104 : decode cL_law 2104 = .ok (.iconst 1, 1) := by decide +kernel
theorem dL_law_2105 : decode cL_law 2105 = .ok (.goto 4, 3) := by decide +kernel
theorem dL_law_2108 : decode cL_law 2108 = .ok (.iconst 0, 1) := by decide +kernel
theorem dL_law_2109 : decode cL_law 2109 = .ok (.invokevirtual 375, 3) := by decide +kernel
theorem dL_law_2112 : decode cL_law 2112 = .ok (.istore 7, 2) := by decide +kernel
theorem dL_law_2114 : decode cL_law 2114 = .ok (.goto 332, 3) := by decide +kernel
theorem dL_law_2117 : decode cL_law 2117 = .ok (.aload_n 1, 1) := by decide +kernel
theorem dL_law_2118 : decode cL_law 2118 = .ok (.aload_n 0, 1) := by decide +kernel
theorem dL_law_2119 : decode cL_law 2119 = .ok (.iload 5, 2) := by decide +kernel
theorem dL_law_2121 : decode cL_law 2121 = .ok (.iconst 1, 1) := by decide +kernel
theorem dL_law_2122 : decode cL_law 2122 = .ok (.iadd, 1) := by decide +kernel
theorem dL_law_2123 : decode cL_law 2123 = .ok (.iaload, 1) := by decide +kernel
theorem dL_law_2124 : decode cL_law 2124 = .ok (.aload_n 0, 1) := by decide +kernel
theorem dL_law_2125 : decode cL_law 2125 = .ok (.iload 5, 2) := by decide +kernel
theorem dL_law_2127 : decode cL_law 2127 = .ok (.iconst 2, 1) := by decide +kernel
theorem dL_law_2128 : decode cL_law 2128 = .ok (.iadd, 1) := by decide +kernel
theorem dL_law_2129 : decode cL_law 2129 = .ok (.iaload, 1) := by decide +kernel
theorem dL_law_2130 : decode cL_law 2130 = .ok (.aload_n 3, 1) := by decide +kernel
theorem dL_law_2131 : decode cL_law 2131 = .ok (.invokestatic 376, 3) := by decide +kernel
theorem dL_law_2134 : decode cL_law 2134 = .ok (.istore 6, 2) := by decide +kernel
theorem dL_law_2136 : decode cL_law 2136 = .ok (.aload_n 2, 1) := by decide +kernel
theorem dL_law_2137 : decode cL_law 2137 = .ok (.aload_n 0, 1) := by decide +kernel
theorem dL_law_2138 : decode cL_law 2138 = .ok (.iload 5, 2) := by decide +kernel
theorem dL_law_2140 : decode cL_law 2140 = .ok (.iconst 1, 1) := by decide +kernel
theorem dL_law_2141 : decode cL_law 2141 = .ok (.iadd, 1) := by decide +kernel
theorem dL_law_2142 : decode cL_law 2142 = .ok (.iaload, 1) := by decide +kernel
theorem dL_law_2143 : decode cL_law 2143 = .ok (.aload_n 0, 1) := by decide +kernel
theorem dL_law_2144 : decode cL_law 2144 = .ok (.iload 5, 2) := by decide +kernel
theorem dL_law_2146 : decode cL_law 2146 = .ok (.iconst 2, 1) := by decide +kernel
theorem dL_law_2147 : decode cL_law 2147 = .ok (.iadd, 1) := by decide +kernel
theorem dL_law_2148 : decode cL_law 2148 = .ok (.iaload, 1) := by decide +kernel
theorem dL_law_2149 : decode cL_law 2149 = .ok (.invokevirtual 378, 3) := by decide +kernel
theorem dL_law_2152 : decode cL_law 2152 = .ok (.istore 7, 2) := by decide +kernel
theorem dL_law_2154 : decode cL_law 2154 = .ok (.goto 292, 3) := by decide +kernel
theorem dL_law_2157 : decode cL_law 2157 = .ok (.aload_n 1, 1) := by decide +kernel
theorem dL_law_2158 : decode cL_law 2158 = .ok (.aload_n 0, 1) := by decide +kernel
theorem dL_law_2159 : decode cL_law 2159 = .ok (.iload 5, 2) := by decide +kernel
theorem dL_law_2161 : decode cL_law 2161 = .ok (.iconst 1, 1) := by decide +kernel
theorem dL_law_2162 : decode cL_law 2162 = .ok (.iadd, 1) := by decide +kernel
theorem dL_law_2163 : decode cL_law 2163 = .ok (.iaload, 1) := by decide +kernel
theorem dL_law_2164 : decode cL_law 2164 = .ok (.aload_n 0, 1) := by decide +kernel
theorem dL_law_2165 : decode cL_law 2165 = .ok (.iload 5, 2) := by decide +kernel
theorem dL_law_2167 : decode cL_law 2167 = .ok (.iconst 2, 1) := by decide +kernel
theorem dL_law_2168 : decode cL_law 2168 = .ok (.iadd, 1) := by decide +kernel
theorem dL_law_2169 : decode cL_law 2169 = .ok (.iaload, 1) := by decide +kernel
theorem dL_law_2170 : decode cL_law 2170 = .ok (.ifCond .eq 7, 3) := by decide +kernel
theorem dL_law_2173 : decode cL_law 2173 = .ok (.iconst 1, 1) := by decide +kernel
theorem dL_law_2174 : decode cL_law 2174 = .ok (.goto 4, 3) := by decide +kernel
theorem dL_law_2177 : decode cL_law 2177 = .ok (.iconst 0, 1) := by decide +kernel
theorem dL_law_2178 : decode cL_law 2178 = .ok (.aload_n 3, 1) := by decide +kernel
theorem dL_law_2179 : decode cL_law 2179 = .ok (.invokestatic 379, 3) := by decide +kernel
theorem dL_law_2182 : decode cL_law 2182 = .ok (.istore 6, 2) := by decide +kernel
theorem dL_law_2184 : decode cL_law 2184 = .ok (.aload_n 2, 1) := by decide +kernel
theorem dL_law_2185 : decode cL_law 2185 = .ok (.aload_n 0, 1) := by decide +kernel
theorem dL_law_2186 : decode cL_law 2186 = .ok (.iload 5, 2) := by decide +kernel
theorem dL_law_2188 : decode cL_law 2188 = .ok (.iconst 1, 1) := by decide +kernel
theorem dL_law_2189 : decode cL_law 2189 = .ok (.iadd, 1) := by decide +kernel
theorem dL_law_2190 : decode cL_law 2190 = .ok (.iaload, 1) := by decide +kernel
theorem dL_law_2191 : decode cL_law 2191 = .ok (.aload_n 0, 1) := by decide +kernel
theorem dL_law_2192 : decode cL_law 2192 = .ok (.iload 5, 2) := by decide +kernel
theorem dL_law_2194 : decode cL_law 2194 = .ok (.iconst 2, 1) := by decide +kernel
theorem dL_law_2195 : decode cL_law 2195 = .ok (.iadd, 1) := by decide +kernel
theorem dL_law_2196 : decode cL_law 2196 = .ok (.iaload, 1) := by decide +kernel
theorem dL_law_2197 : decode cL_law 2197 = .ok (.ifCond .eq 7, 3) := by decide +kernel
theorem dL_law_2200 : decode cL_law 2200 = .ok (.iconst 1, 1) := by decide +kernel
theorem dL_law_2201 : decode cL_law 2201 = .ok (.goto 4, 3) := by decide +kernel
theorem dL_law_2204 : decode cL_law 2204 = .ok (.iconst 0, 1) := by decide +kernel
theorem dL_law_2205 : decode cL_law 2205 = .ok (.invokevirtual 381, 3) := by decide +kernel
theorem dL_law_2208 : decode cL_law 2208 = .ok (.istore 7, 2) := by decide +kernel
theorem dL_law_2210 : decode cL_law 2210 = .ok (.goto 236, 3) := by decide +kernel
set_option maxHeartbeats 4000000 in
set_option maxRecDepth 100000 in
theorem y_a48 {p : Program} {e : Env} {s : State} {m : MethodId} {below : List Frame} {meth : Method} {c : Code} (l : Launch) (hst : l.stackTraces = false) {b L : Nat} {xs : Nat → Int32} (hx : p.tables.exec = Jvm.exec) (hb : c.code = code) (hml : c.maxLocals = 9) (hown : s.vm.findClass RL = some m.cls) (hts : ∀ w ∈ lw_tbl, w.before #[Value.ref b] s = true) (hX0 : va_X b L xs s s.heap) (hbl : b < s.heap.size) (hX : xT (fun q => s.heap.size ≤ q) s) (hN : nC s) (hTS : sAll s.heap.size s) {D : va_G} {cI cJ cZ cMic cSrc cSt cAI cAJ cD : ClassId} (hK : va_K D vwCl (CT cI cJ cZ cMic cSrc cSt cAI cAJ ++ [(cD, .double)]) s) {Q : State → Prop} {i j : Nat} (hi : i + 6 ≤ L) (hL : L ≤ 3072) (hj : j < 512) {aj ae : Nat} {ad am : Nat → Nat} {T : AT} {Sm : MS} {f : Nat → Int64} {g : Nat → UInt64} {ls : Array Slot} {H : Heap} {locs : List Loc} (hV : IV aR0 1586 aK1 aK2 T) (hrc : RC T) (hJ : JJ Sm) (G : gL cI cJ cZ cMic cSrc cSt cAI cAJ D ad (fun q => s.heap.size ≤ q) s.heap H locs T (oJ aj cJ f :: oD ae cD g :: MW cI cJ cZ am Sm)) (hl : lv_has ls 9 [(5, .int (nI i)), (4, .ref ae), (3, .ref aj), (2, .ref (am 0)), (1, .ref (ad 0)), (0, .ref b)]) (kk : ∀ {k1 : Nat} {r1 : Int32} {T1 : AT} {r2 : Int32} {S1 : MS} (ad2 : Nat → Nat) (f1 : Nat → Int64) (g1 : Nat → UInt64) (H1 : Heap) (locs1 : List Loc) (ls1 : Array Slot), g_X11_mapByte T 0 (xs (i + 1)) = some (k1, r1, T1) → fr_mapByte Sm (xs (i + 1)) = some (r2, S1) → ad2 0 = ad 0 → IV aR0 1586 aK1 aK2 T1 → RC T1 → JJ S1 → gL cI cJ cZ cMic cSrc cSt cAI cAJ D ad2 (fun q => s.heap.size ≤ q) s.heap H1 locs1 T1 (oJ aj cJ f1 :: oD ae cD g1 :: MW cI cJ cZ am S1) → lv_has ls1 9 [(5, .int (nI i)), (4, .ref ae), (3, .ref aj), (2, .ref (am 0)), (1, .ref (ad2 0)), (0, .ref b)] → W p l e room_1 s m #[Value.ref b] below meth c H1 locs1 (19 + T1.1 + (j + 1)) (38467 + sg T1 + 6 * (j + 1)) Q (F0 m 2446 ls1 [])) : W p l e room_1 s m #[Value.ref b] below meth c H locs (19 + T.1 + j) (38467 + sg T + 6 * j) Q (F0 m 1885 ls []) := by
  have E : cE p c cL_law s m #[Value.ref b] lw_tbl D RL (CT cI cJ cZ cMic cSrc cSt cAI cAJ ++ [(cD, .double)]) := ⟨hx, hb, hts, hown, hK⟩
  have hA : ∀ q : Nat, s.heap.size ≤ q → s.heap.size ≤ q := fun _ h => h
  have h0T : 0 < T.1 := Nat.lt_of_lt_of_le (by decide) hV.1.2.2
  have h0s : T.2.1 0 = (11, 0) := hV.2.1 0 ⟨by decide, by decide +kernel, by decide +kernel⟩
  refine lv_aload_n hx hb dL_law_1885 rfl (lv_at hl 4 rfl) ?_
  refine lv_aload_n hx hb dL_law_1886 rfl (lv_at hl 5 rfl) ?_
  refine lv_iload hx hb dL_law_1887 (lv_at hl 0 rfl) ?_
  refine lv_iconst (v := 1) hx hb dL_law_1889 (by decide) ?_
  refine lv_iadd hx hb dL_law_1890 ?_
  refine lv_to (y := nI (i + 1)) (nI_add i 1) ?_
  refine va_sld hx hb hX0 hbl (Nat.not_le.mpr hbl) G.2.2 (i := nI (i + 1)) (vp_in_nI (n := i + 1) (N := L) (by omega) (by omega)) dL_law_1891 ?_
  refine lv_to (y := xs (i + 1)) (congrArg xs (nI_clamp (by omega))) ?_
  refine lv_aload_n hx hb dL_law_1892 rfl (lv_at hl 2 rfl) ?_
  obtain ⟨⟨k1, r1, T1⟩, hg, hc⟩ := cs_X11_mapByte T 0 (xs (i + 1)) hV (by decide +kernel)
  have hV1 : IV aR0 1586 aK1 aK2 T1 := by rw [show T1 = T from hc.1]; exact hV
  have hg1 := (gl_sp (s_X11_mapByte hg))
  have hg2 := sg_le hg1
  have hg3 := hg1.1
  have hk := hV1.2.2.2.2.2.2
  have hrc1 := hg1.2.2 hrc
  have hr0 := a_room
  refine l_v (h0 := s.heap.size) (As := [.ref (ad 0), .int (xs (i + 1)), .ref aj]) (rest := []) E G hA hX hN (fun _ h => h) hTS hml (v_mapByte l hst D s.heap.size ad T 0 (xs (i + 1)) aj f hg hrc h0T h0s) (vx_cwSW 3 hts (glA (L := [Cond.methodLink RL 357 yL_mapByte, Cond.static yL_mapByte, Cond.initialized RL]) (gl_in [(7, 59), (7, 60), (1, 0)] (by decide +kernel) (by decide +kernel)) ⟨(t_of [Cond.codeWith yL_mapByte cL_mapByte 4 (some .int) [(0, 9, 12, 13)]] [(7, 61)] (by decide +kernel) _ List.mem_cons_self), List.all_eq_true.mp (by decide +kernel : [Cond.codeWith yL_mapByte cL_mapByte 4 (some .int) [(0, 9, 12, 13)]].all goodWord = true) _ List.mem_cons_self⟩) rfl rfl rfl (by decide +kernel) ⟨Nat.le_of_ble_eq_true rfl, Nat.le_of_ble_eq_true rfl⟩) rfl hl.1 rfl (lv_room (Nat.le_of_ble_eq_true rfl)) dL_law_1893 ⟨by show _ ≤ 601024; omega, by show _ ≤ 7293034; omega⟩ ?_
  intro ad2 H locs had G
  rw [← had 0 h0T] at hl
  refine lv_istore (lv' := [(6, .int (vck 0 1 0 k1)), (5, .int (nI i)), (4, .ref ae), (3, .ref aj), (2, .ref (am 0)), (1, .ref (ad2 0)), (0, .ref b)]) hx hb dL_law_1896 hl (by decide) rfl (fun ls hl => ?_)
  refine lv_aload_n hx hb dL_law_1898 rfl (lv_at hl 4 rfl) ?_
  refine lv_aload_n hx hb dL_law_1899 rfl (lv_at hl 6 rfl) ?_
  refine lv_iload hx hb dL_law_1900 (lv_at hl 1 rfl) ?_
  refine lv_iconst (v := 1) hx hb dL_law_1902 (by decide) ?_
  refine lv_iadd hx hb dL_law_1903 ?_
  refine lv_to (y := nI (i + 1)) (nI_add i 1) ?_
  refine va_sld hx hb hX0 hbl (Nat.not_le.mpr hbl) G.2.2 (i := nI (i + 1)) (vp_in_nI (n := i + 1) (N := L) (by omega) (by omega)) dL_law_1904 ?_
  refine lv_to (y := xs (i + 1)) (congrArg xs (nI_clamp (by omega))) ?_
  obtain ⟨⟨r2, S1⟩, hf, hj⟩ := sj_mapByte Sm (xs (i + 1)) hJ
  have hJ1 : JJ S1 := hj
  refine y_mi (As := [.int (xs (i + 1))]) (rest := []) E G hA hX.2.2.2.2 hml (tr_mapByte l D cI cJ cZ am Sm (xs (i + 1)) hf) (cwV 1 hts (glM (L := [Cond.methodLink RL 359 yX12_mapByte, Cond.instanceMethod yX12_mapByte, Cond.selects RX12 yX12_mapByte yX12_mapByte, Cond.initialized RX12]) (gl_in [(10, 129), (10, 130), (10, 131), (1, 14)] (by decide +kernel) (by decide +kernel)) ⟨(t_of [Cond.code yX12_mapByte cX12_mapByte 2 (some .int)] [(10, 132)] (by decide +kernel) _ List.mem_cons_self), List.all_eq_true.mp (by decide +kernel : [Cond.code yX12_mapByte cX12_mapByte 2 (some .int)].all goodWord = true) _ List.mem_cons_self⟩) rfl rfl rfl (by decide +kernel) ⟨Nat.le_of_ble_eq_true rfl, Nat.le_of_ble_eq_true rfl⟩) rfl hl.1 rfl (lv_room (Nat.le_of_ble_eq_true rfl)) dL_law_1905 ⟨by show _ ≤ 601024; omega, by show _ ≤ 7293034; omega⟩ (fun H locs G => ?_)
  refine lv_istore (lv' := [(7, .int r2), (6, .int (vck 0 1 0 k1)), (5, .int (nI i)), (4, .ref ae), (3, .ref aj), (2, .ref (am 0)), (1, .ref (ad2 0)), (0, .ref b)]) hx hb dL_law_1908 hl (by decide) rfl (fun ls hl => ?_)
  refine lv_goto (tgt := 2446) hx hb dL_law_1910 (by decide) ?_
  have hl := lv_sub hl [2, 3, 4, 5, 6, 7] rfl
  refine W.widen (k := 19 + T1.1 + (j + 1)) (n := 38467 + sg T1 + 6 * (j + 1)) (by omega) (by omega) ?_
  exact kk ad2 (vfJ k1 f r1.toInt64) g H locs ls hg hf (had 0 h0T) hV1 hrc1 hJ1 G hl
set_option maxHeartbeats 4000000 in
set_option maxRecDepth 100000 in
theorem y_a49 {p : Program} {e : Env} {s : State} {m : MethodId} {below : List Frame} {meth : Method} {c : Code} (l : Launch) (hst : l.stackTraces = false) {b L : Nat} {xs : Nat → Int32} (hx : p.tables.exec = Jvm.exec) (hb : c.code = code) (hml : c.maxLocals = 9) (hown : s.vm.findClass RL = some m.cls) (hts : ∀ w ∈ lw_tbl, w.before #[Value.ref b] s = true) (hX0 : va_X b L xs s s.heap) (hbl : b < s.heap.size) (hX : xT (fun q => s.heap.size ≤ q) s) (hN : nC s) (hTS : sAll s.heap.size s) {D : va_G} {cI cJ cZ cMic cSrc cSt cAI cAJ cD : ClassId} (hK : va_K D vwCl (CT cI cJ cZ cMic cSrc cSt cAI cAJ ++ [(cD, .double)]) s) {Q : State → Prop} {i j : Nat} (hi : i + 6 ≤ L) (hL : L ≤ 3072) (hj : j < 512) {aj ae : Nat} {ad am : Nat → Nat} {T : AT} {Sm : MS} {f : Nat → Int64} {g : Nat → UInt64} {ls : Array Slot} {H : Heap} {locs : List Loc} (hV : IV aR0 1586 aK1 aK2 T) (hrc : RC T) (hJ : JJ Sm) (G : gL cI cJ cZ cMic cSrc cSt cAI cAJ D ad (fun q => s.heap.size ≤ q) s.heap H locs T (oJ aj cJ f :: oD ae cD g :: MW cI cJ cZ am Sm)) (hl : lv_has ls 9 [(5, .int (nI i)), (4, .ref ae), (3, .ref aj), (2, .ref (am 0)), (1, .ref (ad 0)), (0, .ref b)]) (kk : ∀ {k1 : Nat} {r1 : Int32} {T1 : AT} {r2 : Int32} {S1 : MS} (ad2 : Nat → Nat) (f1 : Nat → Int64) (g1 : Nat → UInt64) (H1 : Heap) (locs1 : List Loc) (ls1 : Array Slot), g_X11_pointBest T 0 (xs (i + 1)) (xs (i + 2)) = some (k1, r1, T1) → fr_pointBest Sm (xs (i + 1)) (xs (i + 2)) = some (r2, S1) → ad2 0 = ad 0 → IV aR0 1586 aK1 aK2 T1 → RC T1 → JJ S1 → gL cI cJ cZ cMic cSrc cSt cAI cAJ D ad2 (fun q => s.heap.size ≤ q) s.heap H1 locs1 T1 (oJ aj cJ f1 :: oD ae cD g1 :: MW cI cJ cZ am S1) → lv_has ls1 9 [(5, .int (nI i)), (4, .ref ae), (3, .ref aj), (2, .ref (am 0)), (1, .ref (ad2 0)), (0, .ref b)] → W p l e room_1 s m #[Value.ref b] below meth c H1 locs1 (19 + T1.1 + (j + 1)) (38467 + sg T1 + 6 * (j + 1)) Q (F0 m 2446 ls1 [])) : W p l e room_1 s m #[Value.ref b] below meth c H locs (19 + T.1 + j) (38467 + sg T + 6 * j) Q (F0 m 1913 ls []) := by
  have E : cE p c cL_law s m #[Value.ref b] lw_tbl D RL (CT cI cJ cZ cMic cSrc cSt cAI cAJ ++ [(cD, .double)]) := ⟨hx, hb, hts, hown, hK⟩
  have hA : ∀ q : Nat, s.heap.size ≤ q → s.heap.size ≤ q := fun _ h => h
  have h0T : 0 < T.1 := Nat.lt_of_lt_of_le (by decide) hV.1.2.2
  have h0s : T.2.1 0 = (11, 0) := hV.2.1 0 ⟨by decide, by decide +kernel, by decide +kernel⟩
  refine lv_aload_n hx hb dL_law_1913 rfl (lv_at hl 4 rfl) ?_
  refine lv_aload_n hx hb dL_law_1914 rfl (lv_at hl 5 rfl) ?_
  refine lv_iload hx hb dL_law_1915 (lv_at hl 0 rfl) ?_
  refine lv_iconst (v := 1) hx hb dL_law_1917 (by decide) ?_
  refine lv_iadd hx hb dL_law_1918 ?_
  refine lv_to (y := nI (i + 1)) (nI_add i 1) ?_
  refine va_sld hx hb hX0 hbl (Nat.not_le.mpr hbl) G.2.2 (i := nI (i + 1)) (vp_in_nI (n := i + 1) (N := L) (by omega) (by omega)) dL_law_1919 ?_
  refine lv_to (y := xs (i + 1)) (congrArg xs (nI_clamp (by omega))) ?_
  refine lv_aload_n hx hb dL_law_1920 rfl (lv_at hl 5 rfl) ?_
  refine lv_iload hx hb dL_law_1921 (lv_at hl 0 rfl) ?_
  refine lv_iconst (v := 2) hx hb dL_law_1923 (by decide) ?_
  refine lv_iadd hx hb dL_law_1924 ?_
  refine lv_to (y := nI (i + 2)) (nI_add i 2) ?_
  refine va_sld hx hb hX0 hbl (Nat.not_le.mpr hbl) G.2.2 (i := nI (i + 2)) (vp_in_nI (n := i + 2) (N := L) (by omega) (by omega)) dL_law_1925 ?_
  refine lv_to (y := xs (i + 2)) (congrArg xs (nI_clamp (by omega))) ?_
  refine lv_aload_n hx hb dL_law_1926 rfl (lv_at hl 2 rfl) ?_
  obtain ⟨⟨k1, r1, T1⟩, hg, hc⟩ := cs_X11_pointBest T 0 (xs (i + 1)) (xs (i + 2)) hV (by decide +kernel)
  have hV1 : IV aR0 1586 aK1 aK2 T1 := hc.1.1
  have hg1 := s_X11_pointBest hg
  have hg2 := sg_le hg1
  have hg3 := hg1.1
  have hk := hV1.2.2.2.2.2.2
  have hrc1 := hg1.2.2 hrc
  have hr0 := a_room
  refine l_v (h0 := s.heap.size) (As := [.ref (ad 0), .int (xs (i + 1)), .int (xs (i + 2)), .ref aj]) (rest := []) E G hA hX hN (fun _ h => h) hTS hml (v_pointBest l hst D s.heap.size ad T 0 (xs (i + 1)) (xs (i + 2)) aj f hg hrc h0T h0s) (vx_cwSW 4 hts (glA (L := [Cond.methodLink RL 360 yL_pointBest, Cond.static yL_pointBest, Cond.initialized RL]) (gl_in [(7, 66), (7, 67), (1, 0)] (by decide +kernel) (by decide +kernel)) ⟨(t_of [Cond.codeWith yL_pointBest cL_pointBest 5 (some .int) [(0, 10, 13, 21), (0, 10, 17, 13), (0, 10, 21, 15)]] [(7, 68)] (by decide +kernel) _ List.mem_cons_self), List.all_eq_true.mp (by decide +kernel : [Cond.codeWith yL_pointBest cL_pointBest 5 (some .int) [(0, 10, 13, 21), (0, 10, 17, 13), (0, 10, 21, 15)]].all goodWord = true) _ List.mem_cons_self⟩) rfl rfl rfl (by decide +kernel) ⟨Nat.le_of_ble_eq_true rfl, Nat.le_of_ble_eq_true rfl⟩) rfl hl.1 rfl (lv_room (Nat.le_of_ble_eq_true rfl)) dL_law_1927 ⟨by show _ ≤ 601024; omega, by show _ ≤ 7293034; omega⟩ ?_
  intro ad2 H locs had G
  rw [← had 0 h0T] at hl
  refine lv_istore (lv' := [(6, .int (vck 1 2 3 k1)), (5, .int (nI i)), (4, .ref ae), (3, .ref aj), (2, .ref (am 0)), (1, .ref (ad2 0)), (0, .ref b)]) hx hb dL_law_1930 hl (by decide) rfl (fun ls hl => ?_)
  refine lv_aload_n hx hb dL_law_1932 rfl (lv_at hl 4 rfl) ?_
  refine lv_aload_n hx hb dL_law_1933 rfl (lv_at hl 6 rfl) ?_
  refine lv_iload hx hb dL_law_1934 (lv_at hl 1 rfl) ?_
  refine lv_iconst (v := 1) hx hb dL_law_1936 (by decide) ?_
  refine lv_iadd hx hb dL_law_1937 ?_
  refine lv_to (y := nI (i + 1)) (nI_add i 1) ?_
  refine va_sld hx hb hX0 hbl (Nat.not_le.mpr hbl) G.2.2 (i := nI (i + 1)) (vp_in_nI (n := i + 1) (N := L) (by omega) (by omega)) dL_law_1938 ?_
  refine lv_to (y := xs (i + 1)) (congrArg xs (nI_clamp (by omega))) ?_
  refine lv_aload_n hx hb dL_law_1939 rfl (lv_at hl 6 rfl) ?_
  refine lv_iload hx hb dL_law_1940 (lv_at hl 1 rfl) ?_
  refine lv_iconst (v := 2) hx hb dL_law_1942 (by decide) ?_
  refine lv_iadd hx hb dL_law_1943 ?_
  refine lv_to (y := nI (i + 2)) (nI_add i 2) ?_
  refine va_sld hx hb hX0 hbl (Nat.not_le.mpr hbl) G.2.2 (i := nI (i + 2)) (vp_in_nI (n := i + 2) (N := L) (by omega) (by omega)) dL_law_1944 ?_
  refine lv_to (y := xs (i + 2)) (congrArg xs (nI_clamp (by omega))) ?_
  obtain ⟨⟨r2, S1⟩, hf, hj⟩ := sj_pointBest Sm (xs (i + 1)) (xs (i + 2)) hJ
  have hJ1 : JJ S1 := hj
  refine y_mi (As := [.int (xs (i + 1)), .int (xs (i + 2))]) (rest := []) E G hA hX.2.2.2.2 hml (tr_pointBest l D cI cJ cZ am Sm (xs (i + 1)) (xs (i + 2)) hf) (cwV 2 hts (glM (L := [Cond.methodLink RL 362 yX12_pointBest, Cond.instanceMethod yX12_pointBest, Cond.selects RX12 yX12_pointBest yX12_pointBest, Cond.initialized RX12]) (gl_in [(10, 133), (10, 134), (10, 135), (1, 14)] (by decide +kernel) (by decide +kernel)) ⟨(t_of [Cond.code yX12_pointBest cX12_pointBest 3 (some .int)] [(10, 136)] (by decide +kernel) _ List.mem_cons_self), List.all_eq_true.mp (by decide +kernel : [Cond.code yX12_pointBest cX12_pointBest 3 (some .int)].all goodWord = true) _ List.mem_cons_self⟩) rfl rfl rfl (by decide +kernel) ⟨Nat.le_of_ble_eq_true rfl, Nat.le_of_ble_eq_true rfl⟩) rfl hl.1 rfl (lv_room (Nat.le_of_ble_eq_true rfl)) dL_law_1945 ⟨by show _ ≤ 601024; omega, by show _ ≤ 7293034; omega⟩ (fun H locs G => ?_)
  refine lv_istore (lv' := [(7, .int r2), (6, .int (vck 1 2 3 k1)), (5, .int (nI i)), (4, .ref ae), (3, .ref aj), (2, .ref (am 0)), (1, .ref (ad2 0)), (0, .ref b)]) hx hb dL_law_1948 hl (by decide) rfl (fun ls hl => ?_)
  refine lv_goto (tgt := 2446) hx hb dL_law_1950 (by decide) ?_
  have hl := lv_sub hl [2, 3, 4, 5, 6, 7] rfl
  refine W.widen (k := 19 + T1.1 + (j + 1)) (n := 38467 + sg T1 + 6 * (j + 1)) (by omega) (by omega) ?_
  exact kk ad2 (vfJ k1 f r1.toInt64) g H locs ls hg hf (had 0 h0T) hV1 hrc1 hJ1 G hl
set_option maxHeartbeats 4000000 in
set_option maxRecDepth 100000 in
theorem y_a50 {p : Program} {e : Env} {s : State} {m : MethodId} {below : List Frame} {meth : Method} {c : Code} (l : Launch) (hst : l.stackTraces = false) {b L : Nat} {xs : Nat → Int32} (hx : p.tables.exec = Jvm.exec) (hb : c.code = code) (hml : c.maxLocals = 9) (hown : s.vm.findClass RL = some m.cls) (hts : ∀ w ∈ lw_tbl, w.before #[Value.ref b] s = true) (hX0 : va_X b L xs s s.heap) (hbl : b < s.heap.size) (hX : xT (fun q => s.heap.size ≤ q) s) (hN : nC s) (hTS : sAll s.heap.size s) {D : va_G} {cI cJ cZ cMic cSrc cSt cAI cAJ cD : ClassId} (hK : va_K D vwCl (CT cI cJ cZ cMic cSrc cSt cAI cAJ ++ [(cD, .double)]) s) {Q : State → Prop} {i j : Nat} (hi : i + 6 ≤ L) (hL : L ≤ 3072) (hj : j < 512) {aj ae : Nat} {ad am : Nat → Nat} {T : AT} {Sm : MS} {f : Nat → Int64} {g : Nat → UInt64} {ls : Array Slot} {H : Heap} {locs : List Loc} (hV : IV aR0 1586 aK1 aK2 T) (hrc : RC T) (hJ : JJ Sm) (G : gL cI cJ cZ cMic cSrc cSt cAI cAJ D ad (fun q => s.heap.size ≤ q) s.heap H locs T (oJ aj cJ f :: oD ae cD g :: MW cI cJ cZ am Sm)) (hl : lv_has ls 9 [(5, .int (nI i)), (4, .ref ae), (3, .ref aj), (2, .ref (am 0)), (1, .ref (ad 0)), (0, .ref b)]) (kk : ∀ {k1 : Nat} {r1 : Int64} {T1 : AT} {r2 : Int64} {S1 : MS} (ad2 : Nat → Nat) (f1 : Nat → Int64) (g1 : Nat → UInt64) (H1 : Heap) (locs1 : List Loc) (ls1 : Array Slot), g_X11_pointPower T 0 (xs (i + 1)) (xs (i + 2)) (xs (i + 3)) = some (k1, r1, T1) → fr_pointPower Sm (xs (i + 1)) (xs (i + 2)) (xs (i + 3)) = some (r2, S1) → ad2 0 = ad 0 → IV aR0 1586 aK1 aK2 T1 → RC T1 → JJ S1 → gL cI cJ cZ cMic cSrc cSt cAI cAJ D ad2 (fun q => s.heap.size ≤ q) s.heap H1 locs1 T1 (oJ aj cJ f1 :: oD ae cD g1 :: MW cI cJ cZ am S1) → lv_has ls1 9 [(5, .int (nI i)), (4, .ref ae), (3, .ref aj), (2, .ref (am 0)), (1, .ref (ad2 0)), (0, .ref b)] → W p l e room_1 s m #[Value.ref b] below meth c H1 locs1 (19 + T1.1 + (j + 1)) (38467 + sg T1 + 6 * (j + 1)) Q (F0 m 2446 ls1 [])) : W p l e room_1 s m #[Value.ref b] below meth c H locs (19 + T.1 + j) (38467 + sg T + 6 * j) Q (F0 m 1953 ls []) := by
  have E : cE p c cL_law s m #[Value.ref b] lw_tbl D RL (CT cI cJ cZ cMic cSrc cSt cAI cAJ ++ [(cD, .double)]) := ⟨hx, hb, hts, hown, hK⟩
  have hA : ∀ q : Nat, s.heap.size ≤ q → s.heap.size ≤ q := fun _ h => h
  have h0T : 0 < T.1 := Nat.lt_of_lt_of_le (by decide) hV.1.2.2
  have h0s : T.2.1 0 = (11, 0) := hV.2.1 0 ⟨by decide, by decide +kernel, by decide +kernel⟩
  refine lv_aload_n hx hb dL_law_1953 rfl (lv_at hl 4 rfl) ?_
  refine lv_aload_n hx hb dL_law_1954 rfl (lv_at hl 5 rfl) ?_
  refine lv_iload hx hb dL_law_1955 (lv_at hl 0 rfl) ?_
  refine lv_iconst (v := 1) hx hb dL_law_1957 (by decide) ?_
  refine lv_iadd hx hb dL_law_1958 ?_
  refine lv_to (y := nI (i + 1)) (nI_add i 1) ?_
  refine va_sld hx hb hX0 hbl (Nat.not_le.mpr hbl) G.2.2 (i := nI (i + 1)) (vp_in_nI (n := i + 1) (N := L) (by omega) (by omega)) dL_law_1959 ?_
  refine lv_to (y := xs (i + 1)) (congrArg xs (nI_clamp (by omega))) ?_
  refine lv_aload_n hx hb dL_law_1960 rfl (lv_at hl 5 rfl) ?_
  refine lv_iload hx hb dL_law_1961 (lv_at hl 0 rfl) ?_
  refine lv_iconst (v := 2) hx hb dL_law_1963 (by decide) ?_
  refine lv_iadd hx hb dL_law_1964 ?_
  refine lv_to (y := nI (i + 2)) (nI_add i 2) ?_
  refine va_sld hx hb hX0 hbl (Nat.not_le.mpr hbl) G.2.2 (i := nI (i + 2)) (vp_in_nI (n := i + 2) (N := L) (by omega) (by omega)) dL_law_1965 ?_
  refine lv_to (y := xs (i + 2)) (congrArg xs (nI_clamp (by omega))) ?_
  refine lv_aload_n hx hb dL_law_1966 rfl (lv_at hl 5 rfl) ?_
  refine lv_iload hx hb dL_law_1967 (lv_at hl 0 rfl) ?_
  refine lv_iconst (v := 3) hx hb dL_law_1969 (by decide) ?_
  refine lv_iadd hx hb dL_law_1970 ?_
  refine lv_to (y := nI (i + 3)) (nI_add i 3) ?_
  refine va_sld hx hb hX0 hbl (Nat.not_le.mpr hbl) G.2.2 (i := nI (i + 3)) (vp_in_nI (n := i + 3) (N := L) (by omega) (by omega)) dL_law_1971 ?_
  refine lv_to (y := xs (i + 3)) (congrArg xs (nI_clamp (by omega))) ?_
  refine lv_aload_n hx hb dL_law_1972 rfl (lv_at hl 2 rfl) ?_
  obtain ⟨⟨k1, r1, T1⟩, hg, hc⟩ := cs_X11_pointPower T 0 (xs (i + 1)) (xs (i + 2)) (xs (i + 3)) hV (by decide +kernel)
  have hV1 : IV aR0 1586 aK1 aK2 T1 := hc.1.1
  have hg1 := s_X11_pointPower hg
  have hg2 := sg_le hg1
  have hg3 := hg1.1
  have hk := hV1.2.2.2.2.2.2
  have hrc1 := hg1.2.2 hrc
  have hr0 := a_room
  refine l_v (h0 := s.heap.size) (As := [.ref (ad 0), .int (xs (i + 1)), .int (xs (i + 2)), .int (xs (i + 3)), .ref aj]) (rest := []) E G hA hX hN (fun _ h => h) hTS hml (v_pointPower l hst D s.heap.size ad T 0 (xs (i + 1)) (xs (i + 2)) (xs (i + 3)) aj f hg hrc h0T h0s) (vx_cwSW 5 hts (glA (L := [Cond.methodLink RL 363 yL_pointPower, Cond.static yL_pointPower, Cond.initialized RL]) (gl_in [(7, 99), (7, 100), (1, 0)] (by decide +kernel) (by decide +kernel)) ⟨(t_of [Cond.codeWith yL_pointPower cL_pointPower 6 (some .int) [(0, 11, 14, 21), (0, 11, 18, 13), (0, 11, 22, 15)]] [(7, 101)] (by decide +kernel) _ List.mem_cons_self), List.all_eq_true.mp (by decide +kernel : [Cond.codeWith yL_pointPower cL_pointPower 6 (some .int) [(0, 11, 14, 21), (0, 11, 18, 13), (0, 11, 22, 15)]].all goodWord = true) _ List.mem_cons_self⟩) rfl rfl rfl (by decide +kernel) ⟨Nat.le_of_ble_eq_true rfl, Nat.le_of_ble_eq_true rfl⟩) rfl hl.1 rfl (lv_room (Nat.le_of_ble_eq_true rfl)) dL_law_1973 ⟨by show _ ≤ 601024; omega, by show _ ≤ 7293034; omega⟩ ?_
  intro ad2 H locs had G
  rw [← had 0 h0T] at hl
  refine lv_istore (lv' := [(6, .int (vck 1 2 3 k1)), (5, .int (nI i)), (4, .ref ae), (3, .ref aj), (2, .ref (am 0)), (1, .ref (ad2 0)), (0, .ref b)]) hx hb dL_law_1976 hl (by decide) rfl (fun ls hl => ?_)
  refine lv_aload_n hx hb dL_law_1978 rfl (lv_at hl 4 rfl) ?_
  refine lv_aload_n hx hb dL_law_1979 rfl (lv_at hl 6 rfl) ?_
  refine lv_iload hx hb dL_law_1980 (lv_at hl 1 rfl) ?_
  refine lv_iconst (v := 1) hx hb dL_law_1982 (by decide) ?_
  refine lv_iadd hx hb dL_law_1983 ?_
  refine lv_to (y := nI (i + 1)) (nI_add i 1) ?_
  refine va_sld hx hb hX0 hbl (Nat.not_le.mpr hbl) G.2.2 (i := nI (i + 1)) (vp_in_nI (n := i + 1) (N := L) (by omega) (by omega)) dL_law_1984 ?_
  refine lv_to (y := xs (i + 1)) (congrArg xs (nI_clamp (by omega))) ?_
  refine lv_aload_n hx hb dL_law_1985 rfl (lv_at hl 6 rfl) ?_
  refine lv_iload hx hb dL_law_1986 (lv_at hl 1 rfl) ?_
  refine lv_iconst (v := 2) hx hb dL_law_1988 (by decide) ?_
  refine lv_iadd hx hb dL_law_1989 ?_
  refine lv_to (y := nI (i + 2)) (nI_add i 2) ?_
  refine va_sld hx hb hX0 hbl (Nat.not_le.mpr hbl) G.2.2 (i := nI (i + 2)) (vp_in_nI (n := i + 2) (N := L) (by omega) (by omega)) dL_law_1990 ?_
  refine lv_to (y := xs (i + 2)) (congrArg xs (nI_clamp (by omega))) ?_
  refine lv_aload_n hx hb dL_law_1991 rfl (lv_at hl 6 rfl) ?_
  refine lv_iload hx hb dL_law_1992 (lv_at hl 1 rfl) ?_
  refine lv_iconst (v := 3) hx hb dL_law_1994 (by decide) ?_
  refine lv_iadd hx hb dL_law_1995 ?_
  refine lv_to (y := nI (i + 3)) (nI_add i 3) ?_
  refine va_sld hx hb hX0 hbl (Nat.not_le.mpr hbl) G.2.2 (i := nI (i + 3)) (vp_in_nI (n := i + 3) (N := L) (by omega) (by omega)) dL_law_1996 ?_
  refine lv_to (y := xs (i + 3)) (congrArg xs (nI_clamp (by omega))) ?_
  obtain ⟨⟨r2, S1⟩, hf, hj⟩ := sj_pointPower Sm (xs (i + 1)) (xs (i + 2)) (xs (i + 3)) hJ
  have hJ1 : JJ S1 := hj
  refine y_ml (As := [.int (xs (i + 1)), .int (xs (i + 2)), .int (xs (i + 3))]) (rest := []) E G hA hX.2.2.2.2 hml (tr_pointPower l D cI cJ cZ am Sm (xs (i + 1)) (xs (i + 2)) (xs (i + 3)) hf) (cwV 3 hts (glM (L := [Cond.methodLink RL 365 yX12_pointPower, Cond.instanceMethod yX12_pointPower, Cond.selects RX12 yX12_pointPower yX12_pointPower, Cond.initialized RX12]) (gl_in [(10, 141), (10, 142), (10, 143), (1, 14)] (by decide +kernel) (by decide +kernel)) ⟨(t_of [Cond.code yX12_pointPower cX12_pointPower 4 (some .long)] [(10, 144)] (by decide +kernel) _ List.mem_cons_self), List.all_eq_true.mp (by decide +kernel : [Cond.code yX12_pointPower cX12_pointPower 4 (some .long)].all goodWord = true) _ List.mem_cons_self⟩) rfl rfl rfl (by decide +kernel) ⟨Nat.le_of_ble_eq_true rfl, Nat.le_of_ble_eq_true rfl⟩) rfl hl.1 rfl (lv_room (Nat.le_of_ble_eq_true rfl)) dL_law_1997 ⟨by show _ ≤ 601024; omega, by show _ ≤ 7293034; omega⟩ (fun H locs G => ?_)
  refine lv_lstore (lv' := [(7, .long r2), (6, .int (vck 1 2 3 k1)), (5, .int (nI i)), (4, .ref ae), (3, .ref aj), (2, .ref (am 0)), (1, .ref (ad2 0)), (0, .ref b)]) hx hb dL_law_2000 hl (by decide) rfl (fun ls hl => ?_)
  refine lv_goto (tgt := 2446) hx hb dL_law_2002 (by decide) ?_
  have hl := lv_sub hl [2, 3, 4, 5, 6, 7] rfl
  refine W.widen (k := 19 + T1.1 + (j + 1)) (n := 38467 + sg T1 + 6 * (j + 1)) (by omega) (by omega) ?_
  exact kk ad2 (vfJ k1 f r1) g H locs ls hg hf (had 0 h0T) hV1 hrc1 hJ1 G hl
set_option maxHeartbeats 4000000 in
set_option maxRecDepth 100000 in
theorem y_a51 {p : Program} {e : Env} {s : State} {m : MethodId} {below : List Frame} {meth : Method} {c : Code} (l : Launch) (hst : l.stackTraces = false) {b L : Nat} {xs : Nat → Int32} (hx : p.tables.exec = Jvm.exec) (hb : c.code = code) (hml : c.maxLocals = 9) (hown : s.vm.findClass RL = some m.cls) (hts : ∀ w ∈ lw_tbl, w.before #[Value.ref b] s = true) (hX0 : va_X b L xs s s.heap) (hbl : b < s.heap.size) (hX : xT (fun q => s.heap.size ≤ q) s) (hN : nC s) (hTS : sAll s.heap.size s) {D : va_G} {cI cJ cZ cMic cSrc cSt cAI cAJ cD : ClassId} (hK : va_K D vwCl (CT cI cJ cZ cMic cSrc cSt cAI cAJ ++ [(cD, .double)]) s) {Q : State → Prop} {i j : Nat} (hi : i + 6 ≤ L) (hL : L ≤ 3072) (hj : j < 512) {aj ae : Nat} {ad am : Nat → Nat} {T : AT} {Sm : MS} {f : Nat → Int64} {g : Nat → UInt64} {ls : Array Slot} {H : Heap} {locs : List Loc} (hV : IV aR0 1586 aK1 aK2 T) (hrc : RC T) (hJ : JJ Sm) (G : gL cI cJ cZ cMic cSrc cSt cAI cAJ D ad (fun q => s.heap.size ≤ q) s.heap H locs T (oJ aj cJ f :: oD ae cD g :: MW cI cJ cZ am Sm)) (hl : lv_has ls 9 [(5, .int (nI i)), (4, .ref ae), (3, .ref aj), (2, .ref (am 0)), (1, .ref (ad 0)), (0, .ref b)]) (kk : ∀ {k1 : Nat} {r1 : Int32} {T1 : AT} {r2 : Int32} {S1 : MS} (ad2 : Nat → Nat) (f1 : Nat → Int64) (g1 : Nat → UInt64) (H1 : Heap) (locs1 : List Loc) (ls1 : Array Slot), g_X11_bestWithout T 0 (xs (i + 1)) = some (k1, r1, T1) → fr_bestWithout Sm (xs (i + 1)) = some (r2, S1) → ad2 0 = ad 0 → IV aR0 1586 aK1 aK2 T1 → RC T1 → JJ S1 → gL cI cJ cZ cMic cSrc cSt cAI cAJ D ad2 (fun q => s.heap.size ≤ q) s.heap H1 locs1 T1 (oJ aj cJ f1 :: oD ae cD g1 :: MW cI cJ cZ am S1) → lv_has ls1 9 [(5, .int (nI i)), (4, .ref ae), (3, .ref aj), (2, .ref (am 0)), (1, .ref (ad2 0)), (0, .ref b)] → W p l e room_1 s m #[Value.ref b] below meth c H1 locs1 (19 + T1.1 + (j + 1)) (38467 + sg T1 + 6 * (j + 1)) Q (F0 m 2446 ls1 [])) : W p l e room_1 s m #[Value.ref b] below meth c H locs (19 + T.1 + j) (38467 + sg T + 6 * j) Q (F0 m 2005 ls []) := by
  have E : cE p c cL_law s m #[Value.ref b] lw_tbl D RL (CT cI cJ cZ cMic cSrc cSt cAI cAJ ++ [(cD, .double)]) := ⟨hx, hb, hts, hown, hK⟩
  have hA : ∀ q : Nat, s.heap.size ≤ q → s.heap.size ≤ q := fun _ h => h
  have h0T : 0 < T.1 := Nat.lt_of_lt_of_le (by decide) hV.1.2.2
  have h0s : T.2.1 0 = (11, 0) := hV.2.1 0 ⟨by decide, by decide +kernel, by decide +kernel⟩
  refine lv_aload_n hx hb dL_law_2005 rfl (lv_at hl 4 rfl) ?_
  refine lv_aload_n hx hb dL_law_2006 rfl (lv_at hl 5 rfl) ?_
  refine lv_iload hx hb dL_law_2007 (lv_at hl 0 rfl) ?_
  refine lv_iconst (v := 1) hx hb dL_law_2009 (by decide) ?_
  refine lv_iadd hx hb dL_law_2010 ?_
  refine lv_to (y := nI (i + 1)) (nI_add i 1) ?_
  refine va_sld hx hb hX0 hbl (Nat.not_le.mpr hbl) G.2.2 (i := nI (i + 1)) (vp_in_nI (n := i + 1) (N := L) (by omega) (by omega)) dL_law_2011 ?_
  refine lv_to (y := xs (i + 1)) (congrArg xs (nI_clamp (by omega))) ?_
  refine lv_aload_n hx hb dL_law_2012 rfl (lv_at hl 2 rfl) ?_
  obtain ⟨⟨k1, r1, T1⟩, hg, hc⟩ := cs_X11_bestWithout T 0 (xs (i + 1)) hV (by decide +kernel)
  have hV1 : IV aR0 1586 aK1 aK2 T1 := hc.1.1
  have hg1 := s_X11_bestWithout hg
  have hg2 := sg_le hg1
  have hg3 := hg1.1
  have hk := hV1.2.2.2.2.2.2
  have hrc1 := hg1.2.2 hrc
  have hr0 := a_room
  refine l_v (h0 := s.heap.size) (As := [.ref (ad 0), .int (xs (i + 1)), .ref aj]) (rest := []) E G hA hX hN (fun _ h => h) hTS hml (v_bestWithout l hst D s.heap.size ad T 0 (xs (i + 1)) aj f hg hrc h0T h0s) (vx_cwSW 3 hts (glA (L := [Cond.methodLink RL 366 yL_bestWithout, Cond.static yL_bestWithout, Cond.initialized RL]) (gl_in [(7, 106), (7, 107), (1, 0)] (by decide +kernel) (by decide +kernel)) ⟨(t_of [Cond.codeWith yL_bestWithout cL_bestWithout 4 (some .int) [(0, 9, 12, 21), (0, 9, 15, 13)]] [(7, 108)] (by decide +kernel) _ List.mem_cons_self), List.all_eq_true.mp (by decide +kernel : [Cond.codeWith yL_bestWithout cL_bestWithout 4 (some .int) [(0, 9, 12, 21), (0, 9, 15, 13)]].all goodWord = true) _ List.mem_cons_self⟩) rfl rfl rfl (by decide +kernel) ⟨Nat.le_of_ble_eq_true rfl, Nat.le_of_ble_eq_true rfl⟩) rfl hl.1 rfl (lv_room (Nat.le_of_ble_eq_true rfl)) dL_law_2013 ⟨by show _ ≤ 601024; omega, by show _ ≤ 7293034; omega⟩ ?_
  intro ad2 H locs had G
  rw [← had 0 h0T] at hl
  refine lv_istore (lv' := [(6, .int (vck 1 2 0 k1)), (5, .int (nI i)), (4, .ref ae), (3, .ref aj), (2, .ref (am 0)), (1, .ref (ad2 0)), (0, .ref b)]) hx hb dL_law_2016 hl (by decide) rfl (fun ls hl => ?_)
  refine lv_aload_n hx hb dL_law_2018 rfl (lv_at hl 4 rfl) ?_
  refine lv_aload_n hx hb dL_law_2019 rfl (lv_at hl 6 rfl) ?_
  refine lv_iload hx hb dL_law_2020 (lv_at hl 1 rfl) ?_
  refine lv_iconst (v := 1) hx hb dL_law_2022 (by decide) ?_
  refine lv_iadd hx hb dL_law_2023 ?_
  refine lv_to (y := nI (i + 1)) (nI_add i 1) ?_
  refine va_sld hx hb hX0 hbl (Nat.not_le.mpr hbl) G.2.2 (i := nI (i + 1)) (vp_in_nI (n := i + 1) (N := L) (by omega) (by omega)) dL_law_2024 ?_
  refine lv_to (y := xs (i + 1)) (congrArg xs (nI_clamp (by omega))) ?_
  obtain ⟨⟨r2, S1⟩, hf, hj⟩ := sj_bestWithout Sm (xs (i + 1)) hJ
  have hJ1 : JJ S1 := hj
  refine y_mi (As := [.int (xs (i + 1))]) (rest := []) E G hA hX.2.2.2.2 hml (tr_bestWithout l D cI cJ cZ am Sm (xs (i + 1)) hf) (cwV 1 hts (glM (L := [Cond.methodLink RL 368 yX12_bestWithout, Cond.instanceMethod yX12_bestWithout, Cond.selects RX12 yX12_bestWithout yX12_bestWithout, Cond.initialized RX12]) (gl_in [(10, 145), (10, 146), (10, 147), (1, 14)] (by decide +kernel) (by decide +kernel)) ⟨(t_of [Cond.code yX12_bestWithout cX12_bestWithout 2 (some .int)] [(10, 148)] (by decide +kernel) _ List.mem_cons_self), List.all_eq_true.mp (by decide +kernel : [Cond.code yX12_bestWithout cX12_bestWithout 2 (some .int)].all goodWord = true) _ List.mem_cons_self⟩) rfl rfl rfl (by decide +kernel) ⟨Nat.le_of_ble_eq_true rfl, Nat.le_of_ble_eq_true rfl⟩) rfl hl.1 rfl (lv_room (Nat.le_of_ble_eq_true rfl)) dL_law_2025 ⟨by show _ ≤ 601024; omega, by show _ ≤ 7293034; omega⟩ (fun H locs G => ?_)
  refine lv_istore (lv' := [(7, .int r2), (6, .int (vck 1 2 0 k1)), (5, .int (nI i)), (4, .ref ae), (3, .ref aj), (2, .ref (am 0)), (1, .ref (ad2 0)), (0, .ref b)]) hx hb dL_law_2028 hl (by decide) rfl (fun ls hl => ?_)
  refine lv_goto (tgt := 2446) hx hb dL_law_2030 (by decide) ?_
  have hl := lv_sub hl [2, 3, 4, 5, 6, 7] rfl
  refine W.widen (k := 19 + T1.1 + (j + 1)) (n := 38467 + sg T1 + 6 * (j + 1)) (by omega) (by omega) ?_
  exact kk ad2 (vfJ k1 f r1.toInt64) g H locs ls hg hf (had 0 h0T) hV1 hrc1 hJ1 G hl
set_option maxHeartbeats 4000000 in
set_option maxRecDepth 100000 in
theorem y_a52 {p : Program} {e : Env} {s : State} {m : MethodId} {below : List Frame} {meth : Method} {c : Code} (l : Launch) (hst : l.stackTraces = false) {b L : Nat} {xs : Nat → Int32} (hx : p.tables.exec = Jvm.exec) (hb : c.code = code) (hml : c.maxLocals = 9) (hown : s.vm.findClass RL = some m.cls) (hts : ∀ w ∈ lw_tbl, w.before #[Value.ref b] s = true) (hX0 : va_X b L xs s s.heap) (hbl : b < s.heap.size) (hX : xT (fun q => s.heap.size ≤ q) s) (hN : nC s) (hTS : sAll s.heap.size s) {D : va_G} {cI cJ cZ cMic cSrc cSt cAI cAJ cD : ClassId} (hK : va_K D vwCl (CT cI cJ cZ cMic cSrc cSt cAI cAJ ++ [(cD, .double)]) s) {Q : State → Prop} {i j : Nat} (hi : i + 6 ≤ L) (hL : L ≤ 3072) (hj : j < 512) {aj ae : Nat} {ad am : Nat → Nat} {T : AT} {Sm : MS} {f : Nat → Int64} {g : Nat → UInt64} {ls : Array Slot} {H : Heap} {locs : List Loc} (hV : IV aR0 1586 aK1 aK2 T) (hrc : RC T) (hJ : JJ Sm) (G : gL cI cJ cZ cMic cSrc cSt cAI cAJ D ad (fun q => s.heap.size ≤ q) s.heap H locs T (oJ aj cJ f :: oD ae cD g :: MW cI cJ cZ am Sm)) (hl : lv_has ls 9 [(5, .int (nI i)), (4, .ref ae), (3, .ref aj), (2, .ref (am 0)), (1, .ref (ad 0)), (0, .ref b)]) (kk : ∀ {k1 : Nat} {r1 : Int32} {T1 : AT} {r2 : Int32} {S1 : MS} (ad2 : Nat → Nat) (f1 : Nat → Int64) (g1 : Nat → UInt64) (H1 : Heap) (locs1 : List Loc) (ls1 : Array Slot), g_X11_bestIfOff T 0 (xs (i + 1)) = some (k1, r1, T1) → fr_bestIfOff Sm (xs (i + 1)) = some (r2, S1) → ad2 0 = ad 0 → IV aR0 1586 aK1 aK2 T1 → RC T1 → JJ S1 → gL cI cJ cZ cMic cSrc cSt cAI cAJ D ad2 (fun q => s.heap.size ≤ q) s.heap H1 locs1 T1 (oJ aj cJ f1 :: oD ae cD g1 :: MW cI cJ cZ am S1) → lv_has ls1 9 [(5, .int (nI i)), (4, .ref ae), (3, .ref aj), (2, .ref (am 0)), (1, .ref (ad2 0)), (0, .ref b)] → W p l e room_1 s m #[Value.ref b] below meth c H1 locs1 (19 + T1.1 + (j + 1)) (38467 + sg T1 + 6 * (j + 1)) Q (F0 m 2446 ls1 [])) : W p l e room_1 s m #[Value.ref b] below meth c H locs (19 + T.1 + j) (38467 + sg T + 6 * j) Q (F0 m 2033 ls []) := by
  have E : cE p c cL_law s m #[Value.ref b] lw_tbl D RL (CT cI cJ cZ cMic cSrc cSt cAI cAJ ++ [(cD, .double)]) := ⟨hx, hb, hts, hown, hK⟩
  have hA : ∀ q : Nat, s.heap.size ≤ q → s.heap.size ≤ q := fun _ h => h
  have h0T : 0 < T.1 := Nat.lt_of_lt_of_le (by decide) hV.1.2.2
  have h0s : T.2.1 0 = (11, 0) := hV.2.1 0 ⟨by decide, by decide +kernel, by decide +kernel⟩
  refine lv_aload_n hx hb dL_law_2033 rfl (lv_at hl 4 rfl) ?_
  refine lv_aload_n hx hb dL_law_2034 rfl (lv_at hl 5 rfl) ?_
  refine lv_iload hx hb dL_law_2035 (lv_at hl 0 rfl) ?_
  refine lv_iconst (v := 1) hx hb dL_law_2037 (by decide) ?_
  refine lv_iadd hx hb dL_law_2038 ?_
  refine lv_to (y := nI (i + 1)) (nI_add i 1) ?_
  refine va_sld hx hb hX0 hbl (Nat.not_le.mpr hbl) G.2.2 (i := nI (i + 1)) (vp_in_nI (n := i + 1) (N := L) (by omega) (by omega)) dL_law_2039 ?_
  refine lv_to (y := xs (i + 1)) (congrArg xs (nI_clamp (by omega))) ?_
  refine lv_aload_n hx hb dL_law_2040 rfl (lv_at hl 2 rfl) ?_
  obtain ⟨⟨k1, r1, T1⟩, hg, hc⟩ := cs_X11_bestIfOff T 0 (xs (i + 1)) hV (by decide +kernel)
  have hV1 : IV aR0 1586 aK1 aK2 T1 := hc.1.1
  have hg1 := s_X11_bestIfOff hg
  have hg2 := sg_le hg1
  have hg3 := hg1.1
  have hk := hV1.2.2.2.2.2.2
  have hrc1 := hg1.2.2 hrc
  have hr0 := a_room
  refine l_v (h0 := s.heap.size) (As := [.ref (ad 0), .int (xs (i + 1)), .ref aj]) (rest := []) E G hA hX hN (fun _ h => h) hTS hml (v_bestIfOff l hst D s.heap.size ad T 0 (xs (i + 1)) aj f hg hrc h0T h0s) (vx_cwSW 3 hts (glA (L := [Cond.methodLink RL 369 yL_bestIfOff, Cond.static yL_bestIfOff, Cond.initialized RL]) (gl_in [(7, 113), (7, 114), (1, 0)] (by decide +kernel) (by decide +kernel)) ⟨(t_of [Cond.codeWith yL_bestIfOff cL_bestIfOff 4 (some .int) [(0, 9, 12, 21), (0, 9, 15, 13)]] [(7, 115)] (by decide +kernel) _ List.mem_cons_self), List.all_eq_true.mp (by decide +kernel : [Cond.codeWith yL_bestIfOff cL_bestIfOff 4 (some .int) [(0, 9, 12, 21), (0, 9, 15, 13)]].all goodWord = true) _ List.mem_cons_self⟩) rfl rfl rfl (by decide +kernel) ⟨Nat.le_of_ble_eq_true rfl, Nat.le_of_ble_eq_true rfl⟩) rfl hl.1 rfl (lv_room (Nat.le_of_ble_eq_true rfl)) dL_law_2041 ⟨by show _ ≤ 601024; omega, by show _ ≤ 7293034; omega⟩ ?_
  intro ad2 H locs had G
  rw [← had 0 h0T] at hl
  refine lv_istore (lv' := [(6, .int (vck 1 2 0 k1)), (5, .int (nI i)), (4, .ref ae), (3, .ref aj), (2, .ref (am 0)), (1, .ref (ad2 0)), (0, .ref b)]) hx hb dL_law_2044 hl (by decide) rfl (fun ls hl => ?_)
  refine lv_aload_n hx hb dL_law_2046 rfl (lv_at hl 4 rfl) ?_
  refine lv_aload_n hx hb dL_law_2047 rfl (lv_at hl 6 rfl) ?_
  refine lv_iload hx hb dL_law_2048 (lv_at hl 1 rfl) ?_
  refine lv_iconst (v := 1) hx hb dL_law_2050 (by decide) ?_
  refine lv_iadd hx hb dL_law_2051 ?_
  refine lv_to (y := nI (i + 1)) (nI_add i 1) ?_
  refine va_sld hx hb hX0 hbl (Nat.not_le.mpr hbl) G.2.2 (i := nI (i + 1)) (vp_in_nI (n := i + 1) (N := L) (by omega) (by omega)) dL_law_2052 ?_
  refine lv_to (y := xs (i + 1)) (congrArg xs (nI_clamp (by omega))) ?_
  obtain ⟨⟨r2, S1⟩, hf, hj⟩ := sj_bestIfOff Sm (xs (i + 1)) hJ
  have hJ1 : JJ S1 := hj
  refine y_mi (As := [.int (xs (i + 1))]) (rest := []) E G hA hX.2.2.2.2 hml (tr_bestIfOff l D cI cJ cZ am Sm (xs (i + 1)) hf) (cwV 1 hts (glM (L := [Cond.methodLink RL 371 yX12_bestIfOff, Cond.instanceMethod yX12_bestIfOff, Cond.selects RX12 yX12_bestIfOff yX12_bestIfOff, Cond.initialized RX12]) (gl_in [(10, 149), (10, 150), (10, 151), (1, 14)] (by decide +kernel) (by decide +kernel)) ⟨(t_of [Cond.code yX12_bestIfOff cX12_bestIfOff 2 (some .int)] [(10, 152)] (by decide +kernel) _ List.mem_cons_self), List.all_eq_true.mp (by decide +kernel : [Cond.code yX12_bestIfOff cX12_bestIfOff 2 (some .int)].all goodWord = true) _ List.mem_cons_self⟩) rfl rfl rfl (by decide +kernel) ⟨Nat.le_of_ble_eq_true rfl, Nat.le_of_ble_eq_true rfl⟩) rfl hl.1 rfl (lv_room (Nat.le_of_ble_eq_true rfl)) dL_law_2053 ⟨by show _ ≤ 601024; omega, by show _ ≤ 7293034; omega⟩ (fun H locs G => ?_)
  refine lv_istore (lv' := [(7, .int r2), (6, .int (vck 1 2 0 k1)), (5, .int (nI i)), (4, .ref ae), (3, .ref aj), (2, .ref (am 0)), (1, .ref (ad2 0)), (0, .ref b)]) hx hb dL_law_2056 hl (by decide) rfl (fun ls hl => ?_)
  refine lv_goto (tgt := 2446) hx hb dL_law_2058 (by decide) ?_
  have hl := lv_sub hl [2, 3, 4, 5, 6, 7] rfl
  refine W.widen (k := 19 + T1.1 + (j + 1)) (n := 38467 + sg T1 + 6 * (j + 1)) (by omega) (by omega) ?_
  exact kk ad2 (vfJ k1 f r1.toInt64) g H locs ls hg hf (had 0 h0T) hV1 hrc1 hJ1 G hl
set_option maxHeartbeats 4000000 in
set_option maxRecDepth 100000 in
theorem y_a53 {p : Program} {e : Env} {s : State} {m : MethodId} {below : List Frame} {meth : Method} {c : Code} (l : Launch) (hst : l.stackTraces = false) {b L : Nat} {xs : Nat → Int32} (hx : p.tables.exec = Jvm.exec) (hb : c.code = code) (hml : c.maxLocals = 9) (hown : s.vm.findClass RL = some m.cls) (hts : ∀ w ∈ lw_tbl, w.before #[Value.ref b] s = true) (hX0 : va_X b L xs s s.heap) (hbl : b < s.heap.size) (hX : xT (fun q => s.heap.size ≤ q) s) (hN : nC s) (hTS : sAll s.heap.size s) {D : va_G} {cI cJ cZ cMic cSrc cSt cAI cAJ cD : ClassId} (hK : va_K D vwCl (CT cI cJ cZ cMic cSrc cSt cAI cAJ ++ [(cD, .double)]) s) {Q : State → Prop} {i j : Nat} (hi : i + 6 ≤ L) (hL : L ≤ 3072) (hj : j < 512) {aj ae : Nat} {ad am : Nat → Nat} {T : AT} {Sm : MS} {f : Nat → Int64} {g : Nat → UInt64} {ls : Array Slot} {H : Heap} {locs : List Loc} (hV : IV aR0 1586 aK1 aK2 T) (hrc : RC T) (hJ : JJ Sm) (G : gL cI cJ cZ cMic cSrc cSt cAI cAJ D ad (fun q => s.heap.size ≤ q) s.heap H locs T (oJ aj cJ f :: oD ae cD g :: MW cI cJ cZ am Sm)) (hl : lv_has ls 9 [(5, .int (nI i)), (4, .ref ae), (3, .ref aj), (2, .ref (am 0)), (1, .ref (ad 0)), (0, .ref b)]) (kk : ∀ {k1 : Nat} {r1 : Int32} {T1 : AT} {r2 : Int32} {S1 : MS} (ad2 : Nat → Nat) (f1 : Nat → Int64) (g1 : Nat → UInt64) (H1 : Heap) (locs1 : List Loc) (ls1 : Array Slot), g_X11_mute T 0 (xs (i + 1)) (vnz (xs (i + 2))) = some (k1, r1, T1) → fr_mute Sm (xs (i + 1)) (vnz (xs (i + 2))) = some (r2, S1) → ad2 0 = ad 0 → IV aR0 1586 aK1 aK2 T1 → RC T1 → JJ S1 → gL cI cJ cZ cMic cSrc cSt cAI cAJ D ad2 (fun q => s.heap.size ≤ q) s.heap H1 locs1 T1 (oJ aj cJ f1 :: oD ae cD g1 :: MW cI cJ cZ am S1) → lv_has ls1 9 [(5, .int (nI i)), (4, .ref ae), (3, .ref aj), (2, .ref (am 0)), (1, .ref (ad2 0)), (0, .ref b)] → W p l e room_1 s m #[Value.ref b] below meth c H1 locs1 (19 + T1.1 + (j + 1)) (38467 + sg T1 + 6 * (j + 1)) Q (F0 m 2446 ls1 [])) : W p l e room_1 s m #[Value.ref b] below meth c H locs (19 + T.1 + j) (38467 + sg T + 6 * j) Q (F0 m 2061 ls []) := by
  have E : cE p c cL_law s m #[Value.ref b] lw_tbl D RL (CT cI cJ cZ cMic cSrc cSt cAI cAJ ++ [(cD, .double)]) := ⟨hx, hb, hts, hown, hK⟩
  have hA : ∀ q : Nat, s.heap.size ≤ q → s.heap.size ≤ q := fun _ h => h
  have h0T : 0 < T.1 := Nat.lt_of_lt_of_le (by decide) hV.1.2.2
  have h0s : T.2.1 0 = (11, 0) := hV.2.1 0 ⟨by decide, by decide +kernel, by decide +kernel⟩
  refine lv_aload_n hx hb dL_law_2061 rfl (lv_at hl 4 rfl) ?_
  refine lv_aload_n hx hb dL_law_2062 rfl (lv_at hl 5 rfl) ?_
  refine lv_iload hx hb dL_law_2063 (lv_at hl 0 rfl) ?_
  refine lv_iconst (v := 1) hx hb dL_law_2065 (by decide) ?_
  refine lv_iadd hx hb dL_law_2066 ?_
  refine lv_to (y := nI (i + 1)) (nI_add i 1) ?_
  refine va_sld hx hb hX0 hbl (Nat.not_le.mpr hbl) G.2.2 (i := nI (i + 1)) (vp_in_nI (n := i + 1) (N := L) (by omega) (by omega)) dL_law_2067 ?_
  refine lv_to (y := xs (i + 1)) (congrArg xs (nI_clamp (by omega))) ?_
  refine lv_aload_n hx hb dL_law_2068 rfl (lv_at hl 5 rfl) ?_
  refine lv_iload hx hb dL_law_2069 (lv_at hl 0 rfl) ?_
  refine lv_iconst (v := 2) hx hb dL_law_2071 (by decide) ?_
  refine lv_iadd hx hb dL_law_2072 ?_
  refine lv_to (y := nI (i + 2)) (nI_add i 2) ?_
  refine va_sld hx hb hX0 hbl (Nat.not_le.mpr hbl) G.2.2 (i := nI (i + 2)) (vp_in_nI (n := i + 2) (N := L) (by omega) (by omega)) dL_law_2073 ?_
  refine lv_to (y := xs (i + 2)) (congrArg xs (nI_clamp (by omega))) ?_
  have kb : W p l e room_1 s m #[Value.ref b] below meth c H locs (19 + T.1 + j) (38467 + sg T + 6 * j) Q (F0 m 2082 ls [.int (vnz (xs (i + 2))), .int (xs (i + 1)), .ref (ad 0)]) := by
    refine lv_aload_n hx hb dL_law_2082 rfl (lv_at hl 2 rfl) ?_
    obtain ⟨⟨k1, r1, T1⟩, hg, hc⟩ := cs_X11_mute T 0 (xs (i + 1)) (vnz (xs (i + 2))) hV (by decide +kernel) (vnz_r _)
    have hV1 : IV aR0 1586 aK1 aK2 T1 := hc.1.1
    have hg1 := s_X11_mute hg
    have hg2 := sg_le hg1
    have hg3 := hg1.1
    have hk := hV1.2.2.2.2.2.2
    have hrc1 := hg1.2.2 hrc
    have hr0 := a_room
    refine l_v (h0 := s.heap.size) (As := [.ref (ad 0), .int (xs (i + 1)), .int (vnz (xs (i + 2))), .ref aj]) (rest := []) E G hA hX hN (fun _ h => h) hTS hml (v_mute l hst D s.heap.size ad T 0 (xs (i + 1)) (vnz (xs (i + 2))) aj f hg hrc h0T h0s) (vx_cwSW 4 hts (glA (L := [Cond.methodLink RL 372 yL_mute, Cond.static yL_mute, Cond.initialized RL]) (gl_in [(7, 120), (7, 121), (1, 0)] (by decide +kernel) (by decide +kernel)) ⟨(t_of [Cond.codeWith yL_mute cL_mute 5 (some .int) [(0, 17, 20, 21), (0, 17, 24, 13)]] [(7, 122)] (by decide +kernel) _ List.mem_cons_self), List.all_eq_true.mp (by decide +kernel : [Cond.codeWith yL_mute cL_mute 5 (some .int) [(0, 17, 20, 21), (0, 17, 24, 13)]].all goodWord = true) _ List.mem_cons_self⟩) rfl rfl rfl (by decide +kernel) ⟨Nat.le_of_ble_eq_true rfl, Nat.le_of_ble_eq_true rfl⟩) rfl hl.1 rfl (lv_room (Nat.le_of_ble_eq_true rfl)) dL_law_2083 ⟨by show _ ≤ 601024; omega, by show _ ≤ 7293034; omega⟩ ?_
    intro ad2 H locs had G
    rw [← had 0 h0T] at hl
    refine lv_istore (lv' := [(6, .int (vck 1 2 0 k1)), (5, .int (nI i)), (4, .ref ae), (3, .ref aj), (2, .ref (am 0)), (1, .ref (ad2 0)), (0, .ref b)]) hx hb dL_law_2086 hl (by decide) rfl (fun ls hl => ?_)
    refine lv_aload_n hx hb dL_law_2088 rfl (lv_at hl 4 rfl) ?_
    refine lv_aload_n hx hb dL_law_2089 rfl (lv_at hl 6 rfl) ?_
    refine lv_iload hx hb dL_law_2090 (lv_at hl 1 rfl) ?_
    refine lv_iconst (v := 1) hx hb dL_law_2092 (by decide) ?_
    refine lv_iadd hx hb dL_law_2093 ?_
    refine lv_to (y := nI (i + 1)) (nI_add i 1) ?_
    refine va_sld hx hb hX0 hbl (Nat.not_le.mpr hbl) G.2.2 (i := nI (i + 1)) (vp_in_nI (n := i + 1) (N := L) (by omega) (by omega)) dL_law_2094 ?_
    refine lv_to (y := xs (i + 1)) (congrArg xs (nI_clamp (by omega))) ?_
    refine lv_aload_n hx hb dL_law_2095 rfl (lv_at hl 6 rfl) ?_
    refine lv_iload hx hb dL_law_2096 (lv_at hl 1 rfl) ?_
    refine lv_iconst (v := 2) hx hb dL_law_2098 (by decide) ?_
    refine lv_iadd hx hb dL_law_2099 ?_
    refine lv_to (y := nI (i + 2)) (nI_add i 2) ?_
    refine va_sld hx hb hX0 hbl (Nat.not_le.mpr hbl) G.2.2 (i := nI (i + 2)) (vp_in_nI (n := i + 2) (N := L) (by omega) (by omega)) dL_law_2100 ?_
    refine lv_to (y := xs (i + 2)) (congrArg xs (nI_clamp (by omega))) ?_
    have kb : W p l e room_1 s m #[Value.ref b] below meth c H locs (19 + T.1 + j + (T1.1 - T.1 + 1)) (38467 + sg T + 6 * j + (sg T1 - sg T + 6)) Q (F0 m 2109 ls [.int (vnz (xs (i + 2))), .int (xs (i + 1)), .ref (am 0)]) := by
      obtain ⟨⟨r2, S1⟩, hf, hj⟩ := sj_mute Sm (xs (i + 1)) (vnz (xs (i + 2))) hJ
      have hJ1 : JJ S1 := hj
      refine y_mi (As := [.int (xs (i + 1)), .int (vnz (xs (i + 2)))]) (rest := []) E G hA hX.2.2.2.2 hml (tr_mute l D cI cJ cZ am Sm (xs (i + 1)) (vnz (xs (i + 2))) hf) (cwV 2 hts (glM (L := [Cond.methodLink RL 375 yX12_mute, Cond.instanceMethod yX12_mute, Cond.selects RX12 yX12_mute yX12_mute, Cond.initialized RX12]) (gl_in [(10, 153), (10, 154), (10, 155), (1, 14)] (by decide +kernel) (by decide +kernel)) ⟨(t_of [Cond.code yX12_mute cX12_mute 3 (some .boolean)] [(10, 156)] (by decide +kernel) _ List.mem_cons_self), List.all_eq_true.mp (by decide +kernel : [Cond.code yX12_mute cX12_mute 3 (some .boolean)].all goodWord = true) _ List.mem_cons_self⟩) rfl rfl rfl (by decide +kernel) ⟨Nat.le_of_ble_eq_true rfl, Nat.le_of_ble_eq_true rfl⟩) rfl hl.1 rfl (lv_room (Nat.le_of_ble_eq_true rfl)) dL_law_2109 ⟨by show _ ≤ 601024; omega, by show _ ≤ 7293034; omega⟩ (fun H locs G => ?_)
      refine lv_istore (lv' := [(7, .int r2), (6, .int (vck 1 2 0 k1)), (5, .int (nI i)), (4, .ref ae), (3, .ref aj), (2, .ref (am 0)), (1, .ref (ad2 0)), (0, .ref b)]) hx hb dL_law_2112 hl (by decide) rfl (fun ls hl => ?_)
      refine lv_goto (tgt := 2446) hx hb dL_law_2114 (by decide) ?_
      have hl := lv_sub hl [2, 3, 4, 5, 6, 7] rfl
      refine W.widen (k := 19 + T1.1 + (j + 1)) (n := 38467 + sg T1 + 6 * (j + 1)) (by omega) (by omega) ?_
      exact kk ad2 (vfJ k1 f (vzb r1)) g H locs ls hg hf (had 0 h0T) hV1 hrc1 hJ1 G hl
    refine lv_if_eq (tgt := 2108) hx hb dL_law_2101 (by decide) (fun c1 => ?_) (fun c1 => ?_)
    · refine lv_iconst (v := 0) hx hb dL_law_2108 (by decide) ?_
      refine lv_to (y := vnz (xs (i + 2))) (if_pos c1).symm ?_
      exact kb
    · refine lv_iconst (v := 1) hx hb dL_law_2104 (by decide) ?_
      refine lv_to (y := vnz (xs (i + 2))) (if_neg c1).symm ?_
      refine lv_goto (tgt := 2109) hx hb dL_law_2105 (by decide) ?_
      exact kb
  refine lv_if_eq (tgt := 2081) hx hb dL_law_2074 (by decide) (fun c1 => ?_) (fun c1 => ?_)
  · refine lv_iconst (v := 0) hx hb dL_law_2081 (by decide) ?_
    refine lv_to (y := vnz (xs (i + 2))) (if_pos c1).symm ?_
    exact kb
  · refine lv_iconst (v := 1) hx hb dL_law_2077 (by decide) ?_
    refine lv_to (y := vnz (xs (i + 2))) (if_neg c1).symm ?_
    refine lv_goto (tgt := 2082) hx hb dL_law_2078 (by decide) ?_
    exact kb
set_option maxHeartbeats 4000000 in
set_option maxRecDepth 100000 in
theorem y_a54 {p : Program} {e : Env} {s : State} {m : MethodId} {below : List Frame} {meth : Method} {c : Code} (l : Launch) (hst : l.stackTraces = false) {b L : Nat} {xs : Nat → Int32} (hx : p.tables.exec = Jvm.exec) (hb : c.code = code) (hml : c.maxLocals = 9) (hown : s.vm.findClass RL = some m.cls) (hts : ∀ w ∈ lw_tbl, w.before #[Value.ref b] s = true) (hX0 : va_X b L xs s s.heap) (hbl : b < s.heap.size) (hX : xT (fun q => s.heap.size ≤ q) s) (hN : nC s) (hTS : sAll s.heap.size s) {D : va_G} {cI cJ cZ cMic cSrc cSt cAI cAJ cD : ClassId} (hK : va_K D vwCl (CT cI cJ cZ cMic cSrc cSt cAI cAJ ++ [(cD, .double)]) s) {Q : State → Prop} {i j : Nat} (hi : i + 6 ≤ L) (hL : L ≤ 3072) (hj : j < 512) {aj ae : Nat} {ad am : Nat → Nat} {T : AT} {Sm : MS} {f : Nat → Int64} {g : Nat → UInt64} {ls : Array Slot} {H : Heap} {locs : List Loc} (hV : IV aR0 1586 aK1 aK2 T) (hrc : RC T) (hJ : JJ Sm) (G : gL cI cJ cZ cMic cSrc cSt cAI cAJ D ad (fun q => s.heap.size ≤ q) s.heap H locs T (oJ aj cJ f :: oD ae cD g :: MW cI cJ cZ am Sm)) (hl : lv_has ls 9 [(5, .int (nI i)), (4, .ref ae), (3, .ref aj), (2, .ref (am 0)), (1, .ref (ad 0)), (0, .ref b)]) (kk : ∀ {k1 : Nat} {r1 : Int32} {T1 : AT} {r2 : Int32} {S1 : MS} (ad2 : Nat → Nat) (f1 : Nat → Int64) (g1 : Nat → UInt64) (H1 : Heap) (locs1 : List Loc) (ls1 : Array Slot), g_X11_setWeight T 0 (xs (i + 1)) (xs (i + 2)) = some (k1, r1, T1) → fr_setWeight Sm (xs (i + 1)) (xs (i + 2)) = some (r2, S1) → ad2 0 = ad 0 → IV aR0 1586 aK1 aK2 T1 → RC T1 → JJ S1 → gL cI cJ cZ cMic cSrc cSt cAI cAJ D ad2 (fun q => s.heap.size ≤ q) s.heap H1 locs1 T1 (oJ aj cJ f1 :: oD ae cD g1 :: MW cI cJ cZ am S1) → lv_has ls1 9 [(5, .int (nI i)), (4, .ref ae), (3, .ref aj), (2, .ref (am 0)), (1, .ref (ad2 0)), (0, .ref b)] → W p l e room_1 s m #[Value.ref b] below meth c H1 locs1 (19 + T1.1 + (j + 1)) (38467 + sg T1 + 6 * (j + 1)) Q (F0 m 2446 ls1 [])) : W p l e room_1 s m #[Value.ref b] below meth c H locs (19 + T.1 + j) (38467 + sg T + 6 * j) Q (F0 m 2117 ls []) := by
  have E : cE p c cL_law s m #[Value.ref b] lw_tbl D RL (CT cI cJ cZ cMic cSrc cSt cAI cAJ ++ [(cD, .double)]) := ⟨hx, hb, hts, hown, hK⟩
  have hA : ∀ q : Nat, s.heap.size ≤ q → s.heap.size ≤ q := fun _ h => h
  have h0T : 0 < T.1 := Nat.lt_of_lt_of_le (by decide) hV.1.2.2
  have h0s : T.2.1 0 = (11, 0) := hV.2.1 0 ⟨by decide, by decide +kernel, by decide +kernel⟩
  refine lv_aload_n hx hb dL_law_2117 rfl (lv_at hl 4 rfl) ?_
  refine lv_aload_n hx hb dL_law_2118 rfl (lv_at hl 5 rfl) ?_
  refine lv_iload hx hb dL_law_2119 (lv_at hl 0 rfl) ?_
  refine lv_iconst (v := 1) hx hb dL_law_2121 (by decide) ?_
  refine lv_iadd hx hb dL_law_2122 ?_
  refine lv_to (y := nI (i + 1)) (nI_add i 1) ?_
  refine va_sld hx hb hX0 hbl (Nat.not_le.mpr hbl) G.2.2 (i := nI (i + 1)) (vp_in_nI (n := i + 1) (N := L) (by omega) (by omega)) dL_law_2123 ?_
  refine lv_to (y := xs (i + 1)) (congrArg xs (nI_clamp (by omega))) ?_
  refine lv_aload_n hx hb dL_law_2124 rfl (lv_at hl 5 rfl) ?_
  refine lv_iload hx hb dL_law_2125 (lv_at hl 0 rfl) ?_
  refine lv_iconst (v := 2) hx hb dL_law_2127 (by decide) ?_
  refine lv_iadd hx hb dL_law_2128 ?_
  refine lv_to (y := nI (i + 2)) (nI_add i 2) ?_
  refine va_sld hx hb hX0 hbl (Nat.not_le.mpr hbl) G.2.2 (i := nI (i + 2)) (vp_in_nI (n := i + 2) (N := L) (by omega) (by omega)) dL_law_2129 ?_
  refine lv_to (y := xs (i + 2)) (congrArg xs (nI_clamp (by omega))) ?_
  refine lv_aload_n hx hb dL_law_2130 rfl (lv_at hl 2 rfl) ?_
  obtain ⟨⟨k1, r1, T1⟩, hg, hc⟩ := cs_X11_setWeight T 0 (xs (i + 1)) (xs (i + 2)) hV (by decide +kernel)
  have hV1 : IV aR0 1586 aK1 aK2 T1 := hc.1.1
  have hg1 := s_X11_setWeight hg
  have hg2 := sg_le hg1
  have hg3 := hg1.1
  have hk := hV1.2.2.2.2.2.2
  have hrc1 := hg1.2.2 hrc
  have hr0 := a_room
  refine l_v (h0 := s.heap.size) (As := [.ref (ad 0), .int (xs (i + 1)), .int (xs (i + 2)), .ref aj]) (rest := []) E G hA hX hN (fun _ h => h) hTS hml (v_setWeight l hst D s.heap.size ad T 0 (xs (i + 1)) (xs (i + 2)) aj f hg hrc h0T h0s) (vx_cwSW 4 hts (glA (L := [Cond.methodLink RL 376 yL_setWeight, Cond.static yL_setWeight, Cond.initialized RL]) (gl_in [(7, 131), (7, 132), (1, 0)] (by decide +kernel) (by decide +kernel)) ⟨(t_of [Cond.codeWith yL_setWeight cL_setWeight 5 (some .int) [(0, 10, 13, 21), (0, 10, 17, 13), (0, 10, 21, 15)]] [(7, 133)] (by decide +kernel) _ List.mem_cons_self), List.all_eq_true.mp (by decide +kernel : [Cond.codeWith yL_setWeight cL_setWeight 5 (some .int) [(0, 10, 13, 21), (0, 10, 17, 13), (0, 10, 21, 15)]].all goodWord = true) _ List.mem_cons_self⟩) rfl rfl rfl (by decide +kernel) ⟨Nat.le_of_ble_eq_true rfl, Nat.le_of_ble_eq_true rfl⟩) rfl hl.1 rfl (lv_room (Nat.le_of_ble_eq_true rfl)) dL_law_2131 ⟨by show _ ≤ 601024; omega, by show _ ≤ 7293034; omega⟩ ?_
  intro ad2 H locs had G
  rw [← had 0 h0T] at hl
  refine lv_istore (lv' := [(6, .int (vck 1 2 3 k1)), (5, .int (nI i)), (4, .ref ae), (3, .ref aj), (2, .ref (am 0)), (1, .ref (ad2 0)), (0, .ref b)]) hx hb dL_law_2134 hl (by decide) rfl (fun ls hl => ?_)
  refine lv_aload_n hx hb dL_law_2136 rfl (lv_at hl 4 rfl) ?_
  refine lv_aload_n hx hb dL_law_2137 rfl (lv_at hl 6 rfl) ?_
  refine lv_iload hx hb dL_law_2138 (lv_at hl 1 rfl) ?_
  refine lv_iconst (v := 1) hx hb dL_law_2140 (by decide) ?_
  refine lv_iadd hx hb dL_law_2141 ?_
  refine lv_to (y := nI (i + 1)) (nI_add i 1) ?_
  refine va_sld hx hb hX0 hbl (Nat.not_le.mpr hbl) G.2.2 (i := nI (i + 1)) (vp_in_nI (n := i + 1) (N := L) (by omega) (by omega)) dL_law_2142 ?_
  refine lv_to (y := xs (i + 1)) (congrArg xs (nI_clamp (by omega))) ?_
  refine lv_aload_n hx hb dL_law_2143 rfl (lv_at hl 6 rfl) ?_
  refine lv_iload hx hb dL_law_2144 (lv_at hl 1 rfl) ?_
  refine lv_iconst (v := 2) hx hb dL_law_2146 (by decide) ?_
  refine lv_iadd hx hb dL_law_2147 ?_
  refine lv_to (y := nI (i + 2)) (nI_add i 2) ?_
  refine va_sld hx hb hX0 hbl (Nat.not_le.mpr hbl) G.2.2 (i := nI (i + 2)) (vp_in_nI (n := i + 2) (N := L) (by omega) (by omega)) dL_law_2148 ?_
  refine lv_to (y := xs (i + 2)) (congrArg xs (nI_clamp (by omega))) ?_
  obtain ⟨⟨r2, S1⟩, hf, hj⟩ := sj_setWeight Sm (xs (i + 1)) (xs (i + 2)) hJ
  have hJ1 : JJ S1 := hj
  refine y_mi (As := [.int (xs (i + 1)), .int (xs (i + 2))]) (rest := []) E G hA hX.2.2.2.2 hml (tr_setWeight l D cI cJ cZ am Sm (xs (i + 1)) (xs (i + 2)) hf) (cwV 2 hts (glM (L := [Cond.methodLink RL 378 yX12_setWeight, Cond.instanceMethod yX12_setWeight, Cond.selects RX12 yX12_setWeight yX12_setWeight, Cond.initialized RX12]) (gl_in [(10, 165), (10, 166), (10, 167), (1, 14)] (by decide +kernel) (by decide +kernel)) ⟨(t_of [Cond.code yX12_setWeight cX12_setWeight 3 (some .int)] [(10, 168)] (by decide +kernel) _ List.mem_cons_self), List.all_eq_true.mp (by decide +kernel : [Cond.code yX12_setWeight cX12_setWeight 3 (some .int)].all goodWord = true) _ List.mem_cons_self⟩) rfl rfl rfl (by decide +kernel) ⟨Nat.le_of_ble_eq_true rfl, Nat.le_of_ble_eq_true rfl⟩) rfl hl.1 rfl (lv_room (Nat.le_of_ble_eq_true rfl)) dL_law_2149 ⟨by show _ ≤ 601024; omega, by show _ ≤ 7293034; omega⟩ (fun H locs G => ?_)
  refine lv_istore (lv' := [(7, .int r2), (6, .int (vck 1 2 3 k1)), (5, .int (nI i)), (4, .ref ae), (3, .ref aj), (2, .ref (am 0)), (1, .ref (ad2 0)), (0, .ref b)]) hx hb dL_law_2152 hl (by decide) rfl (fun ls hl => ?_)
  refine lv_goto (tgt := 2446) hx hb dL_law_2154 (by decide) ?_
  have hl := lv_sub hl [2, 3, 4, 5, 6, 7] rfl
  refine W.widen (k := 19 + T1.1 + (j + 1)) (n := 38467 + sg T1 + 6 * (j + 1)) (by omega) (by omega) ?_
  exact kk ad2 (vfJ k1 f r1.toInt64) g H locs ls hg hf (had 0 h0T) hV1 hrc1 hJ1 G hl
set_option maxHeartbeats 4000000 in
set_option maxRecDepth 100000 in
theorem y_a55 {p : Program} {e : Env} {s : State} {m : MethodId} {below : List Frame} {meth : Method} {c : Code} (l : Launch) (hst : l.stackTraces = false) {b L : Nat} {xs : Nat → Int32} (hx : p.tables.exec = Jvm.exec) (hb : c.code = code) (hml : c.maxLocals = 9) (hown : s.vm.findClass RL = some m.cls) (hts : ∀ w ∈ lw_tbl, w.before #[Value.ref b] s = true) (hX0 : va_X b L xs s s.heap) (hbl : b < s.heap.size) (hX : xT (fun q => s.heap.size ≤ q) s) (hN : nC s) (hTS : sAll s.heap.size s) {D : va_G} {cI cJ cZ cMic cSrc cSt cAI cAJ cD : ClassId} (hK : va_K D vwCl (CT cI cJ cZ cMic cSrc cSt cAI cAJ ++ [(cD, .double)]) s) {Q : State → Prop} {i j : Nat} (hi : i + 6 ≤ L) (hL : L ≤ 3072) (hj : j < 512) {aj ae : Nat} {ad am : Nat → Nat} {T : AT} {Sm : MS} {f : Nat → Int64} {g : Nat → UInt64} {ls : Array Slot} {H : Heap} {locs : List Loc} (hV : IV aR0 1586 aK1 aK2 T) (hrc : RC T) (hJ : JJ Sm) (G : gL cI cJ cZ cMic cSrc cSt cAI cAJ D ad (fun q => s.heap.size ≤ q) s.heap H locs T (oJ aj cJ f :: oD ae cD g :: MW cI cJ cZ am Sm)) (hl : lv_has ls 9 [(5, .int (nI i)), (4, .ref ae), (3, .ref aj), (2, .ref (am 0)), (1, .ref (ad 0)), (0, .ref b)]) (kk : ∀ {k1 : Nat} {r1 : Int32} {T1 : AT} {r2 : Int32} {S1 : MS} (ad2 : Nat → Nat) (f1 : Nat → Int64) (g1 : Nat → UInt64) (H1 : Heap) (locs1 : List Loc) (ls1 : Array Slot), g_X11_setOn T 0 (xs (i + 1)) (vnz (xs (i + 2))) = some (k1, r1, T1) → fr_setOn Sm (xs (i + 1)) (vnz (xs (i + 2))) = some (r2, S1) → ad2 0 = ad 0 → IV aR0 1586 aK1 aK2 T1 → RC T1 → JJ S1 → gL cI cJ cZ cMic cSrc cSt cAI cAJ D ad2 (fun q => s.heap.size ≤ q) s.heap H1 locs1 T1 (oJ aj cJ f1 :: oD ae cD g1 :: MW cI cJ cZ am S1) → lv_has ls1 9 [(5, .int (nI i)), (4, .ref ae), (3, .ref aj), (2, .ref (am 0)), (1, .ref (ad2 0)), (0, .ref b)] → W p l e room_1 s m #[Value.ref b] below meth c H1 locs1 (19 + T1.1 + (j + 1)) (38467 + sg T1 + 6 * (j + 1)) Q (F0 m 2446 ls1 [])) : W p l e room_1 s m #[Value.ref b] below meth c H locs (19 + T.1 + j) (38467 + sg T + 6 * j) Q (F0 m 2157 ls []) := by
  have E : cE p c cL_law s m #[Value.ref b] lw_tbl D RL (CT cI cJ cZ cMic cSrc cSt cAI cAJ ++ [(cD, .double)]) := ⟨hx, hb, hts, hown, hK⟩
  have hA : ∀ q : Nat, s.heap.size ≤ q → s.heap.size ≤ q := fun _ h => h
  have h0T : 0 < T.1 := Nat.lt_of_lt_of_le (by decide) hV.1.2.2
  have h0s : T.2.1 0 = (11, 0) := hV.2.1 0 ⟨by decide, by decide +kernel, by decide +kernel⟩
  refine lv_aload_n hx hb dL_law_2157 rfl (lv_at hl 4 rfl) ?_
  refine lv_aload_n hx hb dL_law_2158 rfl (lv_at hl 5 rfl) ?_
  refine lv_iload hx hb dL_law_2159 (lv_at hl 0 rfl) ?_
  refine lv_iconst (v := 1) hx hb dL_law_2161 (by decide) ?_
  refine lv_iadd hx hb dL_law_2162 ?_
  refine lv_to (y := nI (i + 1)) (nI_add i 1) ?_
  refine va_sld hx hb hX0 hbl (Nat.not_le.mpr hbl) G.2.2 (i := nI (i + 1)) (vp_in_nI (n := i + 1) (N := L) (by omega) (by omega)) dL_law_2163 ?_
  refine lv_to (y := xs (i + 1)) (congrArg xs (nI_clamp (by omega))) ?_
  refine lv_aload_n hx hb dL_law_2164 rfl (lv_at hl 5 rfl) ?_
  refine lv_iload hx hb dL_law_2165 (lv_at hl 0 rfl) ?_
  refine lv_iconst (v := 2) hx hb dL_law_2167 (by decide) ?_
  refine lv_iadd hx hb dL_law_2168 ?_
  refine lv_to (y := nI (i + 2)) (nI_add i 2) ?_
  refine va_sld hx hb hX0 hbl (Nat.not_le.mpr hbl) G.2.2 (i := nI (i + 2)) (vp_in_nI (n := i + 2) (N := L) (by omega) (by omega)) dL_law_2169 ?_
  refine lv_to (y := xs (i + 2)) (congrArg xs (nI_clamp (by omega))) ?_
  have kb : W p l e room_1 s m #[Value.ref b] below meth c H locs (19 + T.1 + j) (38467 + sg T + 6 * j) Q (F0 m 2178 ls [.int (vnz (xs (i + 2))), .int (xs (i + 1)), .ref (ad 0)]) := by
    refine lv_aload_n hx hb dL_law_2178 rfl (lv_at hl 2 rfl) ?_
    obtain ⟨⟨k1, r1, T1⟩, hg, hc⟩ := cs_X11_setOn T 0 (xs (i + 1)) (vnz (xs (i + 2))) hV (by decide +kernel) (vnz_r _)
    have hV1 : IV aR0 1586 aK1 aK2 T1 := hc.1.1
    have hg1 := s_X11_setOn hg
    have hg2 := sg_le hg1
    have hg3 := hg1.1
    have hk := hV1.2.2.2.2.2.2
    have hrc1 := hg1.2.2 hrc
    have hr0 := a_room
    refine l_v (h0 := s.heap.size) (As := [.ref (ad 0), .int (xs (i + 1)), .int (vnz (xs (i + 2))), .ref aj]) (rest := []) E G hA hX hN (fun _ h => h) hTS hml (v_setOn l hst D s.heap.size ad T 0 (xs (i + 1)) (vnz (xs (i + 2))) aj f hg hrc h0T h0s) (vx_cwSW 4 hts (glA (L := [Cond.methodLink RL 379 yL_setOn, Cond.static yL_setOn, Cond.initialized RL]) (gl_in [(7, 138), (7, 139), (1, 0)] (by decide +kernel) (by decide +kernel)) ⟨(t_of [Cond.codeWith yL_setOn cL_setOn 5 (some .int) [(0, 17, 20, 21), (0, 17, 24, 13)]] [(7, 140)] (by decide +kernel) _ List.mem_cons_self), List.all_eq_true.mp (by decide +kernel : [Cond.codeWith yL_setOn cL_setOn 5 (some .int) [(0, 17, 20, 21), (0, 17, 24, 13)]].all goodWord = true) _ List.mem_cons_self⟩) rfl rfl rfl (by decide +kernel) ⟨Nat.le_of_ble_eq_true rfl, Nat.le_of_ble_eq_true rfl⟩) rfl hl.1 rfl (lv_room (Nat.le_of_ble_eq_true rfl)) dL_law_2179 ⟨by show _ ≤ 601024; omega, by show _ ≤ 7293034; omega⟩ ?_
    intro ad2 H locs had G
    rw [← had 0 h0T] at hl
    refine lv_istore (lv' := [(6, .int (vck 1 2 0 k1)), (5, .int (nI i)), (4, .ref ae), (3, .ref aj), (2, .ref (am 0)), (1, .ref (ad2 0)), (0, .ref b)]) hx hb dL_law_2182 hl (by decide) rfl (fun ls hl => ?_)
    refine lv_aload_n hx hb dL_law_2184 rfl (lv_at hl 4 rfl) ?_
    refine lv_aload_n hx hb dL_law_2185 rfl (lv_at hl 6 rfl) ?_
    refine lv_iload hx hb dL_law_2186 (lv_at hl 1 rfl) ?_
    refine lv_iconst (v := 1) hx hb dL_law_2188 (by decide) ?_
    refine lv_iadd hx hb dL_law_2189 ?_
    refine lv_to (y := nI (i + 1)) (nI_add i 1) ?_
    refine va_sld hx hb hX0 hbl (Nat.not_le.mpr hbl) G.2.2 (i := nI (i + 1)) (vp_in_nI (n := i + 1) (N := L) (by omega) (by omega)) dL_law_2190 ?_
    refine lv_to (y := xs (i + 1)) (congrArg xs (nI_clamp (by omega))) ?_
    refine lv_aload_n hx hb dL_law_2191 rfl (lv_at hl 6 rfl) ?_
    refine lv_iload hx hb dL_law_2192 (lv_at hl 1 rfl) ?_
    refine lv_iconst (v := 2) hx hb dL_law_2194 (by decide) ?_
    refine lv_iadd hx hb dL_law_2195 ?_
    refine lv_to (y := nI (i + 2)) (nI_add i 2) ?_
    refine va_sld hx hb hX0 hbl (Nat.not_le.mpr hbl) G.2.2 (i := nI (i + 2)) (vp_in_nI (n := i + 2) (N := L) (by omega) (by omega)) dL_law_2196 ?_
    refine lv_to (y := xs (i + 2)) (congrArg xs (nI_clamp (by omega))) ?_
    have kb : W p l e room_1 s m #[Value.ref b] below meth c H locs (19 + T.1 + j + (T1.1 - T.1 + 1)) (38467 + sg T + 6 * j + (sg T1 - sg T + 6)) Q (F0 m 2205 ls [.int (vnz (xs (i + 2))), .int (xs (i + 1)), .ref (am 0)]) := by
      obtain ⟨⟨r2, S1⟩, hf, hj⟩ := sj_setOn Sm (xs (i + 1)) (vnz (xs (i + 2))) hJ
      have hJ1 : JJ S1 := hj
      refine y_mi (As := [.int (xs (i + 1)), .int (vnz (xs (i + 2)))]) (rest := []) E G hA hX.2.2.2.2 hml (tr_setOn l D cI cJ cZ am Sm (xs (i + 1)) (vnz (xs (i + 2))) hf) (cwV 2 hts (glM (L := [Cond.methodLink RL 381 yX12_setOn, Cond.instanceMethod yX12_setOn, Cond.selects RX12 yX12_setOn yX12_setOn, Cond.initialized RX12]) (gl_in [(10, 169), (10, 170), (10, 171), (1, 14)] (by decide +kernel) (by decide +kernel)) ⟨(t_of [Cond.code yX12_setOn cX12_setOn 4 (some .boolean)] [(10, 172)] (by decide +kernel) _ List.mem_cons_self), List.all_eq_true.mp (by decide +kernel : [Cond.code yX12_setOn cX12_setOn 4 (some .boolean)].all goodWord = true) _ List.mem_cons_self⟩) rfl rfl rfl (by decide +kernel) ⟨Nat.le_of_ble_eq_true rfl, Nat.le_of_ble_eq_true rfl⟩) rfl hl.1 rfl (lv_room (Nat.le_of_ble_eq_true rfl)) dL_law_2205 ⟨by show _ ≤ 601024; omega, by show _ ≤ 7293034; omega⟩ (fun H locs G => ?_)
      refine lv_istore (lv' := [(7, .int r2), (6, .int (vck 1 2 0 k1)), (5, .int (nI i)), (4, .ref ae), (3, .ref aj), (2, .ref (am 0)), (1, .ref (ad2 0)), (0, .ref b)]) hx hb dL_law_2208 hl (by decide) rfl (fun ls hl => ?_)
      refine lv_goto (tgt := 2446) hx hb dL_law_2210 (by decide) ?_
      have hl := lv_sub hl [2, 3, 4, 5, 6, 7] rfl
      refine W.widen (k := 19 + T1.1 + (j + 1)) (n := 38467 + sg T1 + 6 * (j + 1)) (by omega) (by omega) ?_
      exact kk ad2 (vfJ k1 f (vzb r1)) g H locs ls hg hf (had 0 h0T) hV1 hrc1 hJ1 G hl
    refine lv_if_eq (tgt := 2204) hx hb dL_law_2197 (by decide) (fun c1 => ?_) (fun c1 => ?_)
    · refine lv_iconst (v := 0) hx hb dL_law_2204 (by decide) ?_
      refine lv_to (y := vnz (xs (i + 2))) (if_pos c1).symm ?_
      exact kb
    · refine lv_iconst (v := 1) hx hb dL_law_2200 (by decide) ?_
      refine lv_to (y := vnz (xs (i + 2))) (if_neg c1).symm ?_
      refine lv_goto (tgt := 2205) hx hb dL_law_2201 (by decide) ?_
      exact kb
  refine lv_if_eq (tgt := 2177) hx hb dL_law_2170 (by decide) (fun c1 => ?_) (fun c1 => ?_)
  · refine lv_iconst (v := 0) hx hb dL_law_2177 (by decide) ?_
    refine lv_to (y := vnz (xs (i + 2))) (if_pos c1).symm ?_
    exact kb
  · refine lv_iconst (v := 1) hx hb dL_law_2173 (by decide) ?_
    refine lv_to (y := vnz (xs (i + 2))) (if_neg c1).symm ?_
    refine lv_goto (tgt := 2178) hx hb dL_law_2174 (by decide) ?_
    exact kb
