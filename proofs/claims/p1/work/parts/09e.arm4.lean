theorem dL_law_1825 : decode cL_law 1825 = .ok (.aload_n 1, 1) := by decide +kernel
theorem dL_law_1826 : decode cL_law 1826 = .ok (.aload_n 0, 1) := by decide +kernel
theorem dL_law_1827 : decode cL_law 1827 = .ok (.iload 5, 2) := by decide +kernel
theorem dL_law_1829 : decode cL_law 1829 = .ok (.iconst 1, 1) := by decide +kernel
theorem dL_law_1830 : decode cL_law 1830 = .ok (.iadd, 1) := by decide +kernel
theorem dL_law_1831 : decode cL_law 1831 = .ok (.iaload, 1) := by decide +kernel
theorem dL_law_1832 : decode cL_law 1832 = .ok (.aload_n 3, 1) := by decide +kernel
theorem dL_law_1833 : decode cL_law 1833 = .ok (.invokestatic 305, 3) := by decide +kernel
theorem dL_law_1836 : decode cL_law 1836 = .ok (.istore 6, 2) := by decide +kernel
theorem dL_law_1838 : decode cL_law 1838 = .ok (.aload_n 2, 1) := by decide +kernel
theorem dL_law_1839 : decode cL_law 1839 = .ok (.aload_n 0, 1) := by decide +kernel
theorem dL_law_1840 : decode cL_law 1840 = .ok (.iload 5, 2) := by decide +kernel
theorem dL_law_1842 : decode cL_law 1842 = .ok (.iconst 1, 1) := by decide +kernel
theorem dL_law_1843 : decode cL_law 1843 = .ok (.iadd, 1) := by decide +kernel
theorem dL_law_1844 : decode cL_law 1844 = .ok (.iaload, 1) := by decide +kernel
theorem dL_law_1845 : decode cL_law 1845 = .ok (.invokevirtual 307, 3) := by decide +kernel
theorem dL_law_1848 : decode cL_law 1848 = .ok (.istore 7, 2) := by decide +kernel
theorem dL_law_1850 : decode cL_law 1850 = .ok (.aload_n 2, 1) := by decide +kernel
theorem dL_law_1851 : decode cL_law 1851 = .ok (.invokevirtual 204, 3) := by decide +kernel
theorem dL_law_1854 : decode cL_law 1854 = .ok (.iload 6, 2) := by decide +kernel
theorem dL_law_1856 : decode cL_law 1856 = .ok (.if_icmp .eq 5, 3) := by decide +kernel
theorem dL_law_1861 : decode cL_law 1861 = .ok (.iload 6, 2) := by decide +kernel
theorem dL_law_1863 : decode cL_law 1863 = .ok (.ifCond .ne 15, 3) := by decide +kernel
theorem dL_law_1878 : decode cL_law 1878 = .ok (.goto 2097, 3) := by decide +kernel
theorem dL_law_1881 : decode cL_law 1881 = .ok (.aload_n 1, 1) := by decide +kernel
theorem dL_law_1882 : decode cL_law 1882 = .ok (.aload 4, 2) := by decide +kernel
theorem dL_law_1884 : decode cL_law 1884 = .ok (.invokestatic 308, 3) := by decide +kernel
theorem dL_law_1887 : decode cL_law 1887 = .ok (.istore 6, 2) := by decide +kernel
theorem dL_law_1889 : decode cL_law 1889 = .ok (.aload_n 2, 1) := by decide +kernel
theorem dL_law_1890 : decode cL_law 1890 = .ok (.invokevirtual 311, 3) := by decide +kernel
theorem dL_law_1893 : decode cL_law 1893 = .ok (.fstore 7, 2) := by decide +kernel
theorem dL_law_1895 : decode cL_law 1895 = .ok (.aload_n 2, 1) := by decide +kernel
theorem dL_law_1896 : decode cL_law 1896 = .ok (.invokevirtual 204, 3) := by decide +kernel
theorem dL_law_1899 : decode cL_law 1899 = .ok (.iload 6, 2) := by decide +kernel
theorem dL_law_1901 : decode cL_law 1901 = .ok (.if_icmp .eq 5, 3) := by decide +kernel
theorem dL_law_1906 : decode cL_law 1906 = .ok (.iload 6, 2) := by decide +kernel
theorem dL_law_1908 : decode cL_law 1908 = .ok (.ifCond .ne 36, 3) := by decide +kernel
theorem dL_law_1944 : decode cL_law 1944 = .ok (.goto 2031, 3) := by decide +kernel
theorem dL_law_1947 : decode cL_law 1947 = .ok (.aload_n 1, 1) := by decide +kernel
theorem dL_law_1948 : decode cL_law 1948 = .ok (.aload_n 0, 1) := by decide +kernel
theorem dL_law_1949 : decode cL_law 1949 = .ok (.iload 5, 2) := by decide +kernel
theorem dL_law_1951 : decode cL_law 1951 = .ok (.iconst 1, 1) := by decide +kernel
theorem dL_law_1952 : decode cL_law 1952 = .ok (.iadd, 1) := by decide +kernel
theorem dL_law_1953 : decode cL_law 1953 = .ok (.iaload, 1) := by decide +kernel
theorem dL_law_1954 : decode cL_law 1954 = .ok (.aload_n 0, 1) := by decide +kernel
theorem dL_law_1955 : decode cL_law 1955 = .ok (.iload 5, 2) := by decide +kernel
theorem dL_law_1957 : decode cL_law 1957 = .ok (.iconst 2, 1) := by decide +kernel
theorem dL_law_1958 : decode cL_law 1958 = .ok (.iadd, 1) := by decide +kernel
theorem dL_law_1959 : decode cL_law 1959 = .ok (.iaload, 1) := by decide +kernel
theorem dL_law_1960 : decode cL_law 1960 = .ok (.aload_n 0, 1) := by decide +kernel
theorem dL_law_1961 : decode cL_law 1961 = .ok (.iload 5, 2) := by decide +kernel
theorem dL_law_1963 : decode cL_law 1963 = .ok (.iconst 3, 1) := by decide +kernel
theorem dL_law_1964 : decode cL_law 1964 = .ok (.iadd, 1) := by decide +kernel
theorem dL_law_1965 : decode cL_law 1965 = .ok (.iaload, 1) := by decide +kernel
theorem dL_law_1966 : decode cL_law 1966 = .ok (.aload_n 3, 1) := by decide +kernel
theorem dL_law_1967 : decode cL_law 1967 = .ok (.invokestatic 312, 3) := by decide +kernel
theorem dL_law_1970 : decode cL_law 1970 = .ok (.istore 6, 2) := by decide +kernel
theorem dL_law_1972 : decode cL_law 1972 = .ok (.aload_n 2, 1) := by decide +kernel
theorem dL_law_1973 : decode cL_law 1973 = .ok (.aload_n 0, 1) := by decide +kernel
theorem dL_law_1974 : decode cL_law 1974 = .ok (.iload 5, 2) := by decide +kernel
theorem dL_law_1976 : decode cL_law 1976 = .ok (.iconst 1, 1) := by decide +kernel
theorem dL_law_1977 : decode cL_law 1977 = .ok (.iadd, 1) := by decide +kernel
theorem dL_law_1978 : decode cL_law 1978 = .ok (.iaload, 1) := by decide +kernel
theorem dL_law_1979 : decode cL_law 1979 = .ok (.aload_n 0, 1) := by decide +kernel
theorem dL_law_1980 : decode cL_law 1980 = .ok (.iload 5, 2) := by decide +kernel
theorem dL_law_1982 : decode cL_law 1982 = .ok (.iconst 2, 1) := by decide +kernel
theorem dL_law_1983 : decode cL_law 1983 = .ok (.iadd, 1) := by decide +kernel
theorem dL_law_1984 : decode cL_law 1984 = .ok (.iaload, 1) := by decide +kernel
theorem dL_law_1985 : decode cL_law 1985 = .ok (.aload_n 0, 1) := by decide +kernel
theorem dL_law_1986 : decode cL_law 1986 = .ok (.iload 5, 2) := by decide +kernel
theorem dL_law_1988 : decode cL_law 1988 = .ok (.iconst 3, 1) := by decide +kernel
theorem dL_law_1989 : decode cL_law 1989 = .ok (.iadd, 1) := by decide +kernel
theorem dL_law_1990 : decode cL_law 1990 = .ok (.iaload, 1) := by decide +kernel
theorem dL_law_1991 : decode cL_law 1991 = .ok (.invokevirtual 314, 3) := by decide +kernel
theorem dL_law_1994 : decode cL_law 1994 = .ok (.istore 7, 2) := by decide +kernel
theorem dL_law_1996 : decode cL_law 1996 = .ok (.aload_n 2, 1) := by decide +kernel
theorem dL_law_1997 : decode cL_law 1997 = .ok (.invokevirtual 204, 3) := by decide +kernel
theorem dL_law_2000 : decode cL_law 2000 = .ok (.iload 6, 2) := by decide +kernel
theorem dL_law_2002 : decode cL_law 2002 = .ok (.if_icmp .eq 5, 3) := by decide +kernel
theorem dL_law_2007 : decode cL_law 2007 = .ok (.iload 6, 2) := by decide +kernel
theorem dL_law_2009 : decode cL_law 2009 = .ok (.ifCond .ne 15, 3) := by decide +kernel
theorem dL_law_2024 : decode cL_law 2024 = .ok (.goto 1951, 3) := by decide +kernel
theorem dL_law_2027 : decode cL_law 2027 = .ok (.aload_n 1, 1) := by decide +kernel
theorem dL_law_2028 : decode cL_law 2028 = .ok (.aload_n 0, 1) := by decide +kernel
theorem dL_law_2029 : decode cL_law 2029 = .ok (.iload 5, 2) := by decide +kernel
theorem dL_law_2031 : decode cL_law 2031 = .ok (.iconst 1, 1) := by decide +kernel
theorem dL_law_2032 : decode cL_law 2032 = .ok (.iadd, 1) := by decide +kernel
theorem dL_law_2033 : decode cL_law 2033 = .ok (.iaload, 1) := by decide +kernel
theorem dL_law_2034 : decode cL_law 2034 = .ok (.aload_n 0, 1) := by decide +kernel
theorem dL_law_2035 : decode cL_law 2035 = .ok (.iload 5, 2) := by decide +kernel
theorem dL_law_2037 : decode cL_law 2037 = .ok (.iconst 2, 1) := by decide +kernel
theorem dL_law_2038 : decode cL_law 2038 = .ok (.iadd, 1) := by decide +kernel
theorem dL_law_2039 : decode cL_law 2039 = .ok (.iaload, 1) := by decide +kernel
theorem dL_law_2040 : decode cL_law 2040 = .ok (.aload_n 0, 1) := by decide +kernel
theorem dL_law_2041 : decode cL_law 2041 = .ok (.iload 5, 2) := by decide +kernel
theorem dL_law_2043 : decode cL_law 2043 = .ok (.iconst 3, 1) := by decide +kernel
theorem dL_law_2044 : decode cL_law 2044 = .ok (.iadd, 1) := by decide +kernel
theorem dL_law_2045 : decode cL_law 2045 = .ok (.iaload, 1) := by decide +kernel
theorem dL_law_2046 : decode cL_law 2046 = .ok (.aload_n 3, 1) := by decide +kernel
theorem dL_law_2047 : decode cL_law 2047 = .ok (.invokestatic 315, 3) := by decide +kernel
theorem dL_law_2050 : decode cL_law 2050 = .ok (.istore 6, 2) := by decide +kernel
theorem dL_law_2052 : decode cL_law 2052 = .ok (.aload_n 2, 1) := by decide +kernel
theorem dL_law_2053 : decode cL_law 2053 = .ok (.aload_n 0, 1) := by decide +kernel
theorem dL_law_2054 : decode cL_law 2054 = .ok (.iload 5, 2) := by decide +kernel
theorem dL_law_2056 : decode cL_law 2056 = .ok (.iconst 1, 1) := by decide +kernel
theorem dL_law_2057 : decode cL_law 2057 = .ok (.iadd, 1) := by decide +kernel
theorem dL_law_2058 : decode cL_law 2058 = .ok (.iaload, 1) := by decide +kernel
theorem dL_law_2059 : decode cL_law 2059 = .ok (.aload_n 0, 1) := by decide +kernel
theorem dL_law_2060 : decode cL_law 2060 = .ok (.iload 5, 2) := by decide +kernel
theorem dL_law_2062 : decode cL_law 2062 = .ok (.iconst 2, 1) := by decide +kernel
theorem dL_law_2063 : decode cL_law 2063 = .ok (.iadd, 1) := by decide +kernel
theorem dL_law_2064 : decode cL_law 2064 = .ok (.iaload, 1) := by decide +kernel
theorem dL_law_2065 : decode cL_law 2065 = .ok (.aload_n 0, 1) := by decide +kernel
theorem dL_law_2066 : decode cL_law 2066 = .ok (.iload 5, 2) := by decide +kernel
theorem dL_law_2068 : decode cL_law 2068 = .ok (.iconst 3, 1) := by decide +kernel
theorem dL_law_2069 : decode cL_law 2069 = .ok (.iadd, 1) := by decide +kernel
theorem dL_law_2070 : decode cL_law 2070 = .ok (.iaload, 1) := by decide +kernel
theorem dL_law_2071 : decode cL_law 2071 = .ok (.invokevirtual 317, 3) := by decide +kernel
theorem dL_law_2074 : decode cL_law 2074 = .ok (.istore 7, 2) := by decide +kernel
theorem dL_law_2076 : decode cL_law 2076 = .ok (.aload_n 2, 1) := by decide +kernel
theorem dL_law_2077 : decode cL_law 2077 = .ok (.invokevirtual 204, 3) := by decide +kernel
theorem dL_law_2080 : decode cL_law 2080 = .ok (.iload 6, 2) := by decide +kernel
theorem dL_law_2082 : decode cL_law 2082 = .ok (.if_icmp .eq 5, 3) := by decide +kernel
theorem dL_law_2087 : decode cL_law 2087 = .ok (.iload 6, 2) := by decide +kernel
theorem dL_law_2089 : decode cL_law 2089 = .ok (.ifCond .ne 22, 3) := by decide +kernel
theorem dL_law_2111 : decode cL_law 2111 = .ok (.goto 1864, 3) := by decide +kernel
theorem dL_law_2114 : decode cL_law 2114 = .ok (.aload_n 1, 1) := by decide +kernel
theorem dL_law_2115 : decode cL_law 2115 = .ok (.aload_n 0, 1) := by decide +kernel
theorem dL_law_2116 : decode cL_law 2116 = .ok (.iload 5, 2) := by decide +kernel
theorem dL_law_2118 : decode cL_law 2118 = .ok (.iconst 1, 1) := by decide +kernel
theorem dL_law_2119 : decode cL_law 2119 = .ok (.iadd, 1) := by decide +kernel
theorem dL_law_2120 : decode cL_law 2120 = .ok (.iaload, 1) := by decide +kernel
theorem dL_law_2121 : decode cL_law 2121 = .ok (.aload_n 0, 1) := by decide +kernel
theorem dL_law_2122 : decode cL_law 2122 = .ok (.iload 5, 2) := by decide +kernel
theorem dL_law_2124 : decode cL_law 2124 = .ok (.iconst 2, 1) := by decide +kernel
theorem dL_law_2125 : decode cL_law 2125 = .ok (.iadd, 1) := by decide +kernel
theorem dL_law_2126 : decode cL_law 2126 = .ok (.iaload, 1) := by decide +kernel
theorem dL_law_2127 : decode cL_law 2127 = .ok (.aload_n 3, 1) := by decide +kernel
theorem dL_law_2128 : decode cL_law 2128 = .ok (.invokestatic 318, 3) := by decide +kernel
theorem dL_law_2131 : decode cL_law 2131 = .ok (.istore 6, 2) := by decide +kernel
theorem dL_law_2133 : decode cL_law 2133 = .ok (.aload_n 2, 1) := by decide +kernel
theorem dL_law_2134 : decode cL_law 2134 = .ok (.aload_n 0, 1) := by decide +kernel
theorem dL_law_2135 : decode cL_law 2135 = .ok (.iload 5, 2) := by decide +kernel
theorem dL_law_2137 : decode cL_law 2137 = .ok (.iconst 1, 1) := by decide +kernel
theorem dL_law_2138 : decode cL_law 2138 = .ok (.iadd, 1) := by decide +kernel
theorem dL_law_2139 : decode cL_law 2139 = .ok (.iaload, 1) := by decide +kernel
theorem dL_law_2140 : decode cL_law 2140 = .ok (.aload_n 0, 1) := by decide +kernel
theorem dL_law_2141 : decode cL_law 2141 = .ok (.iload 5, 2) := by decide +kernel
theorem dL_law_2143 : decode cL_law 2143 = .ok (.iconst 2, 1) := by decide +kernel
theorem dL_law_2144 : decode cL_law 2144 = .ok (.iadd, 1) := by decide +kernel
theorem dL_law_2145 : decode cL_law 2145 = .ok (.iaload, 1) := by decide +kernel
theorem dL_law_2146 : decode cL_law 2146 = .ok (.invokevirtual 320, 3) := by decide +kernel
theorem dL_law_2149 : decode cL_law 2149 = .ok (.istore 7, 2) := by decide +kernel
theorem dL_law_2151 : decode cL_law 2151 = .ok (.aload_n 2, 1) := by decide +kernel
theorem dL_law_2152 : decode cL_law 2152 = .ok (.invokevirtual 204, 3) := by decide +kernel
theorem dL_law_2155 : decode cL_law 2155 = .ok (.iload 6, 2) := by decide +kernel
theorem dL_law_2157 : decode cL_law 2157 = .ok (.if_icmp .eq 5, 3) := by decide +kernel
theorem dL_law_2162 : decode cL_law 2162 = .ok (.iload 6, 2) := by decide +kernel
theorem dL_law_2164 : decode cL_law 2164 = .ok (.ifCond .ne 15, 3) := by decide +kernel
theorem dL_law_2179 : decode cL_law 2179 = .ok (.goto 1796, 3) := by decide +kernel
theorem dL_law_2182 : decode cL_law 2182 = .ok (.aload_n 1, 1) := by decide +kernel
theorem dL_law_2183 : decode cL_law 2183 = .ok (.aload_n 0, 1) := by decide +kernel
theorem dL_law_2184 : decode cL_law 2184 = .ok (.iload 5, 2) := by decide +kernel
theorem dL_law_2186 : decode cL_law 2186 = .ok (.iconst 1, 1) := by decide +kernel
theorem dL_law_2187 : decode cL_law 2187 = .ok (.iadd, 1) := by decide +kernel
theorem dL_law_2188 : decode cL_law 2188 = .ok (.iaload, 1) := by decide +kernel
theorem dL_law_2189 : decode cL_law 2189 = .ok (.aload_n 0, 1) := by decide +kernel
theorem dL_law_2190 : decode cL_law 2190 = .ok (.iload 5, 2) := by decide +kernel
theorem dL_law_2192 : decode cL_law 2192 = .ok (.iconst 2, 1) := by decide +kernel
theorem dL_law_2193 : decode cL_law 2193 = .ok (.iadd, 1) := by decide +kernel
theorem dL_law_2194 : decode cL_law 2194 = .ok (.iaload, 1) := by decide +kernel
theorem dL_law_2195 : decode cL_law 2195 = .ok (.aload_n 0, 1) := by decide +kernel
theorem dL_law_2196 : decode cL_law 2196 = .ok (.iload 5, 2) := by decide +kernel
theorem dL_law_2198 : decode cL_law 2198 = .ok (.iconst 3, 1) := by decide +kernel
theorem dL_law_2199 : decode cL_law 2199 = .ok (.iadd, 1) := by decide +kernel
theorem dL_law_2200 : decode cL_law 2200 = .ok (.iaload, 1) := by decide +kernel
theorem dL_law_2201 : decode cL_law 2201 = .ok (.aload_n 3, 1) := by decide +kernel
theorem dL_law_2202 : decode cL_law 2202 = .ok (.invokestatic 321, 3) := by decide +kernel
theorem dL_law_2205 : decode cL_law 2205 = .ok (.istore 6, 2) := by decide +kernel
theorem dL_law_2207 : decode cL_law 2207 = .ok (.aload_n 2, 1) := by decide +kernel
theorem dL_law_2208 : decode cL_law 2208 = .ok (.aload_n 0, 1) := by decide +kernel
theorem dL_law_2209 : decode cL_law 2209 = .ok (.iload 5, 2) := by decide +kernel
theorem dL_law_2211 : decode cL_law 2211 = .ok (.iconst 1, 1) := by decide +kernel
theorem dL_law_2212 : decode cL_law 2212 = .ok (.iadd, 1) := by decide +kernel
theorem dL_law_2213 : decode cL_law 2213 = .ok (.iaload, 1) := by decide +kernel
theorem dL_law_2214 : decode cL_law 2214 = .ok (.aload_n 0, 1) := by decide +kernel
theorem dL_law_2215 : decode cL_law 2215 = .ok (.iload 5, 2) := by decide +kernel
theorem dL_law_2217 : decode cL_law 2217 = .ok (.iconst 2, 1) := by decide +kernel
theorem dL_law_2218 : decode cL_law 2218 = .ok (.iadd, 1) := by decide +kernel
theorem dL_law_2219 : decode cL_law 2219 = .ok (.iaload, 1) := by decide +kernel
theorem dL_law_2220 : decode cL_law 2220 = .ok (.aload_n 0, 1) := by decide +kernel
theorem dL_law_2221 : decode cL_law 2221 = .ok (.iload 5, 2) := by decide +kernel
theorem dL_law_2223 : decode cL_law 2223 = .ok (.iconst 3, 1) := by decide +kernel
theorem dL_law_2224 : decode cL_law 2224 = .ok (.iadd, 1) := by decide +kernel
theorem dL_law_2225 : decode cL_law 2225 = .ok (.iaload, 1) := by decide +kernel
theorem dL_law_2226 : decode cL_law 2226 = .ok (.invokevirtual 323, 3) := by decide +kernel
theorem dL_law_2229 : decode cL_law 2229 = .ok (.lstore 7, 2) := by decide +kernel
theorem dL_law_2231 : decode cL_law 2231 = .ok (.aload_n 2, 1) := by decide +kernel
theorem dL_law_2232 : decode cL_law 2232 = .ok (.invokevirtual 204, 3) := by decide +kernel
theorem dL_law_2235 : decode cL_law 2235 = .ok (.iload 6, 2) := by decide +kernel
theorem dL_law_2237 : decode cL_law 2237 = .ok (.if_icmp .eq 5, 3) := by decide +kernel
theorem dL_law_2242 : decode cL_law 2242 = .ok (.iload 6, 2) := by decide +kernel
theorem dL_law_2244 : decode cL_law 2244 = .ok (.ifCond .ne 14, 3) := by decide +kernel
theorem dL_law_2258 : decode cL_law 2258 = .ok (.goto 1717, 3) := by decide +kernel
theorem dL_law_2261 : decode cL_law 2261 = .ok (.aload_n 1, 1) := by decide +kernel
theorem dL_law_2262 : decode cL_law 2262 = .ok (.aload_n 0, 1) := by decide +kernel
theorem dL_law_2263 : decode cL_law 2263 = .ok (.iload 5, 2) := by decide +kernel
theorem dL_law_2265 : decode cL_law 2265 = .ok (.iconst 1, 1) := by decide +kernel
theorem dL_law_2266 : decode cL_law 2266 = .ok (.iadd, 1) := by decide +kernel
theorem dL_law_2267 : decode cL_law 2267 = .ok (.iaload, 1) := by decide +kernel
theorem dL_law_2268 : decode cL_law 2268 = .ok (.aload_n 0, 1) := by decide +kernel
theorem dL_law_2269 : decode cL_law 2269 = .ok (.iload 5, 2) := by decide +kernel
theorem dL_law_2271 : decode cL_law 2271 = .ok (.iconst 2, 1) := by decide +kernel
theorem dL_law_2272 : decode cL_law 2272 = .ok (.iadd, 1) := by decide +kernel
theorem dL_law_2273 : decode cL_law 2273 = .ok (.iaload, 1) := by decide +kernel
theorem dL_law_2274 : decode cL_law 2274 = .ok (.aload_n 3, 1) := by decide +kernel
theorem dL_law_2275 : decode cL_law 2275 = .ok (.invokestatic 324, 3) := by decide +kernel
theorem dL_law_2278 : decode cL_law 2278 = .ok (.istore 6, 2) := by decide +kernel
theorem dL_law_2280 : decode cL_law 2280 = .ok (.aload_n 2, 1) := by decide +kernel
theorem dL_law_2281 : decode cL_law 2281 = .ok (.aload_n 0, 1) := by decide +kernel
theorem dL_law_2282 : decode cL_law 2282 = .ok (.iload 5, 2) := by decide +kernel
theorem dL_law_2284 : decode cL_law 2284 = .ok (.iconst 1, 1) := by decide +kernel
theorem dL_law_2285 : decode cL_law 2285 = .ok (.iadd, 1) := by decide +kernel
theorem dL_law_2286 : decode cL_law 2286 = .ok (.iaload, 1) := by decide +kernel
theorem dL_law_2287 : decode cL_law 2287 = .ok (.aload_n 0, 1) := by decide +kernel
theorem dL_law_2288 : decode cL_law 2288 = .ok (.iload 5, 2) := by decide +kernel
theorem dL_law_2290 : decode cL_law 2290 = .ok (.iconst 2, 1) := by decide +kernel
theorem dL_law_2291 : decode cL_law 2291 = .ok (.iadd, 1) := by decide +kernel
theorem dL_law_2292 : decode cL_law 2292 = .ok (.iaload, 1) := by decide +kernel
theorem dL_law_2293 : decode cL_law 2293 = .ok (.invokevirtual 326, 3) := by decide +kernel
theorem dL_law_2296 : decode cL_law 2296 = .ok (.istore 7, 2) := by decide +kernel
theorem dL_law_2298 : decode cL_law 2298 = .ok (.aload_n 2, 1) := by decide +kernel
theorem dL_law_2299 : decode cL_law 2299 = .ok (.invokevirtual 204, 3) := by decide +kernel
theorem dL_law_2302 : decode cL_law 2302 = .ok (.iload 6, 2) := by decide +kernel
theorem dL_law_2304 : decode cL_law 2304 = .ok (.if_icmp .eq 5, 3) := by decide +kernel
theorem dL_law_2309 : decode cL_law 2309 = .ok (.iload 6, 2) := by decide +kernel
theorem dL_law_2311 : decode cL_law 2311 = .ok (.ifCond .ne 15, 3) := by decide +kernel
theorem dL_law_2326 : decode cL_law 2326 = .ok (.goto 1649, 3) := by decide +kernel
theorem dL_law_2329 : decode cL_law 2329 = .ok (.aload_n 1, 1) := by decide +kernel
theorem dL_law_2330 : decode cL_law 2330 = .ok (.aload_n 0, 1) := by decide +kernel
theorem dL_law_2331 : decode cL_law 2331 = .ok (.iload 5, 2) := by decide +kernel
theorem dL_law_2333 : decode cL_law 2333 = .ok (.iconst 1, 1) := by decide +kernel
theorem dL_law_2334 : decode cL_law 2334 = .ok (.iadd, 1) := by decide +kernel
theorem dL_law_2335 : decode cL_law 2335 = .ok (.iaload, 1) := by decide +kernel
theorem dL_law_2336 : decode cL_law 2336 = .ok (.aload_n 3, 1) := by decide +kernel
theorem dL_law_2337 : decode cL_law 2337 = .ok (.invokestatic 327, 3) := by decide +kernel
theorem dL_law_2340 : decode cL_law 2340 = .ok (.istore 6, 2) := by decide +kernel
theorem dL_law_2342 : decode cL_law 2342 = .ok (.aload_n 2, 1) := by decide +kernel
theorem dL_law_2343 : decode cL_law 2343 = .ok (.aload_n 0, 1) := by decide +kernel
theorem dL_law_2344 : decode cL_law 2344 = .ok (.iload 5, 2) := by decide +kernel
theorem dL_law_2346 : decode cL_law 2346 = .ok (.iconst 1, 1) := by decide +kernel
theorem dL_law_2347 : decode cL_law 2347 = .ok (.iadd, 1) := by decide +kernel
theorem dL_law_2348 : decode cL_law 2348 = .ok (.iaload, 1) := by decide +kernel
theorem dL_law_2349 : decode cL_law 2349 = .ok (.invokevirtual 329, 3) := by decide +kernel
theorem dL_law_2352 : decode cL_law 2352 = .ok (.istore 7, 2) := by decide +kernel
theorem dL_law_2354 : decode cL_law 2354 = .ok (.aload_n 2, 1) := by decide +kernel
theorem dL_law_2355 : decode cL_law 2355 = .ok (.invokevirtual 204, 3) := by decide +kernel
theorem dL_law_2358 : decode cL_law 2358 = .ok (.iload 6, 2) := by decide +kernel
theorem dL_law_2360 : decode cL_law 2360 = .ok (.if_icmp .eq 5, 3) := by decide +kernel
theorem dL_law_2365 : decode cL_law 2365 = .ok (.iload 6, 2) := by decide +kernel
theorem dL_law_2367 : decode cL_law 2367 = .ok (.ifCond .ne 15, 3) := by decide +kernel
theorem dL_law_2382 : decode cL_law 2382 = .ok (.goto 1593, 3) := by decide +kernel
set_option maxHeartbeats 4000000 in
set_option maxRecDepth 100000 in
theorem p_a31 {p : Program} {e : Env} {s : State} {m : MethodId} {below : List Frame} {meth : Method} {c : Code} (l : Launch) (hst : l.stackTraces = false) {b : Nat} {xs : Nat → Int32} (hx : p.tables.exec = Jvm.exec) (hb : c.code = code) (hr : meth.sig.returnType = ret) (hml : c.maxLocals = 9) (hown : s.vm.findClass RL = some m.cls) (hts : ∀ w ∈ lw_tbl, w.before #[Value.ref b] s = true) (hlocks : meth.locks = false) (hX0 : va_X b 6 xs s s.heap) (hbl : b < s.heap.size) (hX : xT (fun q => s.heap.size ≤ q) s) (hN1 : va_Nc xIAE xIOB s) (hN2 : va_Nc xISE xIOB s) {D : va_G} {cI cJ cZ cMic cSrc cSt cAI cAJ cD : ClassId} {ad am : Nat → Nat} {N : Nat} {S : Nat → va_E} {ls : Array Slot} {H : Heap} {locs : List Loc} (hK : va_K D vwCl (CT cI cJ cZ cMic cSrc cSt cAI cAJ ++ [(cD, .double)]) s) (hN : 1586 ≤ N) (F : FR cI cJ cZ cMic cSrc cSt cAI cAJ ad S) (G : lG D ad N cI cJ cZ am (fun q => s.heap.size ≤ q) s.heap H locs S mS0) (hl : lv_has ls 9 [(5, .int 0), (4, .ref (am 99)), (3, .ref (am 98)), (2, .ref (am 0)), (1, .ref (ad 0)), (0, .ref b)]) : W p l e room_1 s m #[Value.ref b] below meth c H locs 1605 82603 (lw_Z below #[Value.ref b] s) (F0 m 1825 ls []) := by
  obtain ⟨hS0, hS1, hS2, hS3, hS4, hS5, hS6, hS432, hS478, hS480, hS656, hS658⟩ := F
  have E : cE p c cL_law s m #[Value.ref b] lw_tbl D RL (CT cI cJ cZ cMic cSrc cSt cAI cAJ ++ [(cD, .double)]) := ⟨hx, hb, hts, hown, hK⟩
  have hKm : va_K D vwCl (MT cI cJ cZ) s := hK.sub [0, 1, 2] rfl
  have hKb : ∀ t : State, s.vm.Alike t.vm → va_K D vwCl (CT cI cJ cZ cMic cSrc cSt cAI cAJ ++ [(cD, .double)]) t := fun t h => va_K.moved h hK
  have hA : ∀ q : Nat, s.heap.size ≤ q → s.heap.size ≤ q := fun _ h => h
  refine lv_aload_n hx hb dL_law_1825 rfl (lv_at hl 4 rfl) ?_
  refine lv_aload_n hx hb dL_law_1826 rfl (lv_at hl 5 rfl) ?_
  refine lv_iload hx hb dL_law_1827 (lv_at hl 0 rfl) ?_
  refine lv_iconst (v := 1) hx hb dL_law_1829 (by decide) ?_
  refine lv_iadd hx hb dL_law_1830 ?_
  refine lv_to (y := 1) (by decide +kernel) ?_
  refine va_sld hx hb hX0 hbl (Nat.not_le.mpr hbl) G.2.2 (i := 1) (vp_in_nI (n := 1) (N := 6) (by decide) (by decide)) dL_law_1831 ?_
  refine lv_to (y := xs 1) (congrArg xs (by decide)) ?_
  refine lv_aload_n hx hb dL_law_1832 rfl (lv_at hl 2 rfl) ?_
  refine l_w (As := [.ref (ad 0), .int (xs 1), .ref (am 98)]) (rest := []) E G hA hX hN1 hN2 (fun _ _ h _ _ k => va_Nc.moved h k) rfl hml (w_zoneBest l hst D _ ad N S (sc := 478) (Nat.lt_of_lt_of_le (by decide) hN) hS0 rfl (Nat.lt_of_lt_of_le (by decide) hN) hS478 rfl (xs 1) (am 98)) (vx_cwSW 3 hts (glA (L := [Cond.methodLink RL 305 yL_zoneBest, Cond.static yL_zoneBest, Cond.initialized RL]) (gl_in [(6, 89), (6, 90), (1, 0)] (by decide +kernel) (by decide +kernel)) ⟨(t_of [Cond.codeWith yL_zoneBest cL_zoneBest 4 (some .int) [(0, 9, 12, 21), (0, 9, 15, 13)]] [(6, 91)] (by decide +kernel) _ List.mem_cons_self), List.all_eq_true.mp (by decide +kernel : [Cond.codeWith yL_zoneBest cL_zoneBest 4 (some .int) [(0, 9, 12, 21), (0, 9, 15, 13)]].all goodWord = true) _ List.mem_cons_self⟩) rfl rfl rfl (by decide +kernel) ⟨Nat.le_of_ble_eq_true rfl, Nat.le_of_ble_eq_true rfl⟩) rfl hl.1 rfl (lv_room (Nat.le_of_ble_eq_true rfl)) dL_law_1833 ⟨Nat.le_of_ble_eq_true rfl, Nat.le_of_ble_eq_true rfl⟩ (fun r S1 H locs hq G => ?_)
  obtain ⟨hq1, hq2⟩ := hq
  rw [hq2] at G
  refine lv_to (y := 1) hq1 ?_
  refine lv_istore (lv' := [(6, .int 1), (5, .int 0), (4, .ref (am 99)), (3, .ref (am 98)), (2, .ref (am 0)), (1, .ref (ad 0)), (0, .ref b)]) hx hb dL_law_1836 hl (by decide) rfl (fun ls hl => ?_)
  refine lv_aload_n hx hb dL_law_1838 rfl (lv_at hl 4 rfl) ?_
  refine lv_aload_n hx hb dL_law_1839 rfl (lv_at hl 6 rfl) ?_
  refine lv_iload hx hb dL_law_1840 (lv_at hl 1 rfl) ?_
  refine lv_iconst (v := 1) hx hb dL_law_1842 (by decide) ?_
  refine lv_iadd hx hb dL_law_1843 ?_
  refine lv_to (y := 1) (by decide +kernel) ?_
  refine va_sld hx hb hX0 hbl (Nat.not_le.mpr hbl) G.2.2 (i := 1) (vp_in_nI (n := 1) (N := 6) (by decide) (by decide)) dL_law_1844 ?_
  refine lv_to (y := xs 1) (congrArg xs (by decide)) ?_
  refine l_mi (As := [.int (xs 1)]) (rest := []) E G hA hKm hKb hX.2.2.2.2 hml (n_zoneBest l D cI cJ cZ am mS0 (xs 1) rfl (fun _ => rfl)) (cwV 1 hts (glM (L := [Cond.methodLink RL 307 yX12_zoneBest, Cond.instanceMethod yX12_zoneBest, Cond.selects RX12 yX12_zoneBest yX12_zoneBest, Cond.initialized RX12]) (gl_in [(10, 81), (10, 82), (10, 83), (1, 14)] (by decide +kernel) (by decide +kernel)) ⟨(t_of [Cond.code yX12_zoneBest cX12_zoneBest 4 (some .int)] [(10, 84)] (by decide +kernel) _ List.mem_cons_self), List.all_eq_true.mp (by decide +kernel : [Cond.code yX12_zoneBest cX12_zoneBest 4 (some .int)].all goodWord = true) _ List.mem_cons_self⟩) rfl rfl rfl (by decide +kernel) ⟨Nat.le_of_ble_eq_true rfl, Nat.le_of_ble_eq_true rfl⟩) rfl hl.1 rfl (lv_room (Nat.le_of_ble_eq_true rfl)) dL_law_1845 ⟨Nat.le_of_ble_eq_true rfl, Nat.le_of_ble_eq_true rfl⟩ (fun r1 S1 H locs hq G => ?_)
  obtain ⟨hq1, hq2⟩ := hq
  rw [hq2] at G
  refine lv_to (y := 0) hq1 ?_
  refine lv_istore (lv' := [(7, .int 0), (6, .int 1), (5, .int 0), (4, .ref (am 99)), (3, .ref (am 98)), (2, .ref (am 0)), (1, .ref (ad 0)), (0, .ref b)]) hx hb dL_law_1848 hl (by decide) rfl (fun ls hl => ?_)
  refine lv_aload_n hx hb dL_law_1850 rfl (lv_at hl 5 rfl) ?_
  refine l_mi (As := []) (rest := []) E G hA hKm hKb hX.2.2.2.2 hml (m_thrown l D cI cJ cZ am (mi mS0 0 1)) (cwV 0 hts (glM (L := [Cond.methodLink RL 204 yX12_thrown, Cond.instanceMethod yX12_thrown, Cond.selects RX12 yX12_thrown yX12_thrown, Cond.initialized RX12]) (gl_in [(8, 65), (8, 66), (8, 67), (1, 14)] (by decide +kernel) (by decide +kernel)) ⟨(t_of [Cond.code yX12_thrown cX12_thrown 1 (some .int)] [(8, 68)] (by decide +kernel) _ List.mem_cons_self), List.all_eq_true.mp (by decide +kernel : [Cond.code yX12_thrown cX12_thrown 1 (some .int)].all goodWord = true) _ List.mem_cons_self⟩) rfl rfl rfl (by decide +kernel) ⟨Nat.le_of_ble_eq_true rfl, Nat.le_of_ble_eq_true rfl⟩) rfl hl.1 rfl (lv_room (Nat.le_of_ble_eq_true rfl)) dL_law_1851 ⟨Nat.le_of_ble_eq_true rfl, Nat.le_of_ble_eq_true rfl⟩ (fun r2 S1 H locs hq G => ?_)
  obtain ⟨hq1, hq2⟩ := hq
  rw [hq2] at G
  refine lv_to (y := 1) hq1 ?_
  refine lv_iload hx hb dL_law_1854 (lv_at hl 1 rfl) ?_
  refine lv_icmp_eq (tgt := 1861) hx hb dL_law_1856 (by decide) (fun c3 => ?_) (fun c3 => absurd (by decide +kernel) c3)
  refine lv_iload hx hb dL_law_1861 (lv_at hl 1 rfl) ?_
  refine lv_if_ne (tgt := 1878) hx hb dL_law_1863 (by decide) (fun c4 => ?_) (fun c4 => absurd c4 (by decide +kernel))
  refine lv_goto (tgt := 3975) hx hb dL_law_1878 (by decide) ?_
  refine lv_iinc (v := 6) (lv' := [(5, .int 6), (7, .int 0), (6, .int 1), (4, .ref (am 99)), (3, .ref (am 98)), (2, .ref (am 0)), (1, .ref (ad 0)), (0, .ref b)]) hx hb dL_law_3975 hl (k := 2) rfl (by decide +kernel) (by decide) rfl (fun ls hl => ?_)
  refine lv_goto (tgt := 28) hx hb dL_law_3978 (by decide) ?_
  refine lv_iload hx hb dL_law_28 (lv_at hl 0 rfl) ?_
  refine lv_aload_n hx hb dL_law_30 rfl (lv_at hl 7 rfl) ?_
  refine va_slen hx hb hX0 hbl (Nat.not_le.mpr hbl) G.2.2 dL_law_31 ?_
  refine lv_to (y := 6) (by decide) ?_
  refine lv_bipush (v := 6) hx hb dL_law_32 (by decide) ?_
  refine lv_isub hx hb dL_law_34 ?_
  refine lv_to (y := 0) (by decide +kernel) ?_
  refine lv_icmp_gt (tgt := 3981) hx hb dL_law_35 (by decide) (fun c5 => ?_) (fun c5 => absurd (by decide +kernel) c5)
  refine lv_iconst (v := 1) hx hb dL_law_3981 (by decide) ?_
  refine va_forget G.2.2.2.2 ?_
  refine W.widen (k := 600002) (n := 7302232) (Nat.le_of_ble_eq_true rfl) (Nat.le_of_ble_eq_true rfl) ?_
  exact lw_ret (d0 := s.drawn) (Drawn.sameBut.refl s.drawn lw_cs) hx hb hr hlocks dL_law_3982
set_option maxHeartbeats 4000000 in
set_option maxRecDepth 100000 in
theorem p_a32 {p : Program} {e : Env} {s : State} {m : MethodId} {below : List Frame} {meth : Method} {c : Code} (l : Launch) (hst : l.stackTraces = false) {b : Nat} {xs : Nat → Int32} (hx : p.tables.exec = Jvm.exec) (hb : c.code = code) (hr : meth.sig.returnType = ret) (hml : c.maxLocals = 9) (hown : s.vm.findClass RL = some m.cls) (hts : ∀ w ∈ lw_tbl, w.before #[Value.ref b] s = true) (hlocks : meth.locks = false) (hX0 : va_X b 6 xs s s.heap) (hbl : b < s.heap.size) (hX : xT (fun q => s.heap.size ≤ q) s) (hN1 : va_Nc xIAE xIOB s) (hN2 : va_Nc xISE xIOB s) {D : va_G} {cI cJ cZ cMic cSrc cSt cAI cAJ cD : ClassId} {ad am : Nat → Nat} {N : Nat} {S : Nat → va_E} {ls : Array Slot} {H : Heap} {locs : List Loc} (hK : va_K D vwCl (CT cI cJ cZ cMic cSrc cSt cAI cAJ ++ [(cD, .double)]) s) (hN : 1586 ≤ N) (F : FR cI cJ cZ cMic cSrc cSt cAI cAJ ad S) (G : lG D ad N cI cJ cZ am (fun q => s.heap.size ≤ q) s.heap H locs S mS0) (hl : lv_has ls 9 [(5, .int 0), (4, .ref (am 99)), (3, .ref (am 98)), (2, .ref (am 0)), (1, .ref (ad 0)), (0, .ref b)]) : W p l e room_1 s m #[Value.ref b] below meth c H locs 1605 82603 (lw_Z below #[Value.ref b] s) (F0 m 1881 ls []) := by
  obtain ⟨hS0, hS1, hS2, hS3, hS4, hS5, hS6, hS432, hS478, hS480, hS656, hS658⟩ := F
  have E : cE p c cL_law s m #[Value.ref b] lw_tbl D RL (CT cI cJ cZ cMic cSrc cSt cAI cAJ ++ [(cD, .double)]) := ⟨hx, hb, hts, hown, hK⟩
  have hKm : va_K D vwCl (MT cI cJ cZ) s := hK.sub [0, 1, 2] rfl
  have hKb : ∀ t : State, s.vm.Alike t.vm → va_K D vwCl (CT cI cJ cZ cMic cSrc cSt cAI cAJ ++ [(cD, .double)]) t := fun t h => va_K.moved h hK
  have hA : ∀ q : Nat, s.heap.size ≤ q → s.heap.size ≤ q := fun _ h => h
  refine lv_aload_n hx hb dL_law_1881 rfl (lv_at hl 4 rfl) ?_
  refine lv_aload hx hb dL_law_1882 (lv_at hl 1 rfl) ?_
  refine l_w (As := [.ref (ad 0), .ref (am 99)]) (rest := []) E G hA hX hN1 hN2 (fun _ _ h _ _ k => va_Nc.moved h k) rfl hml (w_contrast l hst D _ ad N S (sc := 478) (Nat.lt_of_lt_of_le (by decide) hN) hS0 rfl (Nat.lt_of_lt_of_le (by decide) hN) hS478 rfl (am 99)) (vx_cwSW 2 hts (glA (L := [Cond.methodLink RL 308 yL_contrast, Cond.static yL_contrast, Cond.initialized RL]) (gl_in [(6, 97), (6, 98), (1, 0)] (by decide +kernel) (by decide +kernel)) ⟨(t_of [Cond.codeWith yL_contrast cL_contrast 3 (some .int) [(0, 8, 11, 21)]] [(6, 99)] (by decide +kernel) _ List.mem_cons_self), List.all_eq_true.mp (by decide +kernel : [Cond.codeWith yL_contrast cL_contrast 3 (some .int) [(0, 8, 11, 21)]].all goodWord = true) _ List.mem_cons_self⟩) rfl rfl rfl (by decide +kernel) ⟨Nat.le_of_ble_eq_true rfl, Nat.le_of_ble_eq_true rfl⟩) rfl hl.1 rfl (lv_room (Nat.le_of_ble_eq_true rfl)) dL_law_1884 ⟨Nat.le_of_ble_eq_true rfl, Nat.le_of_ble_eq_true rfl⟩ (fun r S1 H locs hq G => ?_)
  obtain ⟨hq1, hq2⟩ := hq
  rw [hq2] at G
  refine lv_to (y := 1) hq1 ?_
  refine lv_istore (lv' := [(6, .int 1), (5, .int 0), (4, .ref (am 99)), (3, .ref (am 98)), (2, .ref (am 0)), (1, .ref (ad 0)), (0, .ref b)]) hx hb dL_law_1887 hl (by decide) rfl (fun ls hl => ?_)
  refine lv_aload_n hx hb dL_law_1889 rfl (lv_at hl 4 rfl) ?_
  refine l_mf (As := []) (rest := []) E G hA hKm hKb hX.2.2.2.2 hml (n_contrast l D cI cJ cZ am mS0 rfl) (cwV 0 hts (glM (L := [Cond.methodLink RL 311 yX12_contrast, Cond.instanceMethod yX12_contrast, Cond.selects RX12 yX12_contrast yX12_contrast, Cond.initialized RX12]) (gl_in [(9, 220), (9, 221), (9, 222), (1, 14)] (by decide +kernel) (by decide +kernel)) ⟨(t_of [Cond.code yX12_contrast cX12_contrast 5 (some .float)] [(9, 223)] (by decide +kernel) _ List.mem_cons_self), List.all_eq_true.mp (by decide +kernel : [Cond.code yX12_contrast cX12_contrast 5 (some .float)].all goodWord = true) _ List.mem_cons_self⟩) rfl rfl rfl (by decide +kernel) ⟨Nat.le_of_ble_eq_true rfl, Nat.le_of_ble_eq_true rfl⟩) rfl hl.1 rfl (lv_room (Nat.le_of_ble_eq_true rfl)) dL_law_1890 ⟨Nat.le_of_ble_eq_true rfl, Nat.le_of_ble_eq_true rfl⟩ (fun r1 S1 H locs hq G => ?_)
  obtain ⟨hq1, hq2⟩ := hq
  rw [hq2] at G
  refine lv_fstore (lv' := [(7, .float r1), (6, .int 1), (5, .int 0), (4, .ref (am 99)), (3, .ref (am 98)), (2, .ref (am 0)), (1, .ref (ad 0)), (0, .ref b)]) hx hb dL_law_1893 hl (by decide) rfl (fun ls hl => ?_)
  refine lv_aload_n hx hb dL_law_1895 rfl (lv_at hl 5 rfl) ?_
  refine l_mi (As := []) (rest := []) E G hA hKm hKb hX.2.2.2.2 hml (m_thrown l D cI cJ cZ am (mi mS0 0 1)) (cwV 0 hts (glM (L := [Cond.methodLink RL 204 yX12_thrown, Cond.instanceMethod yX12_thrown, Cond.selects RX12 yX12_thrown yX12_thrown, Cond.initialized RX12]) (gl_in [(8, 65), (8, 66), (8, 67), (1, 14)] (by decide +kernel) (by decide +kernel)) ⟨(t_of [Cond.code yX12_thrown cX12_thrown 1 (some .int)] [(8, 68)] (by decide +kernel) _ List.mem_cons_self), List.all_eq_true.mp (by decide +kernel : [Cond.code yX12_thrown cX12_thrown 1 (some .int)].all goodWord = true) _ List.mem_cons_self⟩) rfl rfl rfl (by decide +kernel) ⟨Nat.le_of_ble_eq_true rfl, Nat.le_of_ble_eq_true rfl⟩) rfl hl.1 rfl (lv_room (Nat.le_of_ble_eq_true rfl)) dL_law_1896 ⟨Nat.le_of_ble_eq_true rfl, Nat.le_of_ble_eq_true rfl⟩ (fun r2 S1 H locs hq G => ?_)
  obtain ⟨hq1, hq2⟩ := hq
  rw [hq2] at G
  refine lv_to (y := 1) hq1 ?_
  refine lv_iload hx hb dL_law_1899 (lv_at hl 1 rfl) ?_
  refine lv_icmp_eq (tgt := 1906) hx hb dL_law_1901 (by decide) (fun c3 => ?_) (fun c3 => absurd (by decide +kernel) c3)
  refine lv_iload hx hb dL_law_1906 (lv_at hl 1 rfl) ?_
  refine lv_if_ne (tgt := 1944) hx hb dL_law_1908 (by decide) (fun c4 => ?_) (fun c4 => absurd c4 (by decide +kernel))
  refine lv_goto (tgt := 3975) hx hb dL_law_1944 (by decide) ?_
  refine lv_iinc (v := 6) (lv' := [(5, .int 6), (7, .float r1), (6, .int 1), (4, .ref (am 99)), (3, .ref (am 98)), (2, .ref (am 0)), (1, .ref (ad 0)), (0, .ref b)]) hx hb dL_law_3975 hl (k := 2) rfl (by decide +kernel) (by decide) rfl (fun ls hl => ?_)
  refine lv_goto (tgt := 28) hx hb dL_law_3978 (by decide) ?_
  refine lv_iload hx hb dL_law_28 (lv_at hl 0 rfl) ?_
  refine lv_aload_n hx hb dL_law_30 rfl (lv_at hl 7 rfl) ?_
  refine va_slen hx hb hX0 hbl (Nat.not_le.mpr hbl) G.2.2 dL_law_31 ?_
  refine lv_to (y := 6) (by decide) ?_
  refine lv_bipush (v := 6) hx hb dL_law_32 (by decide) ?_
  refine lv_isub hx hb dL_law_34 ?_
  refine lv_to (y := 0) (by decide +kernel) ?_
  refine lv_icmp_gt (tgt := 3981) hx hb dL_law_35 (by decide) (fun c5 => ?_) (fun c5 => absurd (by decide +kernel) c5)
  refine lv_iconst (v := 1) hx hb dL_law_3981 (by decide) ?_
  refine va_forget G.2.2.2.2 ?_
  refine W.widen (k := 600002) (n := 7302232) (Nat.le_of_ble_eq_true rfl) (Nat.le_of_ble_eq_true rfl) ?_
  exact lw_ret (d0 := s.drawn) (Drawn.sameBut.refl s.drawn lw_cs) hx hb hr hlocks dL_law_3982
set_option maxHeartbeats 4000000 in
set_option maxRecDepth 100000 in
theorem p_a33 {p : Program} {e : Env} {s : State} {m : MethodId} {below : List Frame} {meth : Method} {c : Code} (l : Launch) (hst : l.stackTraces = false) {b : Nat} {xs : Nat → Int32} (hx : p.tables.exec = Jvm.exec) (hb : c.code = code) (hr : meth.sig.returnType = ret) (hml : c.maxLocals = 9) (hown : s.vm.findClass RL = some m.cls) (hts : ∀ w ∈ lw_tbl, w.before #[Value.ref b] s = true) (hlocks : meth.locks = false) (hX0 : va_X b 6 xs s s.heap) (hbl : b < s.heap.size) (hX : xT (fun q => s.heap.size ≤ q) s) (hN1 : va_Nc xIAE xIOB s) (hN2 : va_Nc xISE xIOB s) {D : va_G} {cI cJ cZ cMic cSrc cSt cAI cAJ cD : ClassId} {ad am : Nat → Nat} {N : Nat} {S : Nat → va_E} {ls : Array Slot} {H : Heap} {locs : List Loc} (hK : va_K D vwCl (CT cI cJ cZ cMic cSrc cSt cAI cAJ ++ [(cD, .double)]) s) (hN : 1586 ≤ N) (F : FR cI cJ cZ cMic cSrc cSt cAI cAJ ad S) (G : lG D ad N cI cJ cZ am (fun q => s.heap.size ≤ q) s.heap H locs S mS0) (hl : lv_has ls 9 [(5, .int 0), (4, .ref (am 99)), (3, .ref (am 98)), (2, .ref (am 0)), (1, .ref (ad 0)), (0, .ref b)]) : W p l e room_1 s m #[Value.ref b] below meth c H locs 1605 82603 (lw_Z below #[Value.ref b] s) (F0 m 1947 ls []) := by
  obtain ⟨hS0, hS1, hS2, hS3, hS4, hS5, hS6, hS432, hS478, hS480, hS656, hS658⟩ := F
  have E : cE p c cL_law s m #[Value.ref b] lw_tbl D RL (CT cI cJ cZ cMic cSrc cSt cAI cAJ ++ [(cD, .double)]) := ⟨hx, hb, hts, hown, hK⟩
  have hKm : va_K D vwCl (MT cI cJ cZ) s := hK.sub [0, 1, 2] rfl
  have hKb : ∀ t : State, s.vm.Alike t.vm → va_K D vwCl (CT cI cJ cZ cMic cSrc cSt cAI cAJ ++ [(cD, .double)]) t := fun t h => va_K.moved h hK
  have hA : ∀ q : Nat, s.heap.size ≤ q → s.heap.size ≤ q := fun _ h => h
  refine lv_aload_n hx hb dL_law_1947 rfl (lv_at hl 4 rfl) ?_
  refine lv_aload_n hx hb dL_law_1948 rfl (lv_at hl 5 rfl) ?_
  refine lv_iload hx hb dL_law_1949 (lv_at hl 0 rfl) ?_
  refine lv_iconst (v := 1) hx hb dL_law_1951 (by decide) ?_
  refine lv_iadd hx hb dL_law_1952 ?_
  refine lv_to (y := 1) (by decide +kernel) ?_
  refine va_sld hx hb hX0 hbl (Nat.not_le.mpr hbl) G.2.2 (i := 1) (vp_in_nI (n := 1) (N := 6) (by decide) (by decide)) dL_law_1953 ?_
  refine lv_to (y := xs 1) (congrArg xs (by decide)) ?_
  refine lv_aload_n hx hb dL_law_1954 rfl (lv_at hl 5 rfl) ?_
  refine lv_iload hx hb dL_law_1955 (lv_at hl 0 rfl) ?_
  refine lv_iconst (v := 2) hx hb dL_law_1957 (by decide) ?_
  refine lv_iadd hx hb dL_law_1958 ?_
  refine lv_to (y := 2) (by decide +kernel) ?_
  refine va_sld hx hb hX0 hbl (Nat.not_le.mpr hbl) G.2.2 (i := 2) (vp_in_nI (n := 2) (N := 6) (by decide) (by decide)) dL_law_1959 ?_
  refine lv_to (y := xs 2) (congrArg xs (by decide)) ?_
  refine lv_aload_n hx hb dL_law_1960 rfl (lv_at hl 5 rfl) ?_
  refine lv_iload hx hb dL_law_1961 (lv_at hl 0 rfl) ?_
  refine lv_iconst (v := 3) hx hb dL_law_1963 (by decide) ?_
  refine lv_iadd hx hb dL_law_1964 ?_
  refine lv_to (y := 3) (by decide +kernel) ?_
  refine va_sld hx hb hX0 hbl (Nat.not_le.mpr hbl) G.2.2 (i := 3) (vp_in_nI (n := 3) (N := 6) (by decide) (by decide)) dL_law_1965 ?_
  refine lv_to (y := xs 3) (congrArg xs (by decide)) ?_
  refine lv_aload_n hx hb dL_law_1966 rfl (lv_at hl 2 rfl) ?_
  refine l_w (As := [.ref (ad 0), .int (xs 1), .int (xs 2), .int (xs 3), .ref (am 98)]) (rest := []) E G hA hX hN1 hN2 (fun _ _ h _ _ k => va_Nc.moved h k) rfl hml (w_alias l hst D _ ad N S (sc := 478) (Nat.lt_of_lt_of_le (by decide) hN) hS0 rfl (Nat.lt_of_lt_of_le (by decide) hN) hS478 rfl (xs 1) (xs 2) (xs 3) (am 98)) (vx_cwSW 5 hts (glA (L := [Cond.methodLink RL 312 yL_alias, Cond.static yL_alias, Cond.initialized RL]) (gl_in [(6, 121), (6, 122), (1, 0)] (by decide +kernel) (by decide +kernel)) ⟨(t_of [Cond.codeWith yL_alias cL_alias 6 (some .int) [(0, 12, 15, 21), (0, 12, 19, 13), (0, 12, 23, 15)]] [(6, 123)] (by decide +kernel) _ List.mem_cons_self), List.all_eq_true.mp (by decide +kernel : [Cond.codeWith yL_alias cL_alias 6 (some .int) [(0, 12, 15, 21), (0, 12, 19, 13), (0, 12, 23, 15)]].all goodWord = true) _ List.mem_cons_self⟩) rfl rfl rfl (by decide +kernel) ⟨Nat.le_of_ble_eq_true rfl, Nat.le_of_ble_eq_true rfl⟩) rfl hl.1 rfl (lv_room (Nat.le_of_ble_eq_true rfl)) dL_law_1967 ⟨Nat.le_of_ble_eq_true rfl, Nat.le_of_ble_eq_true rfl⟩ (fun r S1 H locs hq G => ?_)
  obtain ⟨hq1, hq2⟩ := hq
  rw [hq2] at G
  refine lv_to (y := 1) hq1 ?_
  refine lv_istore (lv' := [(6, .int 1), (5, .int 0), (4, .ref (am 99)), (3, .ref (am 98)), (2, .ref (am 0)), (1, .ref (ad 0)), (0, .ref b)]) hx hb dL_law_1970 hl (by decide) rfl (fun ls hl => ?_)
  refine lv_aload_n hx hb dL_law_1972 rfl (lv_at hl 4 rfl) ?_
  refine lv_aload_n hx hb dL_law_1973 rfl (lv_at hl 6 rfl) ?_
  refine lv_iload hx hb dL_law_1974 (lv_at hl 1 rfl) ?_
  refine lv_iconst (v := 1) hx hb dL_law_1976 (by decide) ?_
  refine lv_iadd hx hb dL_law_1977 ?_
  refine lv_to (y := 1) (by decide +kernel) ?_
  refine va_sld hx hb hX0 hbl (Nat.not_le.mpr hbl) G.2.2 (i := 1) (vp_in_nI (n := 1) (N := 6) (by decide) (by decide)) dL_law_1978 ?_
  refine lv_to (y := xs 1) (congrArg xs (by decide)) ?_
  refine lv_aload_n hx hb dL_law_1979 rfl (lv_at hl 6 rfl) ?_
  refine lv_iload hx hb dL_law_1980 (lv_at hl 1 rfl) ?_
  refine lv_iconst (v := 2) hx hb dL_law_1982 (by decide) ?_
  refine lv_iadd hx hb dL_law_1983 ?_
  refine lv_to (y := 2) (by decide +kernel) ?_
  refine va_sld hx hb hX0 hbl (Nat.not_le.mpr hbl) G.2.2 (i := 2) (vp_in_nI (n := 2) (N := 6) (by decide) (by decide)) dL_law_1984 ?_
  refine lv_to (y := xs 2) (congrArg xs (by decide)) ?_
  refine lv_aload_n hx hb dL_law_1985 rfl (lv_at hl 6 rfl) ?_
  refine lv_iload hx hb dL_law_1986 (lv_at hl 1 rfl) ?_
  refine lv_iconst (v := 3) hx hb dL_law_1988 (by decide) ?_
  refine lv_iadd hx hb dL_law_1989 ?_
  refine lv_to (y := 3) (by decide +kernel) ?_
  refine va_sld hx hb hX0 hbl (Nat.not_le.mpr hbl) G.2.2 (i := 3) (vp_in_nI (n := 3) (N := 6) (by decide) (by decide)) dL_law_1990 ?_
  refine lv_to (y := xs 3) (congrArg xs (by decide)) ?_
  refine l_mi (As := [.int (xs 1), .int (xs 2), .int (xs 3)]) (rest := []) E G hA hKm hKb hX.2.2.2.2 hml (n_alias l D cI cJ cZ am mS0 (xs 1) (xs 2) (xs 3) rfl (fun _ => rfl)) (cwV 3 hts (glM (L := [Cond.methodLink RL 314 yX12_alias, Cond.instanceMethod yX12_alias, Cond.selects RX12 yX12_alias yX12_alias, Cond.initialized RX12]) (gl_in [(9, 227), (9, 228), (9, 229), (1, 14)] (by decide +kernel) (by decide +kernel)) ⟨(t_of [Cond.code yX12_alias cX12_alias 4 (some .int)] [(9, 230)] (by decide +kernel) _ List.mem_cons_self), List.all_eq_true.mp (by decide +kernel : [Cond.code yX12_alias cX12_alias 4 (some .int)].all goodWord = true) _ List.mem_cons_self⟩) rfl rfl rfl (by decide +kernel) ⟨Nat.le_of_ble_eq_true rfl, Nat.le_of_ble_eq_true rfl⟩) rfl hl.1 rfl (lv_room (Nat.le_of_ble_eq_true rfl)) dL_law_1991 ⟨Nat.le_of_ble_eq_true rfl, Nat.le_of_ble_eq_true rfl⟩ (fun r1 S1 H locs hq G => ?_)
  obtain ⟨hq1, hq2⟩ := hq
  rw [hq2] at G
  refine lv_to (y := 0) hq1 ?_
  refine lv_istore (lv' := [(7, .int 0), (6, .int 1), (5, .int 0), (4, .ref (am 99)), (3, .ref (am 98)), (2, .ref (am 0)), (1, .ref (ad 0)), (0, .ref b)]) hx hb dL_law_1994 hl (by decide) rfl (fun ls hl => ?_)
  refine lv_aload_n hx hb dL_law_1996 rfl (lv_at hl 5 rfl) ?_
  refine l_mi (As := []) (rest := []) E G hA hKm hKb hX.2.2.2.2 hml (m_thrown l D cI cJ cZ am (mi mS0 0 1)) (cwV 0 hts (glM (L := [Cond.methodLink RL 204 yX12_thrown, Cond.instanceMethod yX12_thrown, Cond.selects RX12 yX12_thrown yX12_thrown, Cond.initialized RX12]) (gl_in [(8, 65), (8, 66), (8, 67), (1, 14)] (by decide +kernel) (by decide +kernel)) ⟨(t_of [Cond.code yX12_thrown cX12_thrown 1 (some .int)] [(8, 68)] (by decide +kernel) _ List.mem_cons_self), List.all_eq_true.mp (by decide +kernel : [Cond.code yX12_thrown cX12_thrown 1 (some .int)].all goodWord = true) _ List.mem_cons_self⟩) rfl rfl rfl (by decide +kernel) ⟨Nat.le_of_ble_eq_true rfl, Nat.le_of_ble_eq_true rfl⟩) rfl hl.1 rfl (lv_room (Nat.le_of_ble_eq_true rfl)) dL_law_1997 ⟨Nat.le_of_ble_eq_true rfl, Nat.le_of_ble_eq_true rfl⟩ (fun r2 S1 H locs hq G => ?_)
  obtain ⟨hq1, hq2⟩ := hq
  rw [hq2] at G
  refine lv_to (y := 1) hq1 ?_
  refine lv_iload hx hb dL_law_2000 (lv_at hl 1 rfl) ?_
  refine lv_icmp_eq (tgt := 2007) hx hb dL_law_2002 (by decide) (fun c3 => ?_) (fun c3 => absurd (by decide +kernel) c3)
  refine lv_iload hx hb dL_law_2007 (lv_at hl 1 rfl) ?_
  refine lv_if_ne (tgt := 2024) hx hb dL_law_2009 (by decide) (fun c4 => ?_) (fun c4 => absurd c4 (by decide +kernel))
  refine lv_goto (tgt := 3975) hx hb dL_law_2024 (by decide) ?_
  refine lv_iinc (v := 6) (lv' := [(5, .int 6), (7, .int 0), (6, .int 1), (4, .ref (am 99)), (3, .ref (am 98)), (2, .ref (am 0)), (1, .ref (ad 0)), (0, .ref b)]) hx hb dL_law_3975 hl (k := 2) rfl (by decide +kernel) (by decide) rfl (fun ls hl => ?_)
  refine lv_goto (tgt := 28) hx hb dL_law_3978 (by decide) ?_
  refine lv_iload hx hb dL_law_28 (lv_at hl 0 rfl) ?_
  refine lv_aload_n hx hb dL_law_30 rfl (lv_at hl 7 rfl) ?_
  refine va_slen hx hb hX0 hbl (Nat.not_le.mpr hbl) G.2.2 dL_law_31 ?_
  refine lv_to (y := 6) (by decide) ?_
  refine lv_bipush (v := 6) hx hb dL_law_32 (by decide) ?_
  refine lv_isub hx hb dL_law_34 ?_
  refine lv_to (y := 0) (by decide +kernel) ?_
  refine lv_icmp_gt (tgt := 3981) hx hb dL_law_35 (by decide) (fun c5 => ?_) (fun c5 => absurd (by decide +kernel) c5)
  refine lv_iconst (v := 1) hx hb dL_law_3981 (by decide) ?_
  refine va_forget G.2.2.2.2 ?_
  refine W.widen (k := 600002) (n := 7302232) (Nat.le_of_ble_eq_true rfl) (Nat.le_of_ble_eq_true rfl) ?_
  exact lw_ret (d0 := s.drawn) (Drawn.sameBut.refl s.drawn lw_cs) hx hb hr hlocks dL_law_3982
set_option maxHeartbeats 4000000 in
set_option maxRecDepth 100000 in
theorem p_a34 {p : Program} {e : Env} {s : State} {m : MethodId} {below : List Frame} {meth : Method} {c : Code} (l : Launch) (hst : l.stackTraces = false) {b : Nat} {xs : Nat → Int32} (hx : p.tables.exec = Jvm.exec) (hb : c.code = code) (hr : meth.sig.returnType = ret) (hml : c.maxLocals = 9) (hown : s.vm.findClass RL = some m.cls) (hts : ∀ w ∈ lw_tbl, w.before #[Value.ref b] s = true) (hlocks : meth.locks = false) (hX0 : va_X b 6 xs s s.heap) (hbl : b < s.heap.size) (hX : xT (fun q => s.heap.size ≤ q) s) (hN1 : va_Nc xIAE xIOB s) (hN2 : va_Nc xISE xIOB s) {D : va_G} {cI cJ cZ cMic cSrc cSt cAI cAJ cD : ClassId} {ad am : Nat → Nat} {N : Nat} {S : Nat → va_E} {ls : Array Slot} {H : Heap} {locs : List Loc} (hK : va_K D vwCl (CT cI cJ cZ cMic cSrc cSt cAI cAJ ++ [(cD, .double)]) s) (hN : 1586 ≤ N) (F : FR cI cJ cZ cMic cSrc cSt cAI cAJ ad S) (G : lG D ad N cI cJ cZ am (fun q => s.heap.size ≤ q) s.heap H locs S mS0) (hl : lv_has ls 9 [(5, .int 0), (4, .ref (am 99)), (3, .ref (am 98)), (2, .ref (am 0)), (1, .ref (ad 0)), (0, .ref b)]) : W p l e room_1 s m #[Value.ref b] below meth c H locs 1605 82603 (lw_Z below #[Value.ref b] s) (F0 m 2027 ls []) := by
  obtain ⟨hS0, hS1, hS2, hS3, hS4, hS5, hS6, hS432, hS478, hS480, hS656, hS658⟩ := F
  have E : cE p c cL_law s m #[Value.ref b] lw_tbl D RL (CT cI cJ cZ cMic cSrc cSt cAI cAJ ++ [(cD, .double)]) := ⟨hx, hb, hts, hown, hK⟩
  have hKm : va_K D vwCl (MT cI cJ cZ) s := hK.sub [0, 1, 2] rfl
  have hKb : ∀ t : State, s.vm.Alike t.vm → va_K D vwCl (CT cI cJ cZ cMic cSrc cSt cAI cAJ ++ [(cD, .double)]) t := fun t h => va_K.moved h hK
  have hA : ∀ q : Nat, s.heap.size ≤ q → s.heap.size ≤ q := fun _ h => h
  refine lv_aload_n hx hb dL_law_2027 rfl (lv_at hl 4 rfl) ?_
  refine lv_aload_n hx hb dL_law_2028 rfl (lv_at hl 5 rfl) ?_
  refine lv_iload hx hb dL_law_2029 (lv_at hl 0 rfl) ?_
  refine lv_iconst (v := 1) hx hb dL_law_2031 (by decide) ?_
  refine lv_iadd hx hb dL_law_2032 ?_
  refine lv_to (y := 1) (by decide +kernel) ?_
  refine va_sld hx hb hX0 hbl (Nat.not_le.mpr hbl) G.2.2 (i := 1) (vp_in_nI (n := 1) (N := 6) (by decide) (by decide)) dL_law_2033 ?_
  refine lv_to (y := xs 1) (congrArg xs (by decide)) ?_
  refine lv_aload_n hx hb dL_law_2034 rfl (lv_at hl 5 rfl) ?_
  refine lv_iload hx hb dL_law_2035 (lv_at hl 0 rfl) ?_
  refine lv_iconst (v := 2) hx hb dL_law_2037 (by decide) ?_
  refine lv_iadd hx hb dL_law_2038 ?_
  refine lv_to (y := 2) (by decide +kernel) ?_
  refine va_sld hx hb hX0 hbl (Nat.not_le.mpr hbl) G.2.2 (i := 2) (vp_in_nI (n := 2) (N := 6) (by decide) (by decide)) dL_law_2039 ?_
  refine lv_to (y := xs 2) (congrArg xs (by decide)) ?_
  refine lv_aload_n hx hb dL_law_2040 rfl (lv_at hl 5 rfl) ?_
  refine lv_iload hx hb dL_law_2041 (lv_at hl 0 rfl) ?_
  refine lv_iconst (v := 3) hx hb dL_law_2043 (by decide) ?_
  refine lv_iadd hx hb dL_law_2044 ?_
  refine lv_to (y := 3) (by decide +kernel) ?_
  refine va_sld hx hb hX0 hbl (Nat.not_le.mpr hbl) G.2.2 (i := 3) (vp_in_nI (n := 3) (N := 6) (by decide) (by decide)) dL_law_2045 ?_
  refine lv_to (y := xs 3) (congrArg xs (by decide)) ?_
  refine lv_aload_n hx hb dL_law_2046 rfl (lv_at hl 2 rfl) ?_
  refine l_w (As := [.ref (ad 0), .int (xs 1), .int (xs 2), .int (xs 3), .ref (am 98)]) (rest := []) E G hA hX hN1 hN2 (fun _ _ h _ _ k => va_Nc.moved h k) rfl hml (w_isAlias l hst D _ ad N S (sc := 478) (Nat.lt_of_lt_of_le (by decide) hN) hS0 rfl (Nat.lt_of_lt_of_le (by decide) hN) hS478 rfl (xs 1) (xs 2) (xs 3) (am 98)) (vx_cwSW 5 hts (glA (L := [Cond.methodLink RL 315 yL_isAlias, Cond.static yL_isAlias, Cond.initialized RL]) (gl_in [(6, 134), (6, 135), (1, 0)] (by decide +kernel) (by decide +kernel)) ⟨(t_of [Cond.codeWith yL_isAlias cL_isAlias 6 (some .int) [(0, 19, 22, 21), (0, 19, 26, 13), (0, 19, 30, 15)]] [(6, 136)] (by decide +kernel) _ List.mem_cons_self), List.all_eq_true.mp (by decide +kernel : [Cond.codeWith yL_isAlias cL_isAlias 6 (some .int) [(0, 19, 22, 21), (0, 19, 26, 13), (0, 19, 30, 15)]].all goodWord = true) _ List.mem_cons_self⟩) rfl rfl rfl (by decide +kernel) ⟨Nat.le_of_ble_eq_true rfl, Nat.le_of_ble_eq_true rfl⟩) rfl hl.1 rfl (lv_room (Nat.le_of_ble_eq_true rfl)) dL_law_2047 ⟨Nat.le_of_ble_eq_true rfl, Nat.le_of_ble_eq_true rfl⟩ (fun r S1 H locs hq G => ?_)
  obtain ⟨hq1, hq2⟩ := hq
  rw [hq2] at G
  refine lv_to (y := 1) hq1 ?_
  refine lv_istore (lv' := [(6, .int 1), (5, .int 0), (4, .ref (am 99)), (3, .ref (am 98)), (2, .ref (am 0)), (1, .ref (ad 0)), (0, .ref b)]) hx hb dL_law_2050 hl (by decide) rfl (fun ls hl => ?_)
  refine lv_aload_n hx hb dL_law_2052 rfl (lv_at hl 4 rfl) ?_
  refine lv_aload_n hx hb dL_law_2053 rfl (lv_at hl 6 rfl) ?_
  refine lv_iload hx hb dL_law_2054 (lv_at hl 1 rfl) ?_
  refine lv_iconst (v := 1) hx hb dL_law_2056 (by decide) ?_
  refine lv_iadd hx hb dL_law_2057 ?_
  refine lv_to (y := 1) (by decide +kernel) ?_
  refine va_sld hx hb hX0 hbl (Nat.not_le.mpr hbl) G.2.2 (i := 1) (vp_in_nI (n := 1) (N := 6) (by decide) (by decide)) dL_law_2058 ?_
  refine lv_to (y := xs 1) (congrArg xs (by decide)) ?_
  refine lv_aload_n hx hb dL_law_2059 rfl (lv_at hl 6 rfl) ?_
  refine lv_iload hx hb dL_law_2060 (lv_at hl 1 rfl) ?_
  refine lv_iconst (v := 2) hx hb dL_law_2062 (by decide) ?_
  refine lv_iadd hx hb dL_law_2063 ?_
  refine lv_to (y := 2) (by decide +kernel) ?_
  refine va_sld hx hb hX0 hbl (Nat.not_le.mpr hbl) G.2.2 (i := 2) (vp_in_nI (n := 2) (N := 6) (by decide) (by decide)) dL_law_2064 ?_
  refine lv_to (y := xs 2) (congrArg xs (by decide)) ?_
  refine lv_aload_n hx hb dL_law_2065 rfl (lv_at hl 6 rfl) ?_
  refine lv_iload hx hb dL_law_2066 (lv_at hl 1 rfl) ?_
  refine lv_iconst (v := 3) hx hb dL_law_2068 (by decide) ?_
  refine lv_iadd hx hb dL_law_2069 ?_
  refine lv_to (y := 3) (by decide +kernel) ?_
  refine va_sld hx hb hX0 hbl (Nat.not_le.mpr hbl) G.2.2 (i := 3) (vp_in_nI (n := 3) (N := 6) (by decide) (by decide)) dL_law_2070 ?_
  refine lv_to (y := xs 3) (congrArg xs (by decide)) ?_
  refine l_mi (As := [.int (xs 1), .int (xs 2), .int (xs 3)]) (rest := []) E G hA hKm hKb hX.2.2.2.2 hml (n_isAlias l D cI cJ cZ am mS0 (xs 1) (xs 2) (xs 3) rfl (fun _ => rfl)) (cwV 3 hts (glM (L := [Cond.methodLink RL 317 yX12_isAlias, Cond.instanceMethod yX12_isAlias, Cond.selects RX12 yX12_isAlias yX12_isAlias, Cond.initialized RX12]) (gl_in [(10, 2), (10, 3), (10, 4), (1, 14)] (by decide +kernel) (by decide +kernel)) ⟨(t_of [Cond.code yX12_isAlias cX12_isAlias 4 (some .boolean)] [(10, 5)] (by decide +kernel) _ List.mem_cons_self), List.all_eq_true.mp (by decide +kernel : [Cond.code yX12_isAlias cX12_isAlias 4 (some .boolean)].all goodWord = true) _ List.mem_cons_self⟩) rfl rfl rfl (by decide +kernel) ⟨Nat.le_of_ble_eq_true rfl, Nat.le_of_ble_eq_true rfl⟩) rfl hl.1 rfl (lv_room (Nat.le_of_ble_eq_true rfl)) dL_law_2071 ⟨Nat.le_of_ble_eq_true rfl, Nat.le_of_ble_eq_true rfl⟩ (fun r1 S1 H locs hq G => ?_)
  obtain ⟨hq1, hq2⟩ := hq
  rw [hq2] at G
  refine lv_to (y := 0) hq1 ?_
  refine lv_istore (lv' := [(7, .int 0), (6, .int 1), (5, .int 0), (4, .ref (am 99)), (3, .ref (am 98)), (2, .ref (am 0)), (1, .ref (ad 0)), (0, .ref b)]) hx hb dL_law_2074 hl (by decide) rfl (fun ls hl => ?_)
  refine lv_aload_n hx hb dL_law_2076 rfl (lv_at hl 5 rfl) ?_
  refine l_mi (As := []) (rest := []) E G hA hKm hKb hX.2.2.2.2 hml (m_thrown l D cI cJ cZ am (mi mS0 0 1)) (cwV 0 hts (glM (L := [Cond.methodLink RL 204 yX12_thrown, Cond.instanceMethod yX12_thrown, Cond.selects RX12 yX12_thrown yX12_thrown, Cond.initialized RX12]) (gl_in [(8, 65), (8, 66), (8, 67), (1, 14)] (by decide +kernel) (by decide +kernel)) ⟨(t_of [Cond.code yX12_thrown cX12_thrown 1 (some .int)] [(8, 68)] (by decide +kernel) _ List.mem_cons_self), List.all_eq_true.mp (by decide +kernel : [Cond.code yX12_thrown cX12_thrown 1 (some .int)].all goodWord = true) _ List.mem_cons_self⟩) rfl rfl rfl (by decide +kernel) ⟨Nat.le_of_ble_eq_true rfl, Nat.le_of_ble_eq_true rfl⟩) rfl hl.1 rfl (lv_room (Nat.le_of_ble_eq_true rfl)) dL_law_2077 ⟨Nat.le_of_ble_eq_true rfl, Nat.le_of_ble_eq_true rfl⟩ (fun r2 S1 H locs hq G => ?_)
  obtain ⟨hq1, hq2⟩ := hq
  rw [hq2] at G
  refine lv_to (y := 1) hq1 ?_
  refine lv_iload hx hb dL_law_2080 (lv_at hl 1 rfl) ?_
  refine lv_icmp_eq (tgt := 2087) hx hb dL_law_2082 (by decide) (fun c3 => ?_) (fun c3 => absurd (by decide +kernel) c3)
  refine lv_iload hx hb dL_law_2087 (lv_at hl 1 rfl) ?_
  refine lv_if_ne (tgt := 2111) hx hb dL_law_2089 (by decide) (fun c4 => ?_) (fun c4 => absurd c4 (by decide +kernel))
  refine lv_goto (tgt := 3975) hx hb dL_law_2111 (by decide) ?_
  refine lv_iinc (v := 6) (lv' := [(5, .int 6), (7, .int 0), (6, .int 1), (4, .ref (am 99)), (3, .ref (am 98)), (2, .ref (am 0)), (1, .ref (ad 0)), (0, .ref b)]) hx hb dL_law_3975 hl (k := 2) rfl (by decide +kernel) (by decide) rfl (fun ls hl => ?_)
  refine lv_goto (tgt := 28) hx hb dL_law_3978 (by decide) ?_
  refine lv_iload hx hb dL_law_28 (lv_at hl 0 rfl) ?_
  refine lv_aload_n hx hb dL_law_30 rfl (lv_at hl 7 rfl) ?_
  refine va_slen hx hb hX0 hbl (Nat.not_le.mpr hbl) G.2.2 dL_law_31 ?_
  refine lv_to (y := 6) (by decide) ?_
  refine lv_bipush (v := 6) hx hb dL_law_32 (by decide) ?_
  refine lv_isub hx hb dL_law_34 ?_
  refine lv_to (y := 0) (by decide +kernel) ?_
  refine lv_icmp_gt (tgt := 3981) hx hb dL_law_35 (by decide) (fun c5 => ?_) (fun c5 => absurd (by decide +kernel) c5)
  refine lv_iconst (v := 1) hx hb dL_law_3981 (by decide) ?_
  refine va_forget G.2.2.2.2 ?_
  refine W.widen (k := 600002) (n := 7302232) (Nat.le_of_ble_eq_true rfl) (Nat.le_of_ble_eq_true rfl) ?_
  exact lw_ret (d0 := s.drawn) (Drawn.sameBut.refl s.drawn lw_cs) hx hb hr hlocks dL_law_3982
set_option maxHeartbeats 4000000 in
set_option maxRecDepth 100000 in
theorem p_a35 {p : Program} {e : Env} {s : State} {m : MethodId} {below : List Frame} {meth : Method} {c : Code} (l : Launch) (hst : l.stackTraces = false) {b : Nat} {xs : Nat → Int32} (hx : p.tables.exec = Jvm.exec) (hb : c.code = code) (hr : meth.sig.returnType = ret) (hml : c.maxLocals = 9) (hown : s.vm.findClass RL = some m.cls) (hts : ∀ w ∈ lw_tbl, w.before #[Value.ref b] s = true) (hlocks : meth.locks = false) (hX0 : va_X b 6 xs s s.heap) (hbl : b < s.heap.size) (hX : xT (fun q => s.heap.size ≤ q) s) (hN1 : va_Nc xIAE xIOB s) (hN2 : va_Nc xISE xIOB s) {D : va_G} {cI cJ cZ cMic cSrc cSt cAI cAJ cD : ClassId} {ad am : Nat → Nat} {N : Nat} {S : Nat → va_E} {ls : Array Slot} {H : Heap} {locs : List Loc} (hK : va_K D vwCl (CT cI cJ cZ cMic cSrc cSt cAI cAJ ++ [(cD, .double)]) s) (hN : 1586 ≤ N) (F : FR cI cJ cZ cMic cSrc cSt cAI cAJ ad S) (G : lG D ad N cI cJ cZ am (fun q => s.heap.size ≤ q) s.heap H locs S mS0) (hl : lv_has ls 9 [(5, .int 0), (4, .ref (am 99)), (3, .ref (am 98)), (2, .ref (am 0)), (1, .ref (ad 0)), (0, .ref b)]) : W p l e room_1 s m #[Value.ref b] below meth c H locs 1605 82603 (lw_Z below #[Value.ref b] s) (F0 m 2114 ls []) := by
  obtain ⟨hS0, hS1, hS2, hS3, hS4, hS5, hS6, hS432, hS478, hS480, hS656, hS658⟩ := F
  have E : cE p c cL_law s m #[Value.ref b] lw_tbl D RL (CT cI cJ cZ cMic cSrc cSt cAI cAJ ++ [(cD, .double)]) := ⟨hx, hb, hts, hown, hK⟩
  have hKm : va_K D vwCl (MT cI cJ cZ) s := hK.sub [0, 1, 2] rfl
  have hKb : ∀ t : State, s.vm.Alike t.vm → va_K D vwCl (CT cI cJ cZ cMic cSrc cSt cAI cAJ ++ [(cD, .double)]) t := fun t h => va_K.moved h hK
  have hA : ∀ q : Nat, s.heap.size ≤ q → s.heap.size ≤ q := fun _ h => h
  refine lv_aload_n hx hb dL_law_2114 rfl (lv_at hl 4 rfl) ?_
  refine lv_aload_n hx hb dL_law_2115 rfl (lv_at hl 5 rfl) ?_
  refine lv_iload hx hb dL_law_2116 (lv_at hl 0 rfl) ?_
  refine lv_iconst (v := 1) hx hb dL_law_2118 (by decide) ?_
  refine lv_iadd hx hb dL_law_2119 ?_
  refine lv_to (y := 1) (by decide +kernel) ?_
  refine va_sld hx hb hX0 hbl (Nat.not_le.mpr hbl) G.2.2 (i := 1) (vp_in_nI (n := 1) (N := 6) (by decide) (by decide)) dL_law_2120 ?_
  refine lv_to (y := xs 1) (congrArg xs (by decide)) ?_
  refine lv_aload_n hx hb dL_law_2121 rfl (lv_at hl 5 rfl) ?_
  refine lv_iload hx hb dL_law_2122 (lv_at hl 0 rfl) ?_
  refine lv_iconst (v := 2) hx hb dL_law_2124 (by decide) ?_
  refine lv_iadd hx hb dL_law_2125 ?_
  refine lv_to (y := 2) (by decide +kernel) ?_
  refine va_sld hx hb hX0 hbl (Nat.not_le.mpr hbl) G.2.2 (i := 2) (vp_in_nI (n := 2) (N := 6) (by decide) (by decide)) dL_law_2126 ?_
  refine lv_to (y := xs 2) (congrArg xs (by decide)) ?_
  refine lv_aload_n hx hb dL_law_2127 rfl (lv_at hl 2 rfl) ?_
  refine l_w (As := [.ref (ad 0), .int (xs 1), .int (xs 2), .ref (am 98)]) (rest := []) E G hA hX hN1 hN2 (fun _ _ h _ _ k => va_Nc.moved h k) rfl hml (w_aliases l hst D _ ad N S (sc := 478) (Nat.lt_of_lt_of_le (by decide) hN) hS0 rfl (Nat.lt_of_lt_of_le (by decide) hN) hS478 rfl (xs 1) (xs 2) (am 98)) (vx_cwSW 4 hts (glA (L := [Cond.methodLink RL 318 yL_aliases, Cond.static yL_aliases, Cond.initialized RL]) (gl_in [(6, 149), (6, 150), (1, 0)] (by decide +kernel) (by decide +kernel)) ⟨(t_of [Cond.codeWith yL_aliases cL_aliases 5 (some .int) [(0, 10, 13, 21), (0, 10, 17, 15)]] [(6, 151)] (by decide +kernel) _ List.mem_cons_self), List.all_eq_true.mp (by decide +kernel : [Cond.codeWith yL_aliases cL_aliases 5 (some .int) [(0, 10, 13, 21), (0, 10, 17, 15)]].all goodWord = true) _ List.mem_cons_self⟩) rfl rfl rfl (by decide +kernel) ⟨Nat.le_of_ble_eq_true rfl, Nat.le_of_ble_eq_true rfl⟩) rfl hl.1 rfl (lv_room (Nat.le_of_ble_eq_true rfl)) dL_law_2128 ⟨Nat.le_of_ble_eq_true rfl, Nat.le_of_ble_eq_true rfl⟩ (fun r S1 H locs hq G => ?_)
  obtain ⟨hq1, hq2⟩ := hq
  rw [hq2] at G
  refine lv_to (y := 1) hq1 ?_
  refine lv_istore (lv' := [(6, .int 1), (5, .int 0), (4, .ref (am 99)), (3, .ref (am 98)), (2, .ref (am 0)), (1, .ref (ad 0)), (0, .ref b)]) hx hb dL_law_2131 hl (by decide) rfl (fun ls hl => ?_)
  refine lv_aload_n hx hb dL_law_2133 rfl (lv_at hl 4 rfl) ?_
  refine lv_aload_n hx hb dL_law_2134 rfl (lv_at hl 6 rfl) ?_
  refine lv_iload hx hb dL_law_2135 (lv_at hl 1 rfl) ?_
  refine lv_iconst (v := 1) hx hb dL_law_2137 (by decide) ?_
  refine lv_iadd hx hb dL_law_2138 ?_
  refine lv_to (y := 1) (by decide +kernel) ?_
  refine va_sld hx hb hX0 hbl (Nat.not_le.mpr hbl) G.2.2 (i := 1) (vp_in_nI (n := 1) (N := 6) (by decide) (by decide)) dL_law_2139 ?_
  refine lv_to (y := xs 1) (congrArg xs (by decide)) ?_
  refine lv_aload_n hx hb dL_law_2140 rfl (lv_at hl 6 rfl) ?_
  refine lv_iload hx hb dL_law_2141 (lv_at hl 1 rfl) ?_
  refine lv_iconst (v := 2) hx hb dL_law_2143 (by decide) ?_
  refine lv_iadd hx hb dL_law_2144 ?_
  refine lv_to (y := 2) (by decide +kernel) ?_
  refine va_sld hx hb hX0 hbl (Nat.not_le.mpr hbl) G.2.2 (i := 2) (vp_in_nI (n := 2) (N := 6) (by decide) (by decide)) dL_law_2145 ?_
  refine lv_to (y := xs 2) (congrArg xs (by decide)) ?_
  refine l_mi (As := [.int (xs 1), .int (xs 2)]) (rest := []) E G hA hKm hKb hX.2.2.2.2 hml (n_aliases l D cI cJ cZ am mS0 (xs 1) (xs 2) rfl (fun _ => rfl)) (cwV 2 hts (glM (L := [Cond.methodLink RL 320 yX12_aliases, Cond.instanceMethod yX12_aliases, Cond.selects RX12 yX12_aliases yX12_aliases, Cond.initialized RX12]) (gl_in [(10, 13), (10, 14), (10, 15), (1, 14)] (by decide +kernel) (by decide +kernel)) ⟨(t_of [Cond.code yX12_aliases cX12_aliases 6 (some .int)] [(10, 16)] (by decide +kernel) _ List.mem_cons_self), List.all_eq_true.mp (by decide +kernel : [Cond.code yX12_aliases cX12_aliases 6 (some .int)].all goodWord = true) _ List.mem_cons_self⟩) rfl rfl rfl (by decide +kernel) ⟨Nat.le_of_ble_eq_true rfl, Nat.le_of_ble_eq_true rfl⟩) rfl hl.1 rfl (lv_room (Nat.le_of_ble_eq_true rfl)) dL_law_2146 ⟨Nat.le_of_ble_eq_true rfl, Nat.le_of_ble_eq_true rfl⟩ (fun r1 S1 H locs hq G => ?_)
  obtain ⟨hq1, hq2⟩ := hq
  rw [hq2] at G
  refine lv_to (y := 0) hq1 ?_
  refine lv_istore (lv' := [(7, .int 0), (6, .int 1), (5, .int 0), (4, .ref (am 99)), (3, .ref (am 98)), (2, .ref (am 0)), (1, .ref (ad 0)), (0, .ref b)]) hx hb dL_law_2149 hl (by decide) rfl (fun ls hl => ?_)
  refine lv_aload_n hx hb dL_law_2151 rfl (lv_at hl 5 rfl) ?_
  refine l_mi (As := []) (rest := []) E G hA hKm hKb hX.2.2.2.2 hml (m_thrown l D cI cJ cZ am (mi mS0 0 1)) (cwV 0 hts (glM (L := [Cond.methodLink RL 204 yX12_thrown, Cond.instanceMethod yX12_thrown, Cond.selects RX12 yX12_thrown yX12_thrown, Cond.initialized RX12]) (gl_in [(8, 65), (8, 66), (8, 67), (1, 14)] (by decide +kernel) (by decide +kernel)) ⟨(t_of [Cond.code yX12_thrown cX12_thrown 1 (some .int)] [(8, 68)] (by decide +kernel) _ List.mem_cons_self), List.all_eq_true.mp (by decide +kernel : [Cond.code yX12_thrown cX12_thrown 1 (some .int)].all goodWord = true) _ List.mem_cons_self⟩) rfl rfl rfl (by decide +kernel) ⟨Nat.le_of_ble_eq_true rfl, Nat.le_of_ble_eq_true rfl⟩) rfl hl.1 rfl (lv_room (Nat.le_of_ble_eq_true rfl)) dL_law_2152 ⟨Nat.le_of_ble_eq_true rfl, Nat.le_of_ble_eq_true rfl⟩ (fun r2 S1 H locs hq G => ?_)
  obtain ⟨hq1, hq2⟩ := hq
  rw [hq2] at G
  refine lv_to (y := 1) hq1 ?_
  refine lv_iload hx hb dL_law_2155 (lv_at hl 1 rfl) ?_
  refine lv_icmp_eq (tgt := 2162) hx hb dL_law_2157 (by decide) (fun c3 => ?_) (fun c3 => absurd (by decide +kernel) c3)
  refine lv_iload hx hb dL_law_2162 (lv_at hl 1 rfl) ?_
  refine lv_if_ne (tgt := 2179) hx hb dL_law_2164 (by decide) (fun c4 => ?_) (fun c4 => absurd c4 (by decide +kernel))
  refine lv_goto (tgt := 3975) hx hb dL_law_2179 (by decide) ?_
  refine lv_iinc (v := 6) (lv' := [(5, .int 6), (7, .int 0), (6, .int 1), (4, .ref (am 99)), (3, .ref (am 98)), (2, .ref (am 0)), (1, .ref (ad 0)), (0, .ref b)]) hx hb dL_law_3975 hl (k := 2) rfl (by decide +kernel) (by decide) rfl (fun ls hl => ?_)
  refine lv_goto (tgt := 28) hx hb dL_law_3978 (by decide) ?_
  refine lv_iload hx hb dL_law_28 (lv_at hl 0 rfl) ?_
  refine lv_aload_n hx hb dL_law_30 rfl (lv_at hl 7 rfl) ?_
  refine va_slen hx hb hX0 hbl (Nat.not_le.mpr hbl) G.2.2 dL_law_31 ?_
  refine lv_to (y := 6) (by decide) ?_
  refine lv_bipush (v := 6) hx hb dL_law_32 (by decide) ?_
  refine lv_isub hx hb dL_law_34 ?_
  refine lv_to (y := 0) (by decide +kernel) ?_
  refine lv_icmp_gt (tgt := 3981) hx hb dL_law_35 (by decide) (fun c5 => ?_) (fun c5 => absurd (by decide +kernel) c5)
  refine lv_iconst (v := 1) hx hb dL_law_3981 (by decide) ?_
  refine va_forget G.2.2.2.2 ?_
  refine W.widen (k := 600002) (n := 7302232) (Nat.le_of_ble_eq_true rfl) (Nat.le_of_ble_eq_true rfl) ?_
  exact lw_ret (d0 := s.drawn) (Drawn.sameBut.refl s.drawn lw_cs) hx hb hr hlocks dL_law_3982
set_option maxHeartbeats 4000000 in
set_option maxRecDepth 100000 in
theorem p_a36 {p : Program} {e : Env} {s : State} {m : MethodId} {below : List Frame} {meth : Method} {c : Code} (l : Launch) (hst : l.stackTraces = false) {b : Nat} {xs : Nat → Int32} (hx : p.tables.exec = Jvm.exec) (hb : c.code = code) (hr : meth.sig.returnType = ret) (hml : c.maxLocals = 9) (hown : s.vm.findClass RL = some m.cls) (hts : ∀ w ∈ lw_tbl, w.before #[Value.ref b] s = true) (hlocks : meth.locks = false) (hX0 : va_X b 6 xs s s.heap) (hbl : b < s.heap.size) (hX : xT (fun q => s.heap.size ≤ q) s) (hN1 : va_Nc xIAE xIOB s) (hN2 : va_Nc xISE xIOB s) {D : va_G} {cI cJ cZ cMic cSrc cSt cAI cAJ cD : ClassId} {ad am : Nat → Nat} {N : Nat} {S : Nat → va_E} {ls : Array Slot} {H : Heap} {locs : List Loc} (hK : va_K D vwCl (CT cI cJ cZ cMic cSrc cSt cAI cAJ ++ [(cD, .double)]) s) (hN : 1586 ≤ N) (F : FR cI cJ cZ cMic cSrc cSt cAI cAJ ad S) (G : lG D ad N cI cJ cZ am (fun q => s.heap.size ≤ q) s.heap H locs S mS0) (hl : lv_has ls 9 [(5, .int 0), (4, .ref (am 99)), (3, .ref (am 98)), (2, .ref (am 0)), (1, .ref (ad 0)), (0, .ref b)]) : W p l e room_1 s m #[Value.ref b] below meth c H locs 1605 82603 (lw_Z below #[Value.ref b] s) (F0 m 2182 ls []) := by
  obtain ⟨hS0, hS1, hS2, hS3, hS4, hS5, hS6, hS432, hS478, hS480, hS656, hS658⟩ := F
  have E : cE p c cL_law s m #[Value.ref b] lw_tbl D RL (CT cI cJ cZ cMic cSrc cSt cAI cAJ ++ [(cD, .double)]) := ⟨hx, hb, hts, hown, hK⟩
  have hKm : va_K D vwCl (MT cI cJ cZ) s := hK.sub [0, 1, 2] rfl
  have hKb : ∀ t : State, s.vm.Alike t.vm → va_K D vwCl (CT cI cJ cZ cMic cSrc cSt cAI cAJ ++ [(cD, .double)]) t := fun t h => va_K.moved h hK
  have hA : ∀ q : Nat, s.heap.size ≤ q → s.heap.size ≤ q := fun _ h => h
  refine lv_aload_n hx hb dL_law_2182 rfl (lv_at hl 4 rfl) ?_
  refine lv_aload_n hx hb dL_law_2183 rfl (lv_at hl 5 rfl) ?_
  refine lv_iload hx hb dL_law_2184 (lv_at hl 0 rfl) ?_
  refine lv_iconst (v := 1) hx hb dL_law_2186 (by decide) ?_
  refine lv_iadd hx hb dL_law_2187 ?_
  refine lv_to (y := 1) (by decide +kernel) ?_
  refine va_sld hx hb hX0 hbl (Nat.not_le.mpr hbl) G.2.2 (i := 1) (vp_in_nI (n := 1) (N := 6) (by decide) (by decide)) dL_law_2188 ?_
  refine lv_to (y := xs 1) (congrArg xs (by decide)) ?_
  refine lv_aload_n hx hb dL_law_2189 rfl (lv_at hl 5 rfl) ?_
  refine lv_iload hx hb dL_law_2190 (lv_at hl 0 rfl) ?_
  refine lv_iconst (v := 2) hx hb dL_law_2192 (by decide) ?_
  refine lv_iadd hx hb dL_law_2193 ?_
  refine lv_to (y := 2) (by decide +kernel) ?_
  refine va_sld hx hb hX0 hbl (Nat.not_le.mpr hbl) G.2.2 (i := 2) (vp_in_nI (n := 2) (N := 6) (by decide) (by decide)) dL_law_2194 ?_
  refine lv_to (y := xs 2) (congrArg xs (by decide)) ?_
  refine lv_aload_n hx hb dL_law_2195 rfl (lv_at hl 5 rfl) ?_
  refine lv_iload hx hb dL_law_2196 (lv_at hl 0 rfl) ?_
  refine lv_iconst (v := 3) hx hb dL_law_2198 (by decide) ?_
  refine lv_iadd hx hb dL_law_2199 ?_
  refine lv_to (y := 3) (by decide +kernel) ?_
  refine va_sld hx hb hX0 hbl (Nat.not_le.mpr hbl) G.2.2 (i := 3) (vp_in_nI (n := 3) (N := 6) (by decide) (by decide)) dL_law_2200 ?_
  refine lv_to (y := xs 3) (congrArg xs (by decide)) ?_
  refine lv_aload_n hx hb dL_law_2201 rfl (lv_at hl 2 rfl) ?_
  refine l_w (As := [.ref (ad 0), .int (xs 1), .int (xs 2), .int (xs 3), .ref (am 98)]) (rest := []) E G hA hX hN1 hN2 (fun _ _ h _ _ k => va_Nc.moved h k) rfl hml (w_blockPower l hst D _ ad N S (sc := 478) (Nat.lt_of_lt_of_le (by decide) hN) hS0 rfl (Nat.lt_of_lt_of_le (by decide) hN) hS478 rfl (xs 1) (xs 2) (xs 3) (am 98)) (vx_cwSW 5 hts (glA (L := [Cond.methodLink RL 321 yL_blockPower, Cond.static yL_blockPower, Cond.initialized RL]) (gl_in [(6, 156), (6, 157), (1, 0)] (by decide +kernel) (by decide +kernel)) ⟨(t_of [Cond.codeWith yL_blockPower cL_blockPower 6 (some .int) [(0, 11, 14, 21), (0, 11, 18, 13), (0, 11, 22, 15)]] [(6, 158)] (by decide +kernel) _ List.mem_cons_self), List.all_eq_true.mp (by decide +kernel : [Cond.codeWith yL_blockPower cL_blockPower 6 (some .int) [(0, 11, 14, 21), (0, 11, 18, 13), (0, 11, 22, 15)]].all goodWord = true) _ List.mem_cons_self⟩) rfl rfl rfl (by decide +kernel) ⟨Nat.le_of_ble_eq_true rfl, Nat.le_of_ble_eq_true rfl⟩) rfl hl.1 rfl (lv_room (Nat.le_of_ble_eq_true rfl)) dL_law_2202 ⟨Nat.le_of_ble_eq_true rfl, Nat.le_of_ble_eq_true rfl⟩ (fun r S1 H locs hq G => ?_)
  obtain ⟨hq1, hq2⟩ := hq
  rw [hq2] at G
  refine lv_to (y := 1) hq1 ?_
  refine lv_istore (lv' := [(6, .int 1), (5, .int 0), (4, .ref (am 99)), (3, .ref (am 98)), (2, .ref (am 0)), (1, .ref (ad 0)), (0, .ref b)]) hx hb dL_law_2205 hl (by decide) rfl (fun ls hl => ?_)
  refine lv_aload_n hx hb dL_law_2207 rfl (lv_at hl 4 rfl) ?_
  refine lv_aload_n hx hb dL_law_2208 rfl (lv_at hl 6 rfl) ?_
  refine lv_iload hx hb dL_law_2209 (lv_at hl 1 rfl) ?_
  refine lv_iconst (v := 1) hx hb dL_law_2211 (by decide) ?_
  refine lv_iadd hx hb dL_law_2212 ?_
  refine lv_to (y := 1) (by decide +kernel) ?_
  refine va_sld hx hb hX0 hbl (Nat.not_le.mpr hbl) G.2.2 (i := 1) (vp_in_nI (n := 1) (N := 6) (by decide) (by decide)) dL_law_2213 ?_
  refine lv_to (y := xs 1) (congrArg xs (by decide)) ?_
  refine lv_aload_n hx hb dL_law_2214 rfl (lv_at hl 6 rfl) ?_
  refine lv_iload hx hb dL_law_2215 (lv_at hl 1 rfl) ?_
  refine lv_iconst (v := 2) hx hb dL_law_2217 (by decide) ?_
  refine lv_iadd hx hb dL_law_2218 ?_
  refine lv_to (y := 2) (by decide +kernel) ?_
  refine va_sld hx hb hX0 hbl (Nat.not_le.mpr hbl) G.2.2 (i := 2) (vp_in_nI (n := 2) (N := 6) (by decide) (by decide)) dL_law_2219 ?_
  refine lv_to (y := xs 2) (congrArg xs (by decide)) ?_
  refine lv_aload_n hx hb dL_law_2220 rfl (lv_at hl 6 rfl) ?_
  refine lv_iload hx hb dL_law_2221 (lv_at hl 1 rfl) ?_
  refine lv_iconst (v := 3) hx hb dL_law_2223 (by decide) ?_
  refine lv_iadd hx hb dL_law_2224 ?_
  refine lv_to (y := 3) (by decide +kernel) ?_
  refine va_sld hx hb hX0 hbl (Nat.not_le.mpr hbl) G.2.2 (i := 3) (vp_in_nI (n := 3) (N := 6) (by decide) (by decide)) dL_law_2225 ?_
  refine lv_to (y := xs 3) (congrArg xs (by decide)) ?_
  refine l_ml (As := [.int (xs 1), .int (xs 2), .int (xs 3)]) (rest := []) E G hA hKm hKb hX.2.2.2.2 hml (n_blockPower l D cI cJ cZ am mS0 (xs 1) (xs 2) (xs 3) rfl (fun _ => rfl)) (cwV 3 hts (glM (L := [Cond.methodLink RL 323 yX12_blockPower, Cond.instanceMethod yX12_blockPower, Cond.selects RX12 yX12_blockPower yX12_blockPower, Cond.initialized RX12]) (gl_in [(10, 17), (10, 18), (10, 19), (1, 14)] (by decide +kernel) (by decide +kernel)) ⟨(t_of [Cond.code yX12_blockPower cX12_blockPower 4 (some .long)] [(10, 20)] (by decide +kernel) _ List.mem_cons_self), List.all_eq_true.mp (by decide +kernel : [Cond.code yX12_blockPower cX12_blockPower 4 (some .long)].all goodWord = true) _ List.mem_cons_self⟩) rfl rfl rfl (by decide +kernel) ⟨Nat.le_of_ble_eq_true rfl, Nat.le_of_ble_eq_true rfl⟩) rfl hl.1 rfl (lv_room (Nat.le_of_ble_eq_true rfl)) dL_law_2226 ⟨Nat.le_of_ble_eq_true rfl, Nat.le_of_ble_eq_true rfl⟩ (fun r1 S1 H locs hq G => ?_)
  obtain ⟨hq1, hq2⟩ := hq
  rw [hq2] at G
  refine lv_lstore (lv' := [(7, .long r1), (6, .int 1), (5, .int 0), (4, .ref (am 99)), (3, .ref (am 98)), (2, .ref (am 0)), (1, .ref (ad 0)), (0, .ref b)]) hx hb dL_law_2229 hl (by decide) rfl (fun ls hl => ?_)
  refine lv_aload_n hx hb dL_law_2231 rfl (lv_at hl 5 rfl) ?_
  refine l_mi (As := []) (rest := []) E G hA hKm hKb hX.2.2.2.2 hml (m_thrown l D cI cJ cZ am (mi mS0 0 1)) (cwV 0 hts (glM (L := [Cond.methodLink RL 204 yX12_thrown, Cond.instanceMethod yX12_thrown, Cond.selects RX12 yX12_thrown yX12_thrown, Cond.initialized RX12]) (gl_in [(8, 65), (8, 66), (8, 67), (1, 14)] (by decide +kernel) (by decide +kernel)) ⟨(t_of [Cond.code yX12_thrown cX12_thrown 1 (some .int)] [(8, 68)] (by decide +kernel) _ List.mem_cons_self), List.all_eq_true.mp (by decide +kernel : [Cond.code yX12_thrown cX12_thrown 1 (some .int)].all goodWord = true) _ List.mem_cons_self⟩) rfl rfl rfl (by decide +kernel) ⟨Nat.le_of_ble_eq_true rfl, Nat.le_of_ble_eq_true rfl⟩) rfl hl.1 rfl (lv_room (Nat.le_of_ble_eq_true rfl)) dL_law_2232 ⟨Nat.le_of_ble_eq_true rfl, Nat.le_of_ble_eq_true rfl⟩ (fun r2 S1 H locs hq G => ?_)
  obtain ⟨hq1, hq2⟩ := hq
  rw [hq2] at G
  refine lv_to (y := 1) hq1 ?_
  refine lv_iload hx hb dL_law_2235 (lv_at hl 1 rfl) ?_
  refine lv_icmp_eq (tgt := 2242) hx hb dL_law_2237 (by decide) (fun c3 => ?_) (fun c3 => absurd (by decide +kernel) c3)
  refine lv_iload hx hb dL_law_2242 (lv_at hl 1 rfl) ?_
  refine lv_if_ne (tgt := 2258) hx hb dL_law_2244 (by decide) (fun c4 => ?_) (fun c4 => absurd c4 (by decide +kernel))
  refine lv_goto (tgt := 3975) hx hb dL_law_2258 (by decide) ?_
  refine lv_iinc (v := 6) (lv' := [(5, .int 6), (7, .long r1), (6, .int 1), (4, .ref (am 99)), (3, .ref (am 98)), (2, .ref (am 0)), (1, .ref (ad 0)), (0, .ref b)]) hx hb dL_law_3975 hl (k := 2) rfl (by decide +kernel) (by decide) rfl (fun ls hl => ?_)
  refine lv_goto (tgt := 28) hx hb dL_law_3978 (by decide) ?_
  refine lv_iload hx hb dL_law_28 (lv_at hl 0 rfl) ?_
  refine lv_aload_n hx hb dL_law_30 rfl (lv_at hl 7 rfl) ?_
  refine va_slen hx hb hX0 hbl (Nat.not_le.mpr hbl) G.2.2 dL_law_31 ?_
  refine lv_to (y := 6) (by decide) ?_
  refine lv_bipush (v := 6) hx hb dL_law_32 (by decide) ?_
  refine lv_isub hx hb dL_law_34 ?_
  refine lv_to (y := 0) (by decide +kernel) ?_
  refine lv_icmp_gt (tgt := 3981) hx hb dL_law_35 (by decide) (fun c5 => ?_) (fun c5 => absurd (by decide +kernel) c5)
  refine lv_iconst (v := 1) hx hb dL_law_3981 (by decide) ?_
  refine va_forget G.2.2.2.2 ?_
  refine W.widen (k := 600002) (n := 7302232) (Nat.le_of_ble_eq_true rfl) (Nat.le_of_ble_eq_true rfl) ?_
  exact lw_ret (d0 := s.drawn) (Drawn.sameBut.refl s.drawn lw_cs) hx hb hr hlocks dL_law_3982
set_option maxHeartbeats 4000000 in
set_option maxRecDepth 100000 in
theorem p_a37 {p : Program} {e : Env} {s : State} {m : MethodId} {below : List Frame} {meth : Method} {c : Code} (l : Launch) (hst : l.stackTraces = false) {b : Nat} {xs : Nat → Int32} (hx : p.tables.exec = Jvm.exec) (hb : c.code = code) (hr : meth.sig.returnType = ret) (hml : c.maxLocals = 9) (hown : s.vm.findClass RL = some m.cls) (hts : ∀ w ∈ lw_tbl, w.before #[Value.ref b] s = true) (hlocks : meth.locks = false) (hX0 : va_X b 6 xs s s.heap) (hbl : b < s.heap.size) (hX : xT (fun q => s.heap.size ≤ q) s) (hN1 : va_Nc xIAE xIOB s) (hN2 : va_Nc xISE xIOB s) {D : va_G} {cI cJ cZ cMic cSrc cSt cAI cAJ cD : ClassId} {ad am : Nat → Nat} {N : Nat} {S : Nat → va_E} {ls : Array Slot} {H : Heap} {locs : List Loc} (hK : va_K D vwCl (CT cI cJ cZ cMic cSrc cSt cAI cAJ ++ [(cD, .double)]) s) (hN : 1586 ≤ N) (F : FR cI cJ cZ cMic cSrc cSt cAI cAJ ad S) (G : lG D ad N cI cJ cZ am (fun q => s.heap.size ≤ q) s.heap H locs S mS0) (hl : lv_has ls 9 [(5, .int 0), (4, .ref (am 99)), (3, .ref (am 98)), (2, .ref (am 0)), (1, .ref (ad 0)), (0, .ref b)]) : W p l e room_1 s m #[Value.ref b] below meth c H locs 1605 82603 (lw_Z below #[Value.ref b] s) (F0 m 2261 ls []) := by
  obtain ⟨hS0, hS1, hS2, hS3, hS4, hS5, hS6, hS432, hS478, hS480, hS656, hS658⟩ := F
  have E : cE p c cL_law s m #[Value.ref b] lw_tbl D RL (CT cI cJ cZ cMic cSrc cSt cAI cAJ ++ [(cD, .double)]) := ⟨hx, hb, hts, hown, hK⟩
  have hKm : va_K D vwCl (MT cI cJ cZ) s := hK.sub [0, 1, 2] rfl
  have hKb : ∀ t : State, s.vm.Alike t.vm → va_K D vwCl (CT cI cJ cZ cMic cSrc cSt cAI cAJ ++ [(cD, .double)]) t := fun t h => va_K.moved h hK
  have hA : ∀ q : Nat, s.heap.size ≤ q → s.heap.size ≤ q := fun _ h => h
  refine lv_aload_n hx hb dL_law_2261 rfl (lv_at hl 4 rfl) ?_
  refine lv_aload_n hx hb dL_law_2262 rfl (lv_at hl 5 rfl) ?_
  refine lv_iload hx hb dL_law_2263 (lv_at hl 0 rfl) ?_
  refine lv_iconst (v := 1) hx hb dL_law_2265 (by decide) ?_
  refine lv_iadd hx hb dL_law_2266 ?_
  refine lv_to (y := 1) (by decide +kernel) ?_
  refine va_sld hx hb hX0 hbl (Nat.not_le.mpr hbl) G.2.2 (i := 1) (vp_in_nI (n := 1) (N := 6) (by decide) (by decide)) dL_law_2267 ?_
  refine lv_to (y := xs 1) (congrArg xs (by decide)) ?_
  refine lv_aload_n hx hb dL_law_2268 rfl (lv_at hl 5 rfl) ?_
  refine lv_iload hx hb dL_law_2269 (lv_at hl 0 rfl) ?_
  refine lv_iconst (v := 2) hx hb dL_law_2271 (by decide) ?_
  refine lv_iadd hx hb dL_law_2272 ?_
  refine lv_to (y := 2) (by decide +kernel) ?_
  refine va_sld hx hb hX0 hbl (Nat.not_le.mpr hbl) G.2.2 (i := 2) (vp_in_nI (n := 2) (N := 6) (by decide) (by decide)) dL_law_2273 ?_
  refine lv_to (y := xs 2) (congrArg xs (by decide)) ?_
  refine lv_aload_n hx hb dL_law_2274 rfl (lv_at hl 2 rfl) ?_
  refine l_w (As := [.ref (ad 0), .int (xs 1), .int (xs 2), .ref (am 98)]) (rest := []) E G hA hX hN1 hN2 (fun _ _ h _ _ k => va_Nc.moved h k) rfl hml (w_blockBest l hst D _ ad N S (sc := 478) (Nat.lt_of_lt_of_le (by decide) hN) hS0 rfl (Nat.lt_of_lt_of_le (by decide) hN) hS478 rfl (xs 1) (xs 2) (am 98)) (vx_cwSW 4 hts (glA (L := [Cond.methodLink RL 324 yL_blockBest, Cond.static yL_blockBest, Cond.initialized RL]) (gl_in [(6, 164), (6, 165), (1, 0)] (by decide +kernel) (by decide +kernel)) ⟨(t_of [Cond.codeWith yL_blockBest cL_blockBest 5 (some .int) [(0, 10, 13, 21), (0, 10, 17, 15)]] [(6, 166)] (by decide +kernel) _ List.mem_cons_self), List.all_eq_true.mp (by decide +kernel : [Cond.codeWith yL_blockBest cL_blockBest 5 (some .int) [(0, 10, 13, 21), (0, 10, 17, 15)]].all goodWord = true) _ List.mem_cons_self⟩) rfl rfl rfl (by decide +kernel) ⟨Nat.le_of_ble_eq_true rfl, Nat.le_of_ble_eq_true rfl⟩) rfl hl.1 rfl (lv_room (Nat.le_of_ble_eq_true rfl)) dL_law_2275 ⟨Nat.le_of_ble_eq_true rfl, Nat.le_of_ble_eq_true rfl⟩ (fun r S1 H locs hq G => ?_)
  obtain ⟨hq1, hq2⟩ := hq
  rw [hq2] at G
  refine lv_to (y := 1) hq1 ?_
  refine lv_istore (lv' := [(6, .int 1), (5, .int 0), (4, .ref (am 99)), (3, .ref (am 98)), (2, .ref (am 0)), (1, .ref (ad 0)), (0, .ref b)]) hx hb dL_law_2278 hl (by decide) rfl (fun ls hl => ?_)
  refine lv_aload_n hx hb dL_law_2280 rfl (lv_at hl 4 rfl) ?_
  refine lv_aload_n hx hb dL_law_2281 rfl (lv_at hl 6 rfl) ?_
  refine lv_iload hx hb dL_law_2282 (lv_at hl 1 rfl) ?_
  refine lv_iconst (v := 1) hx hb dL_law_2284 (by decide) ?_
  refine lv_iadd hx hb dL_law_2285 ?_
  refine lv_to (y := 1) (by decide +kernel) ?_
  refine va_sld hx hb hX0 hbl (Nat.not_le.mpr hbl) G.2.2 (i := 1) (vp_in_nI (n := 1) (N := 6) (by decide) (by decide)) dL_law_2286 ?_
  refine lv_to (y := xs 1) (congrArg xs (by decide)) ?_
  refine lv_aload_n hx hb dL_law_2287 rfl (lv_at hl 6 rfl) ?_
  refine lv_iload hx hb dL_law_2288 (lv_at hl 1 rfl) ?_
  refine lv_iconst (v := 2) hx hb dL_law_2290 (by decide) ?_
  refine lv_iadd hx hb dL_law_2291 ?_
  refine lv_to (y := 2) (by decide +kernel) ?_
  refine va_sld hx hb hX0 hbl (Nat.not_le.mpr hbl) G.2.2 (i := 2) (vp_in_nI (n := 2) (N := 6) (by decide) (by decide)) dL_law_2292 ?_
  refine lv_to (y := xs 2) (congrArg xs (by decide)) ?_
  refine l_mi (As := [.int (xs 1), .int (xs 2)]) (rest := []) E G hA hKm hKb hX.2.2.2.2 hml (n_blockBest l D cI cJ cZ am mS0 (xs 1) (xs 2) rfl (fun _ => rfl)) (cwV 2 hts (glM (L := [Cond.methodLink RL 326 yX12_blockBest, Cond.instanceMethod yX12_blockBest, Cond.selects RX12 yX12_blockBest yX12_blockBest, Cond.initialized RX12]) (gl_in [(10, 29), (10, 30), (10, 31), (1, 14)] (by decide +kernel) (by decide +kernel)) ⟨(t_of [Cond.code yX12_blockBest cX12_blockBest 3 (some .int)] [(10, 32)] (by decide +kernel) _ List.mem_cons_self), List.all_eq_true.mp (by decide +kernel : [Cond.code yX12_blockBest cX12_blockBest 3 (some .int)].all goodWord = true) _ List.mem_cons_self⟩) rfl rfl rfl (by decide +kernel) ⟨Nat.le_of_ble_eq_true rfl, Nat.le_of_ble_eq_true rfl⟩) rfl hl.1 rfl (lv_room (Nat.le_of_ble_eq_true rfl)) dL_law_2293 ⟨Nat.le_of_ble_eq_true rfl, Nat.le_of_ble_eq_true rfl⟩ (fun r1 S1 H locs hq G => ?_)
  obtain ⟨hq1, hq2⟩ := hq
  rw [hq2] at G
  refine lv_to (y := 0) hq1 ?_
  refine lv_istore (lv' := [(7, .int 0), (6, .int 1), (5, .int 0), (4, .ref (am 99)), (3, .ref (am 98)), (2, .ref (am 0)), (1, .ref (ad 0)), (0, .ref b)]) hx hb dL_law_2296 hl (by decide) rfl (fun ls hl => ?_)
  refine lv_aload_n hx hb dL_law_2298 rfl (lv_at hl 5 rfl) ?_
  refine l_mi (As := []) (rest := []) E G hA hKm hKb hX.2.2.2.2 hml (m_thrown l D cI cJ cZ am (mi mS0 0 1)) (cwV 0 hts (glM (L := [Cond.methodLink RL 204 yX12_thrown, Cond.instanceMethod yX12_thrown, Cond.selects RX12 yX12_thrown yX12_thrown, Cond.initialized RX12]) (gl_in [(8, 65), (8, 66), (8, 67), (1, 14)] (by decide +kernel) (by decide +kernel)) ⟨(t_of [Cond.code yX12_thrown cX12_thrown 1 (some .int)] [(8, 68)] (by decide +kernel) _ List.mem_cons_self), List.all_eq_true.mp (by decide +kernel : [Cond.code yX12_thrown cX12_thrown 1 (some .int)].all goodWord = true) _ List.mem_cons_self⟩) rfl rfl rfl (by decide +kernel) ⟨Nat.le_of_ble_eq_true rfl, Nat.le_of_ble_eq_true rfl⟩) rfl hl.1 rfl (lv_room (Nat.le_of_ble_eq_true rfl)) dL_law_2299 ⟨Nat.le_of_ble_eq_true rfl, Nat.le_of_ble_eq_true rfl⟩ (fun r2 S1 H locs hq G => ?_)
  obtain ⟨hq1, hq2⟩ := hq
  rw [hq2] at G
  refine lv_to (y := 1) hq1 ?_
  refine lv_iload hx hb dL_law_2302 (lv_at hl 1 rfl) ?_
  refine lv_icmp_eq (tgt := 2309) hx hb dL_law_2304 (by decide) (fun c3 => ?_) (fun c3 => absurd (by decide +kernel) c3)
  refine lv_iload hx hb dL_law_2309 (lv_at hl 1 rfl) ?_
  refine lv_if_ne (tgt := 2326) hx hb dL_law_2311 (by decide) (fun c4 => ?_) (fun c4 => absurd c4 (by decide +kernel))
  refine lv_goto (tgt := 3975) hx hb dL_law_2326 (by decide) ?_
  refine lv_iinc (v := 6) (lv' := [(5, .int 6), (7, .int 0), (6, .int 1), (4, .ref (am 99)), (3, .ref (am 98)), (2, .ref (am 0)), (1, .ref (ad 0)), (0, .ref b)]) hx hb dL_law_3975 hl (k := 2) rfl (by decide +kernel) (by decide) rfl (fun ls hl => ?_)
  refine lv_goto (tgt := 28) hx hb dL_law_3978 (by decide) ?_
  refine lv_iload hx hb dL_law_28 (lv_at hl 0 rfl) ?_
  refine lv_aload_n hx hb dL_law_30 rfl (lv_at hl 7 rfl) ?_
  refine va_slen hx hb hX0 hbl (Nat.not_le.mpr hbl) G.2.2 dL_law_31 ?_
  refine lv_to (y := 6) (by decide) ?_
  refine lv_bipush (v := 6) hx hb dL_law_32 (by decide) ?_
  refine lv_isub hx hb dL_law_34 ?_
  refine lv_to (y := 0) (by decide +kernel) ?_
  refine lv_icmp_gt (tgt := 3981) hx hb dL_law_35 (by decide) (fun c5 => ?_) (fun c5 => absurd (by decide +kernel) c5)
  refine lv_iconst (v := 1) hx hb dL_law_3981 (by decide) ?_
  refine va_forget G.2.2.2.2 ?_
  refine W.widen (k := 600002) (n := 7302232) (Nat.le_of_ble_eq_true rfl) (Nat.le_of_ble_eq_true rfl) ?_
  exact lw_ret (d0 := s.drawn) (Drawn.sameBut.refl s.drawn lw_cs) hx hb hr hlocks dL_law_3982
set_option maxHeartbeats 4000000 in
set_option maxRecDepth 100000 in
theorem p_a38 {p : Program} {e : Env} {s : State} {m : MethodId} {below : List Frame} {meth : Method} {c : Code} (l : Launch) (hst : l.stackTraces = false) {b : Nat} {xs : Nat → Int32} (hx : p.tables.exec = Jvm.exec) (hb : c.code = code) (hr : meth.sig.returnType = ret) (hml : c.maxLocals = 9) (hown : s.vm.findClass RL = some m.cls) (hts : ∀ w ∈ lw_tbl, w.before #[Value.ref b] s = true) (hlocks : meth.locks = false) (hX0 : va_X b 6 xs s s.heap) (hbl : b < s.heap.size) (hX : xT (fun q => s.heap.size ≤ q) s) (hN1 : va_Nc xIAE xIOB s) (hN2 : va_Nc xISE xIOB s) {D : va_G} {cI cJ cZ cMic cSrc cSt cAI cAJ cD : ClassId} {ad am : Nat → Nat} {N : Nat} {S : Nat → va_E} {ls : Array Slot} {H : Heap} {locs : List Loc} (hK : va_K D vwCl (CT cI cJ cZ cMic cSrc cSt cAI cAJ ++ [(cD, .double)]) s) (hN : 1586 ≤ N) (F : FR cI cJ cZ cMic cSrc cSt cAI cAJ ad S) (G : lG D ad N cI cJ cZ am (fun q => s.heap.size ≤ q) s.heap H locs S mS0) (hl : lv_has ls 9 [(5, .int 0), (4, .ref (am 99)), (3, .ref (am 98)), (2, .ref (am 0)), (1, .ref (ad 0)), (0, .ref b)]) : W p l e room_1 s m #[Value.ref b] below meth c H locs 1605 82603 (lw_Z below #[Value.ref b] s) (F0 m 2329 ls []) := by
  obtain ⟨hS0, hS1, hS2, hS3, hS4, hS5, hS6, hS432, hS478, hS480, hS656, hS658⟩ := F
  have E : cE p c cL_law s m #[Value.ref b] lw_tbl D RL (CT cI cJ cZ cMic cSrc cSt cAI cAJ ++ [(cD, .double)]) := ⟨hx, hb, hts, hown, hK⟩
  have hKm : va_K D vwCl (MT cI cJ cZ) s := hK.sub [0, 1, 2] rfl
  have hKb : ∀ t : State, s.vm.Alike t.vm → va_K D vwCl (CT cI cJ cZ cMic cSrc cSt cAI cAJ ++ [(cD, .double)]) t := fun t h => va_K.moved h hK
  have hA : ∀ q : Nat, s.heap.size ≤ q → s.heap.size ≤ q := fun _ h => h
  refine lv_aload_n hx hb dL_law_2329 rfl (lv_at hl 4 rfl) ?_
  refine lv_aload_n hx hb dL_law_2330 rfl (lv_at hl 5 rfl) ?_
  refine lv_iload hx hb dL_law_2331 (lv_at hl 0 rfl) ?_
  refine lv_iconst (v := 1) hx hb dL_law_2333 (by decide) ?_
  refine lv_iadd hx hb dL_law_2334 ?_
  refine lv_to (y := 1) (by decide +kernel) ?_
  refine va_sld hx hb hX0 hbl (Nat.not_le.mpr hbl) G.2.2 (i := 1) (vp_in_nI (n := 1) (N := 6) (by decide) (by decide)) dL_law_2335 ?_
  refine lv_to (y := xs 1) (congrArg xs (by decide)) ?_
  refine lv_aload_n hx hb dL_law_2336 rfl (lv_at hl 2 rfl) ?_
  refine l_w (As := [.ref (ad 0), .int (xs 1), .ref (am 98)]) (rest := []) E G hA hX hN1 hN2 (fun _ _ h _ _ k => va_Nc.moved h k) rfl hml (w_path l hst D _ ad N S (sc := 478) (Nat.lt_of_lt_of_le (by decide) hN) hS0 rfl (Nat.lt_of_lt_of_le (by decide) hN) hS478 rfl (xs 1) (am 98)) (vx_cwSW 3 hts (glA (L := [Cond.methodLink RL 327 yL_path, Cond.static yL_path, Cond.initialized RL]) (gl_in [(6, 186), (6, 187), (1, 0)] (by decide +kernel) (by decide +kernel)) ⟨(t_of [Cond.codeWith yL_path cL_path 4 (some .int) [(0, 9, 12, 21), (0, 9, 15, 15)]] [(6, 188)] (by decide +kernel) _ List.mem_cons_self), List.all_eq_true.mp (by decide +kernel : [Cond.codeWith yL_path cL_path 4 (some .int) [(0, 9, 12, 21), (0, 9, 15, 15)]].all goodWord = true) _ List.mem_cons_self⟩) rfl rfl rfl (by decide +kernel) ⟨Nat.le_of_ble_eq_true rfl, Nat.le_of_ble_eq_true rfl⟩) rfl hl.1 rfl (lv_room (Nat.le_of_ble_eq_true rfl)) dL_law_2337 ⟨Nat.le_of_ble_eq_true rfl, Nat.le_of_ble_eq_true rfl⟩ (fun r S1 H locs hq G => ?_)
  obtain ⟨hq1, hq2⟩ := hq
  rw [hq2] at G
  refine lv_to (y := 1) hq1 ?_
  refine lv_istore (lv' := [(6, .int 1), (5, .int 0), (4, .ref (am 99)), (3, .ref (am 98)), (2, .ref (am 0)), (1, .ref (ad 0)), (0, .ref b)]) hx hb dL_law_2340 hl (by decide) rfl (fun ls hl => ?_)
  refine lv_aload_n hx hb dL_law_2342 rfl (lv_at hl 4 rfl) ?_
  refine lv_aload_n hx hb dL_law_2343 rfl (lv_at hl 6 rfl) ?_
  refine lv_iload hx hb dL_law_2344 (lv_at hl 1 rfl) ?_
  refine lv_iconst (v := 1) hx hb dL_law_2346 (by decide) ?_
  refine lv_iadd hx hb dL_law_2347 ?_
  refine lv_to (y := 1) (by decide +kernel) ?_
  refine va_sld hx hb hX0 hbl (Nat.not_le.mpr hbl) G.2.2 (i := 1) (vp_in_nI (n := 1) (N := 6) (by decide) (by decide)) dL_law_2348 ?_
  refine lv_to (y := xs 1) (congrArg xs (by decide)) ?_
  refine l_mi (As := [.int (xs 1)]) (rest := []) E G hA hKm hKb hX.2.2.2.2 hml (n_path l D cI cJ cZ am mS0 (xs 1) rfl (fun _ => rfl)) (cwV 1 hts (glM (L := [Cond.methodLink RL 329 yX12_path, Cond.instanceMethod yX12_path, Cond.selects RX12 yX12_path yX12_path, Cond.initialized RX12]) (gl_in [(10, 37), (10, 38), (10, 39), (1, 14)] (by decide +kernel) (by decide +kernel)) ⟨(t_of [Cond.code yX12_path cX12_path 6 (some .int)] [(10, 40)] (by decide +kernel) _ List.mem_cons_self), List.all_eq_true.mp (by decide +kernel : [Cond.code yX12_path cX12_path 6 (some .int)].all goodWord = true) _ List.mem_cons_self⟩) rfl rfl rfl (by decide +kernel) ⟨Nat.le_of_ble_eq_true rfl, Nat.le_of_ble_eq_true rfl⟩) rfl hl.1 rfl (lv_room (Nat.le_of_ble_eq_true rfl)) dL_law_2349 ⟨Nat.le_of_ble_eq_true rfl, Nat.le_of_ble_eq_true rfl⟩ (fun r1 S1 H locs hq G => ?_)
  obtain ⟨hq1, hq2⟩ := hq
  rw [hq2] at G
  refine lv_to (y := 0) hq1 ?_
  refine lv_istore (lv' := [(7, .int 0), (6, .int 1), (5, .int 0), (4, .ref (am 99)), (3, .ref (am 98)), (2, .ref (am 0)), (1, .ref (ad 0)), (0, .ref b)]) hx hb dL_law_2352 hl (by decide) rfl (fun ls hl => ?_)
  refine lv_aload_n hx hb dL_law_2354 rfl (lv_at hl 5 rfl) ?_
  refine l_mi (As := []) (rest := []) E G hA hKm hKb hX.2.2.2.2 hml (m_thrown l D cI cJ cZ am (mi mS0 0 1)) (cwV 0 hts (glM (L := [Cond.methodLink RL 204 yX12_thrown, Cond.instanceMethod yX12_thrown, Cond.selects RX12 yX12_thrown yX12_thrown, Cond.initialized RX12]) (gl_in [(8, 65), (8, 66), (8, 67), (1, 14)] (by decide +kernel) (by decide +kernel)) ⟨(t_of [Cond.code yX12_thrown cX12_thrown 1 (some .int)] [(8, 68)] (by decide +kernel) _ List.mem_cons_self), List.all_eq_true.mp (by decide +kernel : [Cond.code yX12_thrown cX12_thrown 1 (some .int)].all goodWord = true) _ List.mem_cons_self⟩) rfl rfl rfl (by decide +kernel) ⟨Nat.le_of_ble_eq_true rfl, Nat.le_of_ble_eq_true rfl⟩) rfl hl.1 rfl (lv_room (Nat.le_of_ble_eq_true rfl)) dL_law_2355 ⟨Nat.le_of_ble_eq_true rfl, Nat.le_of_ble_eq_true rfl⟩ (fun r2 S1 H locs hq G => ?_)
  obtain ⟨hq1, hq2⟩ := hq
  rw [hq2] at G
  refine lv_to (y := 1) hq1 ?_
  refine lv_iload hx hb dL_law_2358 (lv_at hl 1 rfl) ?_
  refine lv_icmp_eq (tgt := 2365) hx hb dL_law_2360 (by decide) (fun c3 => ?_) (fun c3 => absurd (by decide +kernel) c3)
  refine lv_iload hx hb dL_law_2365 (lv_at hl 1 rfl) ?_
  refine lv_if_ne (tgt := 2382) hx hb dL_law_2367 (by decide) (fun c4 => ?_) (fun c4 => absurd c4 (by decide +kernel))
  refine lv_goto (tgt := 3975) hx hb dL_law_2382 (by decide) ?_
  refine lv_iinc (v := 6) (lv' := [(5, .int 6), (7, .int 0), (6, .int 1), (4, .ref (am 99)), (3, .ref (am 98)), (2, .ref (am 0)), (1, .ref (ad 0)), (0, .ref b)]) hx hb dL_law_3975 hl (k := 2) rfl (by decide +kernel) (by decide) rfl (fun ls hl => ?_)
  refine lv_goto (tgt := 28) hx hb dL_law_3978 (by decide) ?_
  refine lv_iload hx hb dL_law_28 (lv_at hl 0 rfl) ?_
  refine lv_aload_n hx hb dL_law_30 rfl (lv_at hl 7 rfl) ?_
  refine va_slen hx hb hX0 hbl (Nat.not_le.mpr hbl) G.2.2 dL_law_31 ?_
  refine lv_to (y := 6) (by decide) ?_
  refine lv_bipush (v := 6) hx hb dL_law_32 (by decide) ?_
  refine lv_isub hx hb dL_law_34 ?_
  refine lv_to (y := 0) (by decide +kernel) ?_
  refine lv_icmp_gt (tgt := 3981) hx hb dL_law_35 (by decide) (fun c5 => ?_) (fun c5 => absurd (by decide +kernel) c5)
  refine lv_iconst (v := 1) hx hb dL_law_3981 (by decide) ?_
  refine va_forget G.2.2.2.2 ?_
  refine W.widen (k := 600002) (n := 7302232) (Nat.le_of_ble_eq_true rfl) (Nat.le_of_ble_eq_true rfl) ?_
  exact lw_ret (d0 := s.drawn) (Drawn.sameBut.refl s.drawn lw_cs) hx hb hr hlocks dL_law_3982
