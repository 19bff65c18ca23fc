section
/-! 17h.arm7.lean.txt -/
theorem dL_law_2206 : decode cL_law 2206 = .ok (.aload_n 1, 1) := de_43 (lb_137 (j := 14) (b := 43) rfl)
theorem dL_law_2207 : decode cL_law 2207 = .ok (.aload_n 0, 1) := de_42 (lb_137 (j := 15) (b := 42) rfl)
theorem dL_law_2208 : decode cL_law 2208 = .ok (.iload 5, 2) := de_21 (lb_138 (j := 0) (b := 21) rfl) (lb_138 (j := 1) (b := 5) rfl) rfl
theorem dL_law_2210 : decode cL_law 2210 = .ok (.iconst 1, 1) := de_4 (lb_138 (j := 2) (b := 4) rfl)
theorem dL_law_2211 : decode cL_law 2211 = .ok (.iadd, 1) := de_96 (lb_138 (j := 3) (b := 96) rfl)
theorem dL_law_2212 : decode cL_law 2212 = .ok (.iaload, 1) := de_46 (lb_138 (j := 4) (b := 46) rfl)
theorem dL_law_2213 : decode cL_law 2213 = .ok (.aload_n 0, 1) := de_42 (lb_138 (j := 5) (b := 42) rfl)
theorem dL_law_2214 : decode cL_law 2214 = .ok (.iload 5, 2) := de_21 (lb_138 (j := 6) (b := 21) rfl) (lb_138 (j := 7) (b := 5) rfl) rfl
theorem dL_law_2216 : decode cL_law 2216 = .ok (.iconst 2, 1) := de_5 (lb_138 (j := 8) (b := 5) rfl)
theorem dL_law_2217 : decode cL_law 2217 = .ok (.iadd, 1) := de_96 (lb_138 (j := 9) (b := 96) rfl)
theorem dL_law_2218 : decode cL_law 2218 = .ok (.iaload, 1) := de_46 (lb_138 (j := 10) (b := 46) rfl)
theorem dL_law_2219 : decode cL_law 2219 = .ok (.aload_n 0, 1) := de_42 (lb_138 (j := 11) (b := 42) rfl)
theorem dL_law_2220 : decode cL_law 2220 = .ok (.iload 5, 2) := de_21 (lb_138 (j := 12) (b := 21) rfl) (lb_138 (j := 13) (b := 5) rfl) rfl
theorem dL_law_2222 : decode cL_law 2222 = .ok (.iconst 3, 1) := de_6 (lb_138 (j := 14) (b := 6) rfl)
theorem dL_law_2223 : decode cL_law 2223 = .ok (.iadd, 1) := de_96 (lb_138 (j := 15) (b := 96) rfl)
theorem dL_law_2224 : decode cL_law 2224 = .ok (.iaload, 1) := de_46 (lb_139 (j := 0) (b := 46) rfl)
theorem dL_law_2225 : decode cL_law 2225 = .ok (.aload_n 3, 1) := de_45 (lb_139 (j := 1) (b := 45) rfl)
theorem dL_law_2226 : decode cL_law 2226 = .ok (.invokestatic 382, 3) := de_184 (lb_139 (j := 2) (b := 184) rfl) (lb_139 (j := 3) (b := 1) rfl) (lb_139 (j := 4) (b := 126) rfl) rfl
theorem dL_law_2229 : decode cL_law 2229 = .ok (.istore 6, 2) := de_54 (lb_139 (j := 5) (b := 54) rfl) (lb_139 (j := 6) (b := 6) rfl) rfl
theorem dL_law_2231 : decode cL_law 2231 = .ok (.aload_n 2, 1) := de_44 (lb_139 (j := 7) (b := 44) rfl)
theorem dL_law_2232 : decode cL_law 2232 = .ok (.aload_n 0, 1) := de_42 (lb_139 (j := 8) (b := 42) rfl)
theorem dL_law_2233 : decode cL_law 2233 = .ok (.iload 5, 2) := de_21 (lb_139 (j := 9) (b := 21) rfl) (lb_139 (j := 10) (b := 5) rfl) rfl
theorem dL_law_2235 : decode cL_law 2235 = .ok (.iconst 1, 1) := de_4 (lb_139 (j := 11) (b := 4) rfl)
theorem dL_law_2236 : decode cL_law 2236 = .ok (.iadd, 1) := de_96 (lb_139 (j := 12) (b := 96) rfl)
theorem dL_law_2237 : decode cL_law 2237 = .ok (.iaload, 1) := de_46 (lb_139 (j := 13) (b := 46) rfl)
theorem dL_law_2238 : decode cL_law 2238 = .ok (.aload_n 0, 1) := de_42 (lb_139 (j := 14) (b := 42) rfl)
theorem dL_law_2239 : decode cL_law 2239 = .ok (.iload 5, 2) := de_21 (lb_139 (j := 15) (b := 21) rfl) (lb_140 (j := 0) (b := 5) rfl) rfl
theorem dL_law_2241 : decode cL_law 2241 = .ok (.iconst 2, 1) := de_5 (lb_140 (j := 1) (b := 5) rfl)
theorem dL_law_2242 : decode cL_law 2242 = .ok (.iadd, 1) := de_96 (lb_140 (j := 2) (b := 96) rfl)
theorem dL_law_2243 : decode cL_law 2243 = .ok (.iaload, 1) := de_46 (lb_140 (j := 3) (b := 46) rfl)
theorem dL_law_2244 : decode cL_law 2244 = .ok (.aload_n 0, 1) := de_42 (lb_140 (j := 4) (b := 42) rfl)
theorem dL_law_2245 : decode cL_law 2245 = .ok (.iload 5, 2) := de_21 (lb_140 (j := 5) (b := 21) rfl) (lb_140 (j := 6) (b := 5) rfl) rfl
theorem dL_law_2247 : decode cL_law 2247 = .ok (.iconst 3, 1) := de_6 (lb_140 (j := 7) (b := 6) rfl)
theorem dL_law_2248 : decode cL_law 2248 = .ok (.iadd, 1) := de_96 (lb_140 (j := 8) (b := 96) rfl)
theorem dL_law_2249 : decode cL_law 2249 = .ok (.iaload, 1) := de_46 (lb_140 (j := 9) (b := 46) rfl)
theorem dL_law_2250 : decode cL_law 2250 = .ok (.invokevirtual 384, 3) := de_182 (lb_140 (j := 10) (b := 182) rfl) (lb_140 (j := 11) (b := 1) rfl) (lb_140 (j := 12) (b := 128) rfl) rfl
theorem dL_law_2253 : decode cL_law 2253 = .ok (.istore 7, 2) := de_54 (lb_140 (j := 13) (b := 54) rfl) (lb_140 (j := 14) (b := 7) rfl) rfl
theorem dL_law_2255 : decode cL_law 2255 = .ok (.goto 184, 3) := de_167 (lb_140 (j := 15) (b := 167) rfl) (lb_141 (j := 0) (b := 0) rfl) (lb_141 (j := 1) (b := 184) rfl) (by decide +kernel)
theorem dL_law_2258 : decode cL_law 2258 = .ok (.aload_n 1, 1) := de_43 (lb_141 (j := 2) (b := 43) rfl)
theorem dL_law_2259 : decode cL_law 2259 = .ok (.aload_n 0, 1) := de_42 (lb_141 (j := 3) (b := 42) rfl)
theorem dL_law_2260 : decode cL_law 2260 = .ok (.iload 5, 2) := de_21 (lb_141 (j := 4) (b := 21) rfl) (lb_141 (j := 5) (b := 5) rfl) rfl
theorem dL_law_2262 : decode cL_law 2262 = .ok (.iconst 1, 1) := de_4 (lb_141 (j := 6) (b := 4) rfl)
theorem dL_law_2263 : decode cL_law 2263 = .ok (.iadd, 1) := de_96 (lb_141 (j := 7) (b := 96) rfl)
theorem dL_law_2264 : decode cL_law 2264 = .ok (.iaload, 1) := de_46 (lb_141 (j := 8) (b := 46) rfl)
theorem dL_law_2265 : decode cL_law 2265 = .ok (.aload_n 0, 1) := de_42 (lb_141 (j := 9) (b := 42) rfl)
theorem dL_law_2266 : decode cL_law 2266 = .ok (.iload 5, 2) := de_21 (lb_141 (j := 10) (b := 21) rfl) (lb_141 (j := 11) (b := 5) rfl) rfl
theorem dL_law_2268 : decode cL_law 2268 = .ok (.iconst 2, 1) := de_5 (lb_141 (j := 12) (b := 5) rfl)
theorem dL_law_2269 : decode cL_law 2269 = .ok (.iadd, 1) := de_96 (lb_141 (j := 13) (b := 96) rfl)
theorem dL_law_2270 : decode cL_law 2270 = .ok (.iaload, 1) := de_46 (lb_141 (j := 14) (b := 46) rfl)
theorem dL_law_2271 : decode cL_law 2271 = .ok (.aload_n 0, 1) := de_42 (lb_141 (j := 15) (b := 42) rfl)
theorem dL_law_2272 : decode cL_law 2272 = .ok (.iload 5, 2) := de_21 (lb_142 (j := 0) (b := 21) rfl) (lb_142 (j := 1) (b := 5) rfl) rfl
theorem dL_law_2274 : decode cL_law 2274 = .ok (.iconst 3, 1) := de_6 (lb_142 (j := 2) (b := 6) rfl)
theorem dL_law_2275 : decode cL_law 2275 = .ok (.iadd, 1) := de_96 (lb_142 (j := 3) (b := 96) rfl)
theorem dL_law_2276 : decode cL_law 2276 = .ok (.iaload, 1) := de_46 (lb_142 (j := 4) (b := 46) rfl)
theorem dL_law_2277 : decode cL_law 2277 = .ok (.aload_n 3, 1) := de_45 (lb_142 (j := 5) (b := 45) rfl)
theorem dL_law_2278 : decode cL_law 2278 = .ok (.invokestatic 385, 3) := de_184 (lb_142 (j := 6) (b := 184) rfl) (lb_142 (j := 7) (b := 1) rfl) (lb_142 (j := 8) (b := 129) rfl) rfl
theorem dL_law_2281 : decode cL_law 2281 = .ok (.istore 6, 2) := de_54 (lb_142 (j := 9) (b := 54) rfl) (lb_142 (j := 10) (b := 6) rfl) rfl
theorem dL_law_2283 : decode cL_law 2283 = .ok (.aload_n 2, 1) := de_44 (lb_142 (j := 11) (b := 44) rfl)
theorem dL_law_2284 : decode cL_law 2284 = .ok (.aload_n 0, 1) := de_42 (lb_142 (j := 12) (b := 42) rfl)
theorem dL_law_2285 : decode cL_law 2285 = .ok (.iload 5, 2) := de_21 (lb_142 (j := 13) (b := 21) rfl) (lb_142 (j := 14) (b := 5) rfl) rfl
theorem dL_law_2287 : decode cL_law 2287 = .ok (.iconst 1, 1) := de_4 (lb_142 (j := 15) (b := 4) rfl)
theorem dL_law_2288 : decode cL_law 2288 = .ok (.iadd, 1) := de_96 (lb_143 (j := 0) (b := 96) rfl)
theorem dL_law_2289 : decode cL_law 2289 = .ok (.iaload, 1) := de_46 (lb_143 (j := 1) (b := 46) rfl)
theorem dL_law_2290 : decode cL_law 2290 = .ok (.aload_n 0, 1) := de_42 (lb_143 (j := 2) (b := 42) rfl)
theorem dL_law_2291 : decode cL_law 2291 = .ok (.iload 5, 2) := de_21 (lb_143 (j := 3) (b := 21) rfl) (lb_143 (j := 4) (b := 5) rfl) rfl
theorem dL_law_2293 : decode cL_law 2293 = .ok (.iconst 2, 1) := de_5 (lb_143 (j := 5) (b := 5) rfl)
theorem dL_law_2294 : decode cL_law 2294 = .ok (.iadd, 1) := de_96 (lb_143 (j := 6) (b := 96) rfl)
theorem dL_law_2295 : decode cL_law 2295 = .ok (.iaload, 1) := de_46 (lb_143 (j := 7) (b := 46) rfl)
theorem dL_law_2296 : decode cL_law 2296 = .ok (.aload_n 0, 1) := de_42 (lb_143 (j := 8) (b := 42) rfl)
theorem dL_law_2297 : decode cL_law 2297 = .ok (.iload 5, 2) := de_21 (lb_143 (j := 9) (b := 21) rfl) (lb_143 (j := 10) (b := 5) rfl) rfl
theorem dL_law_2299 : decode cL_law 2299 = .ok (.iconst 3, 1) := de_6 (lb_143 (j := 11) (b := 6) rfl)
theorem dL_law_2300 : decode cL_law 2300 = .ok (.iadd, 1) := de_96 (lb_143 (j := 12) (b := 96) rfl)
theorem dL_law_2301 : decode cL_law 2301 = .ok (.iaload, 1) := de_46 (lb_143 (j := 13) (b := 46) rfl)
theorem dL_law_2302 : decode cL_law 2302 = .ok (.invokevirtual 387, 3) := de_182 (lb_143 (j := 14) (b := 182) rfl) (lb_143 (j := 15) (b := 1) rfl) (lb_144 (j := 0) (b := 131) rfl) rfl
theorem dL_law_2305 : decode cL_law 2305 = .ok (.istore 7, 2) := de_54 (lb_144 (j := 1) (b := 54) rfl) (lb_144 (j := 2) (b := 7) rfl) rfl
theorem dL_law_2307 : decode cL_law 2307 = .ok (.goto 132, 3) := de_167 (lb_144 (j := 3) (b := 167) rfl) (lb_144 (j := 4) (b := 0) rfl) (lb_144 (j := 5) (b := 132) rfl) (by decide +kernel)
theorem dL_law_2310 : decode cL_law 2310 = .ok (.aload_n 1, 1) := de_43 (lb_144 (j := 6) (b := 43) rfl)
theorem dL_law_2311 : decode cL_law 2311 = .ok (.aload_n 0, 1) := de_42 (lb_144 (j := 7) (b := 42) rfl)
theorem dL_law_2312 : decode cL_law 2312 = .ok (.iload 5, 2) := de_21 (lb_144 (j := 8) (b := 21) rfl) (lb_144 (j := 9) (b := 5) rfl) rfl
theorem dL_law_2314 : decode cL_law 2314 = .ok (.iconst 1, 1) := de_4 (lb_144 (j := 10) (b := 4) rfl)
theorem dL_law_2315 : decode cL_law 2315 = .ok (.iadd, 1) := de_96 (lb_144 (j := 11) (b := 96) rfl)
theorem dL_law_2316 : decode cL_law 2316 = .ok (.iaload, 1) := de_46 (lb_144 (j := 12) (b := 46) rfl)
theorem dL_law_2317 : decode cL_law 2317 = .ok (.aload_n 3, 1) := de_45 (lb_144 (j := 13) (b := 45) rfl)
theorem dL_law_2318 : decode cL_law 2318 = .ok (.invokestatic 388, 3) := de_184 (lb_144 (j := 14) (b := 184) rfl) (lb_144 (j := 15) (b := 1) rfl) (lb_145 (j := 0) (b := 132) rfl) rfl
theorem dL_law_2321 : decode cL_law 2321 = .ok (.istore 6, 2) := de_54 (lb_145 (j := 1) (b := 54) rfl) (lb_145 (j := 2) (b := 6) rfl) rfl
theorem dL_law_2323 : decode cL_law 2323 = .ok (.aload_n 2, 1) := de_44 (lb_145 (j := 3) (b := 44) rfl)
theorem dL_law_2324 : decode cL_law 2324 = .ok (.aload_n 0, 1) := de_42 (lb_145 (j := 4) (b := 42) rfl)
theorem dL_law_2325 : decode cL_law 2325 = .ok (.iload 5, 2) := de_21 (lb_145 (j := 5) (b := 21) rfl) (lb_145 (j := 6) (b := 5) rfl) rfl
theorem dL_law_2327 : decode cL_law 2327 = .ok (.iconst 1, 1) := de_4 (lb_145 (j := 7) (b := 4) rfl)
theorem dL_law_2328 : decode cL_law 2328 = .ok (.iadd, 1) := de_96 (lb_145 (j := 8) (b := 96) rfl)
theorem dL_law_2329 : decode cL_law 2329 = .ok (.iaload, 1) := de_46 (lb_145 (j := 9) (b := 46) rfl)
theorem dL_law_2330 : decode cL_law 2330 = .ok (.invokevirtual 390, 3) := de_182 (lb_145 (j := 10) (b := 182) rfl) (lb_145 (j := 11) (b := 1) rfl) (lb_145 (j := 12) (b := 134) rfl) rfl
theorem dL_law_2333 : decode cL_law 2333 = .ok (.istore 7, 2) := de_54 (lb_145 (j := 13) (b := 54) rfl) (lb_145 (j := 14) (b := 7) rfl) rfl
theorem dL_law_2335 : decode cL_law 2335 = .ok (.goto 104, 3) := de_167 (lb_145 (j := 15) (b := 167) rfl) (lb_146 (j := 0) (b := 0) rfl) (lb_146 (j := 1) (b := 104) rfl) (by decide +kernel)
theorem dL_law_2338 : decode cL_law 2338 = .ok (.aload_n 1, 1) := de_43 (lb_146 (j := 2) (b := 43) rfl)
theorem dL_law_2339 : decode cL_law 2339 = .ok (.aload_n 3, 1) := de_45 (lb_146 (j := 3) (b := 45) rfl)
theorem dL_law_2340 : decode cL_law 2340 = .ok (.invokestatic 391, 3) := de_184 (lb_146 (j := 4) (b := 184) rfl) (lb_146 (j := 5) (b := 1) rfl) (lb_146 (j := 6) (b := 135) rfl) rfl
theorem dL_law_2343 : decode cL_law 2343 = .ok (.istore 6, 2) := de_54 (lb_146 (j := 7) (b := 54) rfl) (lb_146 (j := 8) (b := 6) rfl) rfl
theorem dL_law_2345 : decode cL_law 2345 = .ok (.aload_n 2, 1) := de_44 (lb_146 (j := 9) (b := 44) rfl)
theorem dL_law_2346 : decode cL_law 2346 = .ok (.invokevirtual 393, 3) := de_182 (lb_146 (j := 10) (b := 182) rfl) (lb_146 (j := 11) (b := 1) rfl) (lb_146 (j := 12) (b := 137) rfl) rfl
theorem dL_law_2349 : decode cL_law 2349 = .ok (.istore 7, 2) := de_54 (lb_146 (j := 13) (b := 54) rfl) (lb_146 (j := 14) (b := 7) rfl) rfl
theorem dL_law_2351 : decode cL_law 2351 = .ok (.goto 88, 3) := de_167 (lb_146 (j := 15) (b := 167) rfl) (lb_147 (j := 0) (b := 0) rfl) (lb_147 (j := 1) (b := 88) rfl) (by decide +kernel)
theorem dL_law_2354 : decode cL_law 2354 = .ok (.aload_n 1, 1) := de_43 (lb_147 (j := 2) (b := 43) rfl)
theorem dL_law_2355 : decode cL_law 2355 = .ok (.aload_n 3, 1) := de_45 (lb_147 (j := 3) (b := 45) rfl)
theorem dL_law_2356 : decode cL_law 2356 = .ok (.invokestatic 394, 3) := de_184 (lb_147 (j := 4) (b := 184) rfl) (lb_147 (j := 5) (b := 1) rfl) (lb_147 (j := 6) (b := 138) rfl) rfl
theorem dL_law_2359 : decode cL_law 2359 = .ok (.istore 6, 2) := de_54 (lb_147 (j := 7) (b := 54) rfl) (lb_147 (j := 8) (b := 6) rfl) rfl
theorem dL_law_2361 : decode cL_law 2361 = .ok (.aload_n 2, 1) := de_44 (lb_147 (j := 9) (b := 44) rfl)
theorem dL_law_2362 : decode cL_law 2362 = .ok (.invokevirtual 396, 3) := de_182 (lb_147 (j := 10) (b := 182) rfl) (lb_147 (j := 11) (b := 1) rfl) (lb_147 (j := 12) (b := 140) rfl) rfl
theorem dL_law_2365 : decode cL_law 2365 = .ok (.istore 7, 2) := de_54 (lb_147 (j := 13) (b := 54) rfl) (lb_147 (j := 14) (b := 7) rfl) rfl
theorem dL_law_2367 : decode cL_law 2367 = .ok (.goto 72, 3) := de_167 (lb_147 (j := 15) (b := 167) rfl) (lb_148 (j := 0) (b := 0) rfl) (lb_148 (j := 1) (b := 72) rfl) (by decide +kernel)
theorem dL_law_2370 : decode cL_law 2370 = .ok (.aload_n 1, 1) := de_43 (lb_148 (j := 2) (b := 43) rfl)
theorem dL_law_2371 : decode cL_law 2371 = .ok (.invokevirtual 397, 3) := de_182 (lb_148 (j := 3) (b := 182) rfl) (lb_148 (j := 4) (b := 1) rfl) (lb_148 (j := 5) (b := 141) rfl) rfl
theorem dL_law_2374 : decode cL_law 2374 = .ok (.pop, 1) := de_87 (lb_148 (j := 6) (b := 87) rfl)
theorem dL_law_2375 : decode cL_law 2375 = .ok (.aload_n 2, 1) := de_44 (lb_148 (j := 7) (b := 44) rfl)
theorem dL_law_2376 : decode cL_law 2376 = .ok (.invokevirtual 400, 3) := de_182 (lb_148 (j := 8) (b := 182) rfl) (lb_148 (j := 9) (b := 1) rfl) (lb_148 (j := 10) (b := 144) rfl) rfl
theorem dL_law_2379 : decode cL_law 2379 = .ok (.pop, 1) := de_87 (lb_148 (j := 11) (b := 87) rfl)
theorem dL_law_2380 : decode cL_law 2380 = .ok (.goto 59, 3) := de_167 (lb_148 (j := 12) (b := 167) rfl) (lb_148 (j := 13) (b := 0) rfl) (lb_148 (j := 14) (b := 59) rfl) (by decide +kernel)
theorem dL_law_2383 : decode cL_law 2383 = .ok (.aload_n 1, 1) := de_43 (lb_148 (j := 15) (b := 43) rfl)
theorem dL_law_2384 : decode cL_law 2384 = .ok (.aload_n 0, 1) := de_42 (lb_149 (j := 0) (b := 42) rfl)
theorem dL_law_2385 : decode cL_law 2385 = .ok (.iload 5, 2) := de_21 (lb_149 (j := 1) (b := 21) rfl) (lb_149 (j := 2) (b := 5) rfl) rfl
theorem dL_law_2387 : decode cL_law 2387 = .ok (.iconst 1, 1) := de_4 (lb_149 (j := 3) (b := 4) rfl)
theorem dL_law_2388 : decode cL_law 2388 = .ok (.iadd, 1) := de_96 (lb_149 (j := 4) (b := 96) rfl)
theorem dL_law_2389 : decode cL_law 2389 = .ok (.iaload, 1) := de_46 (lb_149 (j := 5) (b := 46) rfl)
theorem dL_law_2390 : decode cL_law 2390 = .ok (.aload_n 3, 1) := de_45 (lb_149 (j := 6) (b := 45) rfl)
theorem dL_law_2391 : decode cL_law 2391 = .ok (.invokestatic 401, 3) := de_184 (lb_149 (j := 7) (b := 184) rfl) (lb_149 (j := 8) (b := 1) rfl) (lb_149 (j := 9) (b := 145) rfl) rfl
theorem dL_law_2394 : decode cL_law 2394 = .ok (.istore 6, 2) := de_54 (lb_149 (j := 10) (b := 54) rfl) (lb_149 (j := 11) (b := 6) rfl) rfl
theorem dL_law_2396 : decode cL_law 2396 = .ok (.aload_n 2, 1) := de_44 (lb_149 (j := 12) (b := 44) rfl)
theorem dL_law_2397 : decode cL_law 2397 = .ok (.aload_n 0, 1) := de_42 (lb_149 (j := 13) (b := 42) rfl)
theorem dL_law_2398 : decode cL_law 2398 = .ok (.iload 5, 2) := de_21 (lb_149 (j := 14) (b := 21) rfl) (lb_149 (j := 15) (b := 5) rfl) rfl
theorem dL_law_2400 : decode cL_law 2400 = .ok (.iconst 1, 1) := de_4 (lb_150 (j := 0) (b := 4) rfl)
theorem dL_law_2401 : decode cL_law 2401 = .ok (.iadd, 1) := de_96 (lb_150 (j := 1) (b := 96) rfl)
theorem dL_law_2402 : decode cL_law 2402 = .ok (.iaload, 1) := de_46 (lb_150 (j := 2) (b := 46) rfl)
theorem dL_law_2403 : decode cL_law 2403 = .ok (.invokevirtual 403, 3) := de_182 (lb_150 (j := 3) (b := 182) rfl) (lb_150 (j := 4) (b := 1) rfl) (lb_150 (j := 5) (b := 147) rfl) rfl
theorem dL_law_2406 : decode cL_law 2406 = .ok (.istore 7, 2) := de_54 (lb_150 (j := 6) (b := 54) rfl) (lb_150 (j := 7) (b := 7) rfl) rfl
theorem dL_law_2408 : decode cL_law 2408 = .ok (.goto 31, 3) := de_167 (lb_150 (j := 8) (b := 167) rfl) (lb_150 (j := 9) (b := 0) rfl) (lb_150 (j := 10) (b := 31) rfl) (by decide +kernel)
theorem dL_law_2411 : decode cL_law 2411 = .ok (.aload_n 1, 1) := de_43 (lb_150 (j := 11) (b := 43) rfl)
theorem dL_law_2412 : decode cL_law 2412 = .ok (.aload_n 0, 1) := de_42 (lb_150 (j := 12) (b := 42) rfl)
theorem dL_law_2413 : decode cL_law 2413 = .ok (.iload 5, 2) := de_21 (lb_150 (j := 13) (b := 21) rfl) (lb_150 (j := 14) (b := 5) rfl) rfl
theorem dL_law_2415 : decode cL_law 2415 = .ok (.iconst 1, 1) := de_4 (lb_150 (j := 15) (b := 4) rfl)
theorem dL_law_2416 : decode cL_law 2416 = .ok (.iadd, 1) := de_96 (lb_151 (j := 0) (b := 96) rfl)
theorem dL_law_2417 : decode cL_law 2417 = .ok (.iaload, 1) := de_46 (lb_151 (j := 1) (b := 46) rfl)
theorem dL_law_2418 : decode cL_law 2418 = .ok (.aload_n 3, 1) := de_45 (lb_151 (j := 2) (b := 45) rfl)
theorem dL_law_2419 : decode cL_law 2419 = .ok (.invokestatic 404, 3) := de_184 (lb_151 (j := 3) (b := 184) rfl) (lb_151 (j := 4) (b := 1) rfl) (lb_151 (j := 5) (b := 148) rfl) rfl
theorem dL_law_2422 : decode cL_law 2422 = .ok (.istore 6, 2) := de_54 (lb_151 (j := 6) (b := 54) rfl) (lb_151 (j := 7) (b := 6) rfl) rfl
theorem dL_law_2424 : decode cL_law 2424 = .ok (.aload_n 2, 1) := de_44 (lb_151 (j := 8) (b := 44) rfl)
theorem dL_law_2425 : decode cL_law 2425 = .ok (.aload_n 0, 1) := de_42 (lb_151 (j := 9) (b := 42) rfl)
theorem dL_law_2426 : decode cL_law 2426 = .ok (.iload 5, 2) := de_21 (lb_151 (j := 10) (b := 21) rfl) (lb_151 (j := 11) (b := 5) rfl) rfl
theorem dL_law_2428 : decode cL_law 2428 = .ok (.iconst 1, 1) := de_4 (lb_151 (j := 12) (b := 4) rfl)
theorem dL_law_2429 : decode cL_law 2429 = .ok (.iadd, 1) := de_96 (lb_151 (j := 13) (b := 96) rfl)
theorem dL_law_2430 : decode cL_law 2430 = .ok (.iaload, 1) := de_46 (lb_151 (j := 14) (b := 46) rfl)
theorem dL_law_2431 : decode cL_law 2431 = .ok (.invokevirtual 406, 3) := de_182 (lb_151 (j := 15) (b := 182) rfl) (lb_152 (j := 0) (b := 1) rfl) (lb_152 (j := 1) (b := 150) rfl) rfl
theorem dL_law_2434 : decode cL_law 2434 = .ok (.istore 7, 2) := de_54 (lb_152 (j := 2) (b := 54) rfl) (lb_152 (j := 3) (b := 7) rfl) rfl
theorem dL_law_2436 : decode cL_law 2436 = .ok (.goto 3, 3) := de_167 (lb_152 (j := 4) (b := 167) rfl) (lb_152 (j := 5) (b := 0) rfl) (lb_152 (j := 6) (b := 3) rfl) (by decide +kernel)
set_option maxHeartbeats 4000000 in
set_option maxRecDepth 100000 in
theorem y_a56 {p : Program} {e : Env} {s : State} {m : MethodId} {below : List Frame} {meth : Method} {c : Code} (l : Launch) (hst : l.stackTraces = false) {b L : Nat} {xs : Nat → Int32} (hx : p.tables.exec = Jvm.exec) (hb : c.code = code) (hml : c.maxLocals = 9) (hown : s.vm.findClass RL = some m.cls) (hts : ∀ w ∈ lw_tbl, w.before #[Value.ref b] s = true) (hX0 : va_X b L xs s s.heap) (hbl : b < s.heap.size) (hX : xT (fun q => s.heap.size ≤ q) s) (hN : nC s) (hTS : sAll s.heap.size s) {D : va_G} {cI cJ cZ cMic cSrc cSt cAI cAJ cD : ClassId} (hK : va_K D vwCl (CT cI cJ cZ cMic cSrc cSt cAI cAJ ++ [(cD, .double)]) s) {Q : State → Prop} {i j : Nat} (hi : i + 6 ≤ L) (hL : L ≤ 3072) (hj : j < 512) {aj ae : Nat} {ad am : Nat → Nat} {T : AT} {Sm : MS} {f : Nat → Int64} {g : Nat → UInt64} {ls : Array Slot} {H : Heap} {locs : List Loc} (hV : IV aR0 1586 aK1 aK2 T) (hrc : RC T) (hJ : JJ Sm) (G : gL cI cJ cZ cMic cSrc cSt cAI cAJ D ad (fun q => s.heap.size ≤ q) s.heap H locs T (oJ aj cJ f :: oD ae cD g :: MW cI cJ cZ am Sm)) (hl : lv_has ls 9 [(5, .int (nI i)), (4, .ref ae), (3, .ref aj), (2, .ref (am 0)), (1, .ref (ad 0)), (0, .ref b)]) (kk : ∀ {k1 : Nat} {r1 : Int32} {T1 : AT} {r2 : Int32} {S1 : MS} (ad2 : Nat → Nat) (f1 : Nat → Int64) (g1 : Nat → UInt64) (H1 : Heap) (locs1 : List Loc) (ls1 : Array Slot), g_X11_moveSource T 0 (xs (i + 1)) (xs (i + 2)) (xs (i + 3)) = some (k1, r1, T1) → fr_moveSource Sm (xs (i + 1)) (xs (i + 2)) (xs (i + 3)) = some (r2, S1) → ad2 0 = ad 0 → IV aR0 1586 aK1 aK2 T1 → RC T1 → JJ S1 → gL cI cJ cZ cMic cSrc cSt cAI cAJ D ad2 (fun q => s.heap.size ≤ q) s.heap H1 locs1 T1 (oJ aj cJ f1 :: oD ae cD g1 :: MW cI cJ cZ am S1) → lv_has ls1 9 [(5, .int (nI i)), (4, .ref ae), (3, .ref aj), (2, .ref (am 0)), (1, .ref (ad2 0)), (0, .ref b)] → W p l e room_1 s m #[Value.ref b] below meth c H1 locs1 (19 + T1.1 + (j + 1)) (38467 + sg T1 + 6 * (j + 1)) Q (F0 m 2439 ls1 [])) : W p l e room_1 s m #[Value.ref b] below meth c H locs (19 + T.1 + j) (38467 + sg T + 6 * j) Q (F0 m 2206 ls []) := by
  have E : cE p c cL_law s m #[Value.ref b] lw_tbl D RL (CT cI cJ cZ cMic cSrc cSt cAI cAJ ++ [(cD, .double)]) := ⟨hx, hb, hts, hown, hK⟩
  have hA : ∀ q : Nat, s.heap.size ≤ q → s.heap.size ≤ q := fun _ h => h
  have h0T : 0 < T.1 := Nat.lt_of_lt_of_le (by decide) hV.1.2.2
  have h0s : T.2.1 0 = (11, 0) := hV.2.1 0 ⟨by decide, by decide +kernel, by decide +kernel⟩
  refine lv_aload_n hx hb dL_law_2206 rfl (lv_at hl 4 rfl) ?_
  refine lv_aload_n hx hb dL_law_2207 rfl (lv_at hl 5 rfl) ?_
  refine lv_iload hx hb dL_law_2208 (lv_at hl 0 rfl) ?_
  refine lv_iconst (v := 1) hx hb dL_law_2210 (by decide) ?_
  refine lv_iadd hx hb dL_law_2211 ?_
  refine lv_to (y := nI (i + 1)) (nI_add i 1) ?_
  refine va_sld hx hb hX0 hbl (Nat.not_le.mpr hbl) G.2.2 (i := nI (i + 1)) (vp_in_nI (n := i + 1) (N := L) (by omega) (by omega)) dL_law_2212 ?_
  refine lv_to (y := xs (i + 1)) (congrArg xs (nI_clamp (by omega))) ?_
  refine lv_aload_n hx hb dL_law_2213 rfl (lv_at hl 5 rfl) ?_
  refine lv_iload hx hb dL_law_2214 (lv_at hl 0 rfl) ?_
  refine lv_iconst (v := 2) hx hb dL_law_2216 (by decide) ?_
  refine lv_iadd hx hb dL_law_2217 ?_
  refine lv_to (y := nI (i + 2)) (nI_add i 2) ?_
  refine va_sld hx hb hX0 hbl (Nat.not_le.mpr hbl) G.2.2 (i := nI (i + 2)) (vp_in_nI (n := i + 2) (N := L) (by omega) (by omega)) dL_law_2218 ?_
  refine lv_to (y := xs (i + 2)) (congrArg xs (nI_clamp (by omega))) ?_
  refine lv_aload_n hx hb dL_law_2219 rfl (lv_at hl 5 rfl) ?_
  refine lv_iload hx hb dL_law_2220 (lv_at hl 0 rfl) ?_
  refine lv_iconst (v := 3) hx hb dL_law_2222 (by decide) ?_
  refine lv_iadd hx hb dL_law_2223 ?_
  refine lv_to (y := nI (i + 3)) (nI_add i 3) ?_
  refine va_sld hx hb hX0 hbl (Nat.not_le.mpr hbl) G.2.2 (i := nI (i + 3)) (vp_in_nI (n := i + 3) (N := L) (by omega) (by omega)) dL_law_2224 ?_
  refine lv_to (y := xs (i + 3)) (congrArg xs (nI_clamp (by omega))) ?_
  refine lv_aload_n hx hb dL_law_2225 rfl (lv_at hl 2 rfl) ?_
  obtain ⟨⟨k1, r1, T1⟩, hg, hc⟩ := cs_X11_moveSource T 0 (xs (i + 1)) (xs (i + 2)) (xs (i + 3)) hV (by decide +kernel)
  have hV1 : IV aR0 1586 aK1 aK2 T1 := hc.1.1
  have hg1 := s_X11_moveSource hg
  have hg2 := sg_le hg1
  have hg3 := hg1.1
  have hk := hV1.2.2.2.2.2.2
  have hrc1 := hg1.2.2 hrc
  have hr0 := a_room
  refine l_v (h0 := s.heap.size) (As := [.ref (ad 0), .int (xs (i + 1)), .int (xs (i + 2)), .int (xs (i + 3)), .ref aj]) (rest := []) E G hA hX hN (fun _ h => h) hTS hml (v_moveSource l hst D s.heap.size ad T 0 (xs (i + 1)) (xs (i + 2)) (xs (i + 3)) aj f hg hrc h0T h0s) (vx_cwSW 5 hts (glA (L := [Cond.methodLink RL 382 yL_moveSource, Cond.static yL_moveSource, Cond.initialized RL]) (gl_in [(7, 145), (7, 146), (1, 0)] (by decide +kernel) (by decide +kernel)) ⟨(t_of [Cond.codeWith yL_moveSource cL_moveSource 6 (some .int) [(0, 12, 15, 21), (0, 12, 19, 13), (0, 12, 23, 15)]] [(7, 147)] (by decide +kernel) _ List.mem_cons_self), List.all_eq_true.mp (by decide +kernel : [Cond.codeWith yL_moveSource cL_moveSource 6 (some .int) [(0, 12, 15, 21), (0, 12, 19, 13), (0, 12, 23, 15)]].all goodWord = true) _ List.mem_cons_self⟩) rfl rfl rfl (by decide +kernel) ⟨Nat.le_of_ble_eq_true rfl, Nat.le_of_ble_eq_true rfl⟩) rfl hl.1 rfl (lv_room (Nat.le_of_ble_eq_true rfl)) dL_law_2226 ⟨by show _ ≤ 601024; omega, by show _ ≤ 7293034; omega⟩ ?_
  intro ad2 H locs had G
  rw [← had 0 h0T] at hl
  refine lv_istore (lv' := [(6, .int (vck 1 2 3 k1)), (5, .int (nI i)), (4, .ref ae), (3, .ref aj), (2, .ref (am 0)), (1, .ref (ad2 0)), (0, .ref b)]) hx hb dL_law_2229 hl (by decide) rfl (fun ls hl => ?_)
  refine lv_aload_n hx hb dL_law_2231 rfl (lv_at hl 4 rfl) ?_
  refine lv_aload_n hx hb dL_law_2232 rfl (lv_at hl 6 rfl) ?_
  refine lv_iload hx hb dL_law_2233 (lv_at hl 1 rfl) ?_
  refine lv_iconst (v := 1) hx hb dL_law_2235 (by decide) ?_
  refine lv_iadd hx hb dL_law_2236 ?_
  refine lv_to (y := nI (i + 1)) (nI_add i 1) ?_
  refine va_sld hx hb hX0 hbl (Nat.not_le.mpr hbl) G.2.2 (i := nI (i + 1)) (vp_in_nI (n := i + 1) (N := L) (by omega) (by omega)) dL_law_2237 ?_
  refine lv_to (y := xs (i + 1)) (congrArg xs (nI_clamp (by omega))) ?_
  refine lv_aload_n hx hb dL_law_2238 rfl (lv_at hl 6 rfl) ?_
  refine lv_iload hx hb dL_law_2239 (lv_at hl 1 rfl) ?_
  refine lv_iconst (v := 2) hx hb dL_law_2241 (by decide) ?_
  refine lv_iadd hx hb dL_law_2242 ?_
  refine lv_to (y := nI (i + 2)) (nI_add i 2) ?_
  refine va_sld hx hb hX0 hbl (Nat.not_le.mpr hbl) G.2.2 (i := nI (i + 2)) (vp_in_nI (n := i + 2) (N := L) (by omega) (by omega)) dL_law_2243 ?_
  refine lv_to (y := xs (i + 2)) (congrArg xs (nI_clamp (by omega))) ?_
  refine lv_aload_n hx hb dL_law_2244 rfl (lv_at hl 6 rfl) ?_
  refine lv_iload hx hb dL_law_2245 (lv_at hl 1 rfl) ?_
  refine lv_iconst (v := 3) hx hb dL_law_2247 (by decide) ?_
  refine lv_iadd hx hb dL_law_2248 ?_
  refine lv_to (y := nI (i + 3)) (nI_add i 3) ?_
  refine va_sld hx hb hX0 hbl (Nat.not_le.mpr hbl) G.2.2 (i := nI (i + 3)) (vp_in_nI (n := i + 3) (N := L) (by omega) (by omega)) dL_law_2249 ?_
  refine lv_to (y := xs (i + 3)) (congrArg xs (nI_clamp (by omega))) ?_
  obtain ⟨⟨r2, S1⟩, hf, hj⟩ := sj_moveSource Sm (xs (i + 1)) (xs (i + 2)) (xs (i + 3)) hJ
  have hJ1 : JJ S1 := hj
  refine y_mi (As := [.int (xs (i + 1)), .int (xs (i + 2)), .int (xs (i + 3))]) (rest := []) E G hA hX.2.2.2.2 hml (tr_moveSource l D cI cJ cZ am Sm (xs (i + 1)) (xs (i + 2)) (xs (i + 3)) hf) (cwV 3 hts (glM (L := [Cond.methodLink RL 384 yX12_moveSource, Cond.instanceMethod yX12_moveSource, Cond.selects RX12 yX12_moveSource yX12_moveSource, Cond.initialized RX12]) (gl_in [(10, 173), (10, 174), (10, 175), (1, 14)] (by decide +kernel) (by decide +kernel)) ⟨(t_of [Cond.code yX12_moveSource cX12_moveSource 4 (some .int)] [(10, 176)] (by decide +kernel) _ List.mem_cons_self), List.all_eq_true.mp (by decide +kernel : [Cond.code yX12_moveSource cX12_moveSource 4 (some .int)].all goodWord = true) _ List.mem_cons_self⟩) rfl rfl rfl (by decide +kernel) ⟨Nat.le_of_ble_eq_true rfl, Nat.le_of_ble_eq_true rfl⟩) rfl hl.1 rfl (lv_room (Nat.le_of_ble_eq_true rfl)) dL_law_2250 ⟨by show _ ≤ 601024; omega, by show _ ≤ 7293034; omega⟩ (fun H locs G => ?_)
  refine lv_istore (lv' := [(7, .int r2), (6, .int (vck 1 2 3 k1)), (5, .int (nI i)), (4, .ref ae), (3, .ref aj), (2, .ref (am 0)), (1, .ref (ad2 0)), (0, .ref b)]) hx hb dL_law_2253 hl (by decide) rfl (fun ls hl => ?_)
  refine lv_goto (tgt := 2439) hx hb dL_law_2255 (by decide) ?_
  have hl := lv_sub hl [2, 3, 4, 5, 6, 7] rfl
  refine W.widen (k := 19 + T1.1 + (j + 1)) (n := 38467 + sg T1 + 6 * (j + 1)) (by omega) (by omega) ?_
  exact kk ad2 (vfJ k1 f r1.toInt64) g H locs ls hg hf (had 0 h0T) hV1 hrc1 hJ1 G hl
set_option maxHeartbeats 4000000 in
set_option maxRecDepth 100000 in
theorem y_a57 {p : Program} {e : Env} {s : State} {m : MethodId} {below : List Frame} {meth : Method} {c : Code} (l : Launch) (hst : l.stackTraces = false) {b L : Nat} {xs : Nat → Int32} (hx : p.tables.exec = Jvm.exec) (hb : c.code = code) (hml : c.maxLocals = 9) (hown : s.vm.findClass RL = some m.cls) (hts : ∀ w ∈ lw_tbl, w.before #[Value.ref b] s = true) (hX0 : va_X b L xs s s.heap) (hbl : b < s.heap.size) (hX : xT (fun q => s.heap.size ≤ q) s) (hN : nC s) (hTS : sAll s.heap.size s) {D : va_G} {cI cJ cZ cMic cSrc cSt cAI cAJ cD : ClassId} (hK : va_K D vwCl (CT cI cJ cZ cMic cSrc cSt cAI cAJ ++ [(cD, .double)]) s) {Q : State → Prop} {i j : Nat} (hi : i + 6 ≤ L) (hL : L ≤ 3072) (hj : j < 512) {aj ae : Nat} {ad am : Nat → Nat} {T : AT} {Sm : MS} {f : Nat → Int64} {g : Nat → UInt64} {ls : Array Slot} {H : Heap} {locs : List Loc} (hV : IV aR0 1586 aK1 aK2 T) (hrc : RC T) (hJ : JJ Sm) (G : gL cI cJ cZ cMic cSrc cSt cAI cAJ D ad (fun q => s.heap.size ≤ q) s.heap H locs T (oJ aj cJ f :: oD ae cD g :: MW cI cJ cZ am Sm)) (hl : lv_has ls 9 [(5, .int (nI i)), (4, .ref ae), (3, .ref aj), (2, .ref (am 0)), (1, .ref (ad 0)), (0, .ref b)]) (kk : ∀ {k1 : Nat} {r1 : Int32} {T1 : AT} {r2 : Int32} {S1 : MS} (ad2 : Nat → Nat) (f1 : Nat → Int64) (g1 : Nat → UInt64) (H1 : Heap) (locs1 : List Loc) (ls1 : Array Slot), g_X11_setVelocity T 0 (xs (i + 1)) (xs (i + 2)) (xs (i + 3)) = some (k1, r1, T1) → fr_setVelocity Sm (xs (i + 1)) (xs (i + 2)) (xs (i + 3)) = some (r2, S1) → ad2 0 = ad 0 → IV aR0 1586 aK1 aK2 T1 → RC T1 → JJ S1 → gL cI cJ cZ cMic cSrc cSt cAI cAJ D ad2 (fun q => s.heap.size ≤ q) s.heap H1 locs1 T1 (oJ aj cJ f1 :: oD ae cD g1 :: MW cI cJ cZ am S1) → lv_has ls1 9 [(5, .int (nI i)), (4, .ref ae), (3, .ref aj), (2, .ref (am 0)), (1, .ref (ad2 0)), (0, .ref b)] → W p l e room_1 s m #[Value.ref b] below meth c H1 locs1 (19 + T1.1 + (j + 1)) (38467 + sg T1 + 6 * (j + 1)) Q (F0 m 2439 ls1 [])) : W p l e room_1 s m #[Value.ref b] below meth c H locs (19 + T.1 + j) (38467 + sg T + 6 * j) Q (F0 m 2258 ls []) := by
  have E : cE p c cL_law s m #[Value.ref b] lw_tbl D RL (CT cI cJ cZ cMic cSrc cSt cAI cAJ ++ [(cD, .double)]) := ⟨hx, hb, hts, hown, hK⟩
  have hA : ∀ q : Nat, s.heap.size ≤ q → s.heap.size ≤ q := fun _ h => h
  have h0T : 0 < T.1 := Nat.lt_of_lt_of_le (by decide) hV.1.2.2
  have h0s : T.2.1 0 = (11, 0) := hV.2.1 0 ⟨by decide, by decide +kernel, by decide +kernel⟩
  refine lv_aload_n hx hb dL_law_2258 rfl (lv_at hl 4 rfl) ?_
  refine lv_aload_n hx hb dL_law_2259 rfl (lv_at hl 5 rfl) ?_
  refine lv_iload hx hb dL_law_2260 (lv_at hl 0 rfl) ?_
  refine lv_iconst (v := 1) hx hb dL_law_2262 (by decide) ?_
  refine lv_iadd hx hb dL_law_2263 ?_
  refine lv_to (y := nI (i + 1)) (nI_add i 1) ?_
  refine va_sld hx hb hX0 hbl (Nat.not_le.mpr hbl) G.2.2 (i := nI (i + 1)) (vp_in_nI (n := i + 1) (N := L) (by omega) (by omega)) dL_law_2264 ?_
  refine lv_to (y := xs (i + 1)) (congrArg xs (nI_clamp (by omega))) ?_
  refine lv_aload_n hx hb dL_law_2265 rfl (lv_at hl 5 rfl) ?_
  refine lv_iload hx hb dL_law_2266 (lv_at hl 0 rfl) ?_
  refine lv_iconst (v := 2) hx hb dL_law_2268 (by decide) ?_
  refine lv_iadd hx hb dL_law_2269 ?_
  refine lv_to (y := nI (i + 2)) (nI_add i 2) ?_
  refine va_sld hx hb hX0 hbl (Nat.not_le.mpr hbl) G.2.2 (i := nI (i + 2)) (vp_in_nI (n := i + 2) (N := L) (by omega) (by omega)) dL_law_2270 ?_
  refine lv_to (y := xs (i + 2)) (congrArg xs (nI_clamp (by omega))) ?_
  refine lv_aload_n hx hb dL_law_2271 rfl (lv_at hl 5 rfl) ?_
  refine lv_iload hx hb dL_law_2272 (lv_at hl 0 rfl) ?_
  refine lv_iconst (v := 3) hx hb dL_law_2274 (by decide) ?_
  refine lv_iadd hx hb dL_law_2275 ?_
  refine lv_to (y := nI (i + 3)) (nI_add i 3) ?_
  refine va_sld hx hb hX0 hbl (Nat.not_le.mpr hbl) G.2.2 (i := nI (i + 3)) (vp_in_nI (n := i + 3) (N := L) (by omega) (by omega)) dL_law_2276 ?_
  refine lv_to (y := xs (i + 3)) (congrArg xs (nI_clamp (by omega))) ?_
  refine lv_aload_n hx hb dL_law_2277 rfl (lv_at hl 2 rfl) ?_
  obtain ⟨⟨k1, r1, T1⟩, hg, hc⟩ := cs_X11_setVelocity T 0 (xs (i + 1)) (xs (i + 2)) (xs (i + 3)) hV (by decide +kernel)
  have hV1 : IV aR0 1586 aK1 aK2 T1 := hc.1.1
  have hg1 := s_X11_setVelocity hg
  have hg2 := sg_le hg1
  have hg3 := hg1.1
  have hk := hV1.2.2.2.2.2.2
  have hrc1 := hg1.2.2 hrc
  have hr0 := a_room
  refine l_v (h0 := s.heap.size) (As := [.ref (ad 0), .int (xs (i + 1)), .int (xs (i + 2)), .int (xs (i + 3)), .ref aj]) (rest := []) E G hA hX hN (fun _ h => h) hTS hml (v_setVelocity l hst D s.heap.size ad T 0 (xs (i + 1)) (xs (i + 2)) (xs (i + 3)) aj f hg hrc h0T h0s) (vx_cwSW 5 hts (glA (L := [Cond.methodLink RL 385 yL_setVelocity, Cond.static yL_setVelocity, Cond.initialized RL]) (gl_in [(7, 152), (7, 153), (1, 0)] (by decide +kernel) (by decide +kernel)) ⟨(t_of [Cond.codeWith yL_setVelocity cL_setVelocity 6 (some .int) [(0, 12, 15, 21), (0, 12, 19, 13), (0, 12, 23, 15)]] [(7, 154)] (by decide +kernel) _ List.mem_cons_self), List.all_eq_true.mp (by decide +kernel : [Cond.codeWith yL_setVelocity cL_setVelocity 6 (some .int) [(0, 12, 15, 21), (0, 12, 19, 13), (0, 12, 23, 15)]].all goodWord = true) _ List.mem_cons_self⟩) rfl rfl rfl (by decide +kernel) ⟨Nat.le_of_ble_eq_true rfl, Nat.le_of_ble_eq_true rfl⟩) rfl hl.1 rfl (lv_room (Nat.le_of_ble_eq_true rfl)) dL_law_2278 ⟨by show _ ≤ 601024; omega, by show _ ≤ 7293034; omega⟩ ?_
  intro ad2 H locs had G
  rw [← had 0 h0T] at hl
  refine lv_istore (lv' := [(6, .int (vck 1 2 3 k1)), (5, .int (nI i)), (4, .ref ae), (3, .ref aj), (2, .ref (am 0)), (1, .ref (ad2 0)), (0, .ref b)]) hx hb dL_law_2281 hl (by decide) rfl (fun ls hl => ?_)
  refine lv_aload_n hx hb dL_law_2283 rfl (lv_at hl 4 rfl) ?_
  refine lv_aload_n hx hb dL_law_2284 rfl (lv_at hl 6 rfl) ?_
  refine lv_iload hx hb dL_law_2285 (lv_at hl 1 rfl) ?_
  refine lv_iconst (v := 1) hx hb dL_law_2287 (by decide) ?_
  refine lv_iadd hx hb dL_law_2288 ?_
  refine lv_to (y := nI (i + 1)) (nI_add i 1) ?_
  refine va_sld hx hb hX0 hbl (Nat.not_le.mpr hbl) G.2.2 (i := nI (i + 1)) (vp_in_nI (n := i + 1) (N := L) (by omega) (by omega)) dL_law_2289 ?_
  refine lv_to (y := xs (i + 1)) (congrArg xs (nI_clamp (by omega))) ?_
  refine lv_aload_n hx hb dL_law_2290 rfl (lv_at hl 6 rfl) ?_
  refine lv_iload hx hb dL_law_2291 (lv_at hl 1 rfl) ?_
  refine lv_iconst (v := 2) hx hb dL_law_2293 (by decide) ?_
  refine lv_iadd hx hb dL_law_2294 ?_
  refine lv_to (y := nI (i + 2)) (nI_add i 2) ?_
  refine va_sld hx hb hX0 hbl (Nat.not_le.mpr hbl) G.2.2 (i := nI (i + 2)) (vp_in_nI (n := i + 2) (N := L) (by omega) (by omega)) dL_law_2295 ?_
  refine lv_to (y := xs (i + 2)) (congrArg xs (nI_clamp (by omega))) ?_
  refine lv_aload_n hx hb dL_law_2296 rfl (lv_at hl 6 rfl) ?_
  refine lv_iload hx hb dL_law_2297 (lv_at hl 1 rfl) ?_
  refine lv_iconst (v := 3) hx hb dL_law_2299 (by decide) ?_
  refine lv_iadd hx hb dL_law_2300 ?_
  refine lv_to (y := nI (i + 3)) (nI_add i 3) ?_
  refine va_sld hx hb hX0 hbl (Nat.not_le.mpr hbl) G.2.2 (i := nI (i + 3)) (vp_in_nI (n := i + 3) (N := L) (by omega) (by omega)) dL_law_2301 ?_
  refine lv_to (y := xs (i + 3)) (congrArg xs (nI_clamp (by omega))) ?_
  obtain ⟨⟨r2, S1⟩, hf, hj⟩ := sj_setVelocity Sm (xs (i + 1)) (xs (i + 2)) (xs (i + 3)) hJ
  have hJ1 : JJ S1 := hj
  refine y_mi (As := [.int (xs (i + 1)), .int (xs (i + 2)), .int (xs (i + 3))]) (rest := []) E G hA hX.2.2.2.2 hml (tr_setVelocity l D cI cJ cZ am Sm (xs (i + 1)) (xs (i + 2)) (xs (i + 3)) hf) (cwV 3 hts (glM (L := [Cond.methodLink RL 387 yX12_setVelocity, Cond.instanceMethod yX12_setVelocity, Cond.selects RX12 yX12_setVelocity yX12_setVelocity, Cond.initialized RX12]) (gl_in [(10, 181), (10, 182), (10, 183), (1, 14)] (by decide +kernel) (by decide +kernel)) ⟨(t_of [Cond.code yX12_setVelocity cX12_setVelocity 4 (some .int)] [(10, 184)] (by decide +kernel) _ List.mem_cons_self), List.all_eq_true.mp (by decide +kernel : [Cond.code yX12_setVelocity cX12_setVelocity 4 (some .int)].all goodWord = true) _ List.mem_cons_self⟩) rfl rfl rfl (by decide +kernel) ⟨Nat.le_of_ble_eq_true rfl, Nat.le_of_ble_eq_true rfl⟩) rfl hl.1 rfl (lv_room (Nat.le_of_ble_eq_true rfl)) dL_law_2302 ⟨by show _ ≤ 601024; omega, by show _ ≤ 7293034; omega⟩ (fun H locs G => ?_)
  refine lv_istore (lv' := [(7, .int r2), (6, .int (vck 1 2 3 k1)), (5, .int (nI i)), (4, .ref ae), (3, .ref aj), (2, .ref (am 0)), (1, .ref (ad2 0)), (0, .ref b)]) hx hb dL_law_2305 hl (by decide) rfl (fun ls hl => ?_)
  refine lv_goto (tgt := 2439) hx hb dL_law_2307 (by decide) ?_
  have hl := lv_sub hl [2, 3, 4, 5, 6, 7] rfl
  refine W.widen (k := 19 + T1.1 + (j + 1)) (n := 38467 + sg T1 + 6 * (j + 1)) (by omega) (by omega) ?_
  exact kk ad2 (vfJ k1 f r1.toInt64) g H locs ls hg hf (had 0 h0T) hV1 hrc1 hJ1 G hl
set_option maxHeartbeats 4000000 in
set_option maxRecDepth 100000 in
theorem y_a58 {p : Program} {e : Env} {s : State} {m : MethodId} {below : List Frame} {meth : Method} {c : Code} (l : Launch) (hst : l.stackTraces = false) {b L : Nat} {xs : Nat → Int32} (hx : p.tables.exec = Jvm.exec) (hb : c.code = code) (hml : c.maxLocals = 9) (hown : s.vm.findClass RL = some m.cls) (hts : ∀ w ∈ lw_tbl, w.before #[Value.ref b] s = true) (hX0 : va_X b L xs s s.heap) (hbl : b < s.heap.size) (hX : xT (fun q => s.heap.size ≤ q) s) (hN : nC s) (hTS : sAll s.heap.size s) {D : va_G} {cI cJ cZ cMic cSrc cSt cAI cAJ cD : ClassId} (hK : va_K D vwCl (CT cI cJ cZ cMic cSrc cSt cAI cAJ ++ [(cD, .double)]) s) {Q : State → Prop} {i j : Nat} (hi : i + 6 ≤ L) (hL : L ≤ 3072) (hj : j < 512) {aj ae : Nat} {ad am : Nat → Nat} {T : AT} {Sm : MS} {f : Nat → Int64} {g : Nat → UInt64} {ls : Array Slot} {H : Heap} {locs : List Loc} (hV : IV aR0 1586 aK1 aK2 T) (hrc : RC T) (hJ : JJ Sm) (G : gL cI cJ cZ cMic cSrc cSt cAI cAJ D ad (fun q => s.heap.size ≤ q) s.heap H locs T (oJ aj cJ f :: oD ae cD g :: MW cI cJ cZ am Sm)) (hl : lv_has ls 9 [(5, .int (nI i)), (4, .ref ae), (3, .ref aj), (2, .ref (am 0)), (1, .ref (ad 0)), (0, .ref b)]) (kk : ∀ {k1 : Nat} {r1 : Int32} {T1 : AT} {r2 : Int32} {S1 : MS} (ad2 : Nat → Nat) (f1 : Nat → Int64) (g1 : Nat → UInt64) (H1 : Heap) (locs1 : List Loc) (ls1 : Array Slot), g_X11_clean T 0 (xs (i + 1)) = some (k1, r1, T1) → fr_clean Sm (xs (i + 1)) = some (r2, S1) → ad2 0 = ad 0 → IV aR0 1586 aK1 aK2 T1 → RC T1 → JJ S1 → gL cI cJ cZ cMic cSrc cSt cAI cAJ D ad2 (fun q => s.heap.size ≤ q) s.heap H1 locs1 T1 (oJ aj cJ f1 :: oD ae cD g1 :: MW cI cJ cZ am S1) → lv_has ls1 9 [(5, .int (nI i)), (4, .ref ae), (3, .ref aj), (2, .ref (am 0)), (1, .ref (ad2 0)), (0, .ref b)] → W p l e room_1 s m #[Value.ref b] below meth c H1 locs1 (19 + T1.1 + (j + 1)) (38467 + sg T1 + 6 * (j + 1)) Q (F0 m 2439 ls1 [])) : W p l e room_1 s m #[Value.ref b] below meth c H locs (19 + T.1 + j) (38467 + sg T + 6 * j) Q (F0 m 2310 ls []) := by
  have E : cE p c cL_law s m #[Value.ref b] lw_tbl D RL (CT cI cJ cZ cMic cSrc cSt cAI cAJ ++ [(cD, .double)]) := ⟨hx, hb, hts, hown, hK⟩
  have hA : ∀ q : Nat, s.heap.size ≤ q → s.heap.size ≤ q := fun _ h => h
  have h0T : 0 < T.1 := Nat.lt_of_lt_of_le (by decide) hV.1.2.2
  have h0s : T.2.1 0 = (11, 0) := hV.2.1 0 ⟨by decide, by decide +kernel, by decide +kernel⟩
  refine lv_aload_n hx hb dL_law_2310 rfl (lv_at hl 4 rfl) ?_
  refine lv_aload_n hx hb dL_law_2311 rfl (lv_at hl 5 rfl) ?_
  refine lv_iload hx hb dL_law_2312 (lv_at hl 0 rfl) ?_
  refine lv_iconst (v := 1) hx hb dL_law_2314 (by decide) ?_
  refine lv_iadd hx hb dL_law_2315 ?_
  refine lv_to (y := nI (i + 1)) (nI_add i 1) ?_
  refine va_sld hx hb hX0 hbl (Nat.not_le.mpr hbl) G.2.2 (i := nI (i + 1)) (vp_in_nI (n := i + 1) (N := L) (by omega) (by omega)) dL_law_2316 ?_
  refine lv_to (y := xs (i + 1)) (congrArg xs (nI_clamp (by omega))) ?_
  refine lv_aload_n hx hb dL_law_2317 rfl (lv_at hl 2 rfl) ?_
  obtain ⟨⟨k1, r1, T1⟩, hg, hc⟩ := cs_X11_clean T 0 (xs (i + 1)) hV (by decide +kernel)
  have hV1 : IV aR0 1586 aK1 aK2 T1 := hc.1.1
  have hg1 := s_X11_clean hg
  have hg2 := sg_le hg1
  have hg3 := hg1.1
  have hk := hV1.2.2.2.2.2.2
  have hrc1 := hg1.2.2 hrc
  have hr0 := a_room
  refine l_v (h0 := s.heap.size) (As := [.ref (ad 0), .int (xs (i + 1)), .ref aj]) (rest := []) E G hA hX hN (fun _ h => h) hTS hml (v_clean l hst D s.heap.size ad T 0 (xs (i + 1)) aj f hg hrc h0T h0s) (vx_cwSW 3 hts (glA (L := [Cond.methodLink RL 388 yL_clean, Cond.static yL_clean, Cond.initialized RL]) (gl_in [(7, 159), (7, 160), (1, 0)] (by decide +kernel) (by decide +kernel)) ⟨(t_of [Cond.codeWith yL_clean cL_clean 4 (some .int) [(0, 9, 12, 21), (0, 9, 15, 15)]] [(7, 161)] (by decide +kernel) _ List.mem_cons_self), List.all_eq_true.mp (by decide +kernel : [Cond.codeWith yL_clean cL_clean 4 (some .int) [(0, 9, 12, 21), (0, 9, 15, 15)]].all goodWord = true) _ List.mem_cons_self⟩) rfl rfl rfl (by decide +kernel) ⟨Nat.le_of_ble_eq_true rfl, Nat.le_of_ble_eq_true rfl⟩) rfl hl.1 rfl (lv_room (Nat.le_of_ble_eq_true rfl)) dL_law_2318 ⟨by show _ ≤ 601024; omega, by show _ ≤ 7293034; omega⟩ ?_
  intro ad2 H locs had G
  rw [← had 0 h0T] at hl
  refine lv_istore (lv' := [(6, .int (vck 1 0 2 k1)), (5, .int (nI i)), (4, .ref ae), (3, .ref aj), (2, .ref (am 0)), (1, .ref (ad2 0)), (0, .ref b)]) hx hb dL_law_2321 hl (by decide) rfl (fun ls hl => ?_)
  refine lv_aload_n hx hb dL_law_2323 rfl (lv_at hl 4 rfl) ?_
  refine lv_aload_n hx hb dL_law_2324 rfl (lv_at hl 6 rfl) ?_
  refine lv_iload hx hb dL_law_2325 (lv_at hl 1 rfl) ?_
  refine lv_iconst (v := 1) hx hb dL_law_2327 (by decide) ?_
  refine lv_iadd hx hb dL_law_2328 ?_
  refine lv_to (y := nI (i + 1)) (nI_add i 1) ?_
  refine va_sld hx hb hX0 hbl (Nat.not_le.mpr hbl) G.2.2 (i := nI (i + 1)) (vp_in_nI (n := i + 1) (N := L) (by omega) (by omega)) dL_law_2329 ?_
  refine lv_to (y := xs (i + 1)) (congrArg xs (nI_clamp (by omega))) ?_
  obtain ⟨⟨r2, S1⟩, hf, hj⟩ := sj_clean Sm (xs (i + 1)) hJ
  have hJ1 : JJ S1 := hj
  refine y_mi (As := [.int (xs (i + 1))]) (rest := []) E G hA hX.2.2.2.2 hml (tr_clean l D cI cJ cZ am Sm (xs (i + 1)) hf) (cwV 1 hts (glM (L := [Cond.methodLink RL 390 yX12_clean, Cond.instanceMethod yX12_clean, Cond.selects RX12 yX12_clean yX12_clean, Cond.initialized RX12]) (gl_in [(10, 185), (10, 186), (10, 187), (1, 14)] (by decide +kernel) (by decide +kernel)) ⟨(t_of [Cond.code yX12_clean cX12_clean 6 (some .int)] [(10, 188)] (by decide +kernel) _ List.mem_cons_self), List.all_eq_true.mp (by decide +kernel : [Cond.code yX12_clean cX12_clean 6 (some .int)].all goodWord = true) _ List.mem_cons_self⟩) rfl rfl rfl (by decide +kernel) ⟨Nat.le_of_ble_eq_true rfl, Nat.le_of_ble_eq_true rfl⟩) rfl hl.1 rfl (lv_room (Nat.le_of_ble_eq_true rfl)) dL_law_2330 ⟨by show _ ≤ 601024; omega, by show _ ≤ 7293034; omega⟩ (fun H locs G => ?_)
  refine lv_istore (lv' := [(7, .int r2), (6, .int (vck 1 0 2 k1)), (5, .int (nI i)), (4, .ref ae), (3, .ref aj), (2, .ref (am 0)), (1, .ref (ad2 0)), (0, .ref b)]) hx hb dL_law_2333 hl (by decide) rfl (fun ls hl => ?_)
  refine lv_goto (tgt := 2439) hx hb dL_law_2335 (by decide) ?_
  have hl := lv_sub hl [2, 3, 4, 5, 6, 7] rfl
  refine W.widen (k := 19 + T1.1 + (j + 1)) (n := 38467 + sg T1 + 6 * (j + 1)) (by omega) (by omega) ?_
  exact kk ad2 (vfJ k1 f r1.toInt64) g H locs ls hg hf (had 0 h0T) hV1 hrc1 hJ1 G hl
set_option maxHeartbeats 4000000 in
set_option maxRecDepth 100000 in
theorem y_a59 {p : Program} {e : Env} {s : State} {m : MethodId} {below : List Frame} {meth : Method} {c : Code} (l : Launch) (hst : l.stackTraces = false) {b L : Nat} {xs : Nat → Int32} (hx : p.tables.exec = Jvm.exec) (hb : c.code = code) (hml : c.maxLocals = 9) (hown : s.vm.findClass RL = some m.cls) (hts : ∀ w ∈ lw_tbl, w.before #[Value.ref b] s = true) (hX0 : va_X b L xs s s.heap) (hbl : b < s.heap.size) (hX : xT (fun q => s.heap.size ≤ q) s) (hN : nC s) (hTS : sAll s.heap.size s) {D : va_G} {cI cJ cZ cMic cSrc cSt cAI cAJ cD : ClassId} (hK : va_K D vwCl (CT cI cJ cZ cMic cSrc cSt cAI cAJ ++ [(cD, .double)]) s) {Q : State → Prop} {i j : Nat} (hi : i + 6 ≤ L) (hL : L ≤ 3072) (hj : j < 512) {aj ae : Nat} {ad am : Nat → Nat} {T : AT} {Sm : MS} {f : Nat → Int64} {g : Nat → UInt64} {ls : Array Slot} {H : Heap} {locs : List Loc} (hV : IV aR0 1586 aK1 aK2 T) (hrc : RC T) (hJ : JJ Sm) (G : gL cI cJ cZ cMic cSrc cSt cAI cAJ D ad (fun q => s.heap.size ≤ q) s.heap H locs T (oJ aj cJ f :: oD ae cD g :: MW cI cJ cZ am Sm)) (hl : lv_has ls 9 [(5, .int (nI i)), (4, .ref ae), (3, .ref aj), (2, .ref (am 0)), (1, .ref (ad 0)), (0, .ref b)]) (kk : ∀ {k1 : Nat} {r1 : Int32} {T1 : AT} {r2 : Int32} {S1 : MS} (ad2 : Nat → Nat) (f1 : Nat → Int64) (g1 : Nat → UInt64) (H1 : Heap) (locs1 : List Loc) (ls1 : Array Slot), g_X11_cleaned T 0 = some (k1, r1, T1) → fr_cleaned Sm = some (r2, S1) → ad2 0 = ad 0 → IV aR0 1586 aK1 aK2 T1 → RC T1 → JJ S1 → gL cI cJ cZ cMic cSrc cSt cAI cAJ D ad2 (fun q => s.heap.size ≤ q) s.heap H1 locs1 T1 (oJ aj cJ f1 :: oD ae cD g1 :: MW cI cJ cZ am S1) → lv_has ls1 9 [(5, .int (nI i)), (4, .ref ae), (3, .ref aj), (2, .ref (am 0)), (1, .ref (ad2 0)), (0, .ref b)] → W p l e room_1 s m #[Value.ref b] below meth c H1 locs1 (19 + T1.1 + (j + 1)) (38467 + sg T1 + 6 * (j + 1)) Q (F0 m 2439 ls1 [])) : W p l e room_1 s m #[Value.ref b] below meth c H locs (19 + T.1 + j) (38467 + sg T + 6 * j) Q (F0 m 2338 ls []) := by
  have E : cE p c cL_law s m #[Value.ref b] lw_tbl D RL (CT cI cJ cZ cMic cSrc cSt cAI cAJ ++ [(cD, .double)]) := ⟨hx, hb, hts, hown, hK⟩
  have hA : ∀ q : Nat, s.heap.size ≤ q → s.heap.size ≤ q := fun _ h => h
  have h0T : 0 < T.1 := Nat.lt_of_lt_of_le (by decide) hV.1.2.2
  have h0s : T.2.1 0 = (11, 0) := hV.2.1 0 ⟨by decide, by decide +kernel, by decide +kernel⟩
  refine lv_aload_n hx hb dL_law_2338 rfl (lv_at hl 4 rfl) ?_
  refine lv_aload_n hx hb dL_law_2339 rfl (lv_at hl 2 rfl) ?_
  obtain ⟨⟨k1, r1, T1⟩, hg, hc⟩ := cs_X11_cleaned T 0 hV (by decide +kernel)
  have hV1 : IV aR0 1586 aK1 aK2 T1 := by rw [show T1 = T from hc.1]; exact hV
  have hg1 := (gl_sp (s_X11_cleaned hg))
  have hg2 := sg_le hg1
  have hg3 := hg1.1
  have hk := hV1.2.2.2.2.2.2
  have hrc1 := hg1.2.2 hrc
  have hr0 := a_room
  refine l_v (h0 := s.heap.size) (As := [.ref (ad 0), .ref aj]) (rest := []) E G hA hX hN (fun _ h => h) hTS hml (v_cleaned l hst D s.heap.size ad T 0  aj f hg hrc h0T h0s) (vx_cwSW 2 hts (glA (L := [Cond.methodLink RL 391 yL_cleaned, Cond.static yL_cleaned, Cond.initialized RL]) (gl_in [(7, 180), (7, 181), (1, 0)] (by decide +kernel) (by decide +kernel)) ⟨(t_of [Cond.codeWith yL_cleaned cL_cleaned 3 (some .int) [(0, 8, 11, 21)]] [(7, 182)] (by decide +kernel) _ List.mem_cons_self), List.all_eq_true.mp (by decide +kernel : [Cond.codeWith yL_cleaned cL_cleaned 3 (some .int) [(0, 8, 11, 21)]].all goodWord = true) _ List.mem_cons_self⟩) rfl rfl rfl (by decide +kernel) ⟨Nat.le_of_ble_eq_true rfl, Nat.le_of_ble_eq_true rfl⟩) rfl hl.1 rfl (lv_room (Nat.le_of_ble_eq_true rfl)) dL_law_2340 ⟨by show _ ≤ 601024; omega, by show _ ≤ 7293034; omega⟩ ?_
  intro ad2 H locs had G
  rw [← had 0 h0T] at hl
  refine lv_istore (lv' := [(6, .int (vck 1 0 0 k1)), (5, .int (nI i)), (4, .ref ae), (3, .ref aj), (2, .ref (am 0)), (1, .ref (ad2 0)), (0, .ref b)]) hx hb dL_law_2343 hl (by decide) rfl (fun ls hl => ?_)
  refine lv_aload_n hx hb dL_law_2345 rfl (lv_at hl 4 rfl) ?_
  obtain ⟨⟨r2, S1⟩, hf, hj⟩ := sj_cleaned Sm hJ
  have hJ1 : JJ S1 := hj
  refine y_mi (As := []) (rest := []) E G hA hX.2.2.2.2 hml (tr_cleaned l D cI cJ cZ am Sm  hf) (cwV 0 hts (glM (L := [Cond.methodLink RL 393 yX12_cleaned, Cond.instanceMethod yX12_cleaned, Cond.selects RX12 yX12_cleaned yX12_cleaned, Cond.initialized RX12]) (gl_in [(10, 193), (10, 194), (10, 195), (1, 14)] (by decide +kernel) (by decide +kernel)) ⟨(t_of [Cond.code yX12_cleaned cX12_cleaned 1 (some .int)] [(10, 196)] (by decide +kernel) _ List.mem_cons_self), List.all_eq_true.mp (by decide +kernel : [Cond.code yX12_cleaned cX12_cleaned 1 (some .int)].all goodWord = true) _ List.mem_cons_self⟩) rfl rfl rfl (by decide +kernel) ⟨Nat.le_of_ble_eq_true rfl, Nat.le_of_ble_eq_true rfl⟩) rfl hl.1 rfl (lv_room (Nat.le_of_ble_eq_true rfl)) dL_law_2346 ⟨by show _ ≤ 601024; omega, by show _ ≤ 7293034; omega⟩ (fun H locs G => ?_)
  refine lv_istore (lv' := [(7, .int r2), (6, .int (vck 1 0 0 k1)), (5, .int (nI i)), (4, .ref ae), (3, .ref aj), (2, .ref (am 0)), (1, .ref (ad2 0)), (0, .ref b)]) hx hb dL_law_2349 hl (by decide) rfl (fun ls hl => ?_)
  refine lv_goto (tgt := 2439) hx hb dL_law_2351 (by decide) ?_
  have hl := lv_sub hl [2, 3, 4, 5, 6, 7] rfl
  refine W.widen (k := 19 + T1.1 + (j + 1)) (n := 38467 + sg T1 + 6 * (j + 1)) (by omega) (by omega) ?_
  exact kk ad2 (vfJ k1 f r1.toInt64) g H locs ls hg hf (had 0 h0T) hV1 hrc1 hJ1 G hl
set_option maxHeartbeats 4000000 in
set_option maxRecDepth 100000 in
theorem y_a60 {p : Program} {e : Env} {s : State} {m : MethodId} {below : List Frame} {meth : Method} {c : Code} (l : Launch) (hst : l.stackTraces = false) {b L : Nat} {xs : Nat → Int32} (hx : p.tables.exec = Jvm.exec) (hb : c.code = code) (hml : c.maxLocals = 9) (hown : s.vm.findClass RL = some m.cls) (hts : ∀ w ∈ lw_tbl, w.before #[Value.ref b] s = true) (hX0 : va_X b L xs s s.heap) (hbl : b < s.heap.size) (hX : xT (fun q => s.heap.size ≤ q) s) (hN : nC s) (hTS : sAll s.heap.size s) {D : va_G} {cI cJ cZ cMic cSrc cSt cAI cAJ cD : ClassId} (hK : va_K D vwCl (CT cI cJ cZ cMic cSrc cSt cAI cAJ ++ [(cD, .double)]) s) {Q : State → Prop} {i j : Nat} (hi : i + 6 ≤ L) (hL : L ≤ 3072) (hj : j < 512) {aj ae : Nat} {ad am : Nat → Nat} {T : AT} {Sm : MS} {f : Nat → Int64} {g : Nat → UInt64} {ls : Array Slot} {H : Heap} {locs : List Loc} (hV : IV aR0 1586 aK1 aK2 T) (hrc : RC T) (hJ : JJ Sm) (G : gL cI cJ cZ cMic cSrc cSt cAI cAJ D ad (fun q => s.heap.size ≤ q) s.heap H locs T (oJ aj cJ f :: oD ae cD g :: MW cI cJ cZ am Sm)) (hl : lv_has ls 9 [(5, .int (nI i)), (4, .ref ae), (3, .ref aj), (2, .ref (am 0)), (1, .ref (ad 0)), (0, .ref b)]) (kk : ∀ {k1 : Nat} {r1 : Int32} {T1 : AT} {r2 : Int32} {S1 : MS} (ad2 : Nat → Nat) (f1 : Nat → Int64) (g1 : Nat → UInt64) (H1 : Heap) (locs1 : List Loc) (ls1 : Array Slot), g_X11_undo T 0 = some (k1, r1, T1) → fr_undo Sm = some (r2, S1) → ad2 0 = ad 0 → IV aR0 1586 aK1 aK2 T1 → RC T1 → JJ S1 → gL cI cJ cZ cMic cSrc cSt cAI cAJ D ad2 (fun q => s.heap.size ≤ q) s.heap H1 locs1 T1 (oJ aj cJ f1 :: oD ae cD g1 :: MW cI cJ cZ am S1) → lv_has ls1 9 [(5, .int (nI i)), (4, .ref ae), (3, .ref aj), (2, .ref (am 0)), (1, .ref (ad2 0)), (0, .ref b)] → W p l e room_1 s m #[Value.ref b] below meth c H1 locs1 (19 + T1.1 + (j + 1)) (38467 + sg T1 + 6 * (j + 1)) Q (F0 m 2439 ls1 [])) : W p l e room_1 s m #[Value.ref b] below meth c H locs (19 + T.1 + j) (38467 + sg T + 6 * j) Q (F0 m 2354 ls []) := by
  have E : cE p c cL_law s m #[Value.ref b] lw_tbl D RL (CT cI cJ cZ cMic cSrc cSt cAI cAJ ++ [(cD, .double)]) := ⟨hx, hb, hts, hown, hK⟩
  have hA : ∀ q : Nat, s.heap.size ≤ q → s.heap.size ≤ q := fun _ h => h
  have h0T : 0 < T.1 := Nat.lt_of_lt_of_le (by decide) hV.1.2.2
  have h0s : T.2.1 0 = (11, 0) := hV.2.1 0 ⟨by decide, by decide +kernel, by decide +kernel⟩
  refine lv_aload_n hx hb dL_law_2354 rfl (lv_at hl 4 rfl) ?_
  refine lv_aload_n hx hb dL_law_2355 rfl (lv_at hl 2 rfl) ?_
  obtain ⟨⟨k1, r1, T1⟩, hg, hc⟩ := cs_X11_undo T 0 hV (by decide +kernel)
  have hV1 : IV aR0 1586 aK1 aK2 T1 := hc.1.1
  have hg1 := s_X11_undo hg
  have hg2 := sg_le hg1
  have hg3 := hg1.1
  have hk := hV1.2.2.2.2.2.2
  have hrc1 := hg1.2.2 hrc
  have hr0 := a_room
  refine l_v (h0 := s.heap.size) (As := [.ref (ad 0), .ref aj]) (rest := []) E G hA hX hN (fun _ h => h) hTS hml (v_undo l hst D s.heap.size ad T 0  aj f hg hrc h0T h0s) (vx_cwSW 2 hts (glA (L := [Cond.methodLink RL 394 yL_undo, Cond.static yL_undo, Cond.initialized RL]) (gl_in [(7, 187), (7, 188), (1, 0)] (by decide +kernel) (by decide +kernel)) ⟨(t_of [Cond.codeWith yL_undo cL_undo 3 (some .int) [(0, 8, 11, 21)]] [(7, 189)] (by decide +kernel) _ List.mem_cons_self), List.all_eq_true.mp (by decide +kernel : [Cond.codeWith yL_undo cL_undo 3 (some .int) [(0, 8, 11, 21)]].all goodWord = true) _ List.mem_cons_self⟩) rfl rfl rfl (by decide +kernel) ⟨Nat.le_of_ble_eq_true rfl, Nat.le_of_ble_eq_true rfl⟩) rfl hl.1 rfl (lv_room (Nat.le_of_ble_eq_true rfl)) dL_law_2356 ⟨by show _ ≤ 601024; omega, by show _ ≤ 7293034; omega⟩ ?_
  intro ad2 H locs had G
  rw [← had 0 h0T] at hl
  refine lv_istore (lv' := [(6, .int (vck 1 0 0 k1)), (5, .int (nI i)), (4, .ref ae), (3, .ref aj), (2, .ref (am 0)), (1, .ref (ad2 0)), (0, .ref b)]) hx hb dL_law_2359 hl (by decide) rfl (fun ls hl => ?_)
  refine lv_aload_n hx hb dL_law_2361 rfl (lv_at hl 4 rfl) ?_
  obtain ⟨⟨r2, S1⟩, hf, hj⟩ := sj_undo Sm hJ
  have hJ1 : JJ S1 := hj
  refine y_mi (As := []) (rest := []) E G hA hX.2.2.2.2 hml (tr_undo l D cI cJ cZ am Sm  hf) (cwV 0 hts (glM (L := [Cond.methodLink RL 396 yX12_undo, Cond.instanceMethod yX12_undo, Cond.selects RX12 yX12_undo yX12_undo, Cond.initialized RX12]) (gl_in [(10, 197), (10, 198), (10, 199), (1, 14)] (by decide +kernel) (by decide +kernel)) ⟨(t_of [Cond.code yX12_undo cX12_undo 1 (some .int)] [(10, 200)] (by decide +kernel) _ List.mem_cons_self), List.all_eq_true.mp (by decide +kernel : [Cond.code yX12_undo cX12_undo 1 (some .int)].all goodWord = true) _ List.mem_cons_self⟩) rfl rfl rfl (by decide +kernel) ⟨Nat.le_of_ble_eq_true rfl, Nat.le_of_ble_eq_true rfl⟩) rfl hl.1 rfl (lv_room (Nat.le_of_ble_eq_true rfl)) dL_law_2362 ⟨by show _ ≤ 601024; omega, by show _ ≤ 7293034; omega⟩ (fun H locs G => ?_)
  refine lv_istore (lv' := [(7, .int r2), (6, .int (vck 1 0 0 k1)), (5, .int (nI i)), (4, .ref ae), (3, .ref aj), (2, .ref (am 0)), (1, .ref (ad2 0)), (0, .ref b)]) hx hb dL_law_2365 hl (by decide) rfl (fun ls hl => ?_)
  refine lv_goto (tgt := 2439) hx hb dL_law_2367 (by decide) ?_
  have hl := lv_sub hl [2, 3, 4, 5, 6, 7] rfl
  refine W.widen (k := 19 + T1.1 + (j + 1)) (n := 38467 + sg T1 + 6 * (j + 1)) (by omega) (by omega) ?_
  exact kk ad2 (vfJ k1 f r1.toInt64) g H locs ls hg hf (had 0 h0T) hV1 hrc1 hJ1 G hl
set_option maxHeartbeats 4000000 in
set_option maxRecDepth 100000 in
theorem y_a61 {p : Program} {e : Env} {s : State} {m : MethodId} {below : List Frame} {meth : Method} {c : Code} (l : Launch) (hst : l.stackTraces = false) {b L : Nat} {xs : Nat → Int32} (hx : p.tables.exec = Jvm.exec) (hb : c.code = code) (hml : c.maxLocals = 9) (hown : s.vm.findClass RL = some m.cls) (hts : ∀ w ∈ lw_tbl, w.before #[Value.ref b] s = true) (hX0 : va_X b L xs s s.heap) (hbl : b < s.heap.size) (hX : xT (fun q => s.heap.size ≤ q) s) (hN : nC s) (hTS : sAll s.heap.size s) {D : va_G} {cI cJ cZ cMic cSrc cSt cAI cAJ cD : ClassId} (hK : va_K D vwCl (CT cI cJ cZ cMic cSrc cSt cAI cAJ ++ [(cD, .double)]) s) {Q : State → Prop} {i j : Nat} (hi : i + 6 ≤ L) (hL : L ≤ 3072) (hj : j < 512) {aj ae : Nat} {ad am : Nat → Nat} {T : AT} {Sm : MS} {f : Nat → Int64} {g : Nat → UInt64} {ls : Array Slot} {H : Heap} {locs : List Loc} (hV : IV aR0 1586 aK1 aK2 T) (hrc : RC T) (hJ : JJ Sm) (G : gL cI cJ cZ cMic cSrc cSt cAI cAJ D ad (fun q => s.heap.size ≤ q) s.heap H locs T (oJ aj cJ f :: oD ae cD g :: MW cI cJ cZ am Sm)) (hl : lv_has ls 9 [(5, .int (nI i)), (4, .ref ae), (3, .ref aj), (2, .ref (am 0)), (1, .ref (ad 0)), (0, .ref b)]) (kk : ∀ {r1 : Int32} {T1 : AT} {r2 : Int32} {S1 : MS} (ad2 : Nat → Nat) (f1 : Nat → Int64) (g1 : Nat → UInt64) (H1 : Heap) (locs1 : List Loc) (ls1 : Array Slot), g_X11_undoable T 0 = some (r1, T1) → fr_undoable Sm = some (r2, S1) → ad2 0 = ad 0 → IV aR0 1586 aK1 aK2 T1 → RC T1 → JJ S1 → gL cI cJ cZ cMic cSrc cSt cAI cAJ D ad2 (fun q => s.heap.size ≤ q) s.heap H1 locs1 T1 (oJ aj cJ f1 :: oD ae cD g1 :: MW cI cJ cZ am S1) → lv_has ls1 9 [(5, .int (nI i)), (4, .ref ae), (3, .ref aj), (2, .ref (am 0)), (1, .ref (ad2 0)), (0, .ref b)] → W p l e room_1 s m #[Value.ref b] below meth c H1 locs1 (19 + T1.1 + (j + 1)) (38467 + sg T1 + 6 * (j + 1)) Q (F0 m 2439 ls1 [])) : W p l e room_1 s m #[Value.ref b] below meth c H locs (19 + T.1 + j) (38467 + sg T + 6 * j) Q (F0 m 2370 ls []) := by
  have E : cE p c cL_law s m #[Value.ref b] lw_tbl D RL (CT cI cJ cZ cMic cSrc cSt cAI cAJ ++ [(cD, .double)]) := ⟨hx, hb, hts, hown, hK⟩
  have hA : ∀ q : Nat, s.heap.size ≤ q → s.heap.size ≤ q := fun _ h => h
  have h0T : 0 < T.1 := Nat.lt_of_lt_of_le (by decide) hV.1.2.2
  have h0s : T.2.1 0 = (11, 0) := hV.2.1 0 ⟨by decide, by decide +kernel, by decide +kernel⟩
  refine lv_aload_n hx hb dL_law_2370 rfl (lv_at hl 4 rfl) ?_
  obtain ⟨⟨r1, T1⟩, hg, hc⟩ := cs_X11_undoable T 0 hV (by decide +kernel)
  have hV1 : IV aR0 1586 aK1 aK2 T1 := by rw [show T1 = T from hc.1]; exact hV
  have hg1 := (gl_sp (s_X11_undoable hg))
  have hg2 := sg_le hg1
  have hg3 := hg1.1
  have hk := hV1.2.2.2.2.2.2
  have hrc1 := hg1.2.2 hrc
  have hr0 := a_room
  refine t_cvi (As := []) (rest := []) E G hA hX hX.2.2.2.1 hml (u_X11_undoable l hst D cI cJ cZ cMic cSrc cSt cAI cAJ ad T 0  hg) (cwV 0 hts (glA (L := [Cond.methodLink RL 397 yX11_undoable, Cond.instanceMethod yX11_undoable, Cond.selects RX11 yX11_undoable yX11_undoable, Cond.initialized RX11]) (gl_in [(3, 88), (3, 89), (3, 90), (1, 1)] (by decide +kernel) (by decide +kernel)) ⟨(t_of [Cond.code yX11_undoable cX11_undoable 1 (some .int)] [(3, 91)] (by decide +kernel) _ List.mem_cons_self), List.all_eq_true.mp (by decide +kernel : [Cond.code yX11_undoable cX11_undoable 1 (some .int)].all goodWord = true) _ List.mem_cons_self⟩) rfl rfl rfl (by decide +kernel) ⟨Nat.le_of_ble_eq_true rfl, Nat.le_of_ble_eq_true rfl⟩) h0T (cc_o11 h0s) rfl rfl hl.1 rfl (lv_room (Nat.le_of_ble_eq_true rfl)) dL_law_2371 ⟨by show _ ≤ 601024; omega, by show _ ≤ 7293034; omega⟩ ?_
  intro r9 T9 H locs hp G
  obtain ⟨hr9, hS1⟩ := hp
  rw [hS1] at G
  refine lv_to (y := r1) hr9 ?_
  refine lv_pop hx hb dL_law_2374 rfl ?_
  refine lv_aload_n hx hb dL_law_2375 rfl (lv_at hl 3 rfl) ?_
  obtain ⟨⟨r2, S1⟩, hf, hj⟩ := sj_undoable Sm hJ
  have hJ1 : JJ S1 := hj
  refine y_mi (As := []) (rest := []) E G hA hX.2.2.2.2 hml (tr_undoable l D cI cJ cZ am Sm  hf) (cwV 0 hts (glM (L := [Cond.methodLink RL 400 yX12_undoable, Cond.instanceMethod yX12_undoable, Cond.selects RX12 yX12_undoable yX12_undoable, Cond.initialized RX12]) (gl_in [(10, 201), (10, 202), (10, 203), (1, 14)] (by decide +kernel) (by decide +kernel)) ⟨(t_of [Cond.code yX12_undoable cX12_undoable 1 (some .int)] [(10, 204)] (by decide +kernel) _ List.mem_cons_self), List.all_eq_true.mp (by decide +kernel : [Cond.code yX12_undoable cX12_undoable 1 (some .int)].all goodWord = true) _ List.mem_cons_self⟩) rfl rfl rfl (by decide +kernel) ⟨Nat.le_of_ble_eq_true rfl, Nat.le_of_ble_eq_true rfl⟩) rfl hl.1 rfl (lv_room (Nat.le_of_ble_eq_true rfl)) dL_law_2376 ⟨by show _ ≤ 601024; omega, by show _ ≤ 7293034; omega⟩ (fun H locs G => ?_)
  refine lv_pop hx hb dL_law_2379 rfl ?_
  refine lv_goto (tgt := 2439) hx hb dL_law_2380 (by decide) ?_
  refine W.widen (k := 19 + T1.1 + (j + 1)) (n := 38467 + sg T1 + 6 * (j + 1)) (by omega) (by omega) ?_
  exact kk ad f g H locs ls hg hf rfl hV1 hrc1 hJ1 G hl
set_option maxHeartbeats 4000000 in
set_option maxRecDepth 100000 in
theorem y_a62 {p : Program} {e : Env} {s : State} {m : MethodId} {below : List Frame} {meth : Method} {c : Code} (l : Launch) (hst : l.stackTraces = false) {b L : Nat} {xs : Nat → Int32} (hx : p.tables.exec = Jvm.exec) (hb : c.code = code) (hml : c.maxLocals = 9) (hown : s.vm.findClass RL = some m.cls) (hts : ∀ w ∈ lw_tbl, w.before #[Value.ref b] s = true) (hX0 : va_X b L xs s s.heap) (hbl : b < s.heap.size) (hX : xT (fun q => s.heap.size ≤ q) s) (hN : nC s) (hTS : sAll s.heap.size s) {D : va_G} {cI cJ cZ cMic cSrc cSt cAI cAJ cD : ClassId} (hK : va_K D vwCl (CT cI cJ cZ cMic cSrc cSt cAI cAJ ++ [(cD, .double)]) s) {Q : State → Prop} {i j : Nat} (hi : i + 6 ≤ L) (hL : L ≤ 3072) (hj : j < 512) {aj ae : Nat} {ad am : Nat → Nat} {T : AT} {Sm : MS} {f : Nat → Int64} {g : Nat → UInt64} {ls : Array Slot} {H : Heap} {locs : List Loc} (hV : IV aR0 1586 aK1 aK2 T) (hrc : RC T) (hJ : JJ Sm) (G : gL cI cJ cZ cMic cSrc cSt cAI cAJ D ad (fun q => s.heap.size ≤ q) s.heap H locs T (oJ aj cJ f :: oD ae cD g :: MW cI cJ cZ am Sm)) (hl : lv_has ls 9 [(5, .int (nI i)), (4, .ref ae), (3, .ref aj), (2, .ref (am 0)), (1, .ref (ad 0)), (0, .ref b)]) (kk : ∀ {k1 : Nat} {r1 : Int32} {T1 : AT} {r2 : Int32} {S1 : MS} (ad2 : Nat → Nat) (f1 : Nat → Int64) (g1 : Nat → UInt64) (H1 : Heap) (locs1 : List Loc) (ls1 : Array Slot), g_X11_save T 0 (xs (i + 1)) = some (k1, r1, T1) → fr_save Sm (xs (i + 1)) = some (r2, S1) → ad2 0 = ad 0 → IV aR0 1586 aK1 aK2 T1 → RC T1 → JJ S1 → gL cI cJ cZ cMic cSrc cSt cAI cAJ D ad2 (fun q => s.heap.size ≤ q) s.heap H1 locs1 T1 (oJ aj cJ f1 :: oD ae cD g1 :: MW cI cJ cZ am S1) → lv_has ls1 9 [(5, .int (nI i)), (4, .ref ae), (3, .ref aj), (2, .ref (am 0)), (1, .ref (ad2 0)), (0, .ref b)] → W p l e room_1 s m #[Value.ref b] below meth c H1 locs1 (19 + T1.1 + (j + 1)) (38467 + sg T1 + 6 * (j + 1)) Q (F0 m 2439 ls1 [])) : W p l e room_1 s m #[Value.ref b] below meth c H locs (19 + T.1 + j) (38467 + sg T + 6 * j) Q (F0 m 2383 ls []) := by
  have E : cE p c cL_law s m #[Value.ref b] lw_tbl D RL (CT cI cJ cZ cMic cSrc cSt cAI cAJ ++ [(cD, .double)]) := ⟨hx, hb, hts, hown, hK⟩
  have hA : ∀ q : Nat, s.heap.size ≤ q → s.heap.size ≤ q := fun _ h => h
  have h0T : 0 < T.1 := Nat.lt_of_lt_of_le (by decide) hV.1.2.2
  have h0s : T.2.1 0 = (11, 0) := hV.2.1 0 ⟨by decide, by decide +kernel, by decide +kernel⟩
  refine lv_aload_n hx hb dL_law_2383 rfl (lv_at hl 4 rfl) ?_
  refine lv_aload_n hx hb dL_law_2384 rfl (lv_at hl 5 rfl) ?_
  refine lv_iload hx hb dL_law_2385 (lv_at hl 0 rfl) ?_
  refine lv_iconst (v := 1) hx hb dL_law_2387 (by decide) ?_
  refine lv_iadd hx hb dL_law_2388 ?_
  refine lv_to (y := nI (i + 1)) (nI_add i 1) ?_
  refine va_sld hx hb hX0 hbl (Nat.not_le.mpr hbl) G.2.2 (i := nI (i + 1)) (vp_in_nI (n := i + 1) (N := L) (by omega) (by omega)) dL_law_2389 ?_
  refine lv_to (y := xs (i + 1)) (congrArg xs (nI_clamp (by omega))) ?_
  refine lv_aload_n hx hb dL_law_2390 rfl (lv_at hl 2 rfl) ?_
  obtain ⟨⟨k1, r1, T1⟩, hg, hc⟩ := cs_X11_save T 0 (xs (i + 1)) hV (by decide +kernel)
  have hV1 : IV aR0 1586 aK1 aK2 T1 := hc.1.1
  have hg1 := s_X11_save hg
  have hg2 := sg_le hg1
  have hg3 := hg1.1
  have hk := hV1.2.2.2.2.2.2
  have hrc1 := hg1.2.2 hrc
  have hr0 := a_room
  refine l_v (h0 := s.heap.size) (As := [.ref (ad 0), .int (xs (i + 1)), .ref aj]) (rest := []) E G hA hX hN (fun _ h => h) hTS hml (v_save l hst D s.heap.size ad T 0 (xs (i + 1)) aj f hg hrc h0T h0s) (vx_cwSW 3 hts (glA (L := [Cond.methodLink RL 401 yL_save, Cond.static yL_save, Cond.initialized RL]) (gl_in [(7, 194), (7, 195), (1, 0)] (by decide +kernel) (by decide +kernel)) ⟨(t_of [Cond.codeWith yL_save cL_save 4 (some .int) [(0, 9, 12, 21), (0, 9, 15, 13)]] [(7, 196)] (by decide +kernel) _ List.mem_cons_self), List.all_eq_true.mp (by decide +kernel : [Cond.codeWith yL_save cL_save 4 (some .int) [(0, 9, 12, 21), (0, 9, 15, 13)]].all goodWord = true) _ List.mem_cons_self⟩) rfl rfl rfl (by decide +kernel) ⟨Nat.le_of_ble_eq_true rfl, Nat.le_of_ble_eq_true rfl⟩) rfl hl.1 rfl (lv_room (Nat.le_of_ble_eq_true rfl)) dL_law_2391 ⟨by show _ ≤ 601024; omega, by show _ ≤ 7293034; omega⟩ ?_
  intro ad2 H locs had G
  rw [← had 0 h0T] at hl
  refine lv_istore (lv' := [(6, .int (vck 1 2 0 k1)), (5, .int (nI i)), (4, .ref ae), (3, .ref aj), (2, .ref (am 0)), (1, .ref (ad2 0)), (0, .ref b)]) hx hb dL_law_2394 hl (by decide) rfl (fun ls hl => ?_)
  refine lv_aload_n hx hb dL_law_2396 rfl (lv_at hl 4 rfl) ?_
  refine lv_aload_n hx hb dL_law_2397 rfl (lv_at hl 6 rfl) ?_
  refine lv_iload hx hb dL_law_2398 (lv_at hl 1 rfl) ?_
  refine lv_iconst (v := 1) hx hb dL_law_2400 (by decide) ?_
  refine lv_iadd hx hb dL_law_2401 ?_
  refine lv_to (y := nI (i + 1)) (nI_add i 1) ?_
  refine va_sld hx hb hX0 hbl (Nat.not_le.mpr hbl) G.2.2 (i := nI (i + 1)) (vp_in_nI (n := i + 1) (N := L) (by omega) (by omega)) dL_law_2402 ?_
  refine lv_to (y := xs (i + 1)) (congrArg xs (nI_clamp (by omega))) ?_
  obtain ⟨⟨r2, S1⟩, hf, hj⟩ := sj_save Sm (xs (i + 1)) hJ
  have hJ1 : JJ S1 := hj
  refine y_mi (As := [.int (xs (i + 1))]) (rest := []) E G hA hX.2.2.2.2 hml (tr_save l D cI cJ cZ am Sm (xs (i + 1)) hf) (cwV 1 hts (glM (L := [Cond.methodLink RL 403 yX12_save, Cond.instanceMethod yX12_save, Cond.selects RX12 yX12_save yX12_save, Cond.initialized RX12]) (gl_in [(10, 205), (10, 206), (10, 207), (1, 14)] (by decide +kernel) (by decide +kernel)) ⟨(t_of [Cond.code yX12_save cX12_save 2 (some .int)] [(10, 208)] (by decide +kernel) _ List.mem_cons_self), List.all_eq_true.mp (by decide +kernel : [Cond.code yX12_save cX12_save 2 (some .int)].all goodWord = true) _ List.mem_cons_self⟩) rfl rfl rfl (by decide +kernel) ⟨Nat.le_of_ble_eq_true rfl, Nat.le_of_ble_eq_true rfl⟩) rfl hl.1 rfl (lv_room (Nat.le_of_ble_eq_true rfl)) dL_law_2403 ⟨by show _ ≤ 601024; omega, by show _ ≤ 7293034; omega⟩ (fun H locs G => ?_)
  refine lv_istore (lv' := [(7, .int r2), (6, .int (vck 1 2 0 k1)), (5, .int (nI i)), (4, .ref ae), (3, .ref aj), (2, .ref (am 0)), (1, .ref (ad2 0)), (0, .ref b)]) hx hb dL_law_2406 hl (by decide) rfl (fun ls hl => ?_)
  refine lv_goto (tgt := 2439) hx hb dL_law_2408 (by decide) ?_
  have hl := lv_sub hl [2, 3, 4, 5, 6, 7] rfl
  refine W.widen (k := 19 + T1.1 + (j + 1)) (n := 38467 + sg T1 + 6 * (j + 1)) (by omega) (by omega) ?_
  exact kk ad2 (vfJ k1 f r1.toInt64) g H locs ls hg hf (had 0 h0T) hV1 hrc1 hJ1 G hl
set_option maxHeartbeats 4000000 in
set_option maxRecDepth 100000 in
theorem y_a63 {p : Program} {e : Env} {s : State} {m : MethodId} {below : List Frame} {meth : Method} {c : Code} (l : Launch) (hst : l.stackTraces = false) {b L : Nat} {xs : Nat → Int32} (hx : p.tables.exec = Jvm.exec) (hb : c.code = code) (hml : c.maxLocals = 9) (hown : s.vm.findClass RL = some m.cls) (hts : ∀ w ∈ lw_tbl, w.before #[Value.ref b] s = true) (hX0 : va_X b L xs s s.heap) (hbl : b < s.heap.size) (hX : xT (fun q => s.heap.size ≤ q) s) (hN : nC s) (hTS : sAll s.heap.size s) {D : va_G} {cI cJ cZ cMic cSrc cSt cAI cAJ cD : ClassId} (hK : va_K D vwCl (CT cI cJ cZ cMic cSrc cSt cAI cAJ ++ [(cD, .double)]) s) {Q : State → Prop} {i j : Nat} (hi : i + 6 ≤ L) (hL : L ≤ 3072) (hj : j < 512) {aj ae : Nat} {ad am : Nat → Nat} {T : AT} {Sm : MS} {f : Nat → Int64} {g : Nat → UInt64} {ls : Array Slot} {H : Heap} {locs : List Loc} (hV : IV aR0 1586 aK1 aK2 T) (hrc : RC T) (hJ : JJ Sm) (G : gL cI cJ cZ cMic cSrc cSt cAI cAJ D ad (fun q => s.heap.size ≤ q) s.heap H locs T (oJ aj cJ f :: oD ae cD g :: MW cI cJ cZ am Sm)) (hl : lv_has ls 9 [(5, .int (nI i)), (4, .ref ae), (3, .ref aj), (2, .ref (am 0)), (1, .ref (ad 0)), (0, .ref b)]) (kk : ∀ {k1 : Nat} {r1 : Int32} {T1 : AT} {r2 : Int32} {S1 : MS} (ad2 : Nat → Nat) (f1 : Nat → Int64) (g1 : Nat → UInt64) (H1 : Heap) (locs1 : List Loc) (ls1 : Array Slot), g_X11_restore T 0 (xs (i + 1)) = some (k1, r1, T1) → fr_restore Sm (xs (i + 1)) = some (r2, S1) → ad2 0 = ad 0 → IV aR0 1586 aK1 aK2 T1 → RC T1 → JJ S1 → gL cI cJ cZ cMic cSrc cSt cAI cAJ D ad2 (fun q => s.heap.size ≤ q) s.heap H1 locs1 T1 (oJ aj cJ f1 :: oD ae cD g1 :: MW cI cJ cZ am S1) → lv_has ls1 9 [(5, .int (nI i)), (4, .ref ae), (3, .ref aj), (2, .ref (am 0)), (1, .ref (ad2 0)), (0, .ref b)] → W p l e room_1 s m #[Value.ref b] below meth c H1 locs1 (19 + T1.1 + (j + 1)) (38467 + sg T1 + 6 * (j + 1)) Q (F0 m 2439 ls1 [])) : W p l e room_1 s m #[Value.ref b] below meth c H locs (19 + T.1 + j) (38467 + sg T + 6 * j) Q (F0 m 2411 ls []) := by
  have E : cE p c cL_law s m #[Value.ref b] lw_tbl D RL (CT cI cJ cZ cMic cSrc cSt cAI cAJ ++ [(cD, .double)]) := ⟨hx, hb, hts, hown, hK⟩
  have hA : ∀ q : Nat, s.heap.size ≤ q → s.heap.size ≤ q := fun _ h => h
  have h0T : 0 < T.1 := Nat.lt_of_lt_of_le (by decide) hV.1.2.2
  have h0s : T.2.1 0 = (11, 0) := hV.2.1 0 ⟨by decide, by decide +kernel, by decide +kernel⟩
  refine lv_aload_n hx hb dL_law_2411 rfl (lv_at hl 4 rfl) ?_
  refine lv_aload_n hx hb dL_law_2412 rfl (lv_at hl 5 rfl) ?_
  refine lv_iload hx hb dL_law_2413 (lv_at hl 0 rfl) ?_
  refine lv_iconst (v := 1) hx hb dL_law_2415 (by decide) ?_
  refine lv_iadd hx hb dL_law_2416 ?_
  refine lv_to (y := nI (i + 1)) (nI_add i 1) ?_
  refine va_sld hx hb hX0 hbl (Nat.not_le.mpr hbl) G.2.2 (i := nI (i + 1)) (vp_in_nI (n := i + 1) (N := L) (by omega) (by omega)) dL_law_2417 ?_
  refine lv_to (y := xs (i + 1)) (congrArg xs (nI_clamp (by omega))) ?_
  refine lv_aload_n hx hb dL_law_2418 rfl (lv_at hl 2 rfl) ?_
  obtain ⟨⟨k1, r1, T1⟩, hg, hc⟩ := cs_X11_restore T 0 (xs (i + 1)) hV (by decide +kernel)
  have hV1 : IV aR0 1586 aK1 aK2 T1 := hc.1.1
  have hg1 := s_X11_restore hg
  have hg2 := sg_le hg1
  have hg3 := hg1.1
  have hk := hV1.2.2.2.2.2.2
  have hrc1 := hg1.2.2 hrc
  have hr0 := a_room
  refine l_v (h0 := s.heap.size) (As := [.ref (ad 0), .int (xs (i + 1)), .ref aj]) (rest := []) E G hA hX hN (fun _ h => h) hTS hml (v_restore l hst D s.heap.size ad T 0 (xs (i + 1)) aj f hg hrc h0T h0s) (vx_cwSW 3 hts (glA (L := [Cond.methodLink RL 404 yL_restore, Cond.static yL_restore, Cond.initialized RL]) (gl_in [(7, 201), (7, 202), (1, 0)] (by decide +kernel) (by decide +kernel)) ⟨(t_of [Cond.codeWith yL_restore cL_restore 4 (some .int) [(0, 9, 12, 13), (0, 9, 15, 21)]] [(7, 203)] (by decide +kernel) _ List.mem_cons_self), List.all_eq_true.mp (by decide +kernel : [Cond.codeWith yL_restore cL_restore 4 (some .int) [(0, 9, 12, 13), (0, 9, 15, 21)]].all goodWord = true) _ List.mem_cons_self⟩) rfl rfl rfl (by decide +kernel) ⟨Nat.le_of_ble_eq_true rfl, Nat.le_of_ble_eq_true rfl⟩) rfl hl.1 rfl (lv_room (Nat.le_of_ble_eq_true rfl)) dL_law_2419 ⟨by show _ ≤ 601024; omega, by show _ ≤ 7293034; omega⟩ ?_
  intro ad2 H locs had G
  rw [← had 0 h0T] at hl
  refine lv_istore (lv' := [(6, .int (vck 2 1 0 k1)), (5, .int (nI i)), (4, .ref ae), (3, .ref aj), (2, .ref (am 0)), (1, .ref (ad2 0)), (0, .ref b)]) hx hb dL_law_2422 hl (by decide) rfl (fun ls hl => ?_)
  refine lv_aload_n hx hb dL_law_2424 rfl (lv_at hl 4 rfl) ?_
  refine lv_aload_n hx hb dL_law_2425 rfl (lv_at hl 6 rfl) ?_
  refine lv_iload hx hb dL_law_2426 (lv_at hl 1 rfl) ?_
  refine lv_iconst (v := 1) hx hb dL_law_2428 (by decide) ?_
  refine lv_iadd hx hb dL_law_2429 ?_
  refine lv_to (y := nI (i + 1)) (nI_add i 1) ?_
  refine va_sld hx hb hX0 hbl (Nat.not_le.mpr hbl) G.2.2 (i := nI (i + 1)) (vp_in_nI (n := i + 1) (N := L) (by omega) (by omega)) dL_law_2430 ?_
  refine lv_to (y := xs (i + 1)) (congrArg xs (nI_clamp (by omega))) ?_
  obtain ⟨⟨r2, S1⟩, hf, hj⟩ := sj_restore Sm (xs (i + 1)) hJ
  have hJ1 : JJ S1 := hj
  refine y_mi (As := [.int (xs (i + 1))]) (rest := []) E G hA hX.2.2.2.2 hml (tr_restore l D cI cJ cZ am Sm (xs (i + 1)) hf) (cwV 1 hts (glM (L := [Cond.methodLink RL 406 yX12_restore, Cond.instanceMethod yX12_restore, Cond.selects RX12 yX12_restore yX12_restore, Cond.initialized RX12]) (gl_in [(10, 209), (10, 210), (10, 211), (1, 14)] (by decide +kernel) (by decide +kernel)) ⟨(t_of [Cond.code yX12_restore cX12_restore 2 (some .int)] [(10, 212)] (by decide +kernel) _ List.mem_cons_self), List.all_eq_true.mp (by decide +kernel : [Cond.code yX12_restore cX12_restore 2 (some .int)].all goodWord = true) _ List.mem_cons_self⟩) rfl rfl rfl (by decide +kernel) ⟨Nat.le_of_ble_eq_true rfl, Nat.le_of_ble_eq_true rfl⟩) rfl hl.1 rfl (lv_room (Nat.le_of_ble_eq_true rfl)) dL_law_2431 ⟨by show _ ≤ 601024; omega, by show _ ≤ 7293034; omega⟩ (fun H locs G => ?_)
  refine lv_istore (lv' := [(7, .int r2), (6, .int (vck 2 1 0 k1)), (5, .int (nI i)), (4, .ref ae), (3, .ref aj), (2, .ref (am 0)), (1, .ref (ad2 0)), (0, .ref b)]) hx hb dL_law_2434 hl (by decide) rfl (fun ls hl => ?_)
  refine lv_goto (tgt := 2439) hx hb dL_law_2436 (by decide) ?_
  have hl := lv_sub hl [2, 3, 4, 5, 6, 7] rfl
  refine W.widen (k := 19 + T1.1 + (j + 1)) (n := 38467 + sg T1 + 6 * (j + 1)) (by omega) (by omega) ?_
  exact kk ad2 (vfJ k1 f r1.toInt64) g H locs ls hg hf (had 0 h0T) hV1 hrc1 hJ1 G hl
end
section
/-! 18a.rel.lean.txt -/
theorem tgo {α : Type} {x : Option α} {P : α → Prop} {a : α} (h : Tot x P) (e : x = some a) : P a := by
  obtain ⟨b, e2, q⟩ := h
  rw [e] at e2
  cases e2
  exact q
end
section
/-! 18b.gr.lean.txt -/
/-- the references that don't change: all but those of rows of Wides -/
def GR (T T1 : AT) : Prop := GL T T1 ∧ ∀ n k, n < T.1 → (T.2.1 n).1 ≠ 107 → T1.2.2.2.2 n k = T.2.2.2.2 n k
theorem GR.rf (T : AT) : GR T T := ⟨GL.rf T, fun _ _ _ _ => rfl⟩
theorem GR.tr {T T1 T2 : AT} (h : GR T T1) (k : GR T1 T2) : GR T T2 := ⟨h.1.tr k.1, fun n j hn a => (k.2 n j (Nat.lt_of_lt_of_le hn h.1.1) (by rw [h.1.2.1 n hn]; exact a)).trans (h.2 n j hn a)⟩
theorem gr_sp {T T1 : AT} (h : SP T T1) : GR T T1 := ⟨gl_sp h, fun n k _ _ => by rw [h.2.2]⟩
theorem gr_uR {T : AT} {n k x : Nat} (hx : x < T.1) (hn : (T.2.1 n).1 = 107) : GR T (uR T n k x) := ⟨gl_uR hx, fun m j _ a => by
  show va_up T.2.2.2.2 n _ m j = _
  rw [va_up_ne _ _ (fun e => a (by rw [e]; exact hn))]⟩
theorem gr_newJ {T : AT} {K : Nat} : GR T (newJ T K) := ⟨gl_newJ, fun _ _ _ _ => rfl⟩
set_option maxHeartbeats 4000000 in
set_option maxRecDepth 100000 in
theorem sr_X10_widenTo_b108 {T1 : AT} : ∀ (T : AT), g_X10_widenTo_b108 T = some T1 → GR T T1 := by
  intro T h
  have p0 := GR.rf T
  unfold g_X10_widenTo_b108 at h
  rw [← osome1 h]
  exact p0
set_option maxHeartbeats 4000000 in
set_option maxRecDepth 100000 in
theorem sr_X10_widenTo_b40 {T1 : AT} {k5 : AT → Nat → Int32 → Int32 → Option (AT)} (hk5 : ∀ (T : AT) (l0 : Nat) (l1 : Int32) (l2 : Int32), k5 T l0 l1 l2 = some T1 → GR T T1) : ∀ n : Nat, ∀ (T : AT) (l0 : Nat) (l1 : Int32) (l2 : Int32) (l3 : Int32), g_X10_widenTo_b40 k5 n T l0 l1 l2 l3 = some T1 → GR T T1 := by
  intro n
  induction n with
  | zero =>
    intro T l0 l1 l2 l3 h
    have h : (none : Option (AT)) = some T1 := h
    cases h
  | succ n ih =>
    intro T l0 l1 l2 l3 h
    have p0 := GR.rf T
    unfold g_X10_widenTo_b40 at h
    obtain ⟨g2, h⟩ := oif_some h
    obtain ⟨v3, -, h⟩ := elet_some h
    rcases oif_or h with ⟨c4, h⟩ | ⟨c4, h⟩
    · have h := h
      obtain ⟨v5, -, h⟩ := elet_some h
      obtain ⟨g6, h⟩ := oif_some h
      obtain ⟨T7, eT7, h⟩ := elet_some h
      have p1 : GR T T7 := GR.tr p0 (by rw [eT7]; exact gr_sp sp_uI)
      obtain ⟨v8, ev8, h⟩ := elet_some h
      exact GR.tr p1 (hk5 _ _ _ _ h)
    · have h := h
      obtain ⟨g9, h⟩ := oif_some h
      obtain ⟨n10, en10, h⟩ := obind_some h
      obtain ⟨v11, -, h⟩ := elet_some h
      obtain ⟨g12, h⟩ := oif_some h
      obtain ⟨g13, h⟩ := oif_some h
      obtain ⟨n14, en14, h⟩ := obind_some h
      obtain ⟨g15, h⟩ := oif_some h
      obtain ⟨g16, h⟩ := oif_some h
      obtain ⟨v17, -, h⟩ := elet_some h
      obtain ⟨g18, h⟩ := oif_some h
      obtain ⟨n19, en19, h⟩ := obind_some h
      obtain ⟨v20, -, h⟩ := elet_some h
      obtain ⟨g21, h⟩ := oif_some h
      obtain ⟨g22, h⟩ := oif_some h
      obtain ⟨n23, en23, h⟩ := obind_some h
      obtain ⟨v24, -, h⟩ := elet_some h
      obtain ⟨g25, h⟩ := oif_some h
      obtain ⟨g26, h⟩ := oif_some h
      obtain ⟨T27, eT27, h⟩ := elet_some h
      have p1 : GR T T27 := GR.tr p0 (by rw [eT27]; exact gr_sp sp_uJ)
      obtain ⟨g28, h⟩ := oif_some h
      obtain ⟨n29, en29, h⟩ := obind_some h
      obtain ⟨g30, h⟩ := oif_some h
      obtain ⟨g31, h⟩ := oif_some h
      obtain ⟨n32, en32, h⟩ := obind_some h
      obtain ⟨v33, -, h⟩ := elet_some h
      obtain ⟨g34, h⟩ := oif_some h
      obtain ⟨g35, h⟩ := oif_some h
      obtain ⟨T36, eT36, h⟩ := elet_some h
      have p2 : GR T T36 := GR.tr p1 (by rw [eT36]; exact gr_sp sp_uJ)
      obtain ⟨v37, ev37, h⟩ := elet_some h
      exact GR.tr p2 (ih _ _ _ _ _ h)
set_option maxHeartbeats 4000000 in
set_option maxRecDepth 100000 in
theorem sr_X10_widenTo_b38 {T1 : AT} {k5 : AT → Nat → Int32 → Int32 → Option (AT)} (hk5 : ∀ (T : AT) (l0 : Nat) (l1 : Int32) (l2 : Int32), k5 T l0 l1 l2 = some T1 → GR T T1) : ∀ (T : AT) (l0 : Nat) (l1 : Int32) (l2 : Int32), g_X10_widenTo_b38 k5 T l0 l1 l2 = some T1 → GR T T1 := by
  intro T l0 l1 l2 h
  have p0 := GR.rf T
  unfold g_X10_widenTo_b38 at h
  exact GR.tr p0 (sr_X10_widenTo_b40 hk5 _ _ _ _ _ _ h)
set_option maxHeartbeats 4000000 in
set_option maxRecDepth 100000 in
theorem sr_X10_widenTo_b37 {T1 : AT} {k5 : AT → Nat → Int32 → Int32 → Option (AT)} (hk5 : ∀ (T : AT) (l0 : Nat) (l1 : Int32) (l2 : Int32), k5 T l0 l1 l2 = some T1 → GR T T1) : ∀ (T : AT) (s0 : Nat) (s1 : Int32) (s2 : Nat) (l0 : Nat) (l1 : Int32) (l2 : Int32), g_X10_widenTo_b37 k5 T s0 s1 s2 l0 l1 l2 = some T1 → GR T T1 := by
  intro T s0 s1 s2 l0 l1 l2 h
  have p0 := GR.rf T
  unfold g_X10_widenTo_b37 at h
  obtain ⟨g2, h⟩ := oif_some h
  obtain ⟨g3, h⟩ := oif_some h
  obtain ⟨g4, h⟩ := oif_some h
  obtain ⟨T5, eT5, h⟩ := elet_some h
  have p1 : GR T T5 := GR.tr p0 (by rw [eT5]; exact gr_uR (aA_k g4).1 (aA_k g2).2.1)
  exact GR.tr p1 (sr_X10_widenTo_b38 hk5 _ _ _ _ h)
set_option maxHeartbeats 4000000 in
set_option maxRecDepth 100000 in
theorem sr_X10_widenTo_b5 {T1 : AT} : ∀ n : Nat, ∀ (T : AT) (l0 : Nat) (l1 : Int32) (l2 : Int32), g_X10_widenTo_b5 n T l0 l1 l2 = some T1 → GR T T1 := by
  intro n
  induction n with
  | zero =>
    intro T l0 l1 l2 h
    have h : (none : Option (AT)) = some T1 := h
    cases h
  | succ n ih =>
    intro T l0 l1 l2 h
    have p0 := GR.rf T
    unfold g_X10_widenTo_b5 at h
    rcases oif_or h with ⟨c2, h⟩ | ⟨c2, h⟩
    · have h := h
      exact GR.tr p0 (sr_X10_widenTo_b108 _ h)
    · have h := h
      rcases oif_or h with ⟨c3, h⟩ | ⟨c3, h⟩
      · have h := h
        exact GR.tr p0 (sr_X10_widenTo_b108 _ h)
      · have h := h
        obtain ⟨g4, h⟩ := oif_some h
        obtain ⟨n5, en5, h⟩ := obind_some h
        obtain ⟨g6, h⟩ := oif_some h
        obtain ⟨g7, h⟩ := oif_some h
        obtain ⟨n8, en8, h⟩ := obind_some h
        obtain ⟨g9, h⟩ := oif_some h
        obtain ⟨v10, -, h⟩ := elet_some h
        rcases oif_or h with ⟨c11, h⟩ | ⟨c11, h⟩
        · have h := h
          obtain ⟨g12, h⟩ := oif_some h
          obtain ⟨n13, en13, h⟩ := obind_some h
          obtain ⟨g14, h⟩ := oif_some h
          obtain ⟨v15, -, h⟩ := elet_some h
          obtain ⟨g16, h⟩ := oif_some h
          obtain ⟨T17, eT17, h⟩ := elet_some h
          have p1 : GR T T17 := GR.tr p0 (by rw [eT17]; exact gr_newJ)
          exact GR.tr p1 (sr_X10_widenTo_b37 ih _ _ _ _ _ _ _ h)
        · have h := h
          exact GR.tr p0 (sr_X10_widenTo_b38 ih _ _ _ _ h)
set_option maxHeartbeats 4000000 in
set_option maxRecDepth 100000 in
theorem sr_X10_widenTo {T : AT} {o : Nat} {a0 : Int32} {T1 : AT} (h : g_X10_widenTo T o a0 = some T1) : GR T T1 := by
  have p0 := GR.rf T
  unfold g_X10_widenTo at h
  obtain ⟨g2, h⟩ := oif_some h
  obtain ⟨v3, -, h⟩ := elet_some h
  exact GR.tr p0 (sr_X10_widenTo_b5 _ _ _ _ _ h)
set_option maxHeartbeats 4000000 in
set_option maxRecDepth 100000 in
theorem sr_X10_settle_b99 {T1 : AT} : ∀ (T : AT), g_X10_settle_b99 T = some T1 → GR T T1 := by
  intro T h
  have p0 := GR.rf T
  unfold g_X10_settle_b99 at h
  rw [← osome1 h]
  exact p0
set_option maxHeartbeats 4000000 in
set_option maxRecDepth 100000 in
theorem sr_X10_settle_b93 {T1 : AT} {k64 : AT → Nat → Int32 → Int32 → Option (AT)} (hk64 : ∀ (T : AT) (l0 : Nat) (l1 : Int32) (l2 : Int32), k64 T l0 l1 l2 = some T1 → GR T T1) : ∀ (T : AT) (l0 : Nat) (l1 : Int32) (l2 : Int32), g_X10_settle_b93 k64 T l0 l1 l2 = some T1 → GR T T1 := by
  intro T l0 l1 l2 h
  have p0 := GR.rf T
  unfold g_X10_settle_b93 at h
  obtain ⟨v2, ev2, h⟩ := elet_some h
  exact GR.tr p0 (hk64 _ _ _ _ h)
set_option maxHeartbeats 4000000 in
set_option maxRecDepth 100000 in
theorem sr_X10_settle_b64 {T1 : AT} : ∀ n : Nat, ∀ (T : AT) (l0 : Nat) (l1 : Int32) (l2 : Int32), g_X10_settle_b64 n T l0 l1 l2 = some T1 → GR T T1 := by
  intro n
  induction n with
  | zero =>
    intro T l0 l1 l2 h
    have h : (none : Option (AT)) = some T1 := h
    cases h
  | succ n ih =>
    intro T l0 l1 l2 h
    have p0 := GR.rf T
    unfold g_X10_settle_b64 at h
    obtain ⟨v2, -, h⟩ := elet_some h
    rcases oif_or h with ⟨c3, h⟩ | ⟨c3, h⟩
    · have h := h
      exact GR.tr p0 (sr_X10_settle_b99 _ h)
    · have h := h
      obtain ⟨g4, h⟩ := oif_some h
      obtain ⟨n5, en5, h⟩ := obind_some h
      obtain ⟨g6, h⟩ := oif_some h
      obtain ⟨g7, h⟩ := oif_some h
      obtain ⟨n8, en8, h⟩ := obind_some h
      obtain ⟨g9, h⟩ := oif_some h
      obtain ⟨g10, h⟩ := oif_some h
      obtain ⟨v11, -, h⟩ := elet_some h
      obtain ⟨r12, -, h⟩ := obind_some h
      rcases oif_or h with ⟨c13, h⟩ | ⟨c13, h⟩
      · have h := h
        exact GR.tr p0 (sr_X10_settle_b99 _ h)
      · have h := h
        obtain ⟨v14, -, h⟩ := elet_some h
        obtain ⟨g15, h⟩ := oif_some h
        obtain ⟨T16, eT16, h⟩ := obind_some h
        have p1 : GR T T16 := GR.tr p0 (sr_X10_widenTo eT16)
        exact GR.tr p1 (sr_X10_settle_b93 ih _ _ _ _ h)
set_option maxHeartbeats 4000000 in
set_option maxRecDepth 100000 in
theorem sr_X10_settle_b2 {T1 : AT} : ∀ n : Nat, ∀ (T : AT) (l0 : Nat) (l1 : Int32) (l2 : Int32), g_X10_settle_b2 n T l0 l1 l2 = some T1 → GR T T1 := by
  intro n
  induction n with
  | zero =>
    intro T l0 l1 l2 h
    have h : (none : Option (AT)) = some T1 := h
    cases h
  | succ n ih =>
    intro T l0 l1 l2 h
    have p0 := GR.rf T
    unfold g_X10_settle_b2 at h
    obtain ⟨v2, -, h⟩ := elet_some h
    obtain ⟨g3, h⟩ := oif_some h
    obtain ⟨v4, -, h⟩ := elet_some h
    rcases oif_or h with ⟨c5, h⟩ | ⟨c5, h⟩
    · have h := h
      obtain ⟨g6, h⟩ := oif_some h
      obtain ⟨v7, -, h⟩ := elet_some h
      obtain ⟨v8, -, h⟩ := elet_some h
      exact GR.tr p0 (sr_X10_settle_b64 _ _ _ _ _ h)
    · have h := h
      obtain ⟨g9, h⟩ := oif_some h
      obtain ⟨n10, en10, h⟩ := obind_some h
      obtain ⟨g11, h⟩ := oif_some h
      obtain ⟨g12, h⟩ := oif_some h
      obtain ⟨n13, en13, h⟩ := obind_some h
      obtain ⟨g14, h⟩ := oif_some h
      obtain ⟨g15, h⟩ := oif_some h
      obtain ⟨v16, -, h⟩ := elet_some h
      obtain ⟨g17, h⟩ := oif_some h
      obtain ⟨n18, en18, h⟩ := obind_some h
      obtain ⟨g19, h⟩ := oif_some h
      obtain ⟨g20, h⟩ := oif_some h
      obtain ⟨n21, en21, h⟩ := obind_some h
      obtain ⟨v22, -, h⟩ := elet_some h
      obtain ⟨g23, h⟩ := oif_some h
      obtain ⟨g24, h⟩ := oif_some h
      obtain ⟨T25, eT25, h⟩ := elet_some h
      have p1 : GR T T25 := GR.tr p0 (by rw [eT25]; exact gr_sp sp_uJ)
      obtain ⟨g26, h⟩ := oif_some h
      obtain ⟨n27, en27, h⟩ := obind_some h
      obtain ⟨v28, -, h⟩ := elet_some h
      obtain ⟨g29, h⟩ := oif_some h
      obtain ⟨g30, h⟩ := oif_some h
      obtain ⟨n31, en31, h⟩ := obind_some h
      obtain ⟨g32, h⟩ := oif_some h
      obtain ⟨g33, h⟩ := oif_some h
      obtain ⟨v34, -, h⟩ := elet_some h
      obtain ⟨v35, -, h⟩ := elet_some h
      obtain ⟨v36, -, h⟩ := elet_some h
      obtain ⟨g37, h⟩ := oif_some h
      obtain ⟨g38, h⟩ := oif_some h
      obtain ⟨T39, eT39, h⟩ := elet_some h
      have p2 : GR T T39 := GR.tr p1 (by rw [eT39]; exact gr_sp sp_uJ)
      obtain ⟨v40, ev40, h⟩ := elet_some h
      exact GR.tr p2 (ih _ _ _ _ h)
set_option maxHeartbeats 4000000 in
set_option maxRecDepth 100000 in
theorem sr_X10_settle {T : AT} {o : Nat} {a0 : Int32} {T1 : AT} (h : g_X10_settle T o a0 = some T1) : GR T T1 := by
  have p0 := GR.rf T
  unfold g_X10_settle at h
  exact GR.tr p0 (sr_X10_settle_b2 _ _ _ _ _ h)
set_option maxHeartbeats 4000000 in
set_option maxRecDepth 100000 in
theorem sr_X10_divide_b121 {T1 : AT} : ∀ (T : AT), g_X10_divide_b121 T = some T1 → GR T T1 := by
  intro T h
  have p0 := GR.rf T
  unfold g_X10_divide_b121 at h
  rw [← osome1 h]
  exact p0
set_option maxHeartbeats 4000000 in
set_option maxRecDepth 100000 in
theorem sr_X10_divide_b40 {T1 : AT} : ∀ n : Nat, ∀ (T : AT) (l0 : Nat) (l1 : Int32) (l2 : Int32) (l3 : Int32) (l4 : Int64) (l6 : Int32), g_X10_divide_b40 n T l0 l1 l2 l3 l4 l6 = some T1 → GR T T1 := by
  intro n
  induction n with
  | zero =>
    intro T l0 l1 l2 l3 l4 l6 h
    have h : (none : Option (AT)) = some T1 := h
    cases h
  | succ n ih =>
    intro T l0 l1 l2 l3 l4 l6 h
    have p0 := GR.rf T
    unfold g_X10_divide_b40 at h
    rcases oif_or h with ⟨c2, h⟩ | ⟨c2, h⟩
    · have h := h
      rcases oif_or h with ⟨c3, h⟩ | ⟨c3, h⟩
      · have h := h
        exact GR.tr p0 (sr_X10_divide_b121 _ h)
      · have h := h
        obtain ⟨v4, -, h⟩ := elet_some h
        rcases oif_or h with ⟨c5, h⟩ | ⟨c5, h⟩
        · have h := h
          exact GR.tr p0 (sr_X10_divide_b121 _ h)
        · have h := h
          obtain ⟨g6, h⟩ := oif_some h
          obtain ⟨n7, en7, h⟩ := obind_some h
          obtain ⟨g8, h⟩ := oif_some h
          obtain ⟨g9, h⟩ := oif_some h
          obtain ⟨n10, en10, h⟩ := obind_some h
          obtain ⟨g11, h⟩ := oif_some h
          obtain ⟨g12, h⟩ := oif_some h
          obtain ⟨v13, -, h⟩ := elet_some h
          obtain ⟨v14, -, h⟩ := elet_some h
          obtain ⟨g15, h⟩ := oif_some h
          obtain ⟨g16, h⟩ := oif_some h
          obtain ⟨T17, eT17, h⟩ := elet_some h
          have p1 : GR T T17 := GR.tr p0 (by rw [eT17]; exact gr_sp sp_uJ)
          obtain ⟨g18, h⟩ := oif_some h
          obtain ⟨T19, eT19, h⟩ := obind_some h
          have p2 : GR T T19 := GR.tr p1 (sr_X10_settle eT19)
          exact GR.tr p2 (sr_X10_divide_b121 _ h)
    · have h := h
      obtain ⟨v21, -, h⟩ := elet_some h
      obtain ⟨g22, h⟩ := oif_some h
      obtain ⟨n23, en23, h⟩ := obind_some h
      obtain ⟨g24, h⟩ := oif_some h
      obtain ⟨g25, h⟩ := oif_some h
      obtain ⟨n26, en26, h⟩ := obind_some h
      obtain ⟨g27, h⟩ := oif_some h
      obtain ⟨g28, h⟩ := oif_some h
      obtain ⟨v29, -, h⟩ := elet_some h
      obtain ⟨v30, -, h⟩ := elet_some h
      obtain ⟨g31, h⟩ := oif_some h
      obtain ⟨n32, en32, h⟩ := obind_some h
      obtain ⟨g33, h⟩ := oif_some h
      obtain ⟨g34, h⟩ := oif_some h
      obtain ⟨n35, en35, h⟩ := obind_some h
      obtain ⟨v36, -, h⟩ := elet_some h
      obtain ⟨r37, -, h⟩ := obind_some h
      obtain ⟨g38, h⟩ := oif_some h
      obtain ⟨g39, h⟩ := oif_some h
      obtain ⟨T40, eT40, h⟩ := elet_some h
      have p1 : GR T T40 := GR.tr p0 (by rw [eT40]; exact gr_sp sp_uJ)
      obtain ⟨v41, -, h⟩ := elet_some h
      obtain ⟨r42, -, h⟩ := obind_some h
      obtain ⟨v43, ev43, h⟩ := elet_some h
      exact GR.tr p1 (ih _ _ _ _ _ _ _ h)
set_option maxHeartbeats 4000000 in
set_option maxRecDepth 100000 in
theorem sr_X10_divide_b28 {T1 : AT} : ∀ (T : AT) (s0 : Int32) (l0 : Nat) (l1 : Int32) (l2 : Int32), g_X10_divide_b28 T s0 l0 l1 l2 = some T1 → GR T T1 := by
  intro T s0 l0 l1 l2 h
  have p0 := GR.rf T
  unfold g_X10_divide_b28 at h
  obtain ⟨g2, h⟩ := oif_some h
  obtain ⟨v3, -, h⟩ := elet_some h
  obtain ⟨v4, -, h⟩ := elet_some h
  exact GR.tr p0 (sr_X10_divide_b40 _ _ _ _ _ _ _ _ h)
set_option maxHeartbeats 4000000 in
set_option maxRecDepth 100000 in
theorem sr_X10_divide {T : AT} {o : Nat} {a0 : Int32} {a1 : Int32} {T1 : AT} (h : g_X10_divide T o a0 a1 = some T1) : GR T T1 := by
  have p0 := GR.rf T
  unfold g_X10_divide at h
  rcases oif_or h with ⟨c2, h⟩ | ⟨c2, h⟩
  · have h := h
    obtain ⟨g3, h⟩ := oif_some h
    obtain ⟨n4, en4, h⟩ := obind_some h
    obtain ⟨g5, h⟩ := oif_some h
    obtain ⟨v6, -, h⟩ := elet_some h
    obtain ⟨v7, -, h⟩ := elet_some h
    obtain ⟨g8, h⟩ := oif_some h
    obtain ⟨g9, h⟩ := oif_some h
    obtain ⟨n10, en10, h⟩ := obind_some h
    obtain ⟨g11, h⟩ := oif_some h
    obtain ⟨g12, h⟩ := oif_some h
    obtain ⟨v13, -, h⟩ := elet_some h
    obtain ⟨v14, -, h⟩ := elet_some h
    rcases oif_or h with ⟨c15, h⟩ | ⟨c15, h⟩
    · have h := h
      exact GR.tr p0 (sr_X10_divide_b28 _ _ _ _ _ h)
    · have h := h
      exact GR.tr p0 (sr_X10_divide_b28 _ _ _ _ _ h)
  · have h := h
    rw [← osome1 h]
    exact p0
set_option maxHeartbeats 4000000 in
set_option maxRecDepth 100000 in
theorem sr_X8_focus_b74 {T1 : AT} : ∀ (T : AT), g_X8_focus_b74 T = some T1 → GR T T1 := by
  intro T h
  have p0 := GR.rf T
  unfold g_X8_focus_b74 at h
  rw [← osome1 h]
  exact p0
set_option maxHeartbeats 4000000 in
set_option maxRecDepth 100000 in
theorem sr_X8_focus_b23 {T1 : AT} : ∀ n : Nat, ∀ (T : AT) (l0 : Nat) (l1 : Nat) (l2 : Int32) (l3 : Int32), g_X8_focus_b23 n T l0 l1 l2 l3 = some T1 → GR T T1 := by
  intro n
  induction n with
  | zero =>
    intro T l0 l1 l2 l3 h
    have h : (none : Option (AT)) = some T1 := h
    cases h
  | succ n ih =>
    intro T l0 l1 l2 l3 h
    have p0 := GR.rf T
    unfold g_X8_focus_b23 at h
    obtain ⟨g2, h⟩ := oif_some h
    obtain ⟨n3, en3, h⟩ := obind_some h
    obtain ⟨g4, h⟩ := oif_some h
    obtain ⟨v5, -, h⟩ := elet_some h
    rcases oif_or h with ⟨c6, h⟩ | ⟨c6, h⟩
    · have h := h
      obtain ⟨g7, h⟩ := oif_some h
      obtain ⟨n8, en8, h⟩ := obind_some h
      obtain ⟨g9, h⟩ := oif_some h
      obtain ⟨T10, eT10, h⟩ := obind_some h
      have p1 : GR T T10 := GR.tr p0 (sr_X10_settle eT10)
      exact GR.tr p1 (sr_X8_focus_b74 _ h)
    · have h := h
      obtain ⟨g12, h⟩ := oif_some h
      obtain ⟨n13, en13, h⟩ := obind_some h
      obtain ⟨g14, h⟩ := oif_some h
      obtain ⟨n15, en15, h⟩ := obind_some h
      obtain ⟨g16, h⟩ := oif_some h
      obtain ⟨g17, h⟩ := oif_some h
      obtain ⟨n18, en18, h⟩ := obind_some h
      obtain ⟨g19, h⟩ := oif_some h
      obtain ⟨n20, en20, h⟩ := obind_some h
      obtain ⟨g21, h⟩ := oif_some h
      obtain ⟨n22, en22, h⟩ := obind_some h
      obtain ⟨g23, h⟩ := oif_some h
      obtain ⟨g24, h⟩ := oif_some h
      obtain ⟨n25, en25, h⟩ := obind_some h
      obtain ⟨g26, h⟩ := oif_some h
      obtain ⟨r28, T27, eT27, h⟩ := obind2_some h
      have p1 : GR T T27 := GR.tr p0 (gr_sp (s_X8_weighted eT27))
      obtain ⟨g29, h⟩ := oif_some h
      obtain ⟨g30, h⟩ := oif_some h
      obtain ⟨T31, eT31, h⟩ := elet_some h
      have p2 : GR T T31 := GR.tr p1 (by rw [eT31]; exact gr_sp sp_uJ)
      obtain ⟨v32, ev32, h⟩ := elet_some h
      exact GR.tr p2 (ih _ _ _ _ _ h)
set_option maxHeartbeats 4000000 in
set_option maxRecDepth 100000 in
theorem sr_X8_focus_b21 {T1 : AT} : ∀ (T : AT) (l0 : Nat) (l1 : Nat) (l2 : Int32), g_X8_focus_b21 T l0 l1 l2 = some T1 → GR T T1 := by
  intro T l0 l1 l2 h
  have p0 := GR.rf T
  unfold g_X8_focus_b21 at h
  exact GR.tr p0 (sr_X8_focus_b23 _ _ _ _ _ _ h)
set_option maxHeartbeats 4000000 in
set_option maxRecDepth 100000 in
theorem sr_X8_focus {T : AT} {o : Nat} {a0 : Nat} {a1 : Int32} {T1 : AT} (h : g_X8_focus T o a0 a1 = some T1) : GR T T1 := by
  have p0 := GR.rf T
  unfold g_X8_focus at h
  obtain ⟨g2, h⟩ := oif_some h
  obtain ⟨n3, en3, h⟩ := obind_some h
  obtain ⟨g4, h⟩ := oif_some h
  obtain ⟨T5, eT5, h⟩ := obind_some h
  have p1 : GR T T5 := GR.tr p0 (gr_sp (s_X10_narrow eT5))
  obtain ⟨g7, h⟩ := oif_some h
  obtain ⟨n8, en8, h⟩ := obind_some h
  obtain ⟨g9, h⟩ := oif_some h
  obtain ⟨n10, en10, h⟩ := obind_some h
  obtain ⟨g11, h⟩ := oif_some h
  obtain ⟨v12, -, h⟩ := elet_some h
  obtain ⟨g13, h⟩ := oif_some h
  obtain ⟨T14, eT14, h⟩ := obind_some h
  have p2 : GR T T14 := GR.tr p1 (sr_X10_widenTo eT14)
  exact GR.tr p2 (sr_X8_focus_b21 _ _ _ _ h)
set_option maxHeartbeats 4000000 in
set_option maxRecDepth 100000 in
theorem sr_X10_addProduct_b138 {T1 : AT} : ∀ (T : AT), g_X10_addProduct_b138 T = some T1 → GR T T1 := by
  intro T h
  have p0 := GR.rf T
  unfold g_X10_addProduct_b138 at h
  rw [← osome1 h]
  exact p0
set_option maxHeartbeats 4000000 in
set_option maxRecDepth 100000 in
theorem sr_X10_addProduct_b133 {T1 : AT} : ∀ (T : AT) (l0 : Nat) (l1 : Int32), g_X10_addProduct_b133 T l0 l1 = some T1 → GR T T1 := by
  intro T l0 l1 h
  have p0 := GR.rf T
  unfold g_X10_addProduct_b133 at h
  obtain ⟨g2, h⟩ := oif_some h
  obtain ⟨T3, eT3, h⟩ := obind_some h
  have p1 : GR T T3 := GR.tr p0 (sr_X10_settle eT3)
  exact GR.tr p1 (sr_X10_addProduct_b138 _ h)
set_option maxHeartbeats 4000000 in
set_option maxRecDepth 100000 in
theorem sr_X10_addProduct_b113 {T1 : AT} {k17 : AT → Nat → Int32 → Nat → Int32 → Nat → Int32 → Int32 → Option (AT)} (hk17 : ∀ (T : AT) (l0 : Nat) (l1 : Int32) (l2 : Nat) (l3 : Int32) (l4 : Nat) (l5 : Int32) (l6 : Int32), k17 T l0 l1 l2 l3 l4 l5 l6 = some T1 → GR T T1) : ∀ (T : AT) (l0 : Nat) (l1 : Int32) (l2 : Nat) (l3 : Int32) (l4 : Nat) (l5 : Int32) (l6 : Int32) (l7 : Int64), g_X10_addProduct_b113 k17 T l0 l1 l2 l3 l4 l5 l6 l7 = some T1 → GR T T1 := by
  intro T l0 l1 l2 l3 l4 l5 l6 l7 h
  have p0 := GR.rf T
  unfold g_X10_addProduct_b113 at h
  obtain ⟨g2, h⟩ := oif_some h
  obtain ⟨n3, en3, h⟩ := obind_some h
  obtain ⟨g4, h⟩ := oif_some h
  obtain ⟨g5, h⟩ := oif_some h
  obtain ⟨n6, en6, h⟩ := obind_some h
  obtain ⟨g7, h⟩ := oif_some h
  obtain ⟨g8, h⟩ := oif_some h
  obtain ⟨v9, -, h⟩ := elet_some h
  obtain ⟨v10, -, h⟩ := elet_some h
  obtain ⟨g11, h⟩ := oif_some h
  obtain ⟨g12, h⟩ := oif_some h
  obtain ⟨T13, eT13, h⟩ := elet_some h
  have p1 : GR T T13 := GR.tr p0 (by rw [eT13]; exact gr_sp sp_uJ)
  obtain ⟨v14, ev14, h⟩ := elet_some h
  exact GR.tr p1 (hk17 _ _ _ _ _ _ _ _ h)
set_option maxHeartbeats 4000000 in
set_option maxRecDepth 100000 in
theorem sr_X10_addProduct_b62 {T1 : AT} {k17 : AT → Nat → Int32 → Nat → Int32 → Nat → Int32 → Int32 → Option (AT)} (hk17 : ∀ (T : AT) (l0 : Nat) (l1 : Int32) (l2 : Nat) (l3 : Int32) (l4 : Nat) (l5 : Int32) (l6 : Int32), k17 T l0 l1 l2 l3 l4 l5 l6 = some T1 → GR T T1) : ∀ n : Nat, ∀ (T : AT) (l0 : Nat) (l1 : Int32) (l2 : Nat) (l3 : Int32) (l4 : Nat) (l5 : Int32) (l6 : Int32) (l7 : Int64) (l9 : Int32), g_X10_addProduct_b62 k17 n T l0 l1 l2 l3 l4 l5 l6 l7 l9 = some T1 → GR T T1 := by
  intro n
  induction n with
  | zero =>
    intro T l0 l1 l2 l3 l4 l5 l6 l7 l9 h
    have h : (none : Option (AT)) = some T1 := h
    cases h
  | succ n ih =>
    intro T l0 l1 l2 l3 l4 l5 l6 l7 l9 h
    have p0 := GR.rf T
    unfold g_X10_addProduct_b62 at h
    rcases oif_or h with ⟨c2, h⟩ | ⟨c2, h⟩
    · have h := h
      exact GR.tr p0 (sr_X10_addProduct_b113 hk17 _ _ _ _ _ _ _ _ _ h)
    · have h := h
      obtain ⟨g3, h⟩ := oif_some h
      obtain ⟨v4, -, h⟩ := elet_some h
      rcases oif_or h with ⟨c5, h⟩ | ⟨c5, h⟩
      · have h := h
        exact GR.tr p0 (sr_X10_addProduct_b113 hk17 _ _ _ _ _ _ _ _ _ h)
      · have h := h
        obtain ⟨g6, h⟩ := oif_some h
        obtain ⟨n7, en7, h⟩ := obind_some h
        obtain ⟨g8, h⟩ := oif_some h
        obtain ⟨g9, h⟩ := oif_some h
        obtain ⟨n10, en10, h⟩ := obind_some h
        obtain ⟨g11, h⟩ := oif_some h
        obtain ⟨g12, h⟩ := oif_some h
        obtain ⟨v13, -, h⟩ := elet_some h
        obtain ⟨g14, h⟩ := oif_some h
        obtain ⟨n15, en15, h⟩ := obind_some h
        obtain ⟨v16, -, h⟩ := elet_some h
        obtain ⟨g17, h⟩ := oif_some h
        obtain ⟨g18, h⟩ := oif_some h
        obtain ⟨n19, en19, h⟩ := obind_some h
        obtain ⟨g20, h⟩ := oif_some h
        obtain ⟨g21, h⟩ := oif_some h
        obtain ⟨v22, -, h⟩ := elet_some h
        obtain ⟨v23, -, h⟩ := elet_some h
        obtain ⟨v24, -, h⟩ := elet_some h
        obtain ⟨v25, ev25, h⟩ := elet_some h
        exact GR.tr p0 (ih _ _ _ _ _ _ _ _ _ _ h)
set_option maxHeartbeats 4000000 in
set_option maxRecDepth 100000 in
theorem sr_X10_addProduct_b17 {T1 : AT} : ∀ n : Nat, ∀ (T : AT) (l0 : Nat) (l1 : Int32) (l2 : Nat) (l3 : Int32) (l4 : Nat) (l5 : Int32) (l6 : Int32), g_X10_addProduct_b17 n T l0 l1 l2 l3 l4 l5 l6 = some T1 → GR T T1 := by
  intro n
  induction n with
  | zero =>
    intro T l0 l1 l2 l3 l4 l5 l6 h
    have h : (none : Option (AT)) = some T1 := h
    cases h
  | succ n ih =>
    intro T l0 l1 l2 l3 l4 l5 l6 h
    have p0 := GR.rf T
    unfold g_X10_addProduct_b17 at h
    obtain ⟨g2, h⟩ := oif_some h
    obtain ⟨v3, -, h⟩ := elet_some h
    rcases oif_or h with ⟨c4, h⟩ | ⟨c4, h⟩
    · have h := h
      exact GR.tr p0 (sr_X10_addProduct_b133 _ _ _ h)
    · have h := h
      obtain ⟨g5, h⟩ := oif_some h
      obtain ⟨v6, -, h⟩ := elet_some h
      obtain ⟨g7, h⟩ := oif_some h
      obtain ⟨v8, -, h⟩ := elet_some h
      obtain ⟨v9, -, h⟩ := elet_some h
      obtain ⟨v10, -, h⟩ := elet_some h
      rcases oif_or h with ⟨c11, h⟩ | ⟨c11, h⟩
      · have h := h
        exact GR.tr p0 (sr_X10_addProduct_b133 _ _ _ h)
      · have h := h
        obtain ⟨g12, h⟩ := oif_some h
        obtain ⟨v13, -, h⟩ := elet_some h
        obtain ⟨v14, -, h⟩ := elet_some h
        obtain ⟨v15, -, h⟩ := elet_some h
        obtain ⟨v16, -, h⟩ := elet_some h
        exact GR.tr p0 (sr_X10_addProduct_b62 ih _ _ _ _ _ _ _ _ _ _ _ h)
set_option maxHeartbeats 4000000 in
set_option maxRecDepth 100000 in
theorem sr_X10_addProduct_b14 {T1 : AT} : ∀ (T : AT) (l0 : Nat) (l1 : Int32) (l2 : Nat) (l3 : Int32) (l4 : Nat) (l5 : Int32), g_X10_addProduct_b14 T l0 l1 l2 l3 l4 l5 = some T1 → GR T T1 := by
  intro T l0 l1 l2 l3 l4 l5 h
  have p0 := GR.rf T
  unfold g_X10_addProduct_b14 at h
  exact GR.tr p0 (sr_X10_addProduct_b17 _ _ _ _ _ _ _ _ _ h)
set_option maxHeartbeats 4000000 in
set_option maxRecDepth 100000 in
theorem sr_X10_addProduct {T : AT} {o : Nat} {a0 : Int32} {a1 : Nat} {a2 : Int32} {a3 : Nat} {a4 : Int32} {T1 : AT} (h : g_X10_addProduct T o a0 a1 a2 a3 a4 = some T1) : GR T T1 := by
  have p0 := GR.rf T
  unfold g_X10_addProduct at h
  obtain ⟨g2, h⟩ := oif_some h
  obtain ⟨v3, -, h⟩ := elet_some h
  obtain ⟨g4, h⟩ := oif_some h
  obtain ⟨v5, -, h⟩ := elet_some h
  obtain ⟨v6, -, h⟩ := elet_some h
  obtain ⟨g7, h⟩ := oif_some h
  obtain ⟨T8, eT8, h⟩ := obind_some h
  have p1 : GR T T8 := GR.tr p0 (sr_X10_widenTo eT8)
  exact GR.tr p1 (sr_X10_addProduct_b14 _ _ _ _ _ _ _ h)
set_option maxHeartbeats 4000000 in
set_option maxRecDepth 100000 in
theorem sr_X8_blockPowerOf_b68 {T1 : AT} : ∀ (T : AT), g_X8_blockPowerOf_b68 T = some T1 → GR T T1 := by
  intro T h
  have p0 := GR.rf T
  unfold g_X8_blockPowerOf_b68 at h
  rw [← osome1 h]
  exact p0
set_option maxHeartbeats 4000000 in
set_option maxRecDepth 100000 in
theorem sr_X8_blockPowerOf_b54 {T1 : AT} {k23 : AT → Nat → Nat → Int32 → Nat → Int32 → Int32 → Int32 → Option (AT)} (hk23 : ∀ (T : AT) (l0 : Nat) (l1 : Nat) (l3 : Int32) (l4 : Nat) (l5 : Int32) (l6 : Int32) (l7 : Int32), k23 T l0 l1 l3 l4 l5 l6 l7 = some T1 → GR T T1) : ∀ (T : AT) (l0 : Nat) (l1 : Nat) (l3 : Int32) (l4 : Nat) (l5 : Int32) (l6 : Int32) (l7 : Int32), g_X8_blockPowerOf_b54 k23 T l0 l1 l3 l4 l5 l6 l7 = some T1 → GR T T1 := by
  intro T l0 l1 l3 l4 l5 l6 l7 h
  have p0 := GR.rf T
  unfold g_X8_blockPowerOf_b54 at h
  obtain ⟨v2, ev2, h⟩ := elet_some h
  exact GR.tr p0 (hk23 _ _ _ _ _ _ _ _ h)
set_option maxHeartbeats 4000000 in
set_option maxRecDepth 100000 in
theorem sr_X8_blockPowerOf_b37 {T1 : AT} {k23 : AT → Nat → Nat → Int32 → Nat → Int32 → Int32 → Int32 → Option (AT)} (hk23 : ∀ (T : AT) (l0 : Nat) (l1 : Nat) (l3 : Int32) (l4 : Nat) (l5 : Int32) (l6 : Int32) (l7 : Int32), k23 T l0 l1 l3 l4 l5 l6 l7 = some T1 → GR T T1) : ∀ (T : AT) (l0 : Nat) (l1 : Nat) (l3 : Int32) (l4 : Nat) (l5 : Int32) (l6 : Int32) (l7 : Int32), g_X8_blockPowerOf_b37 k23 T l0 l1 l3 l4 l5 l6 l7 = some T1 → GR T T1 := by
  intro T l0 l1 l3 l4 l5 l6 l7 h
  have p0 := GR.rf T
  unfold g_X8_blockPowerOf_b37 at h
  obtain ⟨g2, h⟩ := oif_some h
  obtain ⟨n3, en3, h⟩ := obind_some h
  obtain ⟨g4, h⟩ := oif_some h
  obtain ⟨n5, en5, h⟩ := obind_some h
  obtain ⟨g6, h⟩ := oif_some h
  obtain ⟨T7, eT7, h⟩ := obind_some h
  have p1 : GR T T7 := GR.tr p0 (sr_X10_addProduct eT7)
  exact GR.tr p1 (sr_X8_blockPowerOf_b54 hk23 _ _ _ _ _ _ _ _ h)
set_option maxHeartbeats 4000000 in
set_option maxRecDepth 100000 in
theorem sr_X8_blockPowerOf_b23 {T1 : AT} : ∀ n : Nat, ∀ (T : AT) (l0 : Nat) (l1 : Nat) (l3 : Int32) (l4 : Nat) (l5 : Int32) (l6 : Int32) (l7 : Int32), g_X8_blockPowerOf_b23 n T l0 l1 l3 l4 l5 l6 l7 = some T1 → GR T T1 := by
  intro n
  induction n with
  | zero =>
    intro T l0 l1 l3 l4 l5 l6 l7 h
    have h : (none : Option (AT)) = some T1 := h
    cases h
  | succ n ih =>
    intro T l0 l1 l3 l4 l5 l6 l7 h
    have p0 := GR.rf T
    unfold g_X8_blockPowerOf_b23 at h
    rcases oif_or h with ⟨c2, h⟩ | ⟨c2, h⟩
    · have h := h
      obtain ⟨g3, h⟩ := oif_some h
      obtain ⟨T4, eT4, h⟩ := obind_some h
      have p1 : GR T T4 := GR.tr p0 (sr_X10_divide eT4)
      exact GR.tr p1 (sr_X8_blockPowerOf_b68 _ h)
    · have h := h
      obtain ⟨g6, h⟩ := oif_some h
      obtain ⟨T7, eT7, h⟩ := obind_some h
      have p1 : GR T T7 := GR.tr p0 (sr_X8_focus eT7)
      exact GR.tr p1 (sr_X8_blockPowerOf_b37 ih _ _ _ _ _ _ _ _ h)
set_option maxHeartbeats 4000000 in
set_option maxRecDepth 100000 in
theorem sr_X8_blockPowerOf {T : AT} {o : Nat} {a0 : Nat} {a1 : Int32} {a2 : Int32} {a3 : Nat} {a4 : Int32} {T1 : AT} (h : g_X8_blockPowerOf T o a0 a1 a2 a3 a4 = some T1) : GR T T1 := by
  have p0 := GR.rf T
  unfold g_X8_blockPowerOf at h
  obtain ⟨v2, -, h⟩ := elet_some h
  obtain ⟨g3, h⟩ := oif_some h
  obtain ⟨r5, T4, eT4, h⟩ := obind2_some h
  have p1 : GR T T4 := GR.tr p0 (gr_sp (s_X8_windowOf eT4))
  obtain ⟨v6, -, h⟩ := elet_some h
  obtain ⟨g7, h⟩ := oif_some h
  obtain ⟨T8, eT8, h⟩ := obind_some h
  have p2 : GR T T8 := GR.tr p1 (gr_sp (s_X10_clear eT8))
  exact GR.tr p2 (sr_X8_blockPowerOf_b23 _ _ _ _ _ _ _ _ _ h)
set_option maxHeartbeats 4000000 in
set_option maxRecDepth 100000 in
theorem sr_X0_measure_b41 {T1 : AT} {k3 : AT → Nat → Nat → Nat → Int32 → Int32 → Int32 → Int32 → Option (AT)} (hk3 : ∀ (T : AT) (l0 : Nat) (l1 : Nat) (l2 : Nat) (l3 : Int32) (l4 : Int32) (l5 : Int32) (l6 : Int32), k3 T l0 l1 l2 l3 l4 l5 l6 = some T1 → GR T T1) : ∀ (T : AT) (l0 : Nat) (l1 : Nat) (l2 : Nat) (l3 : Int32) (l4 : Int32) (l5 : Int32) (l6 : Int32), g_X0_measure_b41 k3 T l0 l1 l2 l3 l4 l5 l6 = some T1 → GR T T1 := by
  intro T l0 l1 l2 l3 l4 l5 l6 h
  have p0 := GR.rf T
  unfold g_X0_measure_b41 at h
  obtain ⟨v2, ev2, h⟩ := elet_some h
  exact GR.tr p0 (hk3 _ _ _ _ _ _ _ _ h)
set_option maxHeartbeats 4000000 in
set_option maxRecDepth 100000 in
theorem sr_X0_measure_b3 {T1 : AT} : ∀ n : Nat, ∀ (T : AT) (l0 : Nat) (l1 : Nat) (l2 : Nat) (l3 : Int32) (l4 : Int32) (l5 : Int32) (l6 : Int32), g_X0_measure_b3 n T l0 l1 l2 l3 l4 l5 l6 = some T1 → GR T T1 := by
  intro n
  induction n with
  | zero =>
    intro T l0 l1 l2 l3 l4 l5 l6 h
    have h : (none : Option (AT)) = some T1 := h
    cases h
  | succ n ih =>
    intro T l0 l1 l2 l3 l4 l5 l6 h
    have p0 := GR.rf T
    unfold g_X0_measure_b3 at h
    obtain ⟨g2, h⟩ := oif_some h
    obtain ⟨n3, en3, h⟩ := obind_some h
    obtain ⟨g4, h⟩ := oif_some h
    obtain ⟨r6, T5, eT5, h⟩ := obind2_some h
    have p1 : GR T T5 := GR.tr p0 (gr_sp (s_X1_cells eT5))
    rcases oif_or h with ⟨c7, h⟩ | ⟨c7, h⟩
    · have h := h
      rw [← osome1 h]
      exact p1
    · have h := h
      obtain ⟨g8, h⟩ := oif_some h
      obtain ⟨n9, en9, h⟩ := obind_some h
      obtain ⟨g10, h⟩ := oif_some h
      obtain ⟨g11, h⟩ := oif_some h
      obtain ⟨n12, en12, h⟩ := obind_some h
      obtain ⟨g13, h⟩ := oif_some h
      obtain ⟨n14, en14, h⟩ := obind_some h
      obtain ⟨r15, -, h⟩ := obind_some h
      obtain ⟨v16, -, h⟩ := elet_some h
      obtain ⟨g17, h⟩ := oif_some h
      obtain ⟨T18, eT18, h⟩ := obind_some h
      have p2 : GR T T18 := GR.tr p1 (sr_X8_blockPowerOf eT18)
      exact GR.tr p2 (sr_X0_measure_b41 ih _ _ _ _ _ _ _ _ h)
set_option maxHeartbeats 4000000 in
set_option maxRecDepth 100000 in
theorem sr_X0_measure {T : AT} {o : Nat} {a0 : Nat} {a1 : Nat} {a2 : Int32} {a3 : Int32} {a4 : Int32} {T1 : AT} (h : g_X0_measure T o a0 a1 a2 a3 a4 = some T1) : GR T T1 := by
  have p0 := GR.rf T
  unfold g_X0_measure at h
  exact GR.tr p0 (sr_X0_measure_b3 _ _ _ _ _ _ _ _ _ h)
set_option maxHeartbeats 4000000 in
set_option maxRecDepth 100000 in
theorem sr_X0_bestOf_b17 {r1 : Int32} {T1 : AT} : ∀ (T : AT) (l0 : Nat) (l1 : Nat), g_X0_bestOf_b17 T l0 l1 = some (r1, T1) → GR T T1 := by
  intro T l0 l1 h
  have p0 := GR.rf T
  unfold g_X0_bestOf_b17 at h
  obtain ⟨g2, h⟩ := oif_some h
  obtain ⟨n3, en3, h⟩ := obind_some h
  obtain ⟨g4, h⟩ := oif_some h
  obtain ⟨n5, en5, h⟩ := obind_some h
  obtain ⟨g6, h⟩ := oif_some h
  obtain ⟨n7, en7, h⟩ := obind_some h
  obtain ⟨g8, h⟩ := oif_some h
  obtain ⟨n9, en9, h⟩ := obind_some h
  obtain ⟨g10, h⟩ := oif_some h
  obtain ⟨r12, T11, eT11, h⟩ := obind2_some h
  have p1 : GR T T11 := GR.tr p0 (gr_sp (s_X1_bestIn eT11))
  rw [← (osome2 h).2]
  exact p1
set_option maxHeartbeats 4000000 in
set_option maxRecDepth 100000 in
theorem sr_X0_bestOf {T : AT} {o : Nat} {a0 : Nat} {a1 : Nat} {a2 : Int32} {a3 : Int32} {r1 : Int32} {T1 : AT} (h : g_X0_bestOf T o a0 a1 a2 a3 = some (r1, T1)) : GR T T1 := by
  have p0 := GR.rf T
  unfold g_X0_bestOf at h
  obtain ⟨g2, h⟩ := oif_some h
  obtain ⟨n3, en3, h⟩ := obind_some h
  obtain ⟨g4, h⟩ := oif_some h
  obtain ⟨T5, eT5, h⟩ := obind_some h
  have p1 : GR T T5 := GR.tr p0 (gr_sp (s_X10_narrow eT5))
  obtain ⟨g7, h⟩ := oif_some h
  obtain ⟨T8, eT8, h⟩ := obind_some h
  have p2 : GR T T8 := GR.tr p1 (sr_X0_measure eT8)
  exact GR.tr p2 (sr_X0_bestOf_b17 _ _ _ h)
set_option maxHeartbeats 4000000 in
set_option maxRecDepth 100000 in
theorem sr_X10_add_b56 {T1 : AT} : ∀ (T : AT), g_X10_add_b56 T = some T1 → GR T T1 := by
  intro T h
  have p0 := GR.rf T
  unfold g_X10_add_b56 at h
  rw [← osome1 h]
  exact p0
set_option maxHeartbeats 4000000 in
set_option maxRecDepth 100000 in
theorem sr_X10_add_b11 {T1 : AT} : ∀ n : Nat, ∀ (T : AT) (l0 : Nat) (l1 : Int32) (l2 : Nat) (l3 : Int32) (l4 : Int32) (l5 : Int32), g_X10_add_b11 n T l0 l1 l2 l3 l4 l5 = some T1 → GR T T1 := by
  intro n
  induction n with
  | zero =>
    intro T l0 l1 l2 l3 l4 l5 h
    have h : (none : Option (AT)) = some T1 := h
    cases h
  | succ n ih =>
    intro T l0 l1 l2 l3 l4 l5 h
    have p0 := GR.rf T
    unfold g_X10_add_b11 at h
    obtain ⟨g2, h⟩ := oif_some h
    obtain ⟨v3, -, h⟩ := elet_some h
    rcases oif_or h with ⟨c4, h⟩ | ⟨c4, h⟩
    · have h := h
      obtain ⟨g5, h⟩ := oif_some h
      obtain ⟨T6, eT6, h⟩ := obind_some h
      have p1 : GR T T6 := GR.tr p0 (sr_X10_settle eT6)
      exact GR.tr p1 (sr_X10_add_b56 _ h)
    · have h := h
      obtain ⟨g8, h⟩ := oif_some h
      obtain ⟨n9, en9, h⟩ := obind_some h
      obtain ⟨g10, h⟩ := oif_some h
      obtain ⟨g11, h⟩ := oif_some h
      obtain ⟨n12, en12, h⟩ := obind_some h
      obtain ⟨g13, h⟩ := oif_some h
      obtain ⟨g14, h⟩ := oif_some h
      obtain ⟨v15, -, h⟩ := elet_some h
      obtain ⟨v16, -, h⟩ := elet_some h
      obtain ⟨g17, h⟩ := oif_some h
      obtain ⟨n18, en18, h⟩ := obind_some h
      obtain ⟨g19, h⟩ := oif_some h
      obtain ⟨g20, h⟩ := oif_some h
      obtain ⟨n21, en21, h⟩ := obind_some h
      obtain ⟨g22, h⟩ := oif_some h
      obtain ⟨g23, h⟩ := oif_some h
      obtain ⟨v24, -, h⟩ := elet_some h
      obtain ⟨v25, -, h⟩ := elet_some h
      obtain ⟨v26, -, h⟩ := elet_some h
      obtain ⟨g27, h⟩ := oif_some h
      obtain ⟨g28, h⟩ := oif_some h
      obtain ⟨T29, eT29, h⟩ := elet_some h
      have p1 : GR T T29 := GR.tr p0 (by rw [eT29]; exact gr_sp sp_uJ)
      obtain ⟨v30, ev30, h⟩ := elet_some h
      exact GR.tr p1 (ih _ _ _ _ _ _ _ h)
set_option maxHeartbeats 4000000 in
set_option maxRecDepth 100000 in
theorem sr_X10_add_b8 {T1 : AT} : ∀ (T : AT) (l0 : Nat) (l1 : Int32) (l2 : Nat) (l3 : Int32) (l4 : Int32), g_X10_add_b8 T l0 l1 l2 l3 l4 = some T1 → GR T T1 := by
  intro T l0 l1 l2 l3 l4 h
  have p0 := GR.rf T
  unfold g_X10_add_b8 at h
  exact GR.tr p0 (sr_X10_add_b11 _ _ _ _ _ _ _ _ h)
set_option maxHeartbeats 4000000 in
set_option maxRecDepth 100000 in
theorem sr_X10_add {T : AT} {o : Nat} {a0 : Int32} {a1 : Nat} {a2 : Int32} {a3 : Int32} {T1 : AT} (h : g_X10_add T o a0 a1 a2 a3 = some T1) : GR T T1 := by
  have p0 := GR.rf T
  unfold g_X10_add at h
  obtain ⟨g2, h⟩ := oif_some h
  obtain ⟨v3, -, h⟩ := elet_some h
  obtain ⟨g4, h⟩ := oif_some h
  obtain ⟨T5, eT5, h⟩ := obind_some h
  have p1 : GR T T5 := GR.tr p0 (sr_X10_widenTo eT5)
  exact GR.tr p1 (sr_X10_add_b8 _ _ _ _ _ _ h)
set_option maxHeartbeats 4000000 in
set_option maxRecDepth 100000 in
theorem sr_X0_score_b137 {T1 : AT} {k31 : AT → Nat → Nat → Nat → Int32 → Int32 → Int32 → Option (AT)} (hk31 : ∀ (T : AT) (l0 : Nat) (l1 : Nat) (l2 : Nat) (l3 : Int32) (l4 : Int32) (l5 : Int32), k31 T l0 l1 l2 l3 l4 l5 = some T1 → GR T T1) : ∀ (T : AT) (l0 : Nat) (l1 : Nat) (l2 : Nat) (l3 : Int32) (l4 : Int32) (l5 : Int32), g_X0_score_b137 k31 T l0 l1 l2 l3 l4 l5 = some T1 → GR T T1 := by
  intro T l0 l1 l2 l3 l4 l5 h
  have p0 := GR.rf T
  unfold g_X0_score_b137 at h
  obtain ⟨v2, ev2, h⟩ := elet_some h
  exact GR.tr p0 (hk31 _ _ _ _ _ _ _ h)
set_option maxHeartbeats 4000000 in
set_option maxRecDepth 100000 in
theorem sr_X0_score_b131 {T1 : AT} {k31 : AT → Nat → Nat → Nat → Int32 → Int32 → Int32 → Option (AT)} {k52 : AT → Nat → Nat → Nat → Int32 → Int32 → Int32 → Int32 → Option (AT)} (hk31 : ∀ (T : AT) (l0 : Nat) (l1 : Nat) (l2 : Nat) (l3 : Int32) (l4 : Int32) (l5 : Int32), k31 T l0 l1 l2 l3 l4 l5 = some T1 → GR T T1) (hk52 : ∀ (T : AT) (l0 : Nat) (l1 : Nat) (l2 : Nat) (l3 : Int32) (l4 : Int32) (l5 : Int32) (l6 : Int32), k52 T l0 l1 l2 l3 l4 l5 l6 = some T1 → GR T T1) : ∀ (T : AT) (l0 : Nat) (l1 : Nat) (l2 : Nat) (l3 : Int32) (l4 : Int32) (l5 : Int32) (l6 : Int32), g_X0_score_b131 k31 k52 T l0 l1 l2 l3 l4 l5 l6 = some T1 → GR T T1 := by
  intro T l0 l1 l2 l3 l4 l5 l6 h
  have p0 := GR.rf T
  unfold g_X0_score_b131 at h
  obtain ⟨v2, ev2, h⟩ := elet_some h
  exact GR.tr p0 (hk52 _ _ _ _ _ _ _ _ h)
set_option maxHeartbeats 4000000 in
set_option maxRecDepth 100000 in
theorem sr_X0_score_b52 {T1 : AT} {k31 : AT → Nat → Nat → Nat → Int32 → Int32 → Int32 → Option (AT)} (hk31 : ∀ (T : AT) (l0 : Nat) (l1 : Nat) (l2 : Nat) (l3 : Int32) (l4 : Int32) (l5 : Int32), k31 T l0 l1 l2 l3 l4 l5 = some T1 → GR T T1) : ∀ n : Nat, ∀ (T : AT) (l0 : Nat) (l1 : Nat) (l2 : Nat) (l3 : Int32) (l4 : Int32) (l5 : Int32) (l6 : Int32), g_X0_score_b52 k31 n T l0 l1 l2 l3 l4 l5 l6 = some T1 → GR T T1 := by
  intro n
  induction n with
  | zero =>
    intro T l0 l1 l2 l3 l4 l5 l6 h
    have h : (none : Option (AT)) = some T1 := h
    cases h
  | succ n ih =>
    intro T l0 l1 l2 l3 l4 l5 l6 h
    have p0 := GR.rf T
    unfold g_X0_score_b52 at h
    obtain ⟨g2, h⟩ := oif_some h
    obtain ⟨n3, en3, h⟩ := obind_some h
    obtain ⟨g4, h⟩ := oif_some h
    obtain ⟨r6, T5, eT5, h⟩ := obind2_some h
    have p1 : GR T T5 := GR.tr p0 (gr_sp (s_X1_cells eT5))
    rcases oif_or h with ⟨c7, h⟩ | ⟨c7, h⟩
    · have h := h
      exact GR.tr p1 (sr_X0_score_b137 hk31 _ _ _ _ _ _ _ h)
    · have h := h
      obtain ⟨v8, -, h⟩ := elet_some h
      rcases oif_or h with ⟨c9, h⟩ | ⟨c9, h⟩
      · have h := h
        exact GR.tr p1 (sr_X0_score_b137 hk31 _ _ _ _ _ _ _ h)
      · have h := h
        obtain ⟨v10, -, h⟩ := elet_some h
        obtain ⟨r11, -, h⟩ := obind_some h
        obtain ⟨g12, h⟩ := oif_some h
        obtain ⟨n13, en13, h⟩ := obind_some h
        obtain ⟨g14, h⟩ := oif_some h
        obtain ⟨n15, en15, h⟩ := obind_some h
        obtain ⟨g16, h⟩ := oif_some h
        obtain ⟨r18, T17, eT17, h⟩ := obind2_some h
        obtain ⟨g19, h⟩ := oif_some h
        have p2 : GR T T17 := GR.tr p1 (gr_sp (s_X1_areaAround eT17))
        obtain ⟨g20, h⟩ := oif_some h
        obtain ⟨n21, en21, h⟩ := obind_some h
        obtain ⟨g22, h⟩ := oif_some h
        obtain ⟨r24, T23, eT23, h⟩ := obind2_some h
        have p3 : GR T T23 := GR.tr p2 (gr_sp (s_X1_bestIn eT23))
        obtain ⟨g25, h⟩ := oif_some h
        obtain ⟨n26, en26, h⟩ := obind_some h
        obtain ⟨r27, -, h⟩ := obind_some h
        obtain ⟨v28, -, h⟩ := elet_some h
        obtain ⟨g29, h⟩ := oif_some h
        obtain ⟨n30, en30, h⟩ := obind_some h
        obtain ⟨v31, -, h⟩ := elet_some h
        obtain ⟨g32, h⟩ := oif_some h
        obtain ⟨T33, eT33, h⟩ := obind_some h
        have p4 : GR T T33 := GR.tr p3 (sr_X10_add eT33)
        exact GR.tr p4 (sr_X0_score_b131 hk31 ih _ _ _ _ _ _ _ _ h)
set_option maxHeartbeats 4000000 in
set_option maxRecDepth 100000 in
theorem sr_X0_score_b49 {T1 : AT} {k31 : AT → Nat → Nat → Nat → Int32 → Int32 → Int32 → Option (AT)} (hk31 : ∀ (T : AT) (l0 : Nat) (l1 : Nat) (l2 : Nat) (l3 : Int32) (l4 : Int32) (l5 : Int32), k31 T l0 l1 l2 l3 l4 l5 = some T1 → GR T T1) : ∀ (T : AT) (l0 : Nat) (l1 : Nat) (l2 : Nat) (l3 : Int32) (l4 : Int32) (l5 : Int32), g_X0_score_b49 k31 T l0 l1 l2 l3 l4 l5 = some T1 → GR T T1 := by
  intro T l0 l1 l2 l3 l4 l5 h
  have p0 := GR.rf T
  unfold g_X0_score_b49 at h
  exact GR.tr p0 (sr_X0_score_b52 hk31 _ _ _ _ _ _ _ _ _ h)
set_option maxHeartbeats 4000000 in
set_option maxRecDepth 100000 in
theorem sr_X0_score_b31 {T1 : AT} : ∀ n : Nat, ∀ (T : AT) (l0 : Nat) (l1 : Nat) (l2 : Nat) (l3 : Int32) (l4 : Int32) (l5 : Int32), g_X0_score_b31 n T l0 l1 l2 l3 l4 l5 = some T1 → GR T T1 := by
  intro n
  induction n with
  | zero =>
    intro T l0 l1 l2 l3 l4 l5 h
    have h : (none : Option (AT)) = some T1 := h
    cases h
  | succ n ih =>
    intro T l0 l1 l2 l3 l4 l5 h
    have p0 := GR.rf T
    unfold g_X0_score_b31 at h
    rcases oif_or h with ⟨c2, h⟩ | ⟨c2, h⟩
    · have h := h
      rw [← osome1 h]
      exact p0
    · have h := h
      obtain ⟨v3, -, h⟩ := elet_some h
      obtain ⟨g4, h⟩ := oif_some h
      obtain ⟨T5, eT5, h⟩ := obind_some h
      have p1 : GR T T5 := GR.tr p0 (sr_X0_measure eT5)
      exact GR.tr p1 (sr_X0_score_b49 ih _ _ _ _ _ _ _ h)
set_option maxHeartbeats 4000000 in
set_option maxRecDepth 100000 in
theorem sr_X0_score {T : AT} {o : Nat} {a0 : Nat} {a1 : Nat} {a2 : Int32} {T1 : AT} (h : g_X0_score T o a0 a1 a2 = some T1) : GR T T1 := by
  have p0 := GR.rf T
  unfold g_X0_score at h
  obtain ⟨g2, h⟩ := oif_some h
  obtain ⟨v3, -, h⟩ := elet_some h
  obtain ⟨v4, -, h⟩ := elet_some h
  obtain ⟨v5, -, h⟩ := elet_some h
  obtain ⟨r6, -, h⟩ := obind_some h
  obtain ⟨v7, -, h⟩ := elet_some h
  obtain ⟨v8, -, h⟩ := elet_some h
  obtain ⟨g9, h⟩ := oif_some h
  obtain ⟨n10, en10, h⟩ := obind_some h
  obtain ⟨g11, h⟩ := oif_some h
  obtain ⟨T12, eT12, h⟩ := obind_some h
  have p1 : GR T T12 := GR.tr p0 (gr_sp (s_X10_narrow eT12))
  obtain ⟨v14, -, h⟩ := elet_some h
  exact GR.tr p1 (sr_X0_score_b31 _ _ _ _ _ _ _ _ h)
set_option maxHeartbeats 4000000 in
set_option maxRecDepth 100000 in
theorem sr_X10_set_b13 {T1 : AT} : ∀ (T : AT), g_X10_set_b13 T = some T1 → GR T T1 := by
  intro T h
  have p0 := GR.rf T
  unfold g_X10_set_b13 at h
  rw [← osome1 h]
  exact p0
set_option maxHeartbeats 4000000 in
set_option maxRecDepth 100000 in
theorem sr_X10_set {T : AT} {o : Nat} {a0 : Int32} {a1 : Nat} {a2 : Int32} {T1 : AT} (h : g_X10_set T o a0 a1 a2 = some T1) : GR T T1 := by
  have p0 := GR.rf T
  unfold g_X10_set at h
  obtain ⟨g2, h⟩ := oif_some h
  obtain ⟨T3, eT3, h⟩ := obind_some h
  have p1 : GR T T3 := GR.tr p0 (gr_sp (s_X10_clear eT3))
  obtain ⟨g5, h⟩ := oif_some h
  obtain ⟨T6, eT6, h⟩ := obind_some h
  have p2 : GR T T6 := GR.tr p1 (sr_X10_add eT6)
  exact GR.tr p2 (sr_X10_set_b13 _ h)
set_option maxHeartbeats 4000000 in
set_option maxRecDepth 100000 in
theorem sr_X4_measure_b148 {T1 : AT} {k89 : AT → Nat → Nat → Int32 → Option (AT)} (hk89 : ∀ (T : AT) (l0 : Nat) (l1 : Nat) (l3 : Int32), k89 T l0 l1 l3 = some T1 → GR T T1) : ∀ (T : AT) (l0 : Nat) (l1 : Nat) (l3 : Int32), g_X4_measure_b148 k89 T l0 l1 l3 = some T1 → GR T T1 := by
  intro T l0 l1 l3 h
  have p0 := GR.rf T
  unfold g_X4_measure_b148 at h
  obtain ⟨v2, ev2, h⟩ := elet_some h
  exact GR.tr p0 (hk89 _ _ _ _ h)
set_option maxHeartbeats 4000000 in
set_option maxRecDepth 100000 in
theorem sr_X4_measure_b138 {T1 : AT} {k89 : AT → Nat → Nat → Int32 → Option (AT)} (hk89 : ∀ (T : AT) (l0 : Nat) (l1 : Nat) (l3 : Int32), k89 T l0 l1 l3 = some T1 → GR T T1) : ∀ (T : AT) (l0 : Nat) (l1 : Nat) (l3 : Int32), g_X4_measure_b138 k89 T l0 l1 l3 = some T1 → GR T T1 := by
  intro T l0 l1 l3 h
  have p0 := GR.rf T
  unfold g_X4_measure_b138 at h
  obtain ⟨g2, h⟩ := oif_some h
  obtain ⟨v3, -, h⟩ := elet_some h
  obtain ⟨v4, -, h⟩ := elet_some h
  obtain ⟨g5, h⟩ := oif_some h
  obtain ⟨T6, eT6, h⟩ := elet_some h
  have p1 : GR T T6 := GR.tr p0 (by rw [eT6]; exact gr_sp sp_uI)
  exact GR.tr p1 (sr_X4_measure_b148 hk89 _ _ _ _ h)
set_option maxHeartbeats 4000000 in
set_option maxRecDepth 100000 in
theorem sr_X4_measure_b89 {T1 : AT} : ∀ n : Nat, ∀ (T : AT) (l0 : Nat) (l1 : Nat) (l3 : Int32), g_X4_measure_b89 n T l0 l1 l3 = some T1 → GR T T1 := by
  intro n
  induction n with
  | zero =>
    intro T l0 l1 l3 h
    have h : (none : Option (AT)) = some T1 := h
    cases h
  | succ n ih =>
    intro T l0 l1 l3 h
    have p0 := GR.rf T
    unfold g_X4_measure_b89 at h
    obtain ⟨g2, h⟩ := oif_some h
    obtain ⟨n3, en3, h⟩ := obind_some h
    obtain ⟨g4, h⟩ := oif_some h
    obtain ⟨r6, T5, eT5, h⟩ := obind2_some h
    have p1 : GR T T5 := GR.tr p0 (gr_sp (s_X1_cells eT5))
    rcases oif_or h with ⟨c7, h⟩ | ⟨c7, h⟩
    · have h := h
      rw [← osome1 h]
      exact p1
    · have h := h
      obtain ⟨g8, h⟩ := oif_some h
      obtain ⟨n9, en9, h⟩ := obind_some h
      obtain ⟨g10, h⟩ := oif_some h
      obtain ⟨r12, T11, eT11, h⟩ := obind2_some h
      have p2 : GR T T11 := GR.tr p1 (gr_sp (s_X4_standsOut eT11))
      rcases oif_or h with ⟨c13, h⟩ | ⟨c13, h⟩
      · have h := h
        exact GR.tr p2 (sr_X4_measure_b148 ih _ _ _ _ h)
      · have h := h
        obtain ⟨g14, h⟩ := oif_some h
        obtain ⟨n15, en15, h⟩ := obind_some h
        obtain ⟨g16, h⟩ := oif_some h
        obtain ⟨v17, -, h⟩ := elet_some h
        obtain ⟨g18, h⟩ := oif_some h
        obtain ⟨g19, h⟩ := oif_some h
        obtain ⟨T20, eT20, h⟩ := elet_some h
        have p3 : GR T T20 := GR.tr p2 (by rw [eT20]; exact gr_sp sp_uI)
        obtain ⟨g21, h⟩ := oif_some h
        obtain ⟨n22, en22, h⟩ := obind_some h
        obtain ⟨g23, h⟩ := oif_some h
        obtain ⟨v24, -, h⟩ := elet_some h
        obtain ⟨g25, h⟩ := oif_some h
        obtain ⟨n26, en26, h⟩ := obind_some h
        obtain ⟨g27, h⟩ := oif_some h
        obtain ⟨T28, eT28, h⟩ := obind_some h
        have p4 : GR T T28 := GR.tr p3 (sr_X10_set eT28)
        exact GR.tr p4 (sr_X4_measure_b138 ih _ _ _ _ h)
set_option maxHeartbeats 4000000 in
set_option maxRecDepth 100000 in
theorem sr_X4_measure_b53 {T1 : AT} {k16 : AT → Nat → Nat → Nat → Int32 → Option (AT)} (hk16 : ∀ (T : AT) (l0 : Nat) (l1 : Nat) (l2 : Nat) (l3 : Int32), k16 T l0 l1 l2 l3 = some T1 → GR T T1) : ∀ (T : AT) (l0 : Nat) (l1 : Nat) (l2 : Nat) (l3 : Int32), g_X4_measure_b53 k16 T l0 l1 l2 l3 = some T1 → GR T T1 := by
  intro T l0 l1 l2 l3 h
  have p0 := GR.rf T
  unfold g_X4_measure_b53 at h
  obtain ⟨v2, ev2, h⟩ := elet_some h
  exact GR.tr p0 (hk16 _ _ _ _ _ h)
set_option maxHeartbeats 4000000 in
set_option maxRecDepth 100000 in
theorem sr_X4_measure_b16 {T1 : AT} : ∀ n : Nat, ∀ (T : AT) (l0 : Nat) (l1 : Nat) (l2 : Nat) (l3 : Int32), g_X4_measure_b16 n T l0 l1 l2 l3 = some T1 → GR T T1 := by
  intro n
  induction n with
  | zero =>
    intro T l0 l1 l2 l3 h
    have h : (none : Option (AT)) = some T1 := h
    cases h
  | succ n ih =>
    intro T l0 l1 l2 l3 h
    have p0 := GR.rf T
    unfold g_X4_measure_b16 at h
    obtain ⟨g2, h⟩ := oif_some h
    obtain ⟨n3, en3, h⟩ := obind_some h
    obtain ⟨g4, h⟩ := oif_some h
    obtain ⟨r6, T5, eT5, h⟩ := obind2_some h
    have p1 : GR T T5 := GR.tr p0 (gr_sp (s_X1_cells eT5))
    rcases oif_or h with ⟨c7, h⟩ | ⟨c7, h⟩
    · have h := h
      obtain ⟨g8, h⟩ := oif_some h
      obtain ⟨n9, en9, h⟩ := obind_some h
      obtain ⟨g10, h⟩ := oif_some h
      obtain ⟨n11, en11, h⟩ := obind_some h
      obtain ⟨g12, h⟩ := oif_some h
      obtain ⟨n13, en13, h⟩ := obind_some h
      obtain ⟨g14, h⟩ := oif_some h
      obtain ⟨n15, en15, h⟩ := obind_some h
      obtain ⟨g16, h⟩ := oif_some h
      obtain ⟨r18, T17, eT17, h⟩ := obind2_some h
      have p2 : GR T T17 := GR.tr p1 (gr_sp (s_X1_bestIn eT17))
      obtain ⟨g19, h⟩ := oif_some h
      obtain ⟨T20, eT20, h⟩ := elet_some h
      have p3 : GR T T20 := GR.tr p2 (by rw [eT20]; exact gr_sp sp_uI)
      obtain ⟨g21, h⟩ := oif_some h
      obtain ⟨T22, eT22, h⟩ := elet_some h
      have p4 : GR T T22 := GR.tr p3 (by rw [eT22]; exact gr_sp sp_uI)
      exact GR.tr p4 (sr_X4_measure_b89 _ _ _ _ _ h)
    · have h := h
      obtain ⟨g23, h⟩ := oif_some h
      obtain ⟨n24, en24, h⟩ := obind_some h
      obtain ⟨g25, h⟩ := oif_some h
      obtain ⟨g26, h⟩ := oif_some h
      obtain ⟨n27, en27, h⟩ := obind_some h
      obtain ⟨g28, h⟩ := oif_some h
      obtain ⟨r30, T29, eT29, h⟩ := obind2_some h
      have p2 : GR T T29 := GR.tr p1 (gr_sp (s_X8_windowOf eT29))
      obtain ⟨g31, h⟩ := oif_some h
      obtain ⟨n32, en32, h⟩ := obind_some h
      obtain ⟨g33, h⟩ := oif_some h
      obtain ⟨T34, eT34, h⟩ := obind_some h
      have p3 : GR T T34 := GR.tr p2 (sr_X8_blockPowerOf eT34)
      exact GR.tr p3 (sr_X4_measure_b53 ih _ _ _ _ _ h)
set_option maxHeartbeats 4000000 in
set_option maxRecDepth 100000 in
theorem sr_X4_measure {T : AT} {o : Nat} {a0 : Nat} {a1 : Nat} {T1 : AT} (h : g_X4_measure T o a0 a1 = some T1) : GR T T1 := by
  have p0 := GR.rf T
  unfold g_X4_measure at h
  obtain ⟨g2, h⟩ := oif_some h
  obtain ⟨n3, en3, h⟩ := obind_some h
  obtain ⟨g4, h⟩ := oif_some h
  obtain ⟨T5, eT5, h⟩ := obind_some h
  have p1 : GR T T5 := GR.tr p0 (gr_sp (s_X10_narrow eT5))
  obtain ⟨g7, h⟩ := oif_some h
  obtain ⟨n8, en8, h⟩ := obind_some h
  obtain ⟨g9, h⟩ := oif_some h
  obtain ⟨T10, eT10, h⟩ := obind_some h
  have p2 : GR T T10 := GR.tr p1 (gr_sp (s_X10_narrow eT10))
  exact GR.tr p2 (sr_X4_measure_b16 _ _ _ _ _ _ h)
set_option maxHeartbeats 4000000 in
set_option maxRecDepth 100000 in
theorem sr_X4_sumIn_b53 {T1 : AT} {k11 : AT → Nat → Nat → Nat → Nat → Int32 → Int32 → Option (AT)} {k24 : AT → Nat → Nat → Nat → Nat → Int32 → Int32 → Int32 → Option (AT)} (hk11 : ∀ (T : AT) (l0 : Nat) (l1 : Nat) (l2 : Nat) (l3 : Nat) (l4 : Int32) (l5 : Int32), k11 T l0 l1 l2 l3 l4 l5 = some T1 → GR T T1) (hk24 : ∀ (T : AT) (l0 : Nat) (l1 : Nat) (l2 : Nat) (l3 : Nat) (l4 : Int32) (l5 : Int32) (l6 : Int32), k24 T l0 l1 l2 l3 l4 l5 l6 = some T1 → GR T T1) : ∀ (T : AT) (l0 : Nat) (l1 : Nat) (l2 : Nat) (l3 : Nat) (l4 : Int32) (l5 : Int32) (l6 : Int32), g_X4_sumIn_b53 k11 k24 T l0 l1 l2 l3 l4 l5 l6 = some T1 → GR T T1 := by
  intro T l0 l1 l2 l3 l4 l5 l6 h
  have p0 := GR.rf T
  unfold g_X4_sumIn_b53 at h
  obtain ⟨v2, ev2, h⟩ := elet_some h
  exact GR.tr p0 (hk24 _ _ _ _ _ _ _ _ h)
set_option maxHeartbeats 4000000 in
set_option maxRecDepth 100000 in
theorem sr_X4_sumIn_b24 {T1 : AT} {k11 : AT → Nat → Nat → Nat → Nat → Int32 → Int32 → Option (AT)} (hk11 : ∀ (T : AT) (l0 : Nat) (l1 : Nat) (l2 : Nat) (l3 : Nat) (l4 : Int32) (l5 : Int32), k11 T l0 l1 l2 l3 l4 l5 = some T1 → GR T T1) : ∀ n : Nat, ∀ (T : AT) (l0 : Nat) (l1 : Nat) (l2 : Nat) (l3 : Nat) (l4 : Int32) (l5 : Int32) (l6 : Int32), g_X4_sumIn_b24 k11 n T l0 l1 l2 l3 l4 l5 l6 = some T1 → GR T T1 := by
  intro n
  induction n with
  | zero =>
    intro T l0 l1 l2 l3 l4 l5 l6 h
    have h : (none : Option (AT)) = some T1 := h
    cases h
  | succ n ih =>
    intro T l0 l1 l2 l3 l4 l5 l6 h
    have p0 := GR.rf T
    unfold g_X4_sumIn_b24 at h
    obtain ⟨g2, h⟩ := oif_some h
    obtain ⟨g3, h⟩ := oif_some h
    obtain ⟨v4, -, h⟩ := elet_some h
    rcases oif_or h with ⟨c5, h⟩ | ⟨c5, h⟩
    · have h := h
      obtain ⟨v6, ev6, h⟩ := elet_some h
      exact GR.tr p0 (hk11 _ _ _ _ _ _ _ h)
    · have h := h
      obtain ⟨g7, h⟩ := oif_some h
      obtain ⟨n8, en8, h⟩ := obind_some h
      obtain ⟨g9, h⟩ := oif_some h
      obtain ⟨v10, -, h⟩ := elet_some h
      obtain ⟨v11, -, h⟩ := elet_some h
      obtain ⟨v12, -, h⟩ := elet_some h
      obtain ⟨g13, h⟩ := oif_some h
      obtain ⟨T14, eT14, h⟩ := obind_some h
      have p1 : GR T T14 := GR.tr p0 (sr_X10_add eT14)
      exact GR.tr p1 (sr_X4_sumIn_b53 hk11 ih _ _ _ _ _ _ _ _ h)
set_option maxHeartbeats 4000000 in
set_option maxRecDepth 100000 in
theorem sr_X4_sumIn_b11 {T1 : AT} : ∀ n : Nat, ∀ (T : AT) (l0 : Nat) (l1 : Nat) (l2 : Nat) (l3 : Nat) (l4 : Int32) (l5 : Int32), g_X4_sumIn_b11 n T l0 l1 l2 l3 l4 l5 = some T1 → GR T T1 := by
  intro n
  induction n with
  | zero =>
    intro T l0 l1 l2 l3 l4 l5 h
    have h : (none : Option (AT)) = some T1 := h
    cases h
  | succ n ih =>
    intro T l0 l1 l2 l3 l4 l5 h
    have p0 := GR.rf T
    unfold g_X4_sumIn_b11 at h
    obtain ⟨g2, h⟩ := oif_some h
    obtain ⟨g3, h⟩ := oif_some h
    obtain ⟨v4, -, h⟩ := elet_some h
    rcases oif_or h with ⟨c5, h⟩ | ⟨c5, h⟩
    · have h := h
      rw [← osome1 h]
      exact p0
    · have h := h
      obtain ⟨g6, h⟩ := oif_some h
      obtain ⟨g7, h⟩ := oif_some h
      obtain ⟨v8, -, h⟩ := elet_some h
      exact GR.tr p0 (sr_X4_sumIn_b24 ih _ _ _ _ _ _ _ _ _ h)
set_option maxHeartbeats 4000000 in
set_option maxRecDepth 100000 in
theorem sr_X4_sumIn {T : AT} {o : Nat} {a0 : Nat} {a1 : Nat} {a2 : Nat} {a3 : Int32} {T1 : AT} (h : g_X4_sumIn T o a0 a1 a2 a3 = some T1) : GR T T1 := by
  have p0 := GR.rf T
  unfold g_X4_sumIn at h
  obtain ⟨g2, h⟩ := oif_some h
  obtain ⟨T3, eT3, h⟩ := obind_some h
  have p1 : GR T T3 := GR.tr p0 (gr_sp (s_X10_clear eT3))
  obtain ⟨g5, h⟩ := oif_some h
  obtain ⟨g6, h⟩ := oif_some h
  obtain ⟨v7, -, h⟩ := elet_some h
  exact GR.tr p1 (sr_X4_sumIn_b11 _ _ _ _ _ _ _ _ h)
set_option maxHeartbeats 4000000 in
set_option maxRecDepth 100000 in
theorem sr_X4_digit_b84 {r1 : Int32} {T1 : AT} : ∀ (T : AT) (l3 : Int32), g_X4_digit_b84 T l3 = some (r1, T1) → GR T T1 := by
  intro T l3 h
  have p0 := GR.rf T
  unfold g_X4_digit_b84 at h
  rw [← (osome2 h).2]
  exact p0
set_option maxHeartbeats 4000000 in
set_option maxRecDepth 100000 in
theorem sr_X4_digit_b77 {r1 : Int32} {T1 : AT} {k27 : AT → Nat → Nat → Int32 → Int32 → Option (Int32 × AT)} (hk27 : ∀ (T : AT) (l0 : Nat) (l2 : Nat) (l3 : Int32) (l4 : Int32), k27 T l0 l2 l3 l4 = some (r1, T1) → GR T T1) : ∀ (T : AT) (s0 : Int32) (l0 : Nat) (l2 : Nat) (l4 : Int32), g_X4_digit_b77 k27 T s0 l0 l2 l4 = some (r1, T1) → GR T T1 := by
  intro T s0 l0 l2 l4 h
  have p0 := GR.rf T
  unfold g_X4_digit_b77 at h
  obtain ⟨v2, ev2, h⟩ := elet_some h
  exact GR.tr p0 (hk27 _ _ _ _ _ h)
set_option maxHeartbeats 4000000 in
set_option maxRecDepth 100000 in
theorem sr_X4_digit_b62 {r1 : Int32} {T1 : AT} {k27 : AT → Nat → Nat → Int32 → Int32 → Option (Int32 × AT)} (hk27 : ∀ (T : AT) (l0 : Nat) (l2 : Nat) (l3 : Int32) (l4 : Int32), k27 T l0 l2 l3 l4 = some (r1, T1) → GR T T1) : ∀ (T : AT) (l0 : Nat) (l2 : Nat) (l3 : Int32) (l4 : Int32), g_X4_digit_b62 k27 T l0 l2 l3 l4 = some (r1, T1) → GR T T1 := by
  intro T l0 l2 l3 l4 h
  have p0 := GR.rf T
  unfold g_X4_digit_b62 at h
  obtain ⟨g2, h⟩ := oif_some h
  obtain ⟨r4, T3, eT3, h⟩ := obind2_some h
  have p1 : GR T T3 := GR.tr p0 (gr_sp (s_X10_compare eT3))
  rcases oif_or h with ⟨c5, h⟩ | ⟨c5, h⟩
  · have h := h
    exact GR.tr p1 (sr_X4_digit_b77 hk27 _ _ _ _ _ h)
  · have h := h
    exact GR.tr p1 (sr_X4_digit_b77 hk27 _ _ _ _ _ h)
set_option maxHeartbeats 4000000 in
set_option maxRecDepth 100000 in
theorem sr_X4_digit_b27 {r1 : Int32} {T1 : AT} : ∀ n : Nat, ∀ (T : AT) (l0 : Nat) (l2 : Nat) (l3 : Int32) (l4 : Int32), g_X4_digit_b27 n T l0 l2 l3 l4 = some (r1, T1) → GR T T1 := by
  intro n
  induction n with
  | zero =>
    intro T l0 l2 l3 l4 h
    have h : (none : Option (Int32 × AT)) = some (r1, T1) := h
    cases h
  | succ n ih =>
    intro T l0 l2 l3 l4 h
    have p0 := GR.rf T
    unfold g_X4_digit_b27 at h
    rcases oif_or h with ⟨c2, h⟩ | ⟨c2, h⟩
    · have h := h
      exact GR.tr p0 (sr_X4_digit_b84 _ _ h)
    · have h := h
      obtain ⟨g3, h⟩ := oif_some h
      obtain ⟨n4, en4, h⟩ := obind_some h
      obtain ⟨g5, h⟩ := oif_some h
      obtain ⟨v6, -, h⟩ := elet_some h
      obtain ⟨g7, h⟩ := oif_some h
      obtain ⟨r9, T8, eT8, h⟩ := obind2_some h
      have p1 : GR T T8 := GR.tr p0 (gr_sp (s_X10_isZero eT8))
      rcases oif_or h with ⟨c10, h⟩ | ⟨c10, h⟩
      · have h := h
        obtain ⟨g11, h⟩ := oif_some h
        obtain ⟨n12, en12, h⟩ := obind_some h
        obtain ⟨g13, h⟩ := oif_some h
        obtain ⟨v14, -, h⟩ := elet_some h
        obtain ⟨g15, h⟩ := oif_some h
        obtain ⟨T16, eT16, h⟩ := obind_some h
        have p2 : GR T T16 := GR.tr p1 (sr_X10_add eT16)
        exact GR.tr p2 (sr_X4_digit_b62 ih _ _ _ _ _ h)
      · have h := h
        exact GR.tr p1 (sr_X4_digit_b84 _ _ h)
set_option maxHeartbeats 4000000 in
set_option maxRecDepth 100000 in
theorem sr_X4_digit_b22 {r1 : Int32} {T1 : AT} : ∀ (T : AT) (l0 : Nat) (l2 : Nat), g_X4_digit_b22 T l0 l2 = some (r1, T1) → GR T T1 := by
  intro T l0 l2 h
  have p0 := GR.rf T
  unfold g_X4_digit_b22 at h
  exact GR.tr p0 (sr_X4_digit_b27 _ _ _ _ _ _ h)
set_option maxHeartbeats 4000000 in
set_option maxRecDepth 100000 in
theorem sr_X4_digit {T : AT} {o : Nat} {a0 : Int32} {a1 : Nat} {r1 : Int32} {T1 : AT} (h : g_X4_digit T o a0 a1 = some (r1, T1)) : GR T T1 := by
  have p0 := GR.rf T
  unfold g_X4_digit at h
  obtain ⟨g2, h⟩ := oif_some h
  obtain ⟨T3, eT3, h⟩ := obind_some h
  have p1 : GR T T3 := GR.tr p0 (gr_sp (s_X10_clear eT3))
  obtain ⟨g5, h⟩ := oif_some h
  obtain ⟨T6, eT6, h⟩ := obind_some h
  have p2 : GR T T6 := GR.tr p1 (gr_sp (s_X10_clear eT6))
  obtain ⟨g8, h⟩ := oif_some h
  obtain ⟨n9, en9, h⟩ := obind_some h
  obtain ⟨g10, h⟩ := oif_some h
  obtain ⟨T11, eT11, h⟩ := obind_some h
  have p3 : GR T T11 := GR.tr p2 (sr_X10_add eT11)
  exact GR.tr p3 (sr_X4_digit_b22 _ _ _ h)
set_option maxHeartbeats 4000000 in
set_option maxRecDepth 100000 in
theorem sr_X10_put_b20 {T1 : AT} : ∀ (T : AT), g_X10_put_b20 T = some T1 → GR T T1 := by
  intro T h
  have p0 := GR.rf T
  unfold g_X10_put_b20 at h
  rw [← osome1 h]
  exact p0
set_option maxHeartbeats 4000000 in
set_option maxRecDepth 100000 in
theorem sr_X10_put {T : AT} {o : Nat} {a0 : Int32} {a1 : Int32} {T1 : AT} (h : g_X10_put T o a0 a1 = some T1) : GR T T1 := by
  have p0 := GR.rf T
  unfold g_X10_put at h
  obtain ⟨g2, h⟩ := oif_some h
  obtain ⟨T3, eT3, h⟩ := obind_some h
  have p1 : GR T T3 := GR.tr p0 (gr_sp (s_X10_clear eT3))
  obtain ⟨g5, h⟩ := oif_some h
  obtain ⟨n6, en6, h⟩ := obind_some h
  obtain ⟨g7, h⟩ := oif_some h
  obtain ⟨g8, h⟩ := oif_some h
  obtain ⟨n9, en9, h⟩ := obind_some h
  obtain ⟨v10, -, h⟩ := elet_some h
  obtain ⟨g11, h⟩ := oif_some h
  obtain ⟨g12, h⟩ := oif_some h
  obtain ⟨T13, eT13, h⟩ := elet_some h
  have p2 : GR T T13 := GR.tr p1 (by rw [eT13]; exact gr_sp sp_uJ)
  obtain ⟨g14, h⟩ := oif_some h
  obtain ⟨T15, eT15, h⟩ := obind_some h
  have p3 : GR T T15 := GR.tr p2 (sr_X10_settle eT15)
  exact GR.tr p3 (sr_X10_put_b20 _ h)
set_option maxHeartbeats 4000000 in
set_option maxRecDepth 100000 in
theorem sr_X5_finish_b87 {T1 : AT} {k9 : AT → Nat → Nat → Nat → Int32 → Option (AT)} {k20 : AT → Nat → Nat → Nat → Int32 → Int32 → Option (AT)} (hk9 : ∀ (T : AT) (l0 : Nat) (l1 : Nat) (l2 : Nat) (l3 : Int32), k9 T l0 l1 l2 l3 = some T1 → GR T T1) (hk20 : ∀ (T : AT) (l0 : Nat) (l1 : Nat) (l2 : Nat) (l3 : Int32) (l4 : Int32), k20 T l0 l1 l2 l3 l4 = some T1 → GR T T1) : ∀ (T : AT) (l0 : Nat) (l1 : Nat) (l2 : Nat) (l3 : Int32) (l4 : Int32), g_X5_finish_b87 k9 k20 T l0 l1 l2 l3 l4 = some T1 → GR T T1 := by
  intro T l0 l1 l2 l3 l4 h
  have p0 := GR.rf T
  unfold g_X5_finish_b87 at h
  obtain ⟨v2, ev2, h⟩ := elet_some h
  exact GR.tr p0 (hk20 _ _ _ _ _ _ h)
set_option maxHeartbeats 4000000 in
set_option maxRecDepth 100000 in
theorem sr_X5_finish_b55 {T1 : AT} {k9 : AT → Nat → Nat → Nat → Int32 → Option (AT)} {k20 : AT → Nat → Nat → Nat → Int32 → Int32 → Option (AT)} (hk9 : ∀ (T : AT) (l0 : Nat) (l1 : Nat) (l2 : Nat) (l3 : Int32), k9 T l0 l1 l2 l3 = some T1 → GR T T1) (hk20 : ∀ (T : AT) (l0 : Nat) (l1 : Nat) (l2 : Nat) (l3 : Int32) (l4 : Int32), k20 T l0 l1 l2 l3 l4 = some T1 → GR T T1) : ∀ (T : AT) (s0 : Int32) (l0 : Nat) (l1 : Nat) (l2 : Nat) (l3 : Int32) (l4 : Int32), g_X5_finish_b55 k9 k20 T s0 l0 l1 l2 l3 l4 = some T1 → GR T T1 := by
  intro T s0 l0 l1 l2 l3 l4 h
  have p0 := GR.rf T
  unfold g_X5_finish_b55 at h
  obtain ⟨g2, h⟩ := oif_some h
  obtain ⟨n3, en3, h⟩ := obind_some h
  obtain ⟨r4, -, h⟩ := obind_some h
  obtain ⟨g5, h⟩ := oif_some h
  obtain ⟨v6, -, h⟩ := elet_some h
  obtain ⟨v7, -, h⟩ := elet_some h
  obtain ⟨g8, h⟩ := oif_some h
  obtain ⟨v9, -, h⟩ := elet_some h
  obtain ⟨v10, -, h⟩ := elet_some h
  obtain ⟨v11, -, h⟩ := elet_some h
  obtain ⟨g12, h⟩ := oif_some h
  obtain ⟨T13, eT13, h⟩ := obind_some h
  have p1 : GR T T13 := GR.tr p0 (sr_X10_put eT13)
  exact GR.tr p1 (sr_X5_finish_b87 hk9 hk20 _ _ _ _ _ _ h)
set_option maxHeartbeats 4000000 in
set_option maxRecDepth 100000 in
theorem sr_X5_finish_b20 {T1 : AT} {k9 : AT → Nat → Nat → Nat → Int32 → Option (AT)} (hk9 : ∀ (T : AT) (l0 : Nat) (l1 : Nat) (l2 : Nat) (l3 : Int32), k9 T l0 l1 l2 l3 = some T1 → GR T T1) : ∀ n : Nat, ∀ (T : AT) (l0 : Nat) (l1 : Nat) (l2 : Nat) (l3 : Int32) (l4 : Int32), g_X5_finish_b20 k9 n T l0 l1 l2 l3 l4 = some T1 → GR T T1 := by
  intro n
  induction n with
  | zero =>
    intro T l0 l1 l2 l3 l4 h
    have h : (none : Option (AT)) = some T1 := h
    cases h
  | succ n ih =>
    intro T l0 l1 l2 l3 l4 h
    have p0 := GR.rf T
    unfold g_X5_finish_b20 at h
    obtain ⟨g2, h⟩ := oif_some h
    obtain ⟨v3, -, h⟩ := elet_some h
    rcases oif_or h with ⟨c4, h⟩ | ⟨c4, h⟩
    · have h := h
      obtain ⟨v5, ev5, h⟩ := elet_some h
      exact GR.tr p0 (hk9 _ _ _ _ _ h)
    · have h := h
      obtain ⟨g6, h⟩ := oif_some h
      obtain ⟨v7, -, h⟩ := elet_some h
      rcases oif_or h with ⟨c8, h⟩ | ⟨c8, h⟩
      · have h := h
        obtain ⟨g9, h⟩ := oif_some h
        obtain ⟨r11, T10, eT10, h⟩ := obind2_some h
        have p1 : GR T T10 := GR.tr p0 (gr_sp (s_X5_raw eT10))
        exact GR.tr p1 (sr_X5_finish_b55 hk9 ih _ _ _ _ _ _ _ h)
      · have h := h
        obtain ⟨g12, h⟩ := oif_some h
        obtain ⟨r14, T13, eT13, h⟩ := obind2_some h
        have p1 : GR T T13 := GR.tr p0 (gr_sp (s_X5_filtered eT13))
        exact GR.tr p1 (sr_X5_finish_b55 hk9 ih _ _ _ _ _ _ _ h)
set_option maxHeartbeats 4000000 in
set_option maxRecDepth 100000 in
theorem sr_X5_finish_b9 {T1 : AT} : ∀ n : Nat, ∀ (T : AT) (l0 : Nat) (l1 : Nat) (l2 : Nat) (l3 : Int32), g_X5_finish_b9 n T l0 l1 l2 l3 = some T1 → GR T T1 := by
  intro n
  induction n with
  | zero =>
    intro T l0 l1 l2 l3 h
    have h : (none : Option (AT)) = some T1 := h
    cases h
  | succ n ih =>
    intro T l0 l1 l2 l3 h
    have p0 := GR.rf T
    unfold g_X5_finish_b9 at h
    obtain ⟨g2, h⟩ := oif_some h
    obtain ⟨v3, -, h⟩ := elet_some h
    rcases oif_or h with ⟨c4, h⟩ | ⟨c4, h⟩
    · have h := h
      obtain ⟨g5, h⟩ := oif_some h
      obtain ⟨T6, eT6, h⟩ := elet_some h
      have p1 : GR T T6 := GR.tr p0 (by rw [eT6]; exact gr_sp sp_uI)
      rw [← osome1 h]
      exact p1
    · have h := h
      exact GR.tr p0 (sr_X5_finish_b20 ih _ _ _ _ _ _ _ h)
set_option maxHeartbeats 4000000 in
set_option maxRecDepth 100000 in
theorem sr_X5_finish {T : AT} {o : Nat} {a0 : Nat} {a1 : Nat} {T1 : AT} (h : g_X5_finish T o a0 a1 = some T1) : GR T T1 := by
  have p0 := GR.rf T
  unfold g_X5_finish at h
  obtain ⟨g2, h⟩ := oif_some h
  obtain ⟨n3, en3, h⟩ := obind_some h
  obtain ⟨g4, h⟩ := oif_some h
  obtain ⟨T5, eT5, h⟩ := obind_some h
  have p1 : GR T T5 := GR.tr p0 (gr_sp (s_X10_narrow eT5))
  exact GR.tr p1 (sr_X5_finish_b9 _ _ _ _ _ _ h)
set_option maxHeartbeats 4000000 in
set_option maxRecDepth 100000 in
theorem sr_X5_record_b104 {T1 : AT} : ∀ (T : AT), g_X5_record_b104 T = some T1 → GR T T1 := by
  intro T h
  have p0 := GR.rf T
  unfold g_X5_record_b104 at h
  rw [← osome1 h]
  exact p0
set_option maxHeartbeats 4000000 in
set_option maxRecDepth 100000 in
theorem sr_X5_record_b92 {T1 : AT} {k6 : AT → Nat → Nat → Nat → Int32 → Option (AT)} (hk6 : ∀ (T : AT) (l0 : Nat) (l1 : Nat) (l2 : Nat) (l3 : Int32), k6 T l0 l1 l2 l3 = some T1 → GR T T1) : ∀ (T : AT) (l0 : Nat) (l1 : Nat) (l2 : Nat) (l3 : Int32), g_X5_record_b92 k6 T l0 l1 l2 l3 = some T1 → GR T T1 := by
  intro T l0 l1 l2 l3 h
  have p0 := GR.rf T
  unfold g_X5_record_b92 at h
  obtain ⟨v2, ev2, h⟩ := elet_some h
  exact GR.tr p0 (hk6 _ _ _ _ _ h)
set_option maxHeartbeats 4000000 in
set_option maxRecDepth 100000 in
theorem sr_X5_record_b34 {T1 : AT} {k6 : AT → Nat → Nat → Nat → Int32 → Option (AT)} (hk6 : ∀ (T : AT) (l0 : Nat) (l1 : Nat) (l2 : Nat) (l3 : Int32), k6 T l0 l1 l2 l3 = some T1 → GR T T1) : ∀ n : Nat, ∀ (T : AT) (l0 : Nat) (l1 : Nat) (l2 : Nat) (l3 : Int32) (l4 : Nat) (l5 : Int32), g_X5_record_b34 k6 n T l0 l1 l2 l3 l4 l5 = some T1 → GR T T1 := by
  intro n
  induction n with
  | zero =>
    intro T l0 l1 l2 l3 l4 l5 h
    have h : (none : Option (AT)) = some T1 := h
    cases h
  | succ n ih =>
    intro T l0 l1 l2 l3 l4 l5 h
    have p0 := GR.rf T
    unfold g_X5_record_b34 at h
    obtain ⟨g2, h⟩ := oif_some h
    obtain ⟨v3, -, h⟩ := elet_some h
    rcases oif_or h with ⟨c4, h⟩ | ⟨c4, h⟩
    · have h := h
      exact GR.tr p0 (sr_X5_record_b92 hk6 _ _ _ _ _ h)
    · have h := h
      obtain ⟨g5, h⟩ := oif_some h
      obtain ⟨n6, en6, h⟩ := obind_some h
      obtain ⟨g7, h⟩ := oif_some h
      obtain ⟨g8, h⟩ := oif_some h
      obtain ⟨v9, -, h⟩ := elet_some h
      obtain ⟨g10, h⟩ := oif_some h
      obtain ⟨n11, en11, h⟩ := obind_some h
      obtain ⟨g12, h⟩ := oif_some h
      obtain ⟨g13, h⟩ := oif_some h
      obtain ⟨v14, -, h⟩ := elet_some h
      obtain ⟨r15, -, h⟩ := obind_some h
      obtain ⟨g16, h⟩ := oif_some h
      obtain ⟨n17, en17, h⟩ := obind_some h
      obtain ⟨g18, h⟩ := oif_some h
      obtain ⟨g19, h⟩ := oif_some h
      obtain ⟨v20, -, h⟩ := elet_some h
      obtain ⟨g21, h⟩ := oif_some h
      obtain ⟨n22, en22, h⟩ := obind_some h
      obtain ⟨g23, h⟩ := oif_some h
      obtain ⟨g24, h⟩ := oif_some h
      obtain ⟨v25, -, h⟩ := elet_some h
      obtain ⟨r26, -, h⟩ := obind_some h
      obtain ⟨g27, h⟩ := oif_some h
      obtain ⟨T28, eT28, h⟩ := obind_some h
      have p1 : GR T T28 := GR.tr p0 (gr_sp (s_X5_hear eT28))
      obtain ⟨v30, ev30, h⟩ := elet_some h
      exact GR.tr p1 (ih _ _ _ _ _ _ _ h)
set_option maxHeartbeats 4000000 in
set_option maxRecDepth 100000 in
theorem sr_X5_record_b6 {T1 : AT} : ∀ n : Nat, ∀ (T : AT) (l0 : Nat) (l1 : Nat) (l2 : Nat) (l3 : Int32), g_X5_record_b6 n T l0 l1 l2 l3 = some T1 → GR T T1 := by
  intro n
  induction n with
  | zero =>
    intro T l0 l1 l2 l3 h
    have h : (none : Option (AT)) = some T1 := h
    cases h
  | succ n ih =>
    intro T l0 l1 l2 l3 h
    have p0 := GR.rf T
    unfold g_X5_record_b6 at h
    obtain ⟨g2, h⟩ := oif_some h
    obtain ⟨v3, -, h⟩ := elet_some h
    rcases oif_or h with ⟨c4, h⟩ | ⟨c4, h⟩
    · have h := h
      obtain ⟨g5, h⟩ := oif_some h
      obtain ⟨T6, eT6, h⟩ := obind_some h
      have p1 : GR T T6 := GR.tr p0 (sr_X5_finish eT6)
      exact GR.tr p1 (sr_X5_record_b104 _ h)
    · have h := h
      obtain ⟨g8, h⟩ := oif_some h
      obtain ⟨n9, en9, h⟩ := obind_some h
      obtain ⟨g10, h⟩ := oif_some h
      obtain ⟨g11, h⟩ := oif_some h
      obtain ⟨v12, -, h⟩ := elet_some h
      rcases oif_or h with ⟨c13, h⟩ | ⟨c13, h⟩
      · have h := h
        exact GR.tr p0 (sr_X5_record_b92 ih _ _ _ _ _ h)
      · have h := h
        obtain ⟨g14, h⟩ := oif_some h
        obtain ⟨n15, en15, h⟩ := obind_some h
        obtain ⟨g16, h⟩ := oif_some h
        obtain ⟨g17, h⟩ := oif_some h
        obtain ⟨n18, en18, h⟩ := obind_some h
        exact GR.tr p0 (sr_X5_record_b34 ih _ _ _ _ _ _ _ _ h)
set_option maxHeartbeats 4000000 in
set_option maxRecDepth 100000 in
theorem sr_X5_record {T : AT} {o : Nat} {a0 : Nat} {a1 : Nat} {T1 : AT} (h : g_X5_record T o a0 a1 = some T1) : GR T T1 := by
  have p0 := GR.rf T
  unfold g_X5_record at h
  obtain ⟨g2, h⟩ := oif_some h
  obtain ⟨T3, eT3, h⟩ := obind_some h
  have p1 : GR T T3 := GR.tr p0 (gr_sp (s_X5_silence eT3))
  exact GR.tr p1 (sr_X5_record_b6 _ _ _ _ _ _ h)
set_option maxHeartbeats 4000000 in
set_option maxRecDepth 100000 in
theorem sr_X5_recordPoint_b89 {T1 : AT} : ∀ (T : AT), g_X5_recordPoint_b89 T = some T1 → GR T T1 := by
  intro T h
  have p0 := GR.rf T
  unfold g_X5_recordPoint_b89 at h
  rw [← osome1 h]
  exact p0
set_option maxHeartbeats 4000000 in
set_option maxRecDepth 100000 in
theorem sr_X5_recordPoint_b53 {T1 : AT} : ∀ n : Nat, ∀ (T : AT) (l0 : Nat) (l1 : Nat) (l2 : Nat) (l5 : Int32) (l6 : Int32) (l7 : Int32), g_X5_recordPoint_b53 n T l0 l1 l2 l5 l6 l7 = some T1 → GR T T1 := by
  intro n
  induction n with
  | zero =>
    intro T l0 l1 l2 l5 l6 l7 h
    have h : (none : Option (AT)) = some T1 := h
    cases h
  | succ n ih =>
    intro T l0 l1 l2 l5 l6 l7 h
    have p0 := GR.rf T
    unfold g_X5_recordPoint_b53 at h
    obtain ⟨g2, h⟩ := oif_some h
    obtain ⟨v3, -, h⟩ := elet_some h
    rcases oif_or h with ⟨c4, h⟩ | ⟨c4, h⟩
    · have h := h
      obtain ⟨g5, h⟩ := oif_some h
      obtain ⟨T6, eT6, h⟩ := obind_some h
      have p1 : GR T T6 := GR.tr p0 (sr_X5_finish eT6)
      exact GR.tr p1 (sr_X5_recordPoint_b89 _ h)
    · have h := h
      obtain ⟨g8, h⟩ := oif_some h
      obtain ⟨n9, en9, h⟩ := obind_some h
      obtain ⟨g10, h⟩ := oif_some h
      obtain ⟨T11, eT11, h⟩ := obind_some h
      have p1 : GR T T11 := GR.tr p0 (gr_sp (s_X5_hear eT11))
      obtain ⟨v13, ev13, h⟩ := elet_some h
      exact GR.tr p1 (ih _ _ _ _ _ _ _ h)
set_option maxHeartbeats 4000000 in
set_option maxRecDepth 100000 in
theorem sr_X5_recordPoint {T : AT} {o : Nat} {a0 : Nat} {a1 : Nat} {a2 : Int32} {a3 : Int32} {T1 : AT} (h : g_X5_recordPoint T o a0 a1 a2 a3 = some T1) : GR T T1 := by
  have p0 := GR.rf T
  unfold g_X5_recordPoint at h
  obtain ⟨g2, h⟩ := oif_some h
  obtain ⟨T3, eT3, h⟩ := obind_some h
  have p1 : GR T T3 := GR.tr p0 (gr_sp (s_X5_silence eT3))
  obtain ⟨g5, h⟩ := oif_some h
  obtain ⟨n6, en6, h⟩ := obind_some h
  obtain ⟨g7, h⟩ := oif_some h
  obtain ⟨T8, eT8, h⟩ := elet_some h
  have p2 : GR T T8 := GR.tr p1 (by rw [eT8]; exact gr_sp sp_uI)
  obtain ⟨g9, h⟩ := oif_some h
  obtain ⟨n10, en10, h⟩ := obind_some h
  obtain ⟨g11, h⟩ := oif_some h
  obtain ⟨T12, eT12, h⟩ := elet_some h
  have p3 : GR T T12 := GR.tr p2 (by rw [eT12]; exact gr_sp sp_uI)
  obtain ⟨g13, h⟩ := oif_some h
  obtain ⟨n14, en14, h⟩ := obind_some h
  obtain ⟨g15, h⟩ := oif_some h
  obtain ⟨T16, eT16, h⟩ := elet_some h
  have p4 : GR T T16 := GR.tr p3 (by rw [eT16]; exact gr_sp sp_uI)
  obtain ⟨g17, h⟩ := oif_some h
  obtain ⟨n18, en18, h⟩ := obind_some h
  obtain ⟨g19, h⟩ := oif_some h
  obtain ⟨r21, T20, eT20, h⟩ := obind2_some h
  have p5 : GR T T20 := GR.tr p4 (gr_sp (s_X1_centreX eT20))
  obtain ⟨g22, h⟩ := oif_some h
  obtain ⟨n23, en23, h⟩ := obind_some h
  obtain ⟨g24, h⟩ := oif_some h
  obtain ⟨r26, T25, eT25, h⟩ := obind2_some h
  have p6 : GR T T25 := GR.tr p5 (gr_sp (s_X1_centreY eT25))
  exact GR.tr p6 (sr_X5_recordPoint_b53 _ _ _ _ _ _ _ _ h)
set_option maxHeartbeats 4000000 in
set_option maxRecDepth 100000 in
theorem sr_X10_copyFrom_b18 {T1 : AT} : ∀ n : Nat, ∀ (T : AT) (l0 : Nat) (l1 : Nat) (l2 : Int32), g_X10_copyFrom_b18 n T l0 l1 l2 = some T1 → GR T T1 := by
  intro n
  induction n with
  | zero =>
    intro T l0 l1 l2 h
    have h : (none : Option (AT)) = some T1 := h
    cases h
  | succ n ih =>
    intro T l0 l1 l2 h
    have p0 := GR.rf T
    unfold g_X10_copyFrom_b18 at h
    obtain ⟨g2, h⟩ := oif_some h
    obtain ⟨v3, -, h⟩ := elet_some h
    rcases oif_or h with ⟨c4, h⟩ | ⟨c4, h⟩
    · have h := h
      rw [← osome1 h]
      exact p0
    · have h := h
      obtain ⟨g5, h⟩ := oif_some h
      obtain ⟨n6, en6, h⟩ := obind_some h
      obtain ⟨g7, h⟩ := oif_some h
      obtain ⟨g8, h⟩ := oif_some h
      obtain ⟨n9, en9, h⟩ := obind_some h
      obtain ⟨g10, h⟩ := oif_some h
      obtain ⟨n11, en11, h⟩ := obind_some h
      obtain ⟨g12, h⟩ := oif_some h
      obtain ⟨g13, h⟩ := oif_some h
      obtain ⟨n14, en14, h⟩ := obind_some h
      obtain ⟨g15, h⟩ := oif_some h
      obtain ⟨v16, -, h⟩ := elet_some h
      obtain ⟨g17, h⟩ := oif_some h
      obtain ⟨v18, -, h⟩ := elet_some h
      obtain ⟨v19, -, h⟩ := elet_some h
      obtain ⟨g20, h⟩ := oif_some h
      obtain ⟨g21, h⟩ := oif_some h
      obtain ⟨g22, h⟩ := oif_some h
      obtain ⟨T23, eT23, h⟩ := elet_some h
      have p1 : GR T T23 := GR.tr p0 (by rw [eT23]; exact gr_sp sp_uC)
      obtain ⟨v24, ev24, h⟩ := elet_some h
      exact GR.tr p1 (ih _ _ _ _ h)
set_option maxHeartbeats 4000000 in
set_option maxRecDepth 100000 in
theorem sr_X10_copyFrom_b8 {T1 : AT} : ∀ (T : AT) (l0 : Nat) (l1 : Nat), g_X10_copyFrom_b8 T l0 l1 = some T1 → GR T T1 := by
  intro T l0 l1 h
  have p0 := GR.rf T
  unfold g_X10_copyFrom_b8 at h
  obtain ⟨g2, h⟩ := oif_some h
  obtain ⟨v3, -, h⟩ := elet_some h
  obtain ⟨g4, h⟩ := oif_some h
  obtain ⟨T5, eT5, h⟩ := elet_some h
  have p1 : GR T T5 := GR.tr p0 (by rw [eT5]; exact gr_sp sp_uI)
  exact GR.tr p1 (sr_X10_copyFrom_b18 _ _ _ _ _ h)
set_option maxHeartbeats 4000000 in
set_option maxRecDepth 100000 in
theorem sr_X10_copyFrom {T : AT} {o : Nat} {a0 : Nat} {T1 : AT} (h : g_X10_copyFrom T o a0 = some T1) : GR T T1 := by
  have p0 := GR.rf T
  unfold g_X10_copyFrom at h
  obtain ⟨g2, h⟩ := oif_some h
  obtain ⟨v3, -, h⟩ := elet_some h
  obtain ⟨g4, h⟩ := oif_some h
  obtain ⟨T5, eT5, h⟩ := obind_some h
  have p1 : GR T T5 := GR.tr p0 (sr_X10_widenTo eT5)
  exact GR.tr p1 (sr_X10_copyFrom_b8 _ _ _ h)
set_option maxHeartbeats 4000000 in
set_option maxRecDepth 100000 in
theorem sr_X8_copyFrom_b147 {T1 : AT} : ∀ (T : AT), g_X8_copyFrom_b147 T = some T1 → GR T T1 := by
  intro T h
  have p0 := GR.rf T
  unfold g_X8_copyFrom_b147 at h
  rw [← osome1 h]
  exact p0
set_option maxHeartbeats 4000000 in
set_option maxRecDepth 100000 in
theorem sr_X8_copyFrom_b64 {T1 : AT} : ∀ n : Nat, ∀ (T : AT) (l0 : Nat) (l1 : Nat) (l2 : Int32), g_X8_copyFrom_b64 n T l0 l1 l2 = some T1 → GR T T1 := by
  intro n
  induction n with
  | zero =>
    intro T l0 l1 l2 h
    have h : (none : Option (AT)) = some T1 := h
    cases h
  | succ n ih =>
    intro T l0 l1 l2 h
    have p0 := GR.rf T
    unfold g_X8_copyFrom_b64 at h
    rcases oif_or h with ⟨c2, h⟩ | ⟨c2, h⟩
    · have h := h
      obtain ⟨g3, h⟩ := oif_some h
      obtain ⟨n4, en4, h⟩ := obind_some h
      obtain ⟨g5, h⟩ := oif_some h
      obtain ⟨n6, en6, h⟩ := obind_some h
      obtain ⟨g7, h⟩ := oif_some h
      obtain ⟨T8, eT8, h⟩ := obind_some h
      have p1 : GR T T8 := GR.tr p0 (sr_X10_copyFrom eT8)
      exact GR.tr p1 (sr_X8_copyFrom_b147 _ h)
    · have h := h
      obtain ⟨g10, h⟩ := oif_some h
      obtain ⟨n11, en11, h⟩ := obind_some h
      obtain ⟨g12, h⟩ := oif_some h
      obtain ⟨n13, en13, h⟩ := obind_some h
      obtain ⟨g14, h⟩ := oif_some h
      obtain ⟨g15, h⟩ := oif_some h
      obtain ⟨v16, -, h⟩ := elet_some h
      obtain ⟨g17, h⟩ := oif_some h
      obtain ⟨g18, h⟩ := oif_some h
      obtain ⟨gz, h⟩ := oif_some h
      obtain ⟨T19, eT19, h⟩ := elet_some h
      have p1 : GR T T19 := GR.tr p0 (by rw [eT19]; exact gr_sp sp_uI)
      obtain ⟨g20, h⟩ := oif_some h
      obtain ⟨n21, en21, h⟩ := obind_some h
      obtain ⟨g22, h⟩ := oif_some h
      obtain ⟨n23, en23, h⟩ := obind_some h
      obtain ⟨g24, h⟩ := oif_some h
      obtain ⟨g25, h⟩ := oif_some h
      obtain ⟨v26, -, h⟩ := elet_some h
      obtain ⟨g27, h⟩ := oif_some h
      obtain ⟨g28, h⟩ := oif_some h
      obtain ⟨T29, eT29, h⟩ := elet_some h
      have p2 : GR T T29 := GR.tr p1 (by rw [eT29]; exact gr_sp sp_uI)
      obtain ⟨g30, h⟩ := oif_some h
      obtain ⟨n31, en31, h⟩ := obind_some h
      obtain ⟨g32, h⟩ := oif_some h
      obtain ⟨n33, en33, h⟩ := obind_some h
      obtain ⟨g34, h⟩ := oif_some h
      obtain ⟨g35, h⟩ := oif_some h
      obtain ⟨v36, -, h⟩ := elet_some h
      obtain ⟨g37, h⟩ := oif_some h
      obtain ⟨g38, h⟩ := oif_some h
      obtain ⟨T39, eT39, h⟩ := elet_some h
      have p3 : GR T T39 := GR.tr p2 (by rw [eT39]; exact gr_sp sp_uI)
      obtain ⟨g40, h⟩ := oif_some h
      obtain ⟨n41, en41, h⟩ := obind_some h
      obtain ⟨g42, h⟩ := oif_some h
      obtain ⟨n43, en43, h⟩ := obind_some h
      obtain ⟨g44, h⟩ := oif_some h
      obtain ⟨g45, h⟩ := oif_some h
      obtain ⟨v46, -, h⟩ := elet_some h
      obtain ⟨g47, h⟩ := oif_some h
      obtain ⟨g48, h⟩ := oif_some h
      obtain ⟨T49, eT49, h⟩ := elet_some h
      have p4 : GR T T49 := GR.tr p3 (by rw [eT49]; exact gr_sp sp_uI)
      obtain ⟨g50, h⟩ := oif_some h
      obtain ⟨n51, en51, h⟩ := obind_some h
      obtain ⟨g52, h⟩ := oif_some h
      obtain ⟨n53, en53, h⟩ := obind_some h
      obtain ⟨g54, h⟩ := oif_some h
      obtain ⟨g55, h⟩ := oif_some h
      obtain ⟨v56, -, h⟩ := elet_some h
      obtain ⟨g57, h⟩ := oif_some h
      obtain ⟨g58, h⟩ := oif_some h
      obtain ⟨T59, eT59, h⟩ := elet_some h
      have p5 : GR T T59 := GR.tr p4 (by rw [eT59]; exact gr_sp sp_uI)
      obtain ⟨v60, ev60, h⟩ := elet_some h
      exact GR.tr p5 (ih _ _ _ _ h)
set_option maxHeartbeats 4000000 in
set_option maxRecDepth 100000 in
theorem sr_X8_copyFrom_b26 {T1 : AT} : ∀ n : Nat, ∀ (T : AT) (l0 : Nat) (l1 : Nat) (l2 : Int32), g_X8_copyFrom_b26 n T l0 l1 l2 = some T1 → GR T T1 := by
  intro n
  induction n with
  | zero =>
    intro T l0 l1 l2 h
    have h : (none : Option (AT)) = some T1 := h
    cases h
  | succ n ih =>
    intro T l0 l1 l2 h
    have p0 := GR.rf T
    unfold g_X8_copyFrom_b26 at h
    rcases oif_or h with ⟨c2, h⟩ | ⟨c2, h⟩
    · have h := h
      exact GR.tr p0 (sr_X8_copyFrom_b64 _ _ _ _ _ h)
    · have h := h
      obtain ⟨g3, h⟩ := oif_some h
      obtain ⟨n4, en4, h⟩ := obind_some h
      obtain ⟨g5, h⟩ := oif_some h
      obtain ⟨n6, en6, h⟩ := obind_some h
      obtain ⟨g7, h⟩ := oif_some h
      obtain ⟨g8, h⟩ := oif_some h
      obtain ⟨v9, -, h⟩ := elet_some h
      obtain ⟨g10, h⟩ := oif_some h
      obtain ⟨g11, h⟩ := oif_some h
      obtain ⟨gz, h⟩ := oif_some h
      obtain ⟨T12, eT12, h⟩ := elet_some h
      have p1 : GR T T12 := GR.tr p0 (by rw [eT12]; exact gr_sp sp_uI)
      obtain ⟨g13, h⟩ := oif_some h
      obtain ⟨n14, en14, h⟩ := obind_some h
      obtain ⟨g15, h⟩ := oif_some h
      obtain ⟨n16, en16, h⟩ := obind_some h
      obtain ⟨g17, h⟩ := oif_some h
      obtain ⟨g18, h⟩ := oif_some h
      obtain ⟨v19, -, h⟩ := elet_some h
      obtain ⟨g20, h⟩ := oif_some h
      obtain ⟨g21, h⟩ := oif_some h
      obtain ⟨T22, eT22, h⟩ := elet_some h
      have p2 : GR T T22 := GR.tr p1 (by rw [eT22]; exact gr_sp sp_uI)
      obtain ⟨v23, ev23, h⟩ := elet_some h
      exact GR.tr p2 (ih _ _ _ _ h)
set_option maxHeartbeats 4000000 in
set_option maxRecDepth 100000 in
theorem sr_X8_copyFrom {T : AT} {o : Nat} {a0 : Nat} {T1 : AT} (h : g_X8_copyFrom T o a0 = some T1) : GR T T1 := by
  have p0 := GR.rf T
  unfold g_X8_copyFrom at h
  obtain ⟨g2, h⟩ := oif_some h
  obtain ⟨v3, -, h⟩ := elet_some h
  obtain ⟨g4, h⟩ := oif_some h
  obtain ⟨T5, eT5, h⟩ := elet_some h
  have p1 : GR T T5 := GR.tr p0 (by rw [eT5]; exact gr_sp sp_uI)
  obtain ⟨g6, h⟩ := oif_some h
  obtain ⟨v7, -, h⟩ := elet_some h
  obtain ⟨g8, h⟩ := oif_some h
  obtain ⟨T9, eT9, h⟩ := elet_some h
  have p2 : GR T T9 := GR.tr p1 (by rw [eT9]; exact gr_sp sp_uI)
  obtain ⟨g10, h⟩ := oif_some h
  obtain ⟨v11, -, h⟩ := elet_some h
  obtain ⟨g12, h⟩ := oif_some h
  obtain ⟨T13, eT13, h⟩ := elet_some h
  have p3 : GR T T13 := GR.tr p2 (by rw [eT13]; exact gr_sp sp_uI)
  exact GR.tr p3 (sr_X8_copyFrom_b26 _ _ _ _ _ h)
set_option maxHeartbeats 4000000 in
set_option maxRecDepth 100000 in
theorem sr_X8_powerOf_b13 {T1 : AT} : ∀ (T : AT), g_X8_powerOf_b13 T = some T1 → GR T T1 := by
  intro T h
  have p0 := GR.rf T
  unfold g_X8_powerOf_b13 at h
  rw [← osome1 h]
  exact p0
set_option maxHeartbeats 4000000 in
set_option maxRecDepth 100000 in
theorem sr_X8_powerOf {T : AT} {o : Nat} {a0 : Nat} {a1 : Nat} {a2 : Int32} {T1 : AT} (h : g_X8_powerOf T o a0 a1 a2 = some T1) : GR T T1 := by
  have p0 := GR.rf T
  unfold g_X8_powerOf at h
  obtain ⟨g2, h⟩ := oif_some h
  obtain ⟨r4, T3, eT3, h⟩ := obind2_some h
  have p1 : GR T T3 := GR.tr p0 (gr_sp (s_X8_windowOf eT3))
  obtain ⟨g5, h⟩ := oif_some h
  obtain ⟨T6, eT6, h⟩ := obind_some h
  have p2 : GR T T6 := GR.tr p1 (sr_X8_blockPowerOf eT6)
  exact GR.tr p2 (sr_X8_powerOf_b13 _ h)
set_option maxHeartbeats 4000000 in
set_option maxRecDepth 100000 in
theorem sr_X8_productSum_b50 {T1 : AT} {k10 : AT → Nat → Int32 → Int32 → Int32 → Nat → Int32 → Int32 → Option (AT)} (hk10 : ∀ (T : AT) (l0 : Nat) (l1 : Int32) (l2 : Int32) (l3 : Int32) (l4 : Nat) (l5 : Int32) (l6 : Int32), k10 T l0 l1 l2 l3 l4 l5 l6 = some T1 → GR T T1) : ∀ (T : AT) (l0 : Nat) (l1 : Int32) (l2 : Int32) (l3 : Int32) (l4 : Nat) (l5 : Int32) (l6 : Int32), g_X8_productSum_b50 k10 T l0 l1 l2 l3 l4 l5 l6 = some T1 → GR T T1 := by
  intro T l0 l1 l2 l3 l4 l5 l6 h
  have p0 := GR.rf T
  unfold g_X8_productSum_b50 at h
  obtain ⟨v2, ev2, h⟩ := elet_some h
  exact GR.tr p0 (hk10 _ _ _ _ _ _ _ _ h)
set_option maxHeartbeats 4000000 in
set_option maxRecDepth 100000 in
theorem sr_X8_productSum_b10 {T1 : AT} : ∀ n : Nat, ∀ (T : AT) (l0 : Nat) (l1 : Int32) (l2 : Int32) (l3 : Int32) (l4 : Nat) (l5 : Int32) (l6 : Int32), g_X8_productSum_b10 n T l0 l1 l2 l3 l4 l5 l6 = some T1 → GR T T1 := by
  intro n
  induction n with
  | zero =>
    intro T l0 l1 l2 l3 l4 l5 l6 h
    have h : (none : Option (AT)) = some T1 := h
    cases h
  | succ n ih =>
    intro T l0 l1 l2 l3 l4 l5 l6 h
    have p0 := GR.rf T
    unfold g_X8_productSum_b10 at h
    obtain ⟨v2, -, h⟩ := elet_some h
    obtain ⟨g3, h⟩ := oif_some h
    obtain ⟨v4, -, h⟩ := elet_some h
    rcases oif_or h with ⟨c5, h⟩ | ⟨c5, h⟩
    · have h := h
      rw [← osome1 h]
      exact p0
    · have h := h
      obtain ⟨g6, h⟩ := oif_some h
      obtain ⟨n7, en7, h⟩ := obind_some h
      obtain ⟨r8, -, h⟩ := obind_some h
      obtain ⟨g9, h⟩ := oif_some h
      obtain ⟨n10, en10, h⟩ := obind_some h
      obtain ⟨v11, -, h⟩ := elet_some h
      obtain ⟨r12, -, h⟩ := obind_some h
      obtain ⟨g13, h⟩ := oif_some h
      obtain ⟨T14, eT14, h⟩ := obind_some h
      have p1 : GR T T14 := GR.tr p0 (sr_X10_addProduct eT14)
      exact GR.tr p1 (sr_X8_productSum_b50 ih _ _ _ _ _ _ _ _ h)
set_option maxHeartbeats 4000000 in
set_option maxRecDepth 100000 in
theorem sr_X8_productSum {T : AT} {o : Nat} {a0 : Int32} {a1 : Int32} {a2 : Int32} {a3 : Nat} {a4 : Int32} {T1 : AT} (h : g_X8_productSum T o a0 a1 a2 a3 a4 = some T1) : GR T T1 := by
  have p0 := GR.rf T
  unfold g_X8_productSum at h
  obtain ⟨g2, h⟩ := oif_some h
  obtain ⟨T3, eT3, h⟩ := obind_some h
  have p1 : GR T T3 := GR.tr p0 (gr_sp (s_X10_clear eT3))
  exact GR.tr p1 (sr_X8_productSum_b10 _ _ _ _ _ _ _ _ _ h)
set_option maxHeartbeats 4000000 in
set_option maxRecDepth 100000 in
theorem sr_X10_multiply_b34 {T1 : AT} : ∀ (T : AT), g_X10_multiply_b34 T = some T1 → GR T T1 := by
  intro T h
  have p0 := GR.rf T
  unfold g_X10_multiply_b34 at h
  rw [← osome1 h]
  exact p0
set_option maxHeartbeats 4000000 in
set_option maxRecDepth 100000 in
theorem sr_X10_multiply_b2 {T1 : AT} : ∀ n : Nat, ∀ (T : AT) (l0 : Nat) (l1 : Int32) (l2 : Int32) (l3 : Int32), g_X10_multiply_b2 n T l0 l1 l2 l3 = some T1 → GR T T1 := by
  intro n
  induction n with
  | zero =>
    intro T l0 l1 l2 l3 h
    have h : (none : Option (AT)) = some T1 := h
    cases h
  | succ n ih =>
    intro T l0 l1 l2 l3 h
    have p0 := GR.rf T
    unfold g_X10_multiply_b2 at h
    obtain ⟨g2, h⟩ := oif_some h
    obtain ⟨v3, -, h⟩ := elet_some h
    rcases oif_or h with ⟨c4, h⟩ | ⟨c4, h⟩
    · have h := h
      obtain ⟨g5, h⟩ := oif_some h
      obtain ⟨T6, eT6, h⟩ := obind_some h
      have p1 : GR T T6 := GR.tr p0 (sr_X10_settle eT6)
      exact GR.tr p1 (sr_X10_multiply_b34 _ h)
    · have h := h
      obtain ⟨g8, h⟩ := oif_some h
      obtain ⟨n9, en9, h⟩ := obind_some h
      obtain ⟨g10, h⟩ := oif_some h
      obtain ⟨g11, h⟩ := oif_some h
      obtain ⟨n12, en12, h⟩ := obind_some h
      obtain ⟨g13, h⟩ := oif_some h
      obtain ⟨g14, h⟩ := oif_some h
      obtain ⟨v15, -, h⟩ := elet_some h
      obtain ⟨v16, -, h⟩ := elet_some h
      obtain ⟨v17, -, h⟩ := elet_some h
      obtain ⟨g18, h⟩ := oif_some h
      obtain ⟨g19, h⟩ := oif_some h
      obtain ⟨T20, eT20, h⟩ := elet_some h
      have p1 : GR T T20 := GR.tr p0 (by rw [eT20]; exact gr_sp sp_uJ)
      obtain ⟨v21, ev21, h⟩ := elet_some h
      exact GR.tr p1 (ih _ _ _ _ _ h)
set_option maxHeartbeats 4000000 in
set_option maxRecDepth 100000 in
theorem sr_X10_multiply {T : AT} {o : Nat} {a0 : Int32} {a1 : Int32} {T1 : AT} (h : g_X10_multiply T o a0 a1 = some T1) : GR T T1 := by
  have p0 := GR.rf T
  unfold g_X10_multiply at h
  exact GR.tr p0 (sr_X10_multiply_b2 _ _ _ _ _ _ h)
set_option maxHeartbeats 4000000 in
set_option maxRecDepth 100000 in
theorem sr_X8_subtractBeam_b115 {T1 : AT} {k18 : AT → Nat → Nat → Int32 → Int32 → Int32 → Int32 → Option (AT)} {k53 : AT → Nat → Nat → Int32 → Int32 → Int32 → Int32 → Int32 → Option (AT)} (hk18 : ∀ (T : AT) (l0 : Nat) (l1 : Nat) (l2 : Int32) (l3 : Int32) (l4 : Int32) (l5 : Int32), k18 T l0 l1 l2 l3 l4 l5 = some T1 → GR T T1) (hk53 : ∀ (T : AT) (l0 : Nat) (l1 : Nat) (l2 : Int32) (l3 : Int32) (l4 : Int32) (l5 : Int32) (l6 : Int32), k53 T l0 l1 l2 l3 l4 l5 l6 = some T1 → GR T T1) : ∀ (T : AT) (l0 : Nat) (l1 : Nat) (l2 : Int32) (l3 : Int32) (l4 : Int32) (l5 : Int32) (l6 : Int32), g_X8_subtractBeam_b115 k18 k53 T l0 l1 l2 l3 l4 l5 l6 = some T1 → GR T T1 := by
  intro T l0 l1 l2 l3 l4 l5 l6 h
  have p0 := GR.rf T
  unfold g_X8_subtractBeam_b115 at h
  obtain ⟨v2, ev2, h⟩ := elet_some h
  exact GR.tr p0 (hk53 _ _ _ _ _ _ _ _ h)
set_option maxHeartbeats 4000000 in
set_option maxRecDepth 100000 in
theorem sr_X8_subtractBeam_b53 {T1 : AT} {k18 : AT → Nat → Nat → Int32 → Int32 → Int32 → Int32 → Option (AT)} (hk18 : ∀ (T : AT) (l0 : Nat) (l1 : Nat) (l2 : Int32) (l3 : Int32) (l4 : Int32) (l5 : Int32), k18 T l0 l1 l2 l3 l4 l5 = some T1 → GR T T1) : ∀ n : Nat, ∀ (T : AT) (l0 : Nat) (l1 : Nat) (l2 : Int32) (l3 : Int32) (l4 : Int32) (l5 : Int32) (l6 : Int32), g_X8_subtractBeam_b53 k18 n T l0 l1 l2 l3 l4 l5 l6 = some T1 → GR T T1 := by
  intro n
  induction n with
  | zero =>
    intro T l0 l1 l2 l3 l4 l5 l6 h
    have h : (none : Option (AT)) = some T1 := h
    cases h
  | succ n ih =>
    intro T l0 l1 l2 l3 l4 l5 l6 h
    have p0 := GR.rf T
    unfold g_X8_subtractBeam_b53 at h
    obtain ⟨g2, h⟩ := oif_some h
    obtain ⟨v3, -, h⟩ := elet_some h
    rcases oif_or h with ⟨c4, h⟩ | ⟨c4, h⟩
    · have h := h
      obtain ⟨v5, ev5, h⟩ := elet_some h
      exact GR.tr p0 (hk18 _ _ _ _ _ _ _ h)
    · have h := h
      obtain ⟨g6, h⟩ := oif_some h
      obtain ⟨g7, h⟩ := oif_some h
      obtain ⟨v8, -, h⟩ := elet_some h
      obtain ⟨v9, -, h⟩ := elet_some h
      obtain ⟨g10, h⟩ := oif_some h
      obtain ⟨n11, en11, h⟩ := obind_some h
      obtain ⟨g12, h⟩ := oif_some h
      obtain ⟨g13, h⟩ := oif_some h
      obtain ⟨v14, -, h⟩ := elet_some h
      rcases oif_or h with ⟨c15, h⟩ | ⟨c15, h⟩
      · have h := h
        rcases oif_or h with ⟨c16, h⟩ | ⟨c16, h⟩
        · have h := h
          exact GR.tr p0 (sr_X8_subtractBeam_b115 hk18 ih _ _ _ _ _ _ _ _ h)
        · have h := h
          obtain ⟨g17, h⟩ := oif_some h
          obtain ⟨v18, -, h⟩ := elet_some h
          rcases oif_or h with ⟨c19, h⟩ | ⟨c19, h⟩
          · have h := h
            exact GR.tr p0 (sr_X8_subtractBeam_b115 hk18 ih _ _ _ _ _ _ _ _ h)
          · have h := h
            obtain ⟨g20, h⟩ := oif_some h
            obtain ⟨n21, en21, h⟩ := obind_some h
            obtain ⟨r22, -, h⟩ := obind_some h
            obtain ⟨g23, h⟩ := oif_some h
            obtain ⟨n24, en24, h⟩ := obind_some h
            obtain ⟨g25, h⟩ := oif_some h
            obtain ⟨T26, eT26, h⟩ := obind_some h
            have p1 : GR T T26 := GR.tr p0 (sr_X10_add eT26)
            exact GR.tr p1 (sr_X8_subtractBeam_b115 hk18 ih _ _ _ _ _ _ _ _ h)
      · have h := h
        exact GR.tr p0 (sr_X8_subtractBeam_b115 hk18 ih _ _ _ _ _ _ _ _ h)
set_option maxHeartbeats 4000000 in
set_option maxRecDepth 100000 in
theorem sr_X8_subtractBeam_b50 {T1 : AT} {k18 : AT → Nat → Nat → Int32 → Int32 → Int32 → Int32 → Option (AT)} (hk18 : ∀ (T : AT) (l0 : Nat) (l1 : Nat) (l2 : Int32) (l3 : Int32) (l4 : Int32) (l5 : Int32), k18 T l0 l1 l2 l3 l4 l5 = some T1 → GR T T1) : ∀ (T : AT) (l0 : Nat) (l1 : Nat) (l2 : Int32) (l3 : Int32) (l4 : Int32) (l5 : Int32), g_X8_subtractBeam_b50 k18 T l0 l1 l2 l3 l4 l5 = some T1 → GR T T1 := by
  intro T l0 l1 l2 l3 l4 l5 h
  have p0 := GR.rf T
  unfold g_X8_subtractBeam_b50 at h
  exact GR.tr p0 (sr_X8_subtractBeam_b53 hk18 _ _ _ _ _ _ _ _ _ h)
set_option maxHeartbeats 4000000 in
set_option maxRecDepth 100000 in
theorem sr_X8_subtractBeam_b41 {T1 : AT} {k18 : AT → Nat → Nat → Int32 → Int32 → Int32 → Int32 → Option (AT)} (hk18 : ∀ (T : AT) (l0 : Nat) (l1 : Nat) (l2 : Int32) (l3 : Int32) (l4 : Int32) (l5 : Int32), k18 T l0 l1 l2 l3 l4 l5 = some T1 → GR T T1) : ∀ (T : AT) (l0 : Nat) (l1 : Nat) (l2 : Int32) (l3 : Int32) (l4 : Int32) (l5 : Int32), g_X8_subtractBeam_b41 k18 T l0 l1 l2 l3 l4 l5 = some T1 → GR T T1 := by
  intro T l0 l1 l2 l3 l4 l5 h
  have p0 := GR.rf T
  unfold g_X8_subtractBeam_b41 at h
  obtain ⟨g2, h⟩ := oif_some h
  obtain ⟨n3, en3, h⟩ := obind_some h
  obtain ⟨g4, h⟩ := oif_some h
  obtain ⟨T5, eT5, h⟩ := obind_some h
  have p1 : GR T T5 := GR.tr p0 (sr_X10_divide eT5)
  exact GR.tr p1 (sr_X8_subtractBeam_b50 hk18 _ _ _ _ _ _ _ h)
set_option maxHeartbeats 4000000 in
set_option maxRecDepth 100000 in
theorem sr_X8_subtractBeam_b32 {T1 : AT} {k18 : AT → Nat → Nat → Int32 → Int32 → Int32 → Int32 → Option (AT)} (hk18 : ∀ (T : AT) (l0 : Nat) (l1 : Nat) (l2 : Int32) (l3 : Int32) (l4 : Int32) (l5 : Int32), k18 T l0 l1 l2 l3 l4 l5 = some T1 → GR T T1) : ∀ (T : AT) (l0 : Nat) (l1 : Nat) (l2 : Int32) (l3 : Int32) (l4 : Int32) (l5 : Int32), g_X8_subtractBeam_b32 k18 T l0 l1 l2 l3 l4 l5 = some T1 → GR T T1 := by
  intro T l0 l1 l2 l3 l4 l5 h
  have p0 := GR.rf T
  unfold g_X8_subtractBeam_b32 at h
  obtain ⟨g2, h⟩ := oif_some h
  obtain ⟨n3, en3, h⟩ := obind_some h
  obtain ⟨g4, h⟩ := oif_some h
  obtain ⟨T5, eT5, h⟩ := obind_some h
  have p1 : GR T T5 := GR.tr p0 (sr_X10_multiply eT5)
  exact GR.tr p1 (sr_X8_subtractBeam_b41 hk18 _ _ _ _ _ _ _ h)
set_option maxHeartbeats 4000000 in
set_option maxRecDepth 100000 in
theorem sr_X8_subtractBeam_b18 {T1 : AT} : ∀ n : Nat, ∀ (T : AT) (l0 : Nat) (l1 : Nat) (l2 : Int32) (l3 : Int32) (l4 : Int32) (l5 : Int32), g_X8_subtractBeam_b18 n T l0 l1 l2 l3 l4 l5 = some T1 → GR T T1 := by
  intro n
  induction n with
  | zero =>
    intro T l0 l1 l2 l3 l4 l5 h
    have h : (none : Option (AT)) = some T1 := h
    cases h
  | succ n ih =>
    intro T l0 l1 l2 l3 l4 l5 h
    have p0 := GR.rf T
    unfold g_X8_subtractBeam_b18 at h
    rcases oif_or h with ⟨c2, h⟩ | ⟨c2, h⟩
    · have h := h
      obtain ⟨g3, h⟩ := oif_some h
      obtain ⟨v4, -, h⟩ := elet_some h
      obtain ⟨v5, -, h⟩ := elet_some h
      obtain ⟨g6, h⟩ := oif_some h
      obtain ⟨T7, eT7, h⟩ := elet_some h
      have p1 : GR T T7 := GR.tr p0 (by rw [eT7]; exact gr_sp sp_uI)
      rw [← osome1 h]
      exact p1
    · have h := h
      obtain ⟨g8, h⟩ := oif_some h
      obtain ⟨T9, eT9, h⟩ := obind_some h
      have p1 : GR T T9 := GR.tr p0 (sr_X8_focus eT9)
      exact GR.tr p1 (sr_X8_subtractBeam_b32 ih _ _ _ _ _ _ _ h)
set_option maxHeartbeats 4000000 in
set_option maxRecDepth 100000 in
theorem sr_X8_subtractBeam {T : AT} {o : Nat} {a0 : Nat} {a1 : Int32} {T1 : AT} (h : g_X8_subtractBeam T o a0 a1 = some T1) : GR T T1 := by
  have p0 := GR.rf T
  unfold g_X8_subtractBeam at h
  obtain ⟨g2, h⟩ := oif_some h
  obtain ⟨r4, T3, eT3, h⟩ := obind2_some h
  have p1 : GR T T3 := GR.tr p0 (gr_sp (s_X8_activeWeight eT3))
  obtain ⟨v5, -, h⟩ := elet_some h
  obtain ⟨g6, h⟩ := oif_some h
  obtain ⟨r8, T7, eT7, h⟩ := obind2_some h
  have p2 : GR T T7 := GR.tr p1 (gr_sp (s_X8_windowOf eT7))
  exact GR.tr p2 (sr_X8_subtractBeam_b18 _ _ _ _ _ _ _ _ h)
set_option maxHeartbeats 4000000 in
set_option maxRecDepth 100000 in
theorem sr_X11_begin_b48 {T1 : AT} : ∀ n : Nat, ∀ (T : AT) (l0 : Nat) (l1 : Int32), g_X11_begin_b48 n T l0 l1 = some T1 → GR T T1 := by
  intro n
  induction n with
  | zero =>
    intro T l0 l1 h
    have h : (none : Option (AT)) = some T1 := h
    cases h
  | succ n ih =>
    intro T l0 l1 h
    have p0 := GR.rf T
    unfold g_X11_begin_b48 at h
    rcases oif_or h with ⟨c2, h⟩ | ⟨c2, h⟩
    · have h := h
      rw [← osome1 h]
      exact p0
    · have h := h
      obtain ⟨g3, h⟩ := oif_some h
      obtain ⟨n4, en4, h⟩ := obind_some h
      obtain ⟨g5, h⟩ := oif_some h
      obtain ⟨g6, h⟩ := oif_some h
      obtain ⟨T7, eT7, h⟩ := elet_some h
      have p1 : GR T T7 := GR.tr p0 (by rw [eT7]; exact gr_sp sp_uI)
      obtain ⟨v8, ev8, h⟩ := elet_some h
      exact GR.tr p1 (ih _ _ _ h)
set_option maxHeartbeats 4000000 in
set_option maxRecDepth 100000 in
theorem sr_X11_begin_b33 {T1 : AT} : ∀ (T : AT) (l0 : Nat), g_X11_begin_b33 T l0 = some T1 → GR T T1 := by
  intro T l0 h
  have p0 := GR.rf T
  unfold g_X11_begin_b33 at h
  obtain ⟨g2, h⟩ := oif_some h
  obtain ⟨T3, eT3, h⟩ := elet_some h
  have p1 : GR T T3 := GR.tr p0 (by rw [eT3]; exact gr_sp sp_uI)
  obtain ⟨g4, h⟩ := oif_some h
  obtain ⟨n5, en5, h⟩ := obind_some h
  obtain ⟨g6, h⟩ := oif_some h
  obtain ⟨T7, eT7, h⟩ := elet_some h
  have p2 : GR T T7 := GR.tr p1 (by rw [eT7]; exact gr_sp sp_uI)
  exact GR.tr p2 (sr_X11_begin_b48 _ _ _ _ h)
set_option maxHeartbeats 4000000 in
set_option maxRecDepth 100000 in
theorem sr_X11_begin {T : AT} {o : Nat} {T1 : AT} (h : g_X11_begin T o = some T1) : GR T T1 := by
  have p0 := GR.rf T
  unfold g_X11_begin at h
  obtain ⟨g2, h⟩ := oif_some h
  obtain ⟨n3, en3, h⟩ := obind_some h
  obtain ⟨g4, h⟩ := oif_some h
  obtain ⟨T5, eT5, h⟩ := obind_some h
  have p1 : GR T T5 := GR.tr p0 (gr_sp (s_X6_measureDelays eT5))
  obtain ⟨g7, h⟩ := oif_some h
  obtain ⟨n8, en8, h⟩ := obind_some h
  obtain ⟨g9, h⟩ := oif_some h
  obtain ⟨n10, en10, h⟩ := obind_some h
  obtain ⟨g11, h⟩ := oif_some h
  obtain ⟨T12, eT12, h⟩ := obind_some h
  have p2 : GR T T12 := GR.tr p1 (gr_sp (s_X8_begin eT12))
  obtain ⟨g14, h⟩ := oif_some h
  obtain ⟨n15, en15, h⟩ := obind_some h
  obtain ⟨g16, h⟩ := oif_some h
  obtain ⟨n17, en17, h⟩ := obind_some h
  obtain ⟨g18, h⟩ := oif_some h
  obtain ⟨n19, en19, h⟩ := obind_some h
  obtain ⟨g20, h⟩ := oif_some h
  obtain ⟨T21, eT21, h⟩ := obind_some h
  have p3 : GR T T21 := GR.tr p2 (sr_X5_record eT21)
  exact GR.tr p3 (sr_X11_begin_b33 _ _ h)
set_option maxHeartbeats 4000000 in
set_option maxRecDepth 100000 in
theorem sr_X11_beam_b49 {e1 : Nat} {r1 : Int32} {T1 : AT} : ∀ (T : AT) (l0 : Nat), g_X11_beam_b49 T l0 = some (e1, r1, T1) → GR T T1 := by
  intro T l0 h
  have p0 := GR.rf T
  unfold g_X11_beam_b49 at h
  obtain ⟨g2, h⟩ := oif_some h
  obtain ⟨n3, en3, h⟩ := obind_some h
  obtain ⟨g4, h⟩ := oif_some h
  obtain ⟨n5, en5, h⟩ := obind_some h
  obtain ⟨g6, h⟩ := oif_some h
  obtain ⟨r8, T7, eT7, h⟩ := obind2_some h
  have p1 : GR T T7 := GR.tr p0 (gr_sp (s_X10_value eT7))
  obtain ⟨v9, -, h⟩ := elet_some h
  rw [← (osome3 h).2.2]
  exact p1
set_option maxHeartbeats 4000000 in
set_option maxRecDepth 100000 in
theorem sr_X11_beam {T : AT} {o : Nat} {a0 : Int32} {a1 : Int32} {e1 : Nat} {r1 : Int32} {T1 : AT} (h : g_X11_beam T o a0 a1 = some (e1, r1, T1)) : GR T T1 := by
  have p0 := GR.rf T
  unfold g_X11_beam at h
  obtain ⟨g2, h⟩ := oif_some h
  rcases othr_s h with ⟨k9, r9, e9, -⟩ | ⟨r4, T3, eT3, h⟩
  · exact GR.tr p0 (gr_sp (s_X11_needCamera e9))
  have p1 : GR T T3 := GR.tr p0 (gr_sp (s_X11_needCamera eT3))
  obtain ⟨g5, h⟩ := oif_some h
  rcases othr_s h with ⟨k9, r9, e9, -⟩ | ⟨r7, T6, eT6, h⟩
  · exact GR.tr p1 (gr_sp (s_X11_needCell e9))
  have p2 : GR T T6 := GR.tr p1 (gr_sp (s_X11_needCell eT6))
  obtain ⟨g8, h⟩ := oif_some h
  obtain ⟨n9, en9, h⟩ := obind_some h
  obtain ⟨g10, h⟩ := oif_some h
  obtain ⟨n11, en11, h⟩ := obind_some h
  obtain ⟨g12, h⟩ := oif_some h
  obtain ⟨n13, en13, h⟩ := obind_some h
  obtain ⟨g14, h⟩ := oif_some h
  obtain ⟨g15, h⟩ := oif_some h
  obtain ⟨n16, en16, h⟩ := obind_some h
  obtain ⟨g17, h⟩ := oif_some h
  obtain ⟨r19, T18, eT18, h⟩ := obind2_some h
  have p3 : GR T T18 := GR.tr p2 (gr_sp (s_X8_windowOf eT18))
  obtain ⟨v20, -, h⟩ := elet_some h
  rcases othr_s h with ⟨k9, r9, e9, -⟩ | ⟨r22, T21, eT21, h⟩
  · exact GR.tr p3 (gr_sp (s_X11_needRange e9))
  have p4 : GR T T21 := GR.tr p3 (gr_sp (s_X11_needRange eT21))
  obtain ⟨g23, h⟩ := oif_some h
  obtain ⟨n24, en24, h⟩ := obind_some h
  obtain ⟨g25, h⟩ := oif_some h
  obtain ⟨n26, en26, h⟩ := obind_some h
  obtain ⟨g27, h⟩ := oif_some h
  obtain ⟨n28, en28, h⟩ := obind_some h
  obtain ⟨g29, h⟩ := oif_some h
  obtain ⟨g30, h⟩ := oif_some h
  obtain ⟨n31, en31, h⟩ := obind_some h
  obtain ⟨g32, h⟩ := oif_some h
  obtain ⟨T33, eT33, h⟩ := obind_some h
  have p5 : GR T T33 := GR.tr p4 (sr_X8_focus eT33)
  exact GR.tr p5 (sr_X11_beam_b49 _ _ h)
set_option maxHeartbeats 4000000 in
set_option maxRecDepth 100000 in
theorem sr_X11_powersNow_b33 {r1 : Nat} {T1 : AT} : ∀ (T : AT) (l0 : Nat), g_X11_powersNow_b33 T l0 = some (r1, T1) → GR T T1 := by
  intro T l0 h
  have p0 := GR.rf T
  unfold g_X11_powersNow_b33 at h
  obtain ⟨g2, h⟩ := oif_some h
  obtain ⟨n3, en3, h⟩ := obind_some h
  rw [← (osome2 h).2]
  exact p0
set_option maxHeartbeats 4000000 in
set_option maxRecDepth 100000 in
theorem sr_X11_powersNow_b25 {r1 : Nat} {T1 : AT} : ∀ (T : AT) (l0 : Nat), g_X11_powersNow_b25 T l0 = some (r1, T1) → GR T T1 := by
  intro T l0 h
  have p0 := GR.rf T
  unfold g_X11_powersNow_b25 at h
  obtain ⟨g2, h⟩ := oif_some h
  obtain ⟨n3, en3, h⟩ := obind_some h
  obtain ⟨g4, h⟩ := oif_some h
  obtain ⟨T5, eT5, h⟩ := elet_some h
  have p1 : GR T T5 := GR.tr p0 (by rw [eT5]; exact gr_sp sp_uI)
  exact GR.tr p1 (sr_X11_powersNow_b33 _ _ h)
set_option maxHeartbeats 4000000 in
set_option maxRecDepth 100000 in
theorem sr_X11_powersNow {T : AT} {o : Nat} {r1 : Nat} {T1 : AT} (h : g_X11_powersNow T o = some (r1, T1)) : GR T T1 := by
  have p0 := GR.rf T
  unfold g_X11_powersNow at h
  obtain ⟨g2, h⟩ := oif_some h
  obtain ⟨n3, en3, h⟩ := obind_some h
  obtain ⟨g4, h⟩ := oif_some h
  obtain ⟨v5, -, h⟩ := elet_some h
  rcases oif_or h with ⟨c6, h⟩ | ⟨c6, h⟩
  · have h := h
    obtain ⟨g7, h⟩ := oif_some h
    obtain ⟨n8, en8, h⟩ := obind_some h
    obtain ⟨g9, h⟩ := oif_some h
    obtain ⟨n10, en10, h⟩ := obind_some h
    obtain ⟨g11, h⟩ := oif_some h
    obtain ⟨n12, en12, h⟩ := obind_some h
    obtain ⟨g13, h⟩ := oif_some h
    obtain ⟨T14, eT14, h⟩ := obind_some h
    have p1 : GR T T14 := GR.tr p0 (sr_X4_measure eT14)
    exact GR.tr p1 (sr_X11_powersNow_b25 _ _ h)
  · have h := h
    exact GR.tr p0 (sr_X11_powersNow_b33 _ _ h)
set_option maxHeartbeats 4000000 in
set_option maxRecDepth 100000 in
theorem sr_X11_power_b13 {e1 : Nat} {r1 : Int64} {T1 : AT} : ∀ (T : AT) (s0 : Nat) (l1 : Int32), g_X11_power_b13 T s0 l1 = some (e1, r1, T1) → GR T T1 := by
  intro T s0 l1 h
  have p0 := GR.rf T
  unfold g_X11_power_b13 at h
  obtain ⟨g2, h⟩ := oif_some h
  obtain ⟨n3, en3, h⟩ := obind_some h
  obtain ⟨g4, h⟩ := oif_some h
  obtain ⟨r6, T5, eT5, h⟩ := obind2_some h
  have p1 : GR T T5 := GR.tr p0 (gr_sp (s_X10_value eT5))
  rw [← (osome3 h).2.2]
  exact p1
set_option maxHeartbeats 4000000 in
set_option maxRecDepth 100000 in
theorem sr_X11_power {T : AT} {o : Nat} {a0 : Int32} {e1 : Nat} {r1 : Int64} {T1 : AT} (h : g_X11_power T o a0 = some (e1, r1, T1)) : GR T T1 := by
  have p0 := GR.rf T
  unfold g_X11_power at h
  obtain ⟨g2, h⟩ := oif_some h
  rcases othr_s h with ⟨k9, r9, e9, -⟩ | ⟨r4, T3, eT3, h⟩
  · exact GR.tr p0 (gr_sp (s_X11_needCamera e9))
  have p1 : GR T T3 := GR.tr p0 (gr_sp (s_X11_needCamera eT3))
  obtain ⟨g5, h⟩ := oif_some h
  rcases othr_s h with ⟨k9, r9, e9, -⟩ | ⟨r7, T6, eT6, h⟩
  · exact GR.tr p1 (gr_sp (s_X11_needCell e9))
  have p2 : GR T T6 := GR.tr p1 (gr_sp (s_X11_needCell eT6))
  obtain ⟨g8, h⟩ := oif_some h
  obtain ⟨r10, T9, eT9, h⟩ := obind2_some h
  obtain ⟨g11, h⟩ := oif_some h
  have p3 : GR T T9 := GR.tr p2 (sr_X11_powersNow eT9)
  exact GR.tr p3 (sr_X11_power_b13 _ _ _ h)
set_option maxHeartbeats 4000000 in
set_option maxRecDepth 100000 in
theorem sr_X11_powerAt_b53 {e1 : Nat} {r1 : Int64} {T1 : AT} : ∀ (T : AT) (l0 : Nat), g_X11_powerAt_b53 T l0 = some (e1, r1, T1) → GR T T1 := by
  intro T l0 h
  have p0 := GR.rf T
  unfold g_X11_powerAt_b53 at h
  obtain ⟨g2, h⟩ := oif_some h
  obtain ⟨n3, en3, h⟩ := obind_some h
  obtain ⟨g4, h⟩ := oif_some h
  obtain ⟨r6, T5, eT5, h⟩ := obind2_some h
  have p1 : GR T T5 := GR.tr p0 (gr_sp (s_X10_value eT5))
  rw [← (osome3 h).2.2]
  exact p1
set_option maxHeartbeats 4000000 in
set_option maxRecDepth 100000 in
theorem sr_X11_powerAt {T : AT} {o : Nat} {a0 : Int32} {a1 : Int32} {e1 : Nat} {r1 : Int64} {T1 : AT} (h : g_X11_powerAt T o a0 a1 = some (e1, r1, T1)) : GR T T1 := by
  have p0 := GR.rf T
  unfold g_X11_powerAt at h
  obtain ⟨g2, h⟩ := oif_some h
  rcases othr_s h with ⟨k9, r9, e9, -⟩ | ⟨r4, T3, eT3, h⟩
  · exact GR.tr p0 (gr_sp (s_X11_needCamera e9))
  have p1 : GR T T3 := GR.tr p0 (gr_sp (s_X11_needCamera eT3))
  rcases othr_s h with ⟨k9, r9, e9, -⟩ | ⟨r6, T5, eT5, h⟩
  · exact GR.tr p1 (gr_sp (s_X11_needRange e9))
  have p2 : GR T T5 := GR.tr p1 (gr_sp (s_X11_needRange eT5))
  rcases othr_s h with ⟨k9, r9, e9, -⟩ | ⟨r8, T7, eT7, h⟩
  · exact GR.tr p2 (gr_sp (s_X11_needRange e9))
  have p3 : GR T T7 := GR.tr p2 (gr_sp (s_X11_needRange eT7))
  obtain ⟨g9, h⟩ := oif_some h
  obtain ⟨n10, en10, h⟩ := obind_some h
  obtain ⟨g11, h⟩ := oif_some h
  obtain ⟨n12, en12, h⟩ := obind_some h
  obtain ⟨g13, h⟩ := oif_some h
  obtain ⟨T14, eT14, h⟩ := obind_some h
  have p4 : GR T T14 := GR.tr p3 (gr_sp (s_X6_delaysFrom eT14))
  obtain ⟨g16, h⟩ := oif_some h
  obtain ⟨n17, en17, h⟩ := obind_some h
  obtain ⟨g18, h⟩ := oif_some h
  obtain ⟨n19, en19, h⟩ := obind_some h
  obtain ⟨g20, h⟩ := oif_some h
  obtain ⟨n21, en21, h⟩ := obind_some h
  obtain ⟨g22, h⟩ := oif_some h
  obtain ⟨T23, eT23, h⟩ := obind_some h
  have p5 : GR T T23 := GR.tr p4 (sr_X8_powerOf eT23)
  exact GR.tr p5 (sr_X11_powerAt_b53 _ _ h)
set_option maxHeartbeats 4000000 in
set_option maxRecDepth 100000 in
theorem sr_X11_best_b8 {e1 : Nat} {r1 : Int32} {T1 : AT} : ∀ (T : AT) (s0 : Nat), g_X11_best_b8 T s0 = some (e1, r1, T1) → GR T T1 := by
  intro T s0 h
  have p0 := GR.rf T
  unfold g_X11_best_b8 at h
  obtain ⟨g2, h⟩ := oif_some h
  obtain ⟨v3, -, h⟩ := elet_some h
  rw [← (osome3 h).2.2]
  exact p0
set_option maxHeartbeats 4000000 in
set_option maxRecDepth 100000 in
theorem sr_X11_best {T : AT} {o : Nat} {e1 : Nat} {r1 : Int32} {T1 : AT} (h : g_X11_best T o = some (e1, r1, T1)) : GR T T1 := by
  have p0 := GR.rf T
  unfold g_X11_best at h
  obtain ⟨g2, h⟩ := oif_some h
  rcases othr_s h with ⟨k9, r9, e9, -⟩ | ⟨r4, T3, eT3, h⟩
  · exact GR.tr p0 (gr_sp (s_X11_needCamera e9))
  have p1 : GR T T3 := GR.tr p0 (gr_sp (s_X11_needCamera eT3))
  obtain ⟨g5, h⟩ := oif_some h
  obtain ⟨r7, T6, eT6, h⟩ := obind2_some h
  obtain ⟨g8, h⟩ := oif_some h
  have p2 : GR T T6 := GR.tr p1 (sr_X11_powersNow eT6)
  exact GR.tr p2 (sr_X11_best_b8 _ _ h)
set_option maxHeartbeats 4000000 in
set_option maxRecDepth 100000 in
theorem sr_X11_bestPower_b8 {e1 : Nat} {r1 : Int64} {T1 : AT} : ∀ (T : AT) (s0 : Nat), g_X11_bestPower_b8 T s0 = some (e1, r1, T1) → GR T T1 := by
  intro T s0 h
  have p0 := GR.rf T
  unfold g_X11_bestPower_b8 at h
  obtain ⟨g2, h⟩ := oif_some h
  obtain ⟨n3, en3, h⟩ := obind_some h
  obtain ⟨g4, h⟩ := oif_some h
  obtain ⟨v5, -, h⟩ := elet_some h
  obtain ⟨g6, h⟩ := oif_some h
  obtain ⟨r8, T7, eT7, h⟩ := obind2_some h
  have p1 : GR T T7 := GR.tr p0 (gr_sp (s_X10_value eT7))
  rw [← (osome3 h).2.2]
  exact p1
set_option maxHeartbeats 4000000 in
set_option maxRecDepth 100000 in
theorem sr_X11_bestPower {T : AT} {o : Nat} {e1 : Nat} {r1 : Int64} {T1 : AT} (h : g_X11_bestPower T o = some (e1, r1, T1)) : GR T T1 := by
  have p0 := GR.rf T
  unfold g_X11_bestPower at h
  obtain ⟨g2, h⟩ := oif_some h
  rcases othr_s h with ⟨k9, r9, e9, -⟩ | ⟨r4, T3, eT3, h⟩
  · exact GR.tr p0 (gr_sp (s_X11_needCamera e9))
  have p1 : GR T T3 := GR.tr p0 (gr_sp (s_X11_needCamera eT3))
  obtain ⟨g5, h⟩ := oif_some h
  obtain ⟨r7, T6, eT6, h⟩ := obind2_some h
  obtain ⟨g8, h⟩ := oif_some h
  have p2 : GR T T6 := GR.tr p1 (sr_X11_powersNow eT6)
  exact GR.tr p2 (sr_X11_bestPower_b8 _ _ h)
set_option maxHeartbeats 4000000 in
set_option maxRecDepth 100000 in
theorem sr_X11_meanPower_b51 {e1 : Nat} {r1 : Int64} {T1 : AT} : ∀ (T : AT) (l0 : Nat), g_X11_meanPower_b51 T l0 = some (e1, r1, T1) → GR T T1 := by
  intro T l0 h
  have p0 := GR.rf T
  unfold g_X11_meanPower_b51 at h
  obtain ⟨g2, h⟩ := oif_some h
  obtain ⟨n3, en3, h⟩ := obind_some h
  obtain ⟨g4, h⟩ := oif_some h
  obtain ⟨r6, T5, eT5, h⟩ := obind2_some h
  have p1 : GR T T5 := GR.tr p0 (gr_sp (s_X10_value eT5))
  rw [← (osome3 h).2.2]
  exact p1
set_option maxHeartbeats 4000000 in
set_option maxRecDepth 100000 in
theorem sr_X11_meanPower_b33 {e1 : Nat} {r1 : Int64} {T1 : AT} : ∀ (T : AT) (l0 : Nat), g_X11_meanPower_b33 T l0 = some (e1, r1, T1) → GR T T1 := by
  intro T l0 h
  have p0 := GR.rf T
  unfold g_X11_meanPower_b33 at h
  obtain ⟨g2, h⟩ := oif_some h
  obtain ⟨n3, en3, h⟩ := obind_some h
  obtain ⟨g4, h⟩ := oif_some h
  obtain ⟨n5, en5, h⟩ := obind_some h
  obtain ⟨g6, h⟩ := oif_some h
  obtain ⟨n7, en7, h⟩ := obind_some h
  obtain ⟨g8, h⟩ := oif_some h
  obtain ⟨r10, T9, eT9, h⟩ := obind2_some h
  have p1 : GR T T9 := GR.tr p0 (gr_sp (s_X1_cells eT9))
  obtain ⟨g11, h⟩ := oif_some h
  obtain ⟨T12, eT12, h⟩ := obind_some h
  have p2 : GR T T12 := GR.tr p1 (sr_X10_divide eT12)
  exact GR.tr p2 (sr_X11_meanPower_b51 _ _ h)
set_option maxHeartbeats 4000000 in
set_option maxRecDepth 100000 in
theorem sr_X11_meanPower_b8 {e1 : Nat} {r1 : Int64} {T1 : AT} : ∀ (T : AT) (s0 : Nat) (l0 : Nat), g_X11_meanPower_b8 T s0 l0 = some (e1, r1, T1) → GR T T1 := by
  intro T s0 l0 h
  have p0 := GR.rf T
  unfold g_X11_meanPower_b8 at h
  obtain ⟨g2, h⟩ := oif_some h
  obtain ⟨n3, en3, h⟩ := obind_some h
  obtain ⟨g4, h⟩ := oif_some h
  obtain ⟨n5, en5, h⟩ := obind_some h
  obtain ⟨g6, h⟩ := oif_some h
  obtain ⟨n7, en7, h⟩ := obind_some h
  obtain ⟨g8, h⟩ := oif_some h
  obtain ⟨n9, en9, h⟩ := obind_some h
  obtain ⟨g10, h⟩ := oif_some h
  obtain ⟨n11, en11, h⟩ := obind_some h
  obtain ⟨g12, h⟩ := oif_some h
  obtain ⟨n13, en13, h⟩ := obind_some h
  obtain ⟨g14, h⟩ := oif_some h
  obtain ⟨T15, eT15, h⟩ := obind_some h
  have p1 : GR T T15 := GR.tr p0 (sr_X4_sumIn eT15)
  exact GR.tr p1 (sr_X11_meanPower_b33 _ _ h)
set_option maxHeartbeats 4000000 in
set_option maxRecDepth 100000 in
theorem sr_X11_meanPower {T : AT} {o : Nat} {e1 : Nat} {r1 : Int64} {T1 : AT} (h : g_X11_meanPower T o = some (e1, r1, T1)) : GR T T1 := by
  have p0 := GR.rf T
  unfold g_X11_meanPower at h
  obtain ⟨g2, h⟩ := oif_some h
  rcases othr_s h with ⟨k9, r9, e9, -⟩ | ⟨r4, T3, eT3, h⟩
  · exact GR.tr p0 (gr_sp (s_X11_needCamera e9))
  have p1 : GR T T3 := GR.tr p0 (gr_sp (s_X11_needCamera eT3))
  obtain ⟨g5, h⟩ := oif_some h
  obtain ⟨r7, T6, eT6, h⟩ := obind2_some h
  obtain ⟨g8, h⟩ := oif_some h
  have p2 : GR T T6 := GR.tr p1 (sr_X11_powersNow eT6)
  exact GR.tr p2 (sr_X11_meanPower_b8 _ _ _ h)
set_option maxHeartbeats 4000000 in
set_option maxRecDepth 100000 in
theorem sr_X11_peaks_b8 {e1 : Nat} {r1 : Int32} {T1 : AT} : ∀ (T : AT) (s0 : Nat), g_X11_peaks_b8 T s0 = some (e1, r1, T1) → GR T T1 := by
  intro T s0 h
  have p0 := GR.rf T
  unfold g_X11_peaks_b8 at h
  obtain ⟨g2, h⟩ := oif_some h
  obtain ⟨v3, -, h⟩ := elet_some h
  rw [← (osome3 h).2.2]
  exact p0
set_option maxHeartbeats 4000000 in
set_option maxRecDepth 100000 in
theorem sr_X11_peaks {T : AT} {o : Nat} {e1 : Nat} {r1 : Int32} {T1 : AT} (h : g_X11_peaks T o = some (e1, r1, T1)) : GR T T1 := by
  have p0 := GR.rf T
  unfold g_X11_peaks at h
  obtain ⟨g2, h⟩ := oif_some h
  rcases othr_s h with ⟨k9, r9, e9, -⟩ | ⟨r4, T3, eT3, h⟩
  · exact GR.tr p0 (gr_sp (s_X11_needCamera e9))
  have p1 : GR T T3 := GR.tr p0 (gr_sp (s_X11_needCamera eT3))
  obtain ⟨g5, h⟩ := oif_some h
  obtain ⟨r7, T6, eT6, h⟩ := obind2_some h
  obtain ⟨g8, h⟩ := oif_some h
  have p2 : GR T T6 := GR.tr p1 (sr_X11_powersNow eT6)
  exact GR.tr p2 (sr_X11_peaks_b8 _ _ h)
set_option maxHeartbeats 4000000 in
set_option maxRecDepth 100000 in
theorem sr_X11_peakAt_b8 {e1 : Nat} {r1 : Int32} {T1 : AT} : ∀ (T : AT) (s0 : Nat) (l1 : Int32), g_X11_peakAt_b8 T s0 l1 = some (e1, r1, T1) → GR T T1 := by
  intro T s0 l1 h
  have p0 := GR.rf T
  unfold g_X11_peakAt_b8 at h
  obtain ⟨g2, h⟩ := oif_some h
  obtain ⟨v3, -, h⟩ := elet_some h
  rcases othr_s h with ⟨k9, r9, e9, -⟩ | ⟨r5, T4, eT4, h⟩
  · exact GR.tr p0 (gr_sp (s_X11_needIndex e9))
  have p1 : GR T T4 := GR.tr p0 (gr_sp (s_X11_needIndex eT4))
  obtain ⟨g6, h⟩ := oif_some h
  obtain ⟨r8, T7, eT7, h⟩ := obind2_some h
  have p2 : GR T T7 := GR.tr p1 (gr_sp (s_X4_peakRanked eT7))
  rw [← (osome3 h).2.2]
  exact p2
set_option maxHeartbeats 4000000 in
set_option maxRecDepth 100000 in
theorem sr_X11_peakAt {T : AT} {o : Nat} {a0 : Int32} {e1 : Nat} {r1 : Int32} {T1 : AT} (h : g_X11_peakAt T o a0 = some (e1, r1, T1)) : GR T T1 := by
  have p0 := GR.rf T
  unfold g_X11_peakAt at h
  obtain ⟨g2, h⟩ := oif_some h
  rcases othr_s h with ⟨k9, r9, e9, -⟩ | ⟨r4, T3, eT3, h⟩
  · exact GR.tr p0 (gr_sp (s_X11_needCamera e9))
  have p1 : GR T T3 := GR.tr p0 (gr_sp (s_X11_needCamera eT3))
  obtain ⟨g5, h⟩ := oif_some h
  obtain ⟨r7, T6, eT6, h⟩ := obind2_some h
  obtain ⟨g8, h⟩ := oif_some h
  have p2 : GR T T6 := GR.tr p1 (sr_X11_powersNow eT6)
  exact GR.tr p2 (sr_X11_peakAt_b8 _ _ _ h)
set_option maxHeartbeats 4000000 in
set_option maxRecDepth 100000 in
theorem sr_X11_isPeak_b13 {e1 : Nat} {r1 : Int32} {T1 : AT} : ∀ (T : AT) (s0 : Nat) (l0 : Nat) (l1 : Int32), g_X11_isPeak_b13 T s0 l0 l1 = some (e1, r1, T1) → GR T T1 := by
  intro T s0 l0 l1 h
  have p0 := GR.rf T
  unfold g_X11_isPeak_b13 at h
  obtain ⟨g2, h⟩ := oif_some h
  obtain ⟨n3, en3, h⟩ := obind_some h
  obtain ⟨g4, h⟩ := oif_some h
  obtain ⟨n5, en5, h⟩ := obind_some h
  obtain ⟨g6, h⟩ := oif_some h
  obtain ⟨r8, T7, eT7, h⟩ := obind2_some h
  have p1 : GR T T7 := GR.tr p0 (gr_sp (s_X4_standsOut eT7))
  obtain ⟨gz, h⟩ := oif_some h
  rw [← (osome3 h).2.2]
  exact p1
set_option maxHeartbeats 4000000 in
set_option maxRecDepth 100000 in
theorem sr_X11_isPeak {T : AT} {o : Nat} {a0 : Int32} {e1 : Nat} {r1 : Int32} {T1 : AT} (h : g_X11_isPeak T o a0 = some (e1, r1, T1)) : GR T T1 := by
  have p0 := GR.rf T
  unfold g_X11_isPeak at h
  obtain ⟨g2, h⟩ := oif_some h
  rcases othr_s h with ⟨k9, r9, e9, -⟩ | ⟨r4, T3, eT3, h⟩
  · exact GR.tr p0 (gr_sp (s_X11_needCamera e9))
  have p1 : GR T T3 := GR.tr p0 (gr_sp (s_X11_needCamera eT3))
  obtain ⟨g5, h⟩ := oif_some h
  rcases othr_s h with ⟨k9, r9, e9, -⟩ | ⟨r7, T6, eT6, h⟩
  · exact GR.tr p1 (gr_sp (s_X11_needCell e9))
  have p2 : GR T T6 := GR.tr p1 (gr_sp (s_X11_needCell eT6))
  obtain ⟨g8, h⟩ := oif_some h
  obtain ⟨r10, T9, eT9, h⟩ := obind2_some h
  obtain ⟨g11, h⟩ := oif_some h
  have p3 : GR T T9 := GR.tr p2 (sr_X11_powersNow eT9)
  exact GR.tr p3 (sr_X11_isPeak_b13 _ _ _ _ h)
set_option maxHeartbeats 4000000 in
set_option maxRecDepth 100000 in
theorem sr_X11_zonePower_b49 {e1 : Nat} {r1 : Int64} {T1 : AT} : ∀ (T : AT) (l0 : Nat), g_X11_zonePower_b49 T l0 = some (e1, r1, T1) → GR T T1 := by
  intro T l0 h
  have p0 := GR.rf T
  unfold g_X11_zonePower_b49 at h
  obtain ⟨g2, h⟩ := oif_some h
  obtain ⟨n3, en3, h⟩ := obind_some h
  obtain ⟨g4, h⟩ := oif_some h
  obtain ⟨r6, T5, eT5, h⟩ := obind2_some h
  have p1 : GR T T5 := GR.tr p0 (gr_sp (s_X10_value eT5))
  rw [← (osome3 h).2.2]
  exact p1
set_option maxHeartbeats 4000000 in
set_option maxRecDepth 100000 in
theorem sr_X11_zonePower_b22 {e1 : Nat} {r1 : Int64} {T1 : AT} : ∀ (T : AT) (s0 : Nat) (l0 : Nat) (l1 : Int32), g_X11_zonePower_b22 T s0 l0 l1 = some (e1, r1, T1) → GR T T1 := by
  intro T s0 l0 l1 h
  have p0 := GR.rf T
  unfold g_X11_zonePower_b22 at h
  obtain ⟨g2, h⟩ := oif_some h
  obtain ⟨n3, en3, h⟩ := obind_some h
  obtain ⟨g4, h⟩ := oif_some h
  obtain ⟨n5, en5, h⟩ := obind_some h
  obtain ⟨g6, h⟩ := oif_some h
  obtain ⟨n7, en7, h⟩ := obind_some h
  obtain ⟨g8, h⟩ := oif_some h
  obtain ⟨g9, h⟩ := oif_some h
  obtain ⟨n10, en10, h⟩ := obind_some h
  obtain ⟨g11, h⟩ := oif_some h
  obtain ⟨n12, en12, h⟩ := obind_some h
  obtain ⟨g13, h⟩ := oif_some h
  obtain ⟨n14, en14, h⟩ := obind_some h
  obtain ⟨g15, h⟩ := oif_some h
  obtain ⟨n16, en16, h⟩ := obind_some h
  obtain ⟨g17, h⟩ := oif_some h
  obtain ⟨T18, eT18, h⟩ := obind_some h
  have p1 : GR T T18 := GR.tr p0 (sr_X4_sumIn eT18)
  exact GR.tr p1 (sr_X11_zonePower_b49 _ _ h)
set_option maxHeartbeats 4000000 in
set_option maxRecDepth 100000 in
theorem sr_X11_zonePower {T : AT} {o : Nat} {a0 : Int32} {e1 : Nat} {r1 : Int64} {T1 : AT} (h : g_X11_zonePower T o a0 = some (e1, r1, T1)) : GR T T1 := by
  have p0 := GR.rf T
  unfold g_X11_zonePower at h
  obtain ⟨g2, h⟩ := oif_some h
  rcases othr_s h with ⟨k9, r9, e9, -⟩ | ⟨r4, T3, eT3, h⟩
  · exact GR.tr p0 (gr_sp (s_X11_needCamera e9))
  have p1 : GR T T3 := GR.tr p0 (gr_sp (s_X11_needCamera eT3))
  obtain ⟨g5, h⟩ := oif_some h
  obtain ⟨n6, en6, h⟩ := obind_some h
  obtain ⟨g7, h⟩ := oif_some h
  obtain ⟨n8, en8, h⟩ := obind_some h
  obtain ⟨g9, h⟩ := oif_some h
  obtain ⟨v10, -, h⟩ := elet_some h
  rcases othr_s h with ⟨k9, r9, e9, -⟩ | ⟨r12, T11, eT11, h⟩
  · exact GR.tr p1 (gr_sp (s_X11_needIndex e9))
  have p2 : GR T T11 := GR.tr p1 (gr_sp (s_X11_needIndex eT11))
  obtain ⟨g13, h⟩ := oif_some h
  obtain ⟨r15, T14, eT14, h⟩ := obind2_some h
  obtain ⟨g16, h⟩ := oif_some h
  have p3 : GR T T14 := GR.tr p2 (sr_X11_powersNow eT14)
  exact GR.tr p3 (sr_X11_zonePower_b22 _ _ _ _ h)
set_option maxHeartbeats 4000000 in
set_option maxRecDepth 100000 in
theorem sr_X11_zoneBest_b41 {e1 : Nat} {r1 : Int32} {T1 : AT} : ∀ (T : AT) (s0 : Nat) (s1 : Nat) (s2 : Nat), g_X11_zoneBest_b41 T s0 s1 s2 = some (e1, r1, T1) → GR T T1 := by
  intro T s0 s1 s2 h
  have p0 := GR.rf T
  unfold g_X11_zoneBest_b41 at h
  obtain ⟨g2, h⟩ := oif_some h
  obtain ⟨n3, en3, h⟩ := obind_some h
  obtain ⟨g4, h⟩ := oif_some h
  obtain ⟨r6, T5, eT5, h⟩ := obind2_some h
  have p1 : GR T T5 := GR.tr p0 (gr_sp (s_X1_bestIn eT5))
  rw [← (osome3 h).2.2]
  exact p1
set_option maxHeartbeats 4000000 in
set_option maxRecDepth 100000 in
theorem sr_X11_zoneBest {T : AT} {o : Nat} {a0 : Int32} {e1 : Nat} {r1 : Int32} {T1 : AT} (h : g_X11_zoneBest T o a0 = some (e1, r1, T1)) : GR T T1 := by
  have p0 := GR.rf T
  unfold g_X11_zoneBest at h
  obtain ⟨g2, h⟩ := oif_some h
  rcases othr_s h with ⟨k9, r9, e9, -⟩ | ⟨r4, T3, eT3, h⟩
  · exact GR.tr p0 (gr_sp (s_X11_needCamera e9))
  have p1 : GR T T3 := GR.tr p0 (gr_sp (s_X11_needCamera eT3))
  obtain ⟨g5, h⟩ := oif_some h
  obtain ⟨n6, en6, h⟩ := obind_some h
  obtain ⟨g7, h⟩ := oif_some h
  obtain ⟨n8, en8, h⟩ := obind_some h
  obtain ⟨g9, h⟩ := oif_some h
  obtain ⟨v10, -, h⟩ := elet_some h
  rcases othr_s h with ⟨k9, r9, e9, -⟩ | ⟨r12, T11, eT11, h⟩
  · exact GR.tr p1 (gr_sp (s_X11_needIndex e9))
  have p2 : GR T T11 := GR.tr p1 (gr_sp (s_X11_needIndex eT11))
  obtain ⟨g13, h⟩ := oif_some h
  obtain ⟨n14, en14, h⟩ := obind_some h
  obtain ⟨g15, h⟩ := oif_some h
  obtain ⟨n16, en16, h⟩ := obind_some h
  obtain ⟨g17, h⟩ := oif_some h
  obtain ⟨n18, en18, h⟩ := obind_some h
  obtain ⟨g19, h⟩ := oif_some h
  obtain ⟨n20, en20, h⟩ := obind_some h
  obtain ⟨g21, h⟩ := oif_some h
  obtain ⟨n22, en22, h⟩ := obind_some h
  obtain ⟨g23, h⟩ := oif_some h
  obtain ⟨g24, h⟩ := oif_some h
  obtain ⟨n25, en25, h⟩ := obind_some h
  obtain ⟨g26, h⟩ := oif_some h
  obtain ⟨r28, T27, eT27, h⟩ := obind2_some h
  obtain ⟨g29, h⟩ := oif_some h
  have p3 : GR T T27 := GR.tr p2 (sr_X11_powersNow eT27)
  exact GR.tr p3 (sr_X11_zoneBest_b41 _ _ _ _ h)
set_option maxHeartbeats 4000000 in
set_option maxRecDepth 100000 in
theorem sr_X11_contrast_b45 {e1 : Nat} {r1 : UInt32} {T1 : AT} : ∀ (T : AT) (s0 : UInt32), g_X11_contrast_b45 T s0 = some (e1, r1, T1) → GR T T1 := by
  intro T s0 h
  have p0 := GR.rf T
  unfold g_X11_contrast_b45 at h
  rw [← (osome3 h).2.2]
  exact p0
set_option maxHeartbeats 4000000 in
set_option maxRecDepth 100000 in
theorem sr_X11_contrast_b8 {e1 : Nat} {r1 : UInt32} {T1 : AT} : ∀ (T : AT) (s0 : Nat) (l0 : Nat), g_X11_contrast_b8 T s0 l0 = some (e1, r1, T1) → GR T T1 := by
  intro T s0 l0 h
  have p0 := GR.rf T
  unfold g_X11_contrast_b8 at h
  obtain ⟨g2, h⟩ := oif_some h
  obtain ⟨n3, en3, h⟩ := obind_some h
  obtain ⟨g4, h⟩ := oif_some h
  obtain ⟨n5, en5, h⟩ := obind_some h
  obtain ⟨g6, h⟩ := oif_some h
  obtain ⟨r8, T7, eT7, h⟩ := obind2_some h
  have p1 : GR T T7 := GR.tr p0 (gr_sp (s_X1_cells eT7))
  obtain ⟨g9, h⟩ := oif_some h
  obtain ⟨r11, T10, eT10, h⟩ := obind2_some h
  have p2 : GR T T10 := GR.tr p1 (gr_sp (s_X4_second eT10))
  rcases oif_or h with ⟨c12, h⟩ | ⟨c12, h⟩
  · have h := h
    exact GR.tr p2 (sr_X11_contrast_b45 _ _ h)
  · have h := h
    obtain ⟨g13, h⟩ := oif_some h
    obtain ⟨n14, en14, h⟩ := obind_some h
    obtain ⟨g15, h⟩ := oif_some h
    obtain ⟨v16, -, h⟩ := elet_some h
    obtain ⟨g17, h⟩ := oif_some h
    obtain ⟨r19, T18, eT18, h⟩ := obind2_some h
    have p3 : GR T T18 := GR.tr p2 (gr_sp (s_X10_ratio eT18))
    exact GR.tr p3 (sr_X11_contrast_b45 _ _ h)
set_option maxHeartbeats 4000000 in
set_option maxRecDepth 100000 in
theorem sr_X11_contrast {T : AT} {o : Nat} {e1 : Nat} {r1 : UInt32} {T1 : AT} (h : g_X11_contrast T o = some (e1, r1, T1)) : GR T T1 := by
  have p0 := GR.rf T
  unfold g_X11_contrast at h
  obtain ⟨g2, h⟩ := oif_some h
  rcases othr_s h with ⟨k9, r9, e9, -⟩ | ⟨r4, T3, eT3, h⟩
  · exact GR.tr p0 (gr_sp (s_X11_needCamera e9))
  have p1 : GR T T3 := GR.tr p0 (gr_sp (s_X11_needCamera eT3))
  obtain ⟨g5, h⟩ := oif_some h
  obtain ⟨r7, T6, eT6, h⟩ := obind2_some h
  obtain ⟨g8, h⟩ := oif_some h
  have p2 : GR T T6 := GR.tr p1 (sr_X11_powersNow eT6)
  exact GR.tr p2 (sr_X11_contrast_b8 _ _ _ h)
set_option maxHeartbeats 4000000 in
set_option maxRecDepth 100000 in
theorem sr_X11_isAlias_b28 {e1 : Nat} {r1 : Int32} {T1 : AT} : ∀ (T : AT) (s0 : Nat) (s1 : Nat) (l1 : Int32) (l2 : Int32) (l3 : Int32), g_X11_isAlias_b28 T s0 s1 l1 l2 l3 = some (e1, r1, T1) → GR T T1 := by
  intro T s0 s1 l1 l2 l3 h
  have p0 := GR.rf T
  unfold g_X11_isAlias_b28 at h
  obtain ⟨g2, h⟩ := oif_some h
  obtain ⟨r4, T3, eT3, h⟩ := obind2_some h
  have p1 : GR T T3 := GR.tr p0 (gr_sp (s_X11_marksAlias eT3))
  obtain ⟨gz, h⟩ := oif_some h
  rw [← (osome3 h).2.2]
  exact p1
set_option maxHeartbeats 4000000 in
set_option maxRecDepth 100000 in
theorem sr_X11_isAlias {T : AT} {o : Nat} {a0 : Int32} {a1 : Int32} {a2 : Int32} {e1 : Nat} {r1 : Int32} {T1 : AT} (h : g_X11_isAlias T o a0 a1 a2 = some (e1, r1, T1)) : GR T T1 := by
  have p0 := GR.rf T
  unfold g_X11_isAlias at h
  obtain ⟨g2, h⟩ := oif_some h
  rcases othr_s h with ⟨k9, r9, e9, -⟩ | ⟨r4, T3, eT3, h⟩
  · exact GR.tr p0 (gr_sp (s_X11_needCamera e9))
  have p1 : GR T T3 := GR.tr p0 (gr_sp (s_X11_needCamera eT3))
  obtain ⟨g5, h⟩ := oif_some h
  rcases othr_s h with ⟨k9, r9, e9, -⟩ | ⟨r7, T6, eT6, h⟩
  · exact GR.tr p1 (gr_sp (s_X11_needCell e9))
  have p2 : GR T T6 := GR.tr p1 (gr_sp (s_X11_needCell eT6))
  rcases othr_s h with ⟨k9, r9, e9, -⟩ | ⟨r9, T8, eT8, h⟩
  · exact GR.tr p2 (gr_sp (s_X11_needRange e9))
  have p3 : GR T T8 := GR.tr p2 (gr_sp (s_X11_needRange eT8))
  rcases othr_s h with ⟨k9, r9, e9, -⟩ | ⟨r11, T10, eT10, h⟩
  · exact GR.tr p3 (gr_sp (s_X11_needRange e9))
  have p4 : GR T T10 := GR.tr p3 (gr_sp (s_X11_needRange eT10))
  obtain ⟨g12, h⟩ := oif_some h
  obtain ⟨r14, T13, eT13, h⟩ := obind2_some h
  obtain ⟨g15, h⟩ := oif_some h
  have p5 : GR T T13 := GR.tr p4 (sr_X11_powersNow eT13)
  exact GR.tr p5 (sr_X11_isAlias_b28 _ _ _ _ _ _ h)
set_option maxHeartbeats 4000000 in
set_option maxRecDepth 100000 in
theorem sr_X11_aliases_b59 {e1 : Nat} {r1 : Int32} {T1 : AT} {k29 : AT → Nat → Int32 → Int32 → Nat → Int32 → Int32 → Option (Nat × Int32 × AT)} (hk29 : ∀ (T : AT) (l0 : Nat) (l1 : Int32) (l2 : Int32) (l3 : Nat) (l4 : Int32) (l5 : Int32), k29 T l0 l1 l2 l3 l4 l5 = some (e1, r1, T1) → GR T T1) : ∀ (T : AT) (l0 : Nat) (l1 : Int32) (l2 : Int32) (l3 : Nat) (l4 : Int32) (l5 : Int32), g_X11_aliases_b59 k29 T l0 l1 l2 l3 l4 l5 = some (e1, r1, T1) → GR T T1 := by
  intro T l0 l1 l2 l3 l4 l5 h
  have p0 := GR.rf T
  unfold g_X11_aliases_b59 at h
  obtain ⟨v2, ev2, h⟩ := elet_some h
  exact GR.tr p0 (hk29 _ _ _ _ _ _ _ h)
set_option maxHeartbeats 4000000 in
set_option maxRecDepth 100000 in
theorem sr_X11_aliases_b29 {e1 : Nat} {r1 : Int32} {T1 : AT} : ∀ n : Nat, ∀ (T : AT) (l0 : Nat) (l1 : Int32) (l2 : Int32) (l3 : Nat) (l4 : Int32) (l5 : Int32), g_X11_aliases_b29 n T l0 l1 l2 l3 l4 l5 = some (e1, r1, T1) → GR T T1 := by
  intro n
  induction n with
  | zero =>
    intro T l0 l1 l2 l3 l4 l5 h
    have h : (none : Option (Nat × Int32 × AT)) = some (e1, r1, T1) := h
    cases h
  | succ n ih =>
    intro T l0 l1 l2 l3 l4 l5 h
    have p0 := GR.rf T
    unfold g_X11_aliases_b29 at h
    obtain ⟨g2, h⟩ := oif_some h
    obtain ⟨n3, en3, h⟩ := obind_some h
    obtain ⟨g4, h⟩ := oif_some h
    obtain ⟨n5, en5, h⟩ := obind_some h
    obtain ⟨g6, h⟩ := oif_some h
    obtain ⟨r8, T7, eT7, h⟩ := obind2_some h
    have p1 : GR T T7 := GR.tr p0 (gr_sp (s_X1_cells eT7))
    rcases oif_or h with ⟨c9, h⟩ | ⟨c9, h⟩
    · have h := h
      rw [← (osome3 h).2.2]
      exact p1
    · have h := h
      obtain ⟨g10, h⟩ := oif_some h
      obtain ⟨r12, T11, eT11, h⟩ := obind2_some h
      have p2 : GR T T11 := GR.tr p1 (gr_sp (s_X11_marksAlias eT11))
      rcases oif_or h with ⟨c13, h⟩ | ⟨c13, h⟩
      · have h := h
        exact GR.tr p2 (sr_X11_aliases_b59 ih _ _ _ _ _ _ _ h)
      · have h := h
        obtain ⟨v14, ev14, h⟩ := elet_some h
        exact GR.tr p2 (sr_X11_aliases_b59 ih _ _ _ _ _ _ _ h)
set_option maxHeartbeats 4000000 in
set_option maxRecDepth 100000 in
theorem sr_X11_aliases_b22 {e1 : Nat} {r1 : Int32} {T1 : AT} : ∀ (T : AT) (s0 : Nat) (l0 : Nat) (l1 : Int32) (l2 : Int32), g_X11_aliases_b22 T s0 l0 l1 l2 = some (e1, r1, T1) → GR T T1 := by
  intro T s0 l0 l1 l2 h
  have p0 := GR.rf T
  unfold g_X11_aliases_b22 at h
  exact GR.tr p0 (sr_X11_aliases_b29 _ _ _ _ _ _ _ _ h)
set_option maxHeartbeats 4000000 in
set_option maxRecDepth 100000 in
theorem sr_X11_aliases {T : AT} {o : Nat} {a0 : Int32} {a1 : Int32} {e1 : Nat} {r1 : Int32} {T1 : AT} (h : g_X11_aliases T o a0 a1 = some (e1, r1, T1)) : GR T T1 := by
  have p0 := GR.rf T
  unfold g_X11_aliases at h
  obtain ⟨g2, h⟩ := oif_some h
  rcases othr_s h with ⟨k9, r9, e9, -⟩ | ⟨r4, T3, eT3, h⟩
  · exact GR.tr p0 (gr_sp (s_X11_needCamera e9))
  have p1 : GR T T3 := GR.tr p0 (gr_sp (s_X11_needCamera eT3))
  rcases othr_s h with ⟨k9, r9, e9, -⟩ | ⟨r6, T5, eT5, h⟩
  · exact GR.tr p1 (gr_sp (s_X11_needRange e9))
  have p2 : GR T T5 := GR.tr p1 (gr_sp (s_X11_needRange eT5))
  rcases othr_s h with ⟨k9, r9, e9, -⟩ | ⟨r8, T7, eT7, h⟩
  · exact GR.tr p2 (gr_sp (s_X11_needRange e9))
  have p3 : GR T T7 := GR.tr p2 (gr_sp (s_X11_needRange eT7))
  obtain ⟨g9, h⟩ := oif_some h
  obtain ⟨r11, T10, eT10, h⟩ := obind2_some h
  obtain ⟨g12, h⟩ := oif_some h
  have p4 : GR T T10 := GR.tr p3 (sr_X11_powersNow eT10)
  exact GR.tr p4 (sr_X11_aliases_b22 _ _ _ _ _ h)
set_option maxHeartbeats 4000000 in
set_option maxRecDepth 100000 in
theorem sr_X11_blockPower_b58 {e1 : Nat} {r1 : Int64} {T1 : AT} : ∀ (T : AT) (l0 : Nat), g_X11_blockPower_b58 T l0 = some (e1, r1, T1) → GR T T1 := by
  intro T l0 h
  have p0 := GR.rf T
  unfold g_X11_blockPower_b58 at h
  obtain ⟨g2, h⟩ := oif_some h
  obtain ⟨n3, en3, h⟩ := obind_some h
  obtain ⟨g4, h⟩ := oif_some h
  obtain ⟨r6, T5, eT5, h⟩ := obind2_some h
  have p1 : GR T T5 := GR.tr p0 (gr_sp (s_X10_value eT5))
  rw [← (osome3 h).2.2]
  exact p1
set_option maxHeartbeats 4000000 in
set_option maxRecDepth 100000 in
theorem sr_X11_blockPower {T : AT} {o : Nat} {a0 : Int32} {a1 : Int32} {a2 : Int32} {e1 : Nat} {r1 : Int64} {T1 : AT} (h : g_X11_blockPower T o a0 a1 a2 = some (e1, r1, T1)) : GR T T1 := by
  have p0 := GR.rf T
  unfold g_X11_blockPower at h
  obtain ⟨g2, h⟩ := oif_some h
  rcases othr_s h with ⟨k9, r9, e9, -⟩ | ⟨r4, T3, eT3, h⟩
  · exact GR.tr p0 (gr_sp (s_X11_needCamera e9))
  have p1 : GR T T3 := GR.tr p0 (gr_sp (s_X11_needCamera eT3))
  obtain ⟨g5, h⟩ := oif_some h
  rcases othr_s h with ⟨k9, r9, e9, -⟩ | ⟨r7, T6, eT6, h⟩
  · exact GR.tr p1 (gr_sp (s_X11_needCell e9))
  have p2 : GR T T6 := GR.tr p1 (gr_sp (s_X11_needCell eT6))
  obtain ⟨g8, h⟩ := oif_some h
  obtain ⟨n9, en9, h⟩ := obind_some h
  obtain ⟨g10, h⟩ := oif_some h
  obtain ⟨v11, -, h⟩ := elet_some h
  obtain ⟨v12, -, h⟩ := elet_some h
  rcases othr_s h with ⟨k9, r9, e9, -⟩ | ⟨r14, T13, eT13, h⟩
  · exact GR.tr p2 (gr_sp (s_X11_needRange e9))
  have p3 : GR T T13 := GR.tr p2 (gr_sp (s_X11_needRange eT13))
  obtain ⟨g15, h⟩ := oif_some h
  obtain ⟨n16, en16, h⟩ := obind_some h
  obtain ⟨g17, h⟩ := oif_some h
  obtain ⟨v18, -, h⟩ := elet_some h
  rcases othr_s h with ⟨k9, r9, e9, -⟩ | ⟨r20, T19, eT19, h⟩
  · exact GR.tr p3 (gr_sp (s_X11_needRange e9))
  have p4 : GR T T19 := GR.tr p3 (gr_sp (s_X11_needRange eT19))
  obtain ⟨g21, h⟩ := oif_some h
  obtain ⟨n22, en22, h⟩ := obind_some h
  obtain ⟨g23, h⟩ := oif_some h
  obtain ⟨n24, en24, h⟩ := obind_some h
  obtain ⟨g25, h⟩ := oif_some h
  obtain ⟨n26, en26, h⟩ := obind_some h
  obtain ⟨g27, h⟩ := oif_some h
  obtain ⟨g28, h⟩ := oif_some h
  obtain ⟨n29, en29, h⟩ := obind_some h
  obtain ⟨g30, h⟩ := oif_some h
  obtain ⟨n31, en31, h⟩ := obind_some h
  obtain ⟨g32, h⟩ := oif_some h
  obtain ⟨T33, eT33, h⟩ := obind_some h
  have p5 : GR T T33 := GR.tr p4 (sr_X8_blockPowerOf eT33)
  exact GR.tr p5 (sr_X11_blockPower_b58 _ _ h)
set_option maxHeartbeats 4000000 in
set_option maxRecDepth 100000 in
theorem sr_X11_blockBest_b47 {e1 : Nat} {r1 : Int32} {T1 : AT} : ∀ (T : AT) (s0 : Int32), g_X11_blockBest_b47 T s0 = some (e1, r1, T1) → GR T T1 := by
  intro T s0 h
  have p0 := GR.rf T
  unfold g_X11_blockBest_b47 at h
  rw [← (osome3 h).2.2]
  exact p0
set_option maxHeartbeats 4000000 in
set_option maxRecDepth 100000 in
theorem sr_X11_blockBest {T : AT} {o : Nat} {a0 : Int32} {a1 : Int32} {e1 : Nat} {r1 : Int32} {T1 : AT} (h : g_X11_blockBest T o a0 a1 = some (e1, r1, T1)) : GR T T1 := by
  have p0 := GR.rf T
  unfold g_X11_blockBest at h
  obtain ⟨g2, h⟩ := oif_some h
  rcases othr_s h with ⟨k9, r9, e9, -⟩ | ⟨r4, T3, eT3, h⟩
  · exact GR.tr p0 (gr_sp (s_X11_needCamera e9))
  have p1 : GR T T3 := GR.tr p0 (gr_sp (s_X11_needCamera eT3))
  obtain ⟨g5, h⟩ := oif_some h
  obtain ⟨n6, en6, h⟩ := obind_some h
  obtain ⟨g7, h⟩ := oif_some h
  obtain ⟨v8, -, h⟩ := elet_some h
  obtain ⟨v9, -, h⟩ := elet_some h
  rcases othr_s h with ⟨k9, r9, e9, -⟩ | ⟨r11, T10, eT10, h⟩
  · exact GR.tr p1 (gr_sp (s_X11_needRange e9))
  have p2 : GR T T10 := GR.tr p1 (gr_sp (s_X11_needRange eT10))
  obtain ⟨g12, h⟩ := oif_some h
  obtain ⟨n13, en13, h⟩ := obind_some h
  obtain ⟨g14, h⟩ := oif_some h
  obtain ⟨v15, -, h⟩ := elet_some h
  rcases othr_s h with ⟨k9, r9, e9, -⟩ | ⟨r17, T16, eT16, h⟩
  · exact GR.tr p2 (gr_sp (s_X11_needRange e9))
  have p3 : GR T T16 := GR.tr p2 (gr_sp (s_X11_needRange eT16))
  obtain ⟨g18, h⟩ := oif_some h
  obtain ⟨n19, en19, h⟩ := obind_some h
  obtain ⟨g20, h⟩ := oif_some h
  obtain ⟨n21, en21, h⟩ := obind_some h
  obtain ⟨g22, h⟩ := oif_some h
  obtain ⟨n23, en23, h⟩ := obind_some h
  obtain ⟨g24, h⟩ := oif_some h
  obtain ⟨r26, T25, eT25, h⟩ := obind2_some h
  have p4 : GR T T25 := GR.tr p3 (sr_X0_bestOf eT25)
  exact GR.tr p4 (sr_X11_blockBest_b47 _ _ h)
set_option maxHeartbeats 4000000 in
set_option maxRecDepth 100000 in
theorem sr_X11_path_b85 {e1 : Nat} {r1 : Int32} {T1 : AT} {k39 : AT → Nat → Int32 → Int32 → Int32 → Int32 → Option (Nat × Int32 × AT)} (hk39 : ∀ (T : AT) (l0 : Nat) (l1 : Int32) (l2 : Int32) (l3 : Int32) (l4 : Int32), k39 T l0 l1 l2 l3 l4 = some (e1, r1, T1) → GR T T1) : ∀ (T : AT) (s0 : Int32) (s1 : Int32) (l0 : Nat) (l1 : Int32) (l4 : Int32) (l5 : Int32), g_X11_path_b85 k39 T s0 s1 l0 l1 l4 l5 = some (e1, r1, T1) → GR T T1 := by
  intro T s0 s1 l0 l1 l4 l5 h
  have p0 := GR.rf T
  unfold g_X11_path_b85 at h
  obtain ⟨v2, -, h⟩ := elet_some h
  obtain ⟨v3, -, h⟩ := elet_some h
  obtain ⟨v4, -, h⟩ := elet_some h
  exact GR.tr p0 (hk39 _ _ _ _ _ _ h)
set_option maxHeartbeats 4000000 in
set_option maxRecDepth 100000 in
theorem sr_X11_path_b71 {e1 : Nat} {r1 : Int32} {T1 : AT} {k39 : AT → Nat → Int32 → Int32 → Int32 → Int32 → Option (Nat × Int32 × AT)} (hk39 : ∀ (T : AT) (l0 : Nat) (l1 : Int32) (l2 : Int32) (l3 : Int32) (l4 : Int32), k39 T l0 l1 l2 l3 l4 = some (e1, r1, T1) → GR T T1) : ∀ (T : AT) (s0 : Int32) (l0 : Nat) (l1 : Int32) (l2 : Int32) (l3 : Int32) (l4 : Int32), g_X11_path_b71 k39 T s0 l0 l1 l2 l3 l4 = some (e1, r1, T1) → GR T T1 := by
  intro T s0 l0 l1 l2 l3 l4 h
  have p0 := GR.rf T
  unfold g_X11_path_b71 at h
  rcases oif_or h with ⟨c2, h⟩ | ⟨c2, h⟩
  · have h := h
    exact GR.tr p0 (sr_X11_path_b85 hk39 _ _ _ _ _ _ _ h)
  · have h := h
    exact GR.tr p0 (sr_X11_path_b85 hk39 _ _ _ _ _ _ _ h)
set_option maxHeartbeats 4000000 in
set_option maxRecDepth 100000 in
theorem sr_X11_path_b39 {e1 : Nat} {r1 : Int32} {T1 : AT} : ∀ n : Nat, ∀ (T : AT) (l0 : Nat) (l1 : Int32) (l2 : Int32) (l3 : Int32) (l4 : Int32), g_X11_path_b39 n T l0 l1 l2 l3 l4 = some (e1, r1, T1) → GR T T1 := by
  intro n
  induction n with
  | zero =>
    intro T l0 l1 l2 l3 l4 h
    have h : (none : Option (Nat × Int32 × AT)) = some (e1, r1, T1) := h
    cases h
  | succ n ih =>
    intro T l0 l1 l2 l3 l4 h
    have p0 := GR.rf T
    unfold g_X11_path_b39 at h
    obtain ⟨v2, -, h⟩ := elet_some h
    obtain ⟨g3, h⟩ := oif_some h
    obtain ⟨n4, en4, h⟩ := obind_some h
    obtain ⟨g5, h⟩ := oif_some h
    obtain ⟨v6, -, h⟩ := elet_some h
    rcases oif_or h with ⟨c7, h⟩ | ⟨c7, h⟩
    · have h := h
      rw [← (osome3 h).2.2]
      exact p0
    · have h := h
      obtain ⟨g8, h⟩ := oif_some h
      obtain ⟨n9, en9, h⟩ := obind_some h
      obtain ⟨g10, h⟩ := oif_some h
      obtain ⟨n11, en11, h⟩ := obind_some h
      obtain ⟨g12, h⟩ := oif_some h
      obtain ⟨n13, en13, h⟩ := obind_some h
      obtain ⟨g14, h⟩ := oif_some h
      obtain ⟨r16, T15, eT15, h⟩ := obind2_some h
      have p1 : GR T T15 := GR.tr p0 (sr_X0_bestOf eT15)
      exact GR.tr p1 (sr_X11_path_b71 ih _ _ _ _ _ _ _ h)
set_option maxHeartbeats 4000000 in
set_option maxRecDepth 100000 in
theorem sr_X11_path_b35 {e1 : Nat} {r1 : Int32} {T1 : AT} : ∀ (T : AT) (s0 : Int32) (l0 : Nat) (l1 : Int32) (l2 : Int32), g_X11_path_b35 T s0 l0 l1 l2 = some (e1, r1, T1) → GR T T1 := by
  intro T s0 l0 l1 l2 h
  have p0 := GR.rf T
  unfold g_X11_path_b35 at h
  exact GR.tr p0 (sr_X11_path_b39 _ _ _ _ _ _ _ h)
set_option maxHeartbeats 4000000 in
set_option maxRecDepth 100000 in
theorem sr_X11_path {T : AT} {o : Nat} {a0 : Int32} {e1 : Nat} {r1 : Int32} {T1 : AT} (h : g_X11_path T o a0 = some (e1, r1, T1)) : GR T T1 := by
  have p0 := GR.rf T
  unfold g_X11_path at h
  obtain ⟨g2, h⟩ := oif_some h
  rcases othr_s h with ⟨k9, r9, e9, -⟩ | ⟨r4, T3, eT3, h⟩
  · exact GR.tr p0 (gr_sp (s_X11_needCamera e9))
  have p1 : GR T T3 := GR.tr p0 (gr_sp (s_X11_needCamera eT3))
  obtain ⟨g5, h⟩ := oif_some h
  obtain ⟨n6, en6, h⟩ := obind_some h
  obtain ⟨g7, h⟩ := oif_some h
  obtain ⟨v8, -, h⟩ := elet_some h
  rcases othr_s h with ⟨k9, r9, e9, -⟩ | ⟨r10, T9, eT9, h⟩
  · exact GR.tr p1 (gr_sp (s_X11_needRange e9))
  have p2 : GR T T9 := GR.tr p1 (gr_sp (s_X11_needRange eT9))
  obtain ⟨g11, h⟩ := oif_some h
  obtain ⟨n12, en12, h⟩ := obind_some h
  obtain ⟨g13, h⟩ := oif_some h
  obtain ⟨n14, en14, h⟩ := obind_some h
  obtain ⟨g15, h⟩ := oif_some h
  obtain ⟨n16, en16, h⟩ := obind_some h
  obtain ⟨g17, h⟩ := oif_some h
  obtain ⟨r19, T18, eT18, h⟩ := obind2_some h
  have p3 : GR T T18 := GR.tr p2 (sr_X0_bestOf eT18)
  exact GR.tr p3 (sr_X11_path_b35 _ _ _ _ _ h)
set_option maxHeartbeats 4000000 in
set_option maxRecDepth 100000 in
theorem sr_X11_trackScore_b32 {e1 : Nat} {r1 : Int64} {T1 : AT} : ∀ (T : AT) (l0 : Nat), g_X11_trackScore_b32 T l0 = some (e1, r1, T1) → GR T T1 := by
  intro T l0 h
  have p0 := GR.rf T
  unfold g_X11_trackScore_b32 at h
  obtain ⟨g2, h⟩ := oif_some h
  obtain ⟨n3, en3, h⟩ := obind_some h
  obtain ⟨g4, h⟩ := oif_some h
  obtain ⟨n5, en5, h⟩ := obind_some h
  obtain ⟨g6, h⟩ := oif_some h
  obtain ⟨n7, en7, h⟩ := obind_some h
  obtain ⟨g8, h⟩ := oif_some h
  obtain ⟨n9, en9, h⟩ := obind_some h
  obtain ⟨g10, h⟩ := oif_some h
  obtain ⟨n11, en11, h⟩ := obind_some h
  obtain ⟨g12, h⟩ := oif_some h
  obtain ⟨r14, T13, eT13, h⟩ := obind2_some h
  have p1 : GR T T13 := GR.tr p0 (gr_sp (s_X0_trackCellIn eT13))
  obtain ⟨g15, h⟩ := oif_some h
  obtain ⟨r17, T16, eT16, h⟩ := obind2_some h
  have p2 : GR T T16 := GR.tr p1 (gr_sp (s_X10_value eT16))
  rw [← (osome3 h).2.2]
  exact p2
set_option maxHeartbeats 4000000 in
set_option maxRecDepth 100000 in
theorem sr_X11_trackScore {T : AT} {o : Nat} {a0 : Int32} {e1 : Nat} {r1 : Int64} {T1 : AT} (h : g_X11_trackScore T o a0 = some (e1, r1, T1)) : GR T T1 := by
  have p0 := GR.rf T
  unfold g_X11_trackScore at h
  obtain ⟨g2, h⟩ := oif_some h
  rcases othr_s h with ⟨k9, r9, e9, -⟩ | ⟨r4, T3, eT3, h⟩
  · exact GR.tr p0 (gr_sp (s_X11_needCamera e9))
  have p1 : GR T T3 := GR.tr p0 (gr_sp (s_X11_needCamera eT3))
  obtain ⟨g5, h⟩ := oif_some h
  obtain ⟨n6, en6, h⟩ := obind_some h
  obtain ⟨g7, h⟩ := oif_some h
  obtain ⟨v8, -, h⟩ := elet_some h
  rcases othr_s h with ⟨k9, r9, e9, -⟩ | ⟨r10, T9, eT9, h⟩
  · exact GR.tr p1 (gr_sp (s_X11_needRange e9))
  have p2 : GR T T9 := GR.tr p1 (gr_sp (s_X11_needRange eT9))
  obtain ⟨g11, h⟩ := oif_some h
  obtain ⟨n12, en12, h⟩ := obind_some h
  obtain ⟨g13, h⟩ := oif_some h
  obtain ⟨n14, en14, h⟩ := obind_some h
  obtain ⟨g15, h⟩ := oif_some h
  obtain ⟨n16, en16, h⟩ := obind_some h
  obtain ⟨g17, h⟩ := oif_some h
  obtain ⟨T18, eT18, h⟩ := obind_some h
  have p3 : GR T T18 := GR.tr p2 (sr_X0_score eT18)
  exact GR.tr p3 (sr_X11_trackScore_b32 _ _ h)
set_option maxHeartbeats 4000000 in
set_option maxRecDepth 100000 in
theorem sr_X11_trackCell_b76 {e1 : Nat} {r1 : Int32} {T1 : AT} : ∀ (T : AT) (l0 : Nat) (l2 : Int32), g_X11_trackCell_b76 T l0 l2 = some (e1, r1, T1) → GR T T1 := by
  intro T l0 l2 h
  have p0 := GR.rf T
  unfold g_X11_trackCell_b76 at h
  obtain ⟨g2, h⟩ := oif_some h
  obtain ⟨n3, en3, h⟩ := obind_some h
  obtain ⟨g4, h⟩ := oif_some h
  obtain ⟨n5, en5, h⟩ := obind_some h
  obtain ⟨g6, h⟩ := oif_some h
  obtain ⟨n7, en7, h⟩ := obind_some h
  obtain ⟨g8, h⟩ := oif_some h
  obtain ⟨r10, T9, eT9, h⟩ := obind2_some h
  have p1 : GR T T9 := GR.tr p0 (gr_sp (s_X0_trackCellIn eT9))
  rw [← (osome3 h).2.2]
  exact p1
set_option maxHeartbeats 4000000 in
set_option maxRecDepth 100000 in
theorem sr_X11_trackCell_b48 {e1 : Nat} {r1 : Int32} {T1 : AT} : ∀ (T : AT) (l0 : Nat) (l1 : Int32) (l2 : Int32), g_X11_trackCell_b48 T l0 l1 l2 = some (e1, r1, T1) → GR T T1 := by
  intro T l0 l1 l2 h
  have p0 := GR.rf T
  unfold g_X11_trackCell_b48 at h
  obtain ⟨g2, h⟩ := oif_some h
  obtain ⟨n3, en3, h⟩ := obind_some h
  obtain ⟨g4, h⟩ := oif_some h
  obtain ⟨v5, -, h⟩ := elet_some h
  rcases othr_s h with ⟨k9, r9, e9, -⟩ | ⟨r7, T6, eT6, h⟩
  · exact GR.tr p0 (gr_sp (s_X11_needRange e9))
  have p1 : GR T T6 := GR.tr p0 (gr_sp (s_X11_needRange eT6))
  obtain ⟨g8, h⟩ := oif_some h
  obtain ⟨n9, en9, h⟩ := obind_some h
  obtain ⟨g10, h⟩ := oif_some h
  obtain ⟨n11, en11, h⟩ := obind_some h
  obtain ⟨g12, h⟩ := oif_some h
  obtain ⟨n13, en13, h⟩ := obind_some h
  obtain ⟨g14, h⟩ := oif_some h
  obtain ⟨T15, eT15, h⟩ := obind_some h
  have p2 : GR T T15 := GR.tr p1 (sr_X0_score eT15)
  exact GR.tr p2 (sr_X11_trackCell_b76 _ _ _ h)
set_option maxHeartbeats 4000000 in
set_option maxRecDepth 100000 in
theorem sr_X11_trackCell_b25 {e1 : Nat} {r1 : Int32} {T1 : AT} : ∀ (T : AT) (s0 : Int32) (l0 : Nat) (l1 : Int32) (l2 : Int32), g_X11_trackCell_b25 T s0 l0 l1 l2 = some (e1, r1, T1) → GR T T1 := by
  intro T s0 l0 l1 l2 h
  have p0 := GR.rf T
  unfold g_X11_trackCell_b25 at h
  rcases oif_or h with ⟨c2, h⟩ | ⟨c2, h⟩
  · have h := h
    exact GR.tr p0 (sr_X11_trackCell_b48 _ _ _ _ h)
  · have h := h
    obtain ⟨g3, h⟩ := oif_some h
    obtain ⟨n4, en4, h⟩ := obind_some h
    obtain ⟨g5, h⟩ := oif_some h
    obtain ⟨v6, -, h⟩ := elet_some h
    obtain ⟨v7, -, h⟩ := elet_some h
    obtain ⟨v8, -, h⟩ := elet_some h
    obtain ⟨r9, -, h⟩ := obind_some h
    obtain ⟨v10, -, h⟩ := elet_some h
    rcases othr_s h with ⟨k9, r9, e9, -⟩ | ⟨r12, T11, eT11, h⟩
    · exact GR.tr p0 (gr_sp (s_X11_needIndex e9))
    have p1 : GR T T11 := GR.tr p0 (gr_sp (s_X11_needIndex eT11))
    exact GR.tr p1 (sr_X11_trackCell_b48 _ _ _ _ h)
set_option maxHeartbeats 4000000 in
set_option maxRecDepth 100000 in
theorem sr_X11_trackCell_b24 {e1 : Nat} {r1 : Int32} {T1 : AT} : ∀ (T : AT) (l0 : Nat) (l1 : Int32) (l2 : Int32), g_X11_trackCell_b24 T l0 l1 l2 = some (e1, r1, T1) → GR T T1 := by
  intro T l0 l1 l2 h
  have p0 := GR.rf T
  unfold g_X11_trackCell_b24 at h
  exact GR.tr p0 (sr_X11_trackCell_b25 _ _ _ _ _ h)
set_option maxHeartbeats 4000000 in
set_option maxRecDepth 100000 in
theorem sr_X11_trackCell {T : AT} {o : Nat} {a0 : Int32} {a1 : Int32} {e1 : Nat} {r1 : Int32} {T1 : AT} (h : g_X11_trackCell T o a0 a1 = some (e1, r1, T1)) : GR T T1 := by
  have p0 := GR.rf T
  unfold g_X11_trackCell at h
  obtain ⟨g2, h⟩ := oif_some h
  rcases othr_s h with ⟨k9, r9, e9, -⟩ | ⟨r4, T3, eT3, h⟩
  · exact GR.tr p0 (gr_sp (s_X11_needCamera e9))
  have p1 : GR T T3 := GR.tr p0 (gr_sp (s_X11_needCamera eT3))
  rcases oif_or h with ⟨c5, h⟩ | ⟨c5, h⟩
  · have h := h
    exact GR.tr p1 (sr_X11_trackCell_b24 _ _ _ _ h)
  · have h := h
    obtain ⟨g6, h⟩ := oif_some h
    obtain ⟨n7, en7, h⟩ := obind_some h
    obtain ⟨g8, h⟩ := oif_some h
    obtain ⟨v9, -, h⟩ := elet_some h
    rcases oif_or h with ⟨c10, h⟩ | ⟨c10, h⟩
    · have h := h
      exact GR.tr p1 (sr_X11_trackCell_b24 _ _ _ _ h)
    · have h := h
      exact GR.tr p1 (sr_X11_trackCell_b25 _ _ _ _ _ h)
set_option maxHeartbeats 4000000 in
set_option maxRecDepth 100000 in
theorem sr_X11_powerOnTheMove_b137 {T1 : AT} : ∀ (T : AT), g_X11_powerOnTheMove_b137 T = some T1 → GR T T1 := by
  intro T h
  have p0 := GR.rf T
  unfold g_X11_powerOnTheMove_b137 at h
  rw [← osome1 h]
  exact p0
set_option maxHeartbeats 4000000 in
set_option maxRecDepth 100000 in
theorem sr_X11_powerOnTheMove_b115 {T1 : AT} {k38 : AT → Nat → Int32 → Int32 → Int32 → Int32 → Int32 → Int32 → Option (AT)} (hk38 : ∀ (T : AT) (l0 : Nat) (l2 : Int32) (l3 : Int32) (l4 : Int32) (l5 : Int32) (l6 : Int32) (l7 : Int32), k38 T l0 l2 l3 l4 l5 l6 l7 = some T1 → GR T T1) : ∀ (T : AT) (l0 : Nat) (l2 : Int32) (l3 : Int32) (l4 : Int32) (l5 : Int32) (l6 : Int32) (l7 : Int32), g_X11_powerOnTheMove_b115 k38 T l0 l2 l3 l4 l5 l6 l7 = some T1 → GR T T1 := by
  intro T l0 l2 l3 l4 l5 l6 l7 h
  have p0 := GR.rf T
  unfold g_X11_powerOnTheMove_b115 at h
  obtain ⟨v2, ev2, h⟩ := elet_some h
  exact GR.tr p0 (hk38 _ _ _ _ _ _ _ _ h)
set_option maxHeartbeats 4000000 in
set_option maxRecDepth 100000 in
theorem sr_X11_powerOnTheMove_b90 {T1 : AT} {k38 : AT → Nat → Int32 → Int32 → Int32 → Int32 → Int32 → Int32 → Option (AT)} (hk38 : ∀ (T : AT) (l0 : Nat) (l2 : Int32) (l3 : Int32) (l4 : Int32) (l5 : Int32) (l6 : Int32) (l7 : Int32), k38 T l0 l2 l3 l4 l5 l6 l7 = some T1 → GR T T1) : ∀ (T : AT) (l0 : Nat) (l2 : Int32) (l3 : Int32) (l4 : Int32) (l5 : Int32) (l6 : Int32) (l7 : Int32), g_X11_powerOnTheMove_b90 k38 T l0 l2 l3 l4 l5 l6 l7 = some T1 → GR T T1 := by
  intro T l0 l2 l3 l4 l5 l6 l7 h
  have p0 := GR.rf T
  unfold g_X11_powerOnTheMove_b90 at h
  obtain ⟨g2, h⟩ := oif_some h
  obtain ⟨n3, en3, h⟩ := obind_some h
  obtain ⟨g4, h⟩ := oif_some h
  obtain ⟨n5, en5, h⟩ := obind_some h
  obtain ⟨g6, h⟩ := oif_some h
  obtain ⟨n7, en7, h⟩ := obind_some h
  obtain ⟨g8, h⟩ := oif_some h
  obtain ⟨n9, en9, h⟩ := obind_some h
  obtain ⟨g10, h⟩ := oif_some h
  obtain ⟨n11, en11, h⟩ := obind_some h
  obtain ⟨g12, h⟩ := oif_some h
  obtain ⟨T13, eT13, h⟩ := obind_some h
  have p1 : GR T T13 := GR.tr p0 (sr_X10_addProduct eT13)
  exact GR.tr p1 (sr_X11_powerOnTheMove_b115 hk38 _ _ _ _ _ _ _ _ h)
set_option maxHeartbeats 4000000 in
set_option maxRecDepth 100000 in
theorem sr_X11_powerOnTheMove_b38 {T1 : AT} : ∀ n : Nat, ∀ (T : AT) (l0 : Nat) (l2 : Int32) (l3 : Int32) (l4 : Int32) (l5 : Int32) (l6 : Int32) (l7 : Int32), g_X11_powerOnTheMove_b38 n T l0 l2 l3 l4 l5 l6 l7 = some T1 → GR T T1 := by
  intro n
  induction n with
  | zero =>
    intro T l0 l2 l3 l4 l5 l6 l7 h
    have h : (none : Option (AT)) = some T1 := h
    cases h
  | succ n ih =>
    intro T l0 l2 l3 l4 l5 l6 l7 h
    have p0 := GR.rf T
    unfold g_X11_powerOnTheMove_b38 at h
    obtain ⟨g2, h⟩ := oif_some h
    obtain ⟨n3, en3, h⟩ := obind_some h
    obtain ⟨g4, h⟩ := oif_some h
    obtain ⟨v5, -, h⟩ := elet_some h
    rcases oif_or h with ⟨c6, h⟩ | ⟨c6, h⟩
    · have h := h
      obtain ⟨g7, h⟩ := oif_some h
      obtain ⟨n8, en8, h⟩ := obind_some h
      obtain ⟨g9, h⟩ := oif_some h
      obtain ⟨n10, en10, h⟩ := obind_some h
      obtain ⟨g11, h⟩ := oif_some h
      obtain ⟨v12, -, h⟩ := elet_some h
      obtain ⟨g13, h⟩ := oif_some h
      obtain ⟨T14, eT14, h⟩ := obind_some h
      have p1 : GR T T14 := GR.tr p0 (sr_X10_divide eT14)
      exact GR.tr p1 (sr_X11_powerOnTheMove_b137 _ h)
    · have h := h
      obtain ⟨g16, h⟩ := oif_some h
      obtain ⟨n17, en17, h⟩ := obind_some h
      obtain ⟨r18, -, h⟩ := obind_some h
      obtain ⟨r19, -, h⟩ := obind_some h
      obtain ⟨g20, h⟩ := oif_some h
      obtain ⟨n21, en21, h⟩ := obind_some h
      obtain ⟨g22, h⟩ := oif_some h
      obtain ⟨T23, eT23, h⟩ := obind_some h
      have p1 : GR T T23 := GR.tr p0 (gr_sp (s_X6_delaysFrom eT23))
      obtain ⟨g25, h⟩ := oif_some h
      obtain ⟨n26, en26, h⟩ := obind_some h
      obtain ⟨g27, h⟩ := oif_some h
      obtain ⟨n28, en28, h⟩ := obind_some h
      obtain ⟨g29, h⟩ := oif_some h
      obtain ⟨T30, eT30, h⟩ := obind_some h
      have p2 : GR T T30 := GR.tr p1 (sr_X8_focus eT30)
      exact GR.tr p2 (sr_X11_powerOnTheMove_b90 ih _ _ _ _ _ _ _ _ h)
set_option maxHeartbeats 4000000 in
set_option maxRecDepth 100000 in
theorem sr_X11_powerOnTheMove {T : AT} {o : Nat} {a0 : Int32} {a1 : Int32} {a2 : Int32} {a3 : Int32} {T1 : AT} (h : g_X11_powerOnTheMove T o a0 a1 a2 a3 = some T1) : GR T T1 := by
  have p0 := GR.rf T
  unfold g_X11_powerOnTheMove at h
  obtain ⟨g2, h⟩ := oif_some h
  obtain ⟨n3, en3, h⟩ := obind_some h
  obtain ⟨g4, h⟩ := oif_some h
  obtain ⟨n5, en5, h⟩ := obind_some h
  obtain ⟨g6, h⟩ := oif_some h
  obtain ⟨r8, T7, eT7, h⟩ := obind2_some h
  have p1 : GR T T7 := GR.tr p0 (gr_sp (s_X1_centreX eT7))
  obtain ⟨g9, h⟩ := oif_some h
  obtain ⟨n10, en10, h⟩ := obind_some h
  obtain ⟨g11, h⟩ := oif_some h
  obtain ⟨n12, en12, h⟩ := obind_some h
  obtain ⟨g13, h⟩ := oif_some h
  obtain ⟨r15, T14, eT14, h⟩ := obind2_some h
  have p2 : GR T T14 := GR.tr p1 (gr_sp (s_X1_centreY eT14))
  obtain ⟨g16, h⟩ := oif_some h
  obtain ⟨n17, en17, h⟩ := obind_some h
  obtain ⟨g18, h⟩ := oif_some h
  obtain ⟨T19, eT19, h⟩ := obind_some h
  have p3 : GR T T19 := GR.tr p2 (gr_sp (s_X10_clear eT19))
  exact GR.tr p3 (sr_X11_powerOnTheMove_b38 _ _ _ _ _ _ _ _ _ h)
set_option maxHeartbeats 4000000 in
set_option maxRecDepth 100000 in
theorem sr_X11_movingPower_b37 {e1 : Nat} {r1 : Int64} {T1 : AT} : ∀ (T : AT) (l0 : Nat), g_X11_movingPower_b37 T l0 = some (e1, r1, T1) → GR T T1 := by
  intro T l0 h
  have p0 := GR.rf T
  unfold g_X11_movingPower_b37 at h
  obtain ⟨g2, h⟩ := oif_some h
  obtain ⟨n3, en3, h⟩ := obind_some h
  obtain ⟨g4, h⟩ := oif_some h
  obtain ⟨r6, T5, eT5, h⟩ := obind2_some h
  have p1 : GR T T5 := GR.tr p0 (gr_sp (s_X10_value eT5))
  rw [← (osome3 h).2.2]
  exact p1
set_option maxHeartbeats 4000000 in
set_option maxRecDepth 100000 in
theorem sr_X11_movingPower {T : AT} {o : Nat} {a0 : Int32} {a1 : Int32} {a2 : Int32} {e1 : Nat} {r1 : Int64} {T1 : AT} (h : g_X11_movingPower T o a0 a1 a2 = some (e1, r1, T1)) : GR T T1 := by
  have p0 := GR.rf T
  unfold g_X11_movingPower at h
  obtain ⟨g2, h⟩ := oif_some h
  rcases othr_s h with ⟨k9, r9, e9, -⟩ | ⟨r4, T3, eT3, h⟩
  · exact GR.tr p0 (gr_sp (s_X11_needCamera e9))
  have p1 : GR T T3 := GR.tr p0 (gr_sp (s_X11_needCamera eT3))
  obtain ⟨g5, h⟩ := oif_some h
  rcases othr_s h with ⟨k9, r9, e9, -⟩ | ⟨r7, T6, eT6, h⟩
  · exact GR.tr p1 (gr_sp (s_X11_needCell e9))
  have p2 : GR T T6 := GR.tr p1 (gr_sp (s_X11_needCell eT6))
  rcases othr_s h with ⟨k9, r9, e9, -⟩ | ⟨r9, T8, eT8, h⟩
  · exact GR.tr p2 (gr_sp (s_X11_needRange e9))
  have p3 : GR T T8 := GR.tr p2 (gr_sp (s_X11_needRange eT8))
  rcases othr_s h with ⟨k9, r9, e9, -⟩ | ⟨r11, T10, eT10, h⟩
  · exact GR.tr p3 (gr_sp (s_X11_needRange e9))
  have p4 : GR T T10 := GR.tr p3 (gr_sp (s_X11_needRange eT10))
  obtain ⟨g12, h⟩ := oif_some h
  obtain ⟨T13, eT13, h⟩ := obind_some h
  have p5 : GR T T13 := GR.tr p4 (sr_X11_powerOnTheMove eT13)
  exact GR.tr p5 (sr_X11_movingPower_b37 _ _ h)
set_option maxHeartbeats 4000000 in
set_option maxRecDepth 100000 in
theorem sr_X11_bestVelocity_b104 {e1 : Nat} {r1 : Int32} {T1 : AT} {k29 : AT → Nat → Int32 → Int32 → Int32 → Int32 → Int32 → Option (Nat × Int32 × AT)} {k39 : AT → Nat → Int32 → Int32 → Int32 → Int32 → Int32 → Int32 → Option (Nat × Int32 × AT)} (hk29 : ∀ (T : AT) (l0 : Nat) (l1 : Int32) (l2 : Int32) (l3 : Int32) (l4 : Int32) (l5 : Int32), k29 T l0 l1 l2 l3 l4 l5 = some (e1, r1, T1) → GR T T1) (hk39 : ∀ (T : AT) (l0 : Nat) (l1 : Int32) (l2 : Int32) (l3 : Int32) (l4 : Int32) (l5 : Int32) (l6 : Int32), k39 T l0 l1 l2 l3 l4 l5 l6 = some (e1, r1, T1) → GR T T1) : ∀ (T : AT) (l0 : Nat) (l1 : Int32) (l2 : Int32) (l3 : Int32) (l4 : Int32) (l5 : Int32) (l6 : Int32), g_X11_bestVelocity_b104 k29 k39 T l0 l1 l2 l3 l4 l5 l6 = some (e1, r1, T1) → GR T T1 := by
  intro T l0 l1 l2 l3 l4 l5 l6 h
  have p0 := GR.rf T
  unfold g_X11_bestVelocity_b104 at h
  obtain ⟨v2, ev2, h⟩ := elet_some h
  exact GR.tr p0 (hk39 _ _ _ _ _ _ _ _ h)
set_option maxHeartbeats 4000000 in
set_option maxRecDepth 100000 in
theorem sr_X11_bestVelocity_b90 {e1 : Nat} {r1 : Int32} {T1 : AT} {k29 : AT → Nat → Int32 → Int32 → Int32 → Int32 → Int32 → Option (Nat × Int32 × AT)} {k39 : AT → Nat → Int32 → Int32 → Int32 → Int32 → Int32 → Int32 → Option (Nat × Int32 × AT)} (hk29 : ∀ (T : AT) (l0 : Nat) (l1 : Int32) (l2 : Int32) (l3 : Int32) (l4 : Int32) (l5 : Int32), k29 T l0 l1 l2 l3 l4 l5 = some (e1, r1, T1) → GR T T1) (hk39 : ∀ (T : AT) (l0 : Nat) (l1 : Int32) (l2 : Int32) (l3 : Int32) (l4 : Int32) (l5 : Int32) (l6 : Int32), k39 T l0 l1 l2 l3 l4 l5 l6 = some (e1, r1, T1) → GR T T1) : ∀ (T : AT) (l0 : Nat) (l1 : Int32) (l2 : Int32) (l3 : Int32) (l5 : Int32) (l6 : Int32), g_X11_bestVelocity_b90 k29 k39 T l0 l1 l2 l3 l5 l6 = some (e1, r1, T1) → GR T T1 := by
  intro T l0 l1 l2 l3 l5 l6 h
  have p0 := GR.rf T
  unfold g_X11_bestVelocity_b90 at h
  obtain ⟨v2, -, h⟩ := elet_some h
  obtain ⟨v3, -, h⟩ := elet_some h
  obtain ⟨v4, -, h⟩ := elet_some h
  obtain ⟨v5, -, h⟩ := elet_some h
  exact GR.tr p0 (sr_X11_bestVelocity_b104 hk29 hk39 _ _ _ _ _ _ _ _ h)
set_option maxHeartbeats 4000000 in
set_option maxRecDepth 100000 in
theorem sr_X11_bestVelocity_b77 {e1 : Nat} {r1 : Int32} {T1 : AT} {k29 : AT → Nat → Int32 → Int32 → Int32 → Int32 → Int32 → Option (Nat × Int32 × AT)} {k39 : AT → Nat → Int32 → Int32 → Int32 → Int32 → Int32 → Int32 → Option (Nat × Int32 × AT)} (hk29 : ∀ (T : AT) (l0 : Nat) (l1 : Int32) (l2 : Int32) (l3 : Int32) (l4 : Int32) (l5 : Int32), k29 T l0 l1 l2 l3 l4 l5 = some (e1, r1, T1) → GR T T1) (hk39 : ∀ (T : AT) (l0 : Nat) (l1 : Int32) (l2 : Int32) (l3 : Int32) (l4 : Int32) (l5 : Int32) (l6 : Int32), k39 T l0 l1 l2 l3 l4 l5 l6 = some (e1, r1, T1) → GR T T1) : ∀ (T : AT) (l0 : Nat) (l1 : Int32) (l2 : Int32) (l3 : Int32) (l5 : Int32) (l6 : Int32), g_X11_bestVelocity_b77 k29 k39 T l0 l1 l2 l3 l5 l6 = some (e1, r1, T1) → GR T T1 := by
  intro T l0 l1 l2 l3 l5 l6 h
  have p0 := GR.rf T
  unfold g_X11_bestVelocity_b77 at h
  obtain ⟨g2, h⟩ := oif_some h
  obtain ⟨n3, en3, h⟩ := obind_some h
  obtain ⟨g4, h⟩ := oif_some h
  obtain ⟨n5, en5, h⟩ := obind_some h
  obtain ⟨g6, h⟩ := oif_some h
  obtain ⟨T7, eT7, h⟩ := obind_some h
  have p1 : GR T T7 := GR.tr p0 (sr_X10_set eT7)
  exact GR.tr p1 (sr_X11_bestVelocity_b90 hk29 hk39 _ _ _ _ _ _ _ h)
set_option maxHeartbeats 4000000 in
set_option maxRecDepth 100000 in
theorem sr_X11_bestVelocity_b59 {e1 : Nat} {r1 : Int32} {T1 : AT} {k29 : AT → Nat → Int32 → Int32 → Int32 → Int32 → Int32 → Option (Nat × Int32 × AT)} {k39 : AT → Nat → Int32 → Int32 → Int32 → Int32 → Int32 → Int32 → Option (Nat × Int32 × AT)} (hk29 : ∀ (T : AT) (l0 : Nat) (l1 : Int32) (l2 : Int32) (l3 : Int32) (l4 : Int32) (l5 : Int32), k29 T l0 l1 l2 l3 l4 l5 = some (e1, r1, T1) → GR T T1) (hk39 : ∀ (T : AT) (l0 : Nat) (l1 : Int32) (l2 : Int32) (l3 : Int32) (l4 : Int32) (l5 : Int32) (l6 : Int32), k39 T l0 l1 l2 l3 l4 l5 l6 = some (e1, r1, T1) → GR T T1) : ∀ (T : AT) (l0 : Nat) (l1 : Int32) (l2 : Int32) (l3 : Int32) (l4 : Int32) (l5 : Int32) (l6 : Int32), g_X11_bestVelocity_b59 k29 k39 T l0 l1 l2 l3 l4 l5 l6 = some (e1, r1, T1) → GR T T1 := by
  intro T l0 l1 l2 l3 l4 l5 l6 h
  have p0 := GR.rf T
  unfold g_X11_bestVelocity_b59 at h
  rcases oif_or h with ⟨c2, h⟩ | ⟨c2, h⟩
  · have h := h
    exact GR.tr p0 (sr_X11_bestVelocity_b77 hk29 hk39 _ _ _ _ _ _ _ h)
  · have h := h
    obtain ⟨g3, h⟩ := oif_some h
    obtain ⟨n4, en4, h⟩ := obind_some h
    obtain ⟨g5, h⟩ := oif_some h
    obtain ⟨r7, T6, eT6, h⟩ := obind2_some h
    have p1 : GR T T6 := GR.tr p0 (gr_sp (s_X10_compare eT6))
    rcases oif_or h with ⟨c8, h⟩ | ⟨c8, h⟩
    · have h := h
      exact GR.tr p1 (sr_X11_bestVelocity_b104 hk29 hk39 _ _ _ _ _ _ _ _ h)
    · have h := h
      exact GR.tr p1 (sr_X11_bestVelocity_b77 hk29 hk39 _ _ _ _ _ _ _ h)
set_option maxHeartbeats 4000000 in
set_option maxRecDepth 100000 in
theorem sr_X11_bestVelocity_b39 {e1 : Nat} {r1 : Int32} {T1 : AT} {k29 : AT → Nat → Int32 → Int32 → Int32 → Int32 → Int32 → Option (Nat × Int32 × AT)} (hk29 : ∀ (T : AT) (l0 : Nat) (l1 : Int32) (l2 : Int32) (l3 : Int32) (l4 : Int32) (l5 : Int32), k29 T l0 l1 l2 l3 l4 l5 = some (e1, r1, T1) → GR T T1) : ∀ n : Nat, ∀ (T : AT) (l0 : Nat) (l1 : Int32) (l2 : Int32) (l3 : Int32) (l4 : Int32) (l5 : Int32) (l6 : Int32), g_X11_bestVelocity_b39 k29 n T l0 l1 l2 l3 l4 l5 l6 = some (e1, r1, T1) → GR T T1 := by
  intro n
  induction n with
  | zero =>
    intro T l0 l1 l2 l3 l4 l5 l6 h
    have h : (none : Option (Nat × Int32 × AT)) = some (e1, r1, T1) := h
    cases h
  | succ n ih =>
    intro T l0 l1 l2 l3 l4 l5 l6 h
    have p0 := GR.rf T
    unfold g_X11_bestVelocity_b39 at h
    rcases oif_or h with ⟨c2, h⟩ | ⟨c2, h⟩
    · have h := h
      obtain ⟨v3, ev3, h⟩ := elet_some h
      exact GR.tr p0 (hk29 _ _ _ _ _ _ _ h)
    · have h := h
      obtain ⟨v4, -, h⟩ := elet_some h
      obtain ⟨v5, -, h⟩ := elet_some h
      obtain ⟨g6, h⟩ := oif_some h
      obtain ⟨T7, eT7, h⟩ := obind_some h
      have p1 : GR T T7 := GR.tr p0 (sr_X11_powerOnTheMove eT7)
      exact GR.tr p1 (sr_X11_bestVelocity_b59 hk29 ih _ _ _ _ _ _ _ _ h)
set_option maxHeartbeats 4000000 in
set_option maxRecDepth 100000 in
theorem sr_X11_bestVelocity_b29 {e1 : Nat} {r1 : Int32} {T1 : AT} : ∀ n : Nat, ∀ (T : AT) (l0 : Nat) (l1 : Int32) (l2 : Int32) (l3 : Int32) (l4 : Int32) (l5 : Int32), g_X11_bestVelocity_b29 n T l0 l1 l2 l3 l4 l5 = some (e1, r1, T1) → GR T T1 := by
  intro n
  induction n with
  | zero =>
    intro T l0 l1 l2 l3 l4 l5 h
    have h : (none : Option (Nat × Int32 × AT)) = some (e1, r1, T1) := h
    cases h
  | succ n ih =>
    intro T l0 l1 l2 l3 l4 l5 h
    have p0 := GR.rf T
    unfold g_X11_bestVelocity_b29 at h
    rcases oif_or h with ⟨c2, h⟩ | ⟨c2, h⟩
    · have h := h
      rw [← (osome3 h).2.2]
      exact p0
    · have h := h
      obtain ⟨v3, -, h⟩ := elet_some h
      exact GR.tr p0 (sr_X11_bestVelocity_b39 ih _ _ _ _ _ _ _ _ _ h)
set_option maxHeartbeats 4000000 in
set_option maxRecDepth 100000 in
theorem sr_X11_bestVelocity {T : AT} {o : Nat} {a0 : Int32} {a1 : Int32} {a2 : Int32} {e1 : Nat} {r1 : Int32} {T1 : AT} (h : g_X11_bestVelocity T o a0 a1 a2 = some (e1, r1, T1)) : GR T T1 := by
  have p0 := GR.rf T
  unfold g_X11_bestVelocity at h
  obtain ⟨g2, h⟩ := oif_some h
  rcases othr_s h with ⟨k9, r9, e9, -⟩ | ⟨r4, T3, eT3, h⟩
  · exact GR.tr p0 (gr_sp (s_X11_needCamera e9))
  have p1 : GR T T3 := GR.tr p0 (gr_sp (s_X11_needCamera eT3))
  obtain ⟨g5, h⟩ := oif_some h
  rcases othr_s h with ⟨k9, r9, e9, -⟩ | ⟨r7, T6, eT6, h⟩
  · exact GR.tr p1 (gr_sp (s_X11_needCell e9))
  have p2 : GR T T6 := GR.tr p1 (gr_sp (s_X11_needCell eT6))
  rcases othr_s h with ⟨k9, r9, e9, -⟩ | ⟨r9, T8, eT8, h⟩
  · exact GR.tr p2 (gr_sp (s_X11_needRange e9))
  have p3 : GR T T8 := GR.tr p2 (gr_sp (s_X11_needRange eT8))
  rcases othr_s h with ⟨k9, r9, e9, -⟩ | ⟨r11, T10, eT10, h⟩
  · exact GR.tr p3 (gr_sp (s_X11_needRange e9))
  have p4 : GR T T10 := GR.tr p3 (gr_sp (s_X11_needRange eT10))
  obtain ⟨v12, -, h⟩ := elet_some h
  exact GR.tr p4 (sr_X11_bestVelocity_b29 _ _ _ _ _ _ _ _ h)
set_option maxHeartbeats 4000000 in
set_option maxRecDepth 100000 in
theorem sr_X11_correlation_b43 {e1 : Nat} {r1 : Int64} {T1 : AT} : ∀ (T : AT) (l0 : Nat), g_X11_correlation_b43 T l0 = some (e1, r1, T1) → GR T T1 := by
  intro T l0 h
  have p0 := GR.rf T
  unfold g_X11_correlation_b43 at h
  obtain ⟨g2, h⟩ := oif_some h
  obtain ⟨n3, en3, h⟩ := obind_some h
  obtain ⟨g4, h⟩ := oif_some h
  obtain ⟨r6, T5, eT5, h⟩ := obind2_some h
  have p1 : GR T T5 := GR.tr p0 (gr_sp (s_X10_value eT5))
  rw [← (osome3 h).2.2]
  exact p1
set_option maxHeartbeats 4000000 in
set_option maxRecDepth 100000 in
theorem sr_X11_correlation {T : AT} {o : Nat} {a0 : Int32} {a1 : Int32} {a2 : Int32} {e1 : Nat} {r1 : Int64} {T1 : AT} (h : g_X11_correlation T o a0 a1 a2 = some (e1, r1, T1)) : GR T T1 := by
  have p0 := GR.rf T
  unfold g_X11_correlation at h
  obtain ⟨g2, h⟩ := oif_some h
  rcases othr_s h with ⟨k9, r9, e9, -⟩ | ⟨r4, T3, eT3, h⟩
  · exact GR.tr p0 (gr_sp (s_X11_needCamera e9))
  have p1 : GR T T3 := GR.tr p0 (gr_sp (s_X11_needCamera eT3))
  obtain ⟨g5, h⟩ := oif_some h
  rcases othr_s h with ⟨k9, r9, e9, -⟩ | ⟨r7, T6, eT6, h⟩
  · exact GR.tr p1 (gr_sp (s_X11_needMic e9))
  have p2 : GR T T6 := GR.tr p1 (gr_sp (s_X11_needMic eT6))
  obtain ⟨g8, h⟩ := oif_some h
  rcases othr_s h with ⟨k9, r9, e9, -⟩ | ⟨r10, T9, eT9, h⟩
  · exact GR.tr p2 (gr_sp (s_X11_needMic e9))
  have p3 : GR T T9 := GR.tr p2 (gr_sp (s_X11_needMic eT9))
  obtain ⟨g11, h⟩ := oif_some h
  obtain ⟨n12, en12, h⟩ := obind_some h
  obtain ⟨g13, h⟩ := oif_some h
  obtain ⟨v14, -, h⟩ := elet_some h
  obtain ⟨v15, -, h⟩ := elet_some h
  rcases othr_s h with ⟨k9, r9, e9, -⟩ | ⟨r17, T16, eT16, h⟩
  · exact GR.tr p3 (gr_sp (s_X11_needRange e9))
  have p4 : GR T T16 := GR.tr p3 (gr_sp (s_X11_needRange eT16))
  obtain ⟨g18, h⟩ := oif_some h
  obtain ⟨n19, en19, h⟩ := obind_some h
  obtain ⟨g20, h⟩ := oif_some h
  obtain ⟨n21, en21, h⟩ := obind_some h
  obtain ⟨g22, h⟩ := oif_some h
  obtain ⟨T23, eT23, h⟩ := obind_some h
  have p5 : GR T T23 := GR.tr p4 (sr_X8_productSum eT23)
  exact GR.tr p5 (sr_X11_correlation_b43 _ _ h)
set_option maxHeartbeats 4000000 in
set_option maxRecDepth 100000 in
theorem sr_X11_bestLag_b100 {e1 : Nat} {r1 : Int32} {T1 : AT} {k49 : AT → Nat → Int32 → Int32 → Int32 → Int32 → Int32 → Option (Nat × Int32 × AT)} (hk49 : ∀ (T : AT) (l0 : Nat) (l1 : Int32) (l2 : Int32) (l3 : Int32) (l4 : Int32) (l5 : Int32), k49 T l0 l1 l2 l3 l4 l5 = some (e1, r1, T1) → GR T T1) : ∀ (T : AT) (l0 : Nat) (l1 : Int32) (l2 : Int32) (l3 : Int32) (l4 : Int32) (l5 : Int32), g_X11_bestLag_b100 k49 T l0 l1 l2 l3 l4 l5 = some (e1, r1, T1) → GR T T1 := by
  intro T l0 l1 l2 l3 l4 l5 h
  have p0 := GR.rf T
  unfold g_X11_bestLag_b100 at h
  obtain ⟨v2, ev2, h⟩ := elet_some h
  exact GR.tr p0 (hk49 _ _ _ _ _ _ _ h)
set_option maxHeartbeats 4000000 in
set_option maxRecDepth 100000 in
theorem sr_X11_bestLag_b96 {e1 : Nat} {r1 : Int32} {T1 : AT} {k49 : AT → Nat → Int32 → Int32 → Int32 → Int32 → Int32 → Option (Nat × Int32 × AT)} (hk49 : ∀ (T : AT) (l0 : Nat) (l1 : Int32) (l2 : Int32) (l3 : Int32) (l4 : Int32) (l5 : Int32), k49 T l0 l1 l2 l3 l4 l5 = some (e1, r1, T1) → GR T T1) : ∀ (T : AT) (l0 : Nat) (l1 : Int32) (l2 : Int32) (l3 : Int32) (l5 : Int32), g_X11_bestLag_b96 k49 T l0 l1 l2 l3 l5 = some (e1, r1, T1) → GR T T1 := by
  intro T l0 l1 l2 l3 l5 h
  have p0 := GR.rf T
  unfold g_X11_bestLag_b96 at h
  exact GR.tr p0 (sr_X11_bestLag_b100 hk49 _ _ _ _ _ _ _ h)
set_option maxHeartbeats 4000000 in
set_option maxRecDepth 100000 in
theorem sr_X11_bestLag_b71 {e1 : Nat} {r1 : Int32} {T1 : AT} {k49 : AT → Nat → Int32 → Int32 → Int32 → Int32 → Int32 → Option (Nat × Int32 × AT)} (hk49 : ∀ (T : AT) (l0 : Nat) (l1 : Int32) (l2 : Int32) (l3 : Int32) (l4 : Int32) (l5 : Int32), k49 T l0 l1 l2 l3 l4 l5 = some (e1, r1, T1) → GR T T1) : ∀ (T : AT) (l0 : Nat) (l1 : Int32) (l2 : Int32) (l3 : Int32) (l4 : Int32) (l5 : Int32), g_X11_bestLag_b71 k49 T l0 l1 l2 l3 l4 l5 = some (e1, r1, T1) → GR T T1 := by
  intro T l0 l1 l2 l3 l4 l5 h
  have p0 := GR.rf T
  unfold g_X11_bestLag_b71 at h
  obtain ⟨g2, h⟩ := oif_some h
  obtain ⟨n3, en3, h⟩ := obind_some h
  obtain ⟨g4, h⟩ := oif_some h
  obtain ⟨r6, T5, eT5, h⟩ := obind2_some h
  have p1 : GR T T5 := GR.tr p0 (gr_sp (s_X10_compare eT5))
  rcases oif_or h with ⟨c7, h⟩ | ⟨c7, h⟩
  · have h := h
    exact GR.tr p1 (sr_X11_bestLag_b100 hk49 _ _ _ _ _ _ _ h)
  · have h := h
    obtain ⟨g8, h⟩ := oif_some h
    obtain ⟨n9, en9, h⟩ := obind_some h
    obtain ⟨g10, h⟩ := oif_some h
    obtain ⟨n11, en11, h⟩ := obind_some h
    obtain ⟨g12, h⟩ := oif_some h
    obtain ⟨T13, eT13, h⟩ := obind_some h
    have p2 : GR T T13 := GR.tr p1 (sr_X10_set eT13)
    exact GR.tr p2 (sr_X11_bestLag_b96 hk49 _ _ _ _ _ _ h)
set_option maxHeartbeats 4000000 in
set_option maxRecDepth 100000 in
theorem sr_X11_bestLag_b49 {e1 : Nat} {r1 : Int32} {T1 : AT} : ∀ n : Nat, ∀ (T : AT) (l0 : Nat) (l1 : Int32) (l2 : Int32) (l3 : Int32) (l4 : Int32) (l5 : Int32), g_X11_bestLag_b49 n T l0 l1 l2 l3 l4 l5 = some (e1, r1, T1) → GR T T1 := by
  intro n
  induction n with
  | zero =>
    intro T l0 l1 l2 l3 l4 l5 h
    have h : (none : Option (Nat × Int32 × AT)) = some (e1, r1, T1) := h
    cases h
  | succ n ih =>
    intro T l0 l1 l2 l3 l4 l5 h
    have p0 := GR.rf T
    unfold g_X11_bestLag_b49 at h
    rcases oif_or h with ⟨c2, h⟩ | ⟨c2, h⟩
    · have h := h
      rw [← (osome3 h).2.2]
      exact p0
    · have h := h
      obtain ⟨g3, h⟩ := oif_some h
      obtain ⟨n4, en4, h⟩ := obind_some h
      obtain ⟨g5, h⟩ := oif_some h
      obtain ⟨n6, en6, h⟩ := obind_some h
      obtain ⟨g7, h⟩ := oif_some h
      obtain ⟨T8, eT8, h⟩ := obind_some h
      have p1 : GR T T8 := GR.tr p0 (sr_X8_productSum eT8)
      exact GR.tr p1 (sr_X11_bestLag_b71 ih _ _ _ _ _ _ _ h)
set_option maxHeartbeats 4000000 in
set_option maxRecDepth 100000 in
theorem sr_X11_bestLag_b46 {e1 : Nat} {r1 : Int32} {T1 : AT} : ∀ (T : AT) (l0 : Nat) (l1 : Int32) (l2 : Int32) (l3 : Int32) (l4 : Int32), g_X11_bestLag_b46 T l0 l1 l2 l3 l4 = some (e1, r1, T1) → GR T T1 := by
  intro T l0 l1 l2 l3 l4 h
  have p0 := GR.rf T
  unfold g_X11_bestLag_b46 at h
  exact GR.tr p0 (sr_X11_bestLag_b49 _ _ _ _ _ _ _ _ h)
set_option maxHeartbeats 4000000 in
set_option maxRecDepth 100000 in
theorem sr_X11_bestLag {T : AT} {o : Nat} {a0 : Int32} {a1 : Int32} {a2 : Int32} {e1 : Nat} {r1 : Int32} {T1 : AT} (h : g_X11_bestLag T o a0 a1 a2 = some (e1, r1, T1)) : GR T T1 := by
  have p0 := GR.rf T
  unfold g_X11_bestLag at h
  obtain ⟨g2, h⟩ := oif_some h
  rcases othr_s h with ⟨k9, r9, e9, -⟩ | ⟨r4, T3, eT3, h⟩
  · exact GR.tr p0 (gr_sp (s_X11_needCamera e9))
  have p1 : GR T T3 := GR.tr p0 (gr_sp (s_X11_needCamera eT3))
  obtain ⟨g5, h⟩ := oif_some h
  rcases othr_s h with ⟨k9, r9, e9, -⟩ | ⟨r7, T6, eT6, h⟩
  · exact GR.tr p1 (gr_sp (s_X11_needMic e9))
  have p2 : GR T T6 := GR.tr p1 (gr_sp (s_X11_needMic eT6))
  obtain ⟨g8, h⟩ := oif_some h
  rcases othr_s h with ⟨k9, r9, e9, -⟩ | ⟨r10, T9, eT9, h⟩
  · exact GR.tr p2 (gr_sp (s_X11_needMic e9))
  have p3 : GR T T9 := GR.tr p2 (gr_sp (s_X11_needMic eT9))
  obtain ⟨g11, h⟩ := oif_some h
  obtain ⟨n12, en12, h⟩ := obind_some h
  obtain ⟨g13, h⟩ := oif_some h
  obtain ⟨v14, -, h⟩ := elet_some h
  obtain ⟨v15, -, h⟩ := elet_some h
  rcases othr_s h with ⟨k9, r9, e9, -⟩ | ⟨r17, T16, eT16, h⟩
  · exact GR.tr p3 (gr_sp (s_X11_needRange e9))
  have p4 : GR T T16 := GR.tr p3 (gr_sp (s_X11_needRange eT16))
  obtain ⟨g18, h⟩ := oif_some h
  obtain ⟨n19, en19, h⟩ := obind_some h
  obtain ⟨g20, h⟩ := oif_some h
  obtain ⟨n21, en21, h⟩ := obind_some h
  obtain ⟨g22, h⟩ := oif_some h
  obtain ⟨T23, eT23, h⟩ := obind_some h
  have p5 : GR T T23 := GR.tr p4 (sr_X8_productSum eT23)
  exact GR.tr p5 (sr_X11_bestLag_b46 _ _ _ _ _ _ h)
set_option maxHeartbeats 4000000 in
set_option maxRecDepth 100000 in
theorem sr_X11_measureLevel_b30 {T1 : AT} : ∀ (T : AT), g_X11_measureLevel_b30 T = some T1 → GR T T1 := by
  intro T h
  have p0 := GR.rf T
  unfold g_X11_measureLevel_b30 at h
  rw [← osome1 h]
  exact p0
set_option maxHeartbeats 4000000 in
set_option maxRecDepth 100000 in
theorem sr_X11_measureLevel_b15 {T1 : AT} : ∀ (T : AT) (l0 : Nat) (l1 : Int32), g_X11_measureLevel_b15 T l0 l1 = some T1 → GR T T1 := by
  intro T l0 l1 h
  have p0 := GR.rf T
  unfold g_X11_measureLevel_b15 at h
  obtain ⟨g2, h⟩ := oif_some h
  obtain ⟨n3, en3, h⟩ := obind_some h
  obtain ⟨g4, h⟩ := oif_some h
  obtain ⟨n5, en5, h⟩ := obind_some h
  obtain ⟨g6, h⟩ := oif_some h
  obtain ⟨v7, -, h⟩ := elet_some h
  obtain ⟨g8, h⟩ := oif_some h
  obtain ⟨T9, eT9, h⟩ := obind_some h
  have p1 : GR T T9 := GR.tr p0 (sr_X10_divide eT9)
  exact GR.tr p1 (sr_X11_measureLevel_b30 _ h)
set_option maxHeartbeats 4000000 in
set_option maxRecDepth 100000 in
theorem sr_X11_measureLevel {T : AT} {o : Nat} {a0 : Int32} {T1 : AT} (h : g_X11_measureLevel T o a0 = some T1) : GR T T1 := by
  have p0 := GR.rf T
  unfold g_X11_measureLevel at h
  obtain ⟨g2, h⟩ := oif_some h
  obtain ⟨n3, en3, h⟩ := obind_some h
  obtain ⟨g4, h⟩ := oif_some h
  obtain ⟨n5, en5, h⟩ := obind_some h
  obtain ⟨g6, h⟩ := oif_some h
  obtain ⟨T7, eT7, h⟩ := obind_some h
  have p1 : GR T T7 := GR.tr p0 (sr_X8_productSum eT7)
  exact GR.tr p1 (sr_X11_measureLevel_b15 _ _ _ h)
set_option maxHeartbeats 4000000 in
set_option maxRecDepth 100000 in
theorem sr_X11_level_b14 {e1 : Nat} {r1 : Int64} {T1 : AT} : ∀ (T : AT) (l0 : Nat) (l1 : Int32), g_X11_level_b14 T l0 l1 = some (e1, r1, T1) → GR T T1 := by
  intro T l0 l1 h
  have p0 := GR.rf T
  unfold g_X11_level_b14 at h
  obtain ⟨g2, h⟩ := oif_some h
  obtain ⟨n3, en3, h⟩ := obind_some h
  obtain ⟨g4, h⟩ := oif_some h
  obtain ⟨r6, T5, eT5, h⟩ := obind2_some h
  have p1 : GR T T5 := GR.tr p0 (gr_sp (s_X10_value eT5))
  rw [← (osome3 h).2.2]
  exact p1
set_option maxHeartbeats 4000000 in
set_option maxRecDepth 100000 in
theorem sr_X11_level {T : AT} {o : Nat} {a0 : Int32} {e1 : Nat} {r1 : Int64} {T1 : AT} (h : g_X11_level T o a0 = some (e1, r1, T1)) : GR T T1 := by
  have p0 := GR.rf T
  unfold g_X11_level at h
  obtain ⟨g2, h⟩ := oif_some h
  rcases othr_s h with ⟨k9, r9, e9, -⟩ | ⟨r4, T3, eT3, h⟩
  · exact GR.tr p0 (gr_sp (s_X11_needCamera e9))
  have p1 : GR T T3 := GR.tr p0 (gr_sp (s_X11_needCamera eT3))
  obtain ⟨g5, h⟩ := oif_some h
  rcases othr_s h with ⟨k9, r9, e9, -⟩ | ⟨r7, T6, eT6, h⟩
  · exact GR.tr p1 (gr_sp (s_X11_needMic e9))
  have p2 : GR T T6 := GR.tr p1 (gr_sp (s_X11_needMic eT6))
  obtain ⟨g8, h⟩ := oif_some h
  obtain ⟨T9, eT9, h⟩ := obind_some h
  have p3 : GR T T9 := GR.tr p2 (sr_X11_measureLevel eT9)
  exact GR.tr p3 (sr_X11_level_b14 _ _ _ h)
set_option maxHeartbeats 4000000 in
set_option maxRecDepth 100000 in
theorem sr_X11_loudest_b33 {e1 : Nat} {r1 : Int32} {T1 : AT} {k17 : AT → Nat → Int32 → Int32 → Option (Nat × Int32 × AT)} (hk17 : ∀ (T : AT) (l0 : Nat) (l1 : Int32) (l2 : Int32), k17 T l0 l1 l2 = some (e1, r1, T1) → GR T T1) : ∀ (T : AT) (l0 : Nat) (l1 : Int32) (l2 : Int32), g_X11_loudest_b33 k17 T l0 l1 l2 = some (e1, r1, T1) → GR T T1 := by
  intro T l0 l1 l2 h
  have p0 := GR.rf T
  unfold g_X11_loudest_b33 at h
  obtain ⟨v2, ev2, h⟩ := elet_some h
  exact GR.tr p0 (hk17 _ _ _ _ h)
set_option maxHeartbeats 4000000 in
set_option maxRecDepth 100000 in
theorem sr_X11_loudest_b17 {e1 : Nat} {r1 : Int32} {T1 : AT} : ∀ n : Nat, ∀ (T : AT) (l0 : Nat) (l1 : Int32) (l2 : Int32), g_X11_loudest_b17 n T l0 l1 l2 = some (e1, r1, T1) → GR T T1 := by
  intro n
  induction n with
  | zero =>
    intro T l0 l1 l2 h
    have h : (none : Option (Nat × Int32 × AT)) = some (e1, r1, T1) := h
    cases h
  | succ n ih =>
    intro T l0 l1 l2 h
    have p0 := GR.rf T
    unfold g_X11_loudest_b17 at h
    obtain ⟨g2, h⟩ := oif_some h
    obtain ⟨n3, en3, h⟩ := obind_some h
    obtain ⟨g4, h⟩ := oif_some h
    obtain ⟨v5, -, h⟩ := elet_some h
    rcases oif_or h with ⟨c6, h⟩ | ⟨c6, h⟩
    · have h := h
      obtain ⟨g7, h⟩ := oif_some h
      obtain ⟨n8, en8, h⟩ := obind_some h
      obtain ⟨g9, h⟩ := oif_some h
      obtain ⟨n10, en10, h⟩ := obind_some h
      obtain ⟨g11, h⟩ := oif_some h
      obtain ⟨v12, -, h⟩ := elet_some h
      obtain ⟨g13, h⟩ := oif_some h
      obtain ⟨r15, T14, eT14, h⟩ := obind2_some h
      have p1 : GR T T14 := GR.tr p0 (gr_sp (s_X10_ranked eT14))
      rw [← (osome3 h).2.2]
      exact p1
    · have h := h
      obtain ⟨g16, h⟩ := oif_some h
      obtain ⟨T17, eT17, h⟩ := obind_some h
      have p1 : GR T T17 := GR.tr p0 (sr_X11_measureLevel eT17)
      exact GR.tr p1 (sr_X11_loudest_b33 ih _ _ _ _ h)
set_option maxHeartbeats 4000000 in
set_option maxRecDepth 100000 in
theorem sr_X11_loudest {T : AT} {o : Nat} {a0 : Int32} {e1 : Nat} {r1 : Int32} {T1 : AT} (h : g_X11_loudest T o a0 = some (e1, r1, T1)) : GR T T1 := by
  have p0 := GR.rf T
  unfold g_X11_loudest at h
  obtain ⟨g2, h⟩ := oif_some h
  rcases othr_s h with ⟨k9, r9, e9, -⟩ | ⟨r4, T3, eT3, h⟩
  · exact GR.tr p0 (gr_sp (s_X11_needCamera e9))
  have p1 : GR T T3 := GR.tr p0 (gr_sp (s_X11_needCamera eT3))
  obtain ⟨g5, h⟩ := oif_some h
  obtain ⟨n6, en6, h⟩ := obind_some h
  obtain ⟨g7, h⟩ := oif_some h
  obtain ⟨v8, -, h⟩ := elet_some h
  rcases othr_s h with ⟨k9, r9, e9, -⟩ | ⟨r10, T9, eT9, h⟩
  · exact GR.tr p1 (gr_sp (s_X11_needIndex e9))
  have p2 : GR T T9 := GR.tr p1 (gr_sp (s_X11_needIndex eT9))
  exact GR.tr p2 (sr_X11_loudest_b17 _ _ _ _ _ h)
set_option maxHeartbeats 4000000 in
set_option maxRecDepth 100000 in
theorem sr_X11_writeMap_b66 {e1 : Nat} {r1 : Int32} {T1 : AT} {k16 : AT → Nat → Nat → Int32 → Option (Nat × Int32 × AT)} (hk16 : ∀ (T : AT) (l0 : Nat) (l1 : Nat) (l2 : Int32), k16 T l0 l1 l2 = some (e1, r1, T1) → GR T T1) : ∀ (T : AT) (s0 : Int32) (s1 : Int32) (s2 : Nat) (l0 : Nat) (l1 : Nat) (l2 : Int32), g_X11_writeMap_b66 k16 T s0 s1 s2 l0 l1 l2 = some (e1, r1, T1) → GR T T1 := by
  intro T s0 s1 s2 l0 l1 l2 h
  have p0 := GR.rf T
  unfold g_X11_writeMap_b66 at h
  obtain ⟨v2, -, h⟩ := elet_some h
  obtain ⟨g3, h⟩ := oif_some h
  obtain ⟨T4, eT4, h⟩ := obind_some h
  have p1 : GR T T4 := GR.tr p0 (gr_sp (s_X11_addMapByte eT4))
  obtain ⟨v6, ev6, h⟩ := elet_some h
  exact GR.tr p1 (hk16 _ _ _ _ h)
set_option maxHeartbeats 4000000 in
set_option maxRecDepth 100000 in
theorem sr_X11_writeMap_b54 {e1 : Nat} {r1 : Int32} {T1 : AT} {k16 : AT → Nat → Nat → Int32 → Option (Nat × Int32 × AT)} (hk16 : ∀ (T : AT) (l0 : Nat) (l1 : Nat) (l2 : Int32), k16 T l0 l1 l2 = some (e1, r1, T1) → GR T T1) : ∀ (T : AT) (l0 : Nat) (l1 : Nat) (l2 : Int32), g_X11_writeMap_b54 k16 T l0 l1 l2 = some (e1, r1, T1) → GR T T1 := by
  intro T l0 l1 l2 h
  have p0 := GR.rf T
  unfold g_X11_writeMap_b54 at h
  obtain ⟨g2, h⟩ := oif_some h
  obtain ⟨n3, en3, h⟩ := obind_some h
  obtain ⟨g4, h⟩ := oif_some h
  obtain ⟨r6, T5, eT5, h⟩ := obind2_some h
  have p1 : GR T T5 := GR.tr p0 (sr_X4_digit eT5)
  exact GR.tr p1 (sr_X11_writeMap_b66 hk16 _ _ _ _ _ _ _ h)
set_option maxHeartbeats 4000000 in
set_option maxRecDepth 100000 in
theorem sr_X11_writeMap_b16 {e1 : Nat} {r1 : Int32} {T1 : AT} : ∀ n : Nat, ∀ (T : AT) (l0 : Nat) (l1 : Nat) (l2 : Int32), g_X11_writeMap_b16 n T l0 l1 l2 = some (e1, r1, T1) → GR T T1 := by
  intro n
  induction n with
  | zero =>
    intro T l0 l1 l2 h
    have h : (none : Option (Nat × Int32 × AT)) = some (e1, r1, T1) := h
    cases h
  | succ n ih =>
    intro T l0 l1 l2 h
    have p0 := GR.rf T
    unfold g_X11_writeMap_b16 at h
    obtain ⟨g2, h⟩ := oif_some h
    obtain ⟨n3, en3, h⟩ := obind_some h
    obtain ⟨g4, h⟩ := oif_some h
    obtain ⟨n5, en5, h⟩ := obind_some h
    obtain ⟨g6, h⟩ := oif_some h
    obtain ⟨r8, T7, eT7, h⟩ := obind2_some h
    have p1 : GR T T7 := GR.tr p0 (gr_sp (s_X1_cells eT7))
    rcases oif_or h with ⟨c9, h⟩ | ⟨c9, h⟩
    · have h := h
      obtain ⟨g10, h⟩ := oif_some h
      obtain ⟨v11, -, h⟩ := elet_some h
      rw [← (osome3 h).2.2]
      exact p1
    · have h := h
      rcases oif_or h with ⟨c12, h⟩ | ⟨c12, h⟩
      · have h := h
        exact GR.tr p1 (sr_X11_writeMap_b54 ih _ _ _ _ h)
      · have h := h
        obtain ⟨g13, h⟩ := oif_some h
        obtain ⟨n14, en14, h⟩ := obind_some h
        obtain ⟨g15, h⟩ := oif_some h
        obtain ⟨n16, en16, h⟩ := obind_some h
        obtain ⟨g17, h⟩ := oif_some h
        obtain ⟨r19, T18, eT18, h⟩ := obind2_some h
        have p2 : GR T T18 := GR.tr p1 (gr_sp (s_X1_columnOf eT18))
        rcases oif_or h with ⟨c20, h⟩ | ⟨c20, h⟩
        · have h := h
          obtain ⟨g21, h⟩ := oif_some h
          obtain ⟨T22, eT22, h⟩ := obind_some h
          have p3 : GR T T22 := GR.tr p2 (gr_sp (s_X11_addMapByte eT22))
          exact GR.tr p3 (sr_X11_writeMap_b54 ih _ _ _ _ h)
        · have h := h
          exact GR.tr p2 (sr_X11_writeMap_b54 ih _ _ _ _ h)
set_option maxHeartbeats 4000000 in
set_option maxRecDepth 100000 in
theorem sr_X11_writeMap_b8 {e1 : Nat} {r1 : Int32} {T1 : AT} : ∀ (T : AT) (s0 : Nat) (l0 : Nat), g_X11_writeMap_b8 T s0 l0 = some (e1, r1, T1) → GR T T1 := by
  intro T s0 l0 h
  have p0 := GR.rf T
  unfold g_X11_writeMap_b8 at h
  obtain ⟨g2, h⟩ := oif_some h
  obtain ⟨T3, eT3, h⟩ := elet_some h
  have p1 : GR T T3 := GR.tr p0 (by rw [eT3]; exact gr_sp sp_uI)
  exact GR.tr p1 (sr_X11_writeMap_b16 _ _ _ _ _ h)
set_option maxHeartbeats 4000000 in
set_option maxRecDepth 100000 in
theorem sr_X11_writeMap {T : AT} {o : Nat} {e1 : Nat} {r1 : Int32} {T1 : AT} (h : g_X11_writeMap T o = some (e1, r1, T1)) : GR T T1 := by
  have p0 := GR.rf T
  unfold g_X11_writeMap at h
  obtain ⟨g2, h⟩ := oif_some h
  rcases othr_s h with ⟨k9, r9, e9, -⟩ | ⟨r4, T3, eT3, h⟩
  · exact GR.tr p0 (gr_sp (s_X11_needCamera e9))
  have p1 : GR T T3 := GR.tr p0 (gr_sp (s_X11_needCamera eT3))
  obtain ⟨g5, h⟩ := oif_some h
  obtain ⟨r7, T6, eT6, h⟩ := obind2_some h
  obtain ⟨g8, h⟩ := oif_some h
  have p2 : GR T T6 := GR.tr p1 (sr_X11_powersNow eT6)
  exact GR.tr p2 (sr_X11_writeMap_b8 _ _ _ h)
set_option maxHeartbeats 4000000 in
set_option maxRecDepth 100000 in
theorem sr_X11_recordPoint_b28 {T1 : AT} : ∀ (T : AT), g_X11_recordPoint_b28 T = some T1 → GR T T1 := by
  intro T h
  have p0 := GR.rf T
  unfold g_X11_recordPoint_b28 at h
  rw [← osome1 h]
  exact p0
set_option maxHeartbeats 4000000 in
set_option maxRecDepth 100000 in
theorem sr_X11_recordPoint_b11 {T1 : AT} : ∀ (T : AT) (l0 : Nat) (l1 : Int32) (l2 : Int32), g_X11_recordPoint_b11 T l0 l1 l2 = some T1 → GR T T1 := by
  intro T l0 l1 l2 h
  have p0 := GR.rf T
  unfold g_X11_recordPoint_b11 at h
  obtain ⟨g2, h⟩ := oif_some h
  obtain ⟨n3, en3, h⟩ := obind_some h
  obtain ⟨g4, h⟩ := oif_some h
  obtain ⟨n5, en5, h⟩ := obind_some h
  obtain ⟨g6, h⟩ := oif_some h
  obtain ⟨n7, en7, h⟩ := obind_some h
  obtain ⟨g8, h⟩ := oif_some h
  obtain ⟨T9, eT9, h⟩ := obind_some h
  have p1 : GR T T9 := GR.tr p0 (sr_X5_recordPoint eT9)
  exact GR.tr p1 (sr_X11_recordPoint_b28 _ h)
set_option maxHeartbeats 4000000 in
set_option maxRecDepth 100000 in
theorem sr_X11_recordPoint {T : AT} {o : Nat} {a0 : Int32} {a1 : Int32} {T1 : AT} (h : g_X11_recordPoint T o a0 a1 = some T1) : GR T T1 := by
  have p0 := GR.rf T
  unfold g_X11_recordPoint at h
  obtain ⟨g2, h⟩ := oif_some h
  obtain ⟨n3, en3, h⟩ := obind_some h
  obtain ⟨g4, h⟩ := oif_some h
  obtain ⟨n5, en5, h⟩ := obind_some h
  obtain ⟨g6, h⟩ := oif_some h
  obtain ⟨T7, eT7, h⟩ := obind_some h
  have p1 : GR T T7 := GR.tr p0 (sr_X8_copyFrom eT7)
  exact GR.tr p1 (sr_X11_recordPoint_b11 _ _ _ _ h)
set_option maxHeartbeats 4000000 in
set_option maxRecDepth 100000 in
theorem sr_X11_trialBest_b15 {r1 : Int32} {T1 : AT} : ∀ (T : AT) (l0 : Nat), g_X11_trialBest_b15 T l0 = some (r1, T1) → GR T T1 := by
  intro T l0 h
  have p0 := GR.rf T
  unfold g_X11_trialBest_b15 at h
  obtain ⟨g2, h⟩ := oif_some h
  obtain ⟨n3, en3, h⟩ := obind_some h
  obtain ⟨g4, h⟩ := oif_some h
  obtain ⟨v5, -, h⟩ := elet_some h
  rw [← (osome2 h).2]
  exact p0
set_option maxHeartbeats 4000000 in
set_option maxRecDepth 100000 in
theorem sr_X11_trialBest {T : AT} {o : Nat} {r1 : Int32} {T1 : AT} (h : g_X11_trialBest T o = some (r1, T1)) : GR T T1 := by
  have p0 := GR.rf T
  unfold g_X11_trialBest at h
  obtain ⟨g2, h⟩ := oif_some h
  obtain ⟨n3, en3, h⟩ := obind_some h
  obtain ⟨g4, h⟩ := oif_some h
  obtain ⟨n5, en5, h⟩ := obind_some h
  obtain ⟨g6, h⟩ := oif_some h
  obtain ⟨n7, en7, h⟩ := obind_some h
  obtain ⟨g8, h⟩ := oif_some h
  obtain ⟨T9, eT9, h⟩ := obind_some h
  have p1 : GR T T9 := GR.tr p0 (sr_X4_measure eT9)
  exact GR.tr p1 (sr_X11_trialBest_b15 _ _ h)
set_option maxHeartbeats 4000000 in
set_option maxRecDepth 100000 in
theorem sr_X11_pointBest_b26 {e1 : Nat} {r1 : Int32} {T1 : AT} : ∀ (T : AT) (s0 : Int32), g_X11_pointBest_b26 T s0 = some (e1, r1, T1) → GR T T1 := by
  intro T s0 h
  have p0 := GR.rf T
  unfold g_X11_pointBest_b26 at h
  rw [← (osome3 h).2.2]
  exact p0
set_option maxHeartbeats 4000000 in
set_option maxRecDepth 100000 in
theorem sr_X11_pointBest_b22 {e1 : Nat} {r1 : Int32} {T1 : AT} : ∀ (T : AT) (l0 : Nat), g_X11_pointBest_b22 T l0 = some (e1, r1, T1) → GR T T1 := by
  intro T l0 h
  have p0 := GR.rf T
  unfold g_X11_pointBest_b22 at h
  obtain ⟨g2, h⟩ := oif_some h
  obtain ⟨r4, T3, eT3, h⟩ := obind2_some h
  have p1 : GR T T3 := GR.tr p0 (sr_X11_trialBest eT3)
  exact GR.tr p1 (sr_X11_pointBest_b26 _ _ h)
set_option maxHeartbeats 4000000 in
set_option maxRecDepth 100000 in
theorem sr_X11_pointBest {T : AT} {o : Nat} {a0 : Int32} {a1 : Int32} {e1 : Nat} {r1 : Int32} {T1 : AT} (h : g_X11_pointBest T o a0 a1 = some (e1, r1, T1)) : GR T T1 := by
  have p0 := GR.rf T
  unfold g_X11_pointBest at h
  obtain ⟨g2, h⟩ := oif_some h
  rcases othr_s h with ⟨k9, r9, e9, -⟩ | ⟨r4, T3, eT3, h⟩
  · exact GR.tr p0 (gr_sp (s_X11_needCamera e9))
  have p1 : GR T T3 := GR.tr p0 (gr_sp (s_X11_needCamera eT3))
  obtain ⟨g5, h⟩ := oif_some h
  rcases othr_s h with ⟨k9, r9, e9, -⟩ | ⟨r7, T6, eT6, h⟩
  · exact GR.tr p1 (gr_sp (s_X11_needCell e9))
  have p2 : GR T T6 := GR.tr p1 (gr_sp (s_X11_needCell eT6))
  rcases othr_s h with ⟨k9, r9, e9, -⟩ | ⟨r9, T8, eT8, h⟩
  · exact GR.tr p2 (gr_sp (s_X11_needRange e9))
  have p3 : GR T T8 := GR.tr p2 (gr_sp (s_X11_needRange eT8))
  obtain ⟨g10, h⟩ := oif_some h
  obtain ⟨T11, eT11, h⟩ := obind_some h
  have p4 : GR T T11 := GR.tr p3 (sr_X11_recordPoint eT11)
  exact GR.tr p4 (sr_X11_pointBest_b22 _ _ h)
set_option maxHeartbeats 4000000 in
set_option maxRecDepth 100000 in
theorem sr_X11_pointPower_b48 {e1 : Nat} {r1 : Int64} {T1 : AT} : ∀ (T : AT) (l0 : Nat), g_X11_pointPower_b48 T l0 = some (e1, r1, T1) → GR T T1 := by
  intro T l0 h
  have p0 := GR.rf T
  unfold g_X11_pointPower_b48 at h
  obtain ⟨g2, h⟩ := oif_some h
  obtain ⟨n3, en3, h⟩ := obind_some h
  obtain ⟨g4, h⟩ := oif_some h
  obtain ⟨r6, T5, eT5, h⟩ := obind2_some h
  have p1 : GR T T5 := GR.tr p0 (gr_sp (s_X10_value eT5))
  rw [← (osome3 h).2.2]
  exact p1
set_option maxHeartbeats 4000000 in
set_option maxRecDepth 100000 in
theorem sr_X11_pointPower_b27 {e1 : Nat} {r1 : Int64} {T1 : AT} : ∀ (T : AT) (l0 : Nat) (l2 : Int32), g_X11_pointPower_b27 T l0 l2 = some (e1, r1, T1) → GR T T1 := by
  intro T l0 l2 h
  have p0 := GR.rf T
  unfold g_X11_pointPower_b27 at h
  obtain ⟨g2, h⟩ := oif_some h
  obtain ⟨n3, en3, h⟩ := obind_some h
  obtain ⟨g4, h⟩ := oif_some h
  obtain ⟨n5, en5, h⟩ := obind_some h
  obtain ⟨g6, h⟩ := oif_some h
  obtain ⟨n7, en7, h⟩ := obind_some h
  obtain ⟨g8, h⟩ := oif_some h
  obtain ⟨g9, h⟩ := oif_some h
  obtain ⟨n10, en10, h⟩ := obind_some h
  obtain ⟨g11, h⟩ := oif_some h
  obtain ⟨n12, en12, h⟩ := obind_some h
  obtain ⟨g13, h⟩ := oif_some h
  obtain ⟨T14, eT14, h⟩ := obind_some h
  have p1 : GR T T14 := GR.tr p0 (sr_X8_powerOf eT14)
  exact GR.tr p1 (sr_X11_pointPower_b48 _ _ h)
set_option maxHeartbeats 4000000 in
set_option maxRecDepth 100000 in
theorem sr_X11_pointPower {T : AT} {o : Nat} {a0 : Int32} {a1 : Int32} {a2 : Int32} {e1 : Nat} {r1 : Int64} {T1 : AT} (h : g_X11_pointPower T o a0 a1 a2 = some (e1, r1, T1)) : GR T T1 := by
  have p0 := GR.rf T
  unfold g_X11_pointPower at h
  obtain ⟨g2, h⟩ := oif_some h
  rcases othr_s h with ⟨k9, r9, e9, -⟩ | ⟨r4, T3, eT3, h⟩
  · exact GR.tr p0 (gr_sp (s_X11_needCamera e9))
  have p1 : GR T T3 := GR.tr p0 (gr_sp (s_X11_needCamera eT3))
  obtain ⟨g5, h⟩ := oif_some h
  rcases othr_s h with ⟨k9, r9, e9, -⟩ | ⟨r7, T6, eT6, h⟩
  · exact GR.tr p1 (gr_sp (s_X11_needCell e9))
  have p2 : GR T T6 := GR.tr p1 (gr_sp (s_X11_needCell eT6))
  obtain ⟨g8, h⟩ := oif_some h
  rcases othr_s h with ⟨k9, r9, e9, -⟩ | ⟨r10, T9, eT9, h⟩
  · exact GR.tr p2 (gr_sp (s_X11_needCell e9))
  have p3 : GR T T9 := GR.tr p2 (gr_sp (s_X11_needCell eT9))
  rcases othr_s h with ⟨k9, r9, e9, -⟩ | ⟨r12, T11, eT11, h⟩
  · exact GR.tr p3 (gr_sp (s_X11_needRange e9))
  have p4 : GR T T11 := GR.tr p3 (gr_sp (s_X11_needRange eT11))
  obtain ⟨g13, h⟩ := oif_some h
  obtain ⟨T14, eT14, h⟩ := obind_some h
  have p5 : GR T T14 := GR.tr p4 (sr_X11_recordPoint eT14)
  exact GR.tr p5 (sr_X11_pointPower_b27 _ _ _ h)
set_option maxHeartbeats 4000000 in
set_option maxRecDepth 100000 in
theorem sr_X11_bestWithout_b34 {e1 : Nat} {r1 : Int32} {T1 : AT} : ∀ (T : AT) (s0 : Int32), g_X11_bestWithout_b34 T s0 = some (e1, r1, T1) → GR T T1 := by
  intro T s0 h
  have p0 := GR.rf T
  unfold g_X11_bestWithout_b34 at h
  rw [← (osome3 h).2.2]
  exact p0
set_option maxHeartbeats 4000000 in
set_option maxRecDepth 100000 in
theorem sr_X11_bestWithout_b20 {e1 : Nat} {r1 : Int32} {T1 : AT} : ∀ (T : AT) (l0 : Nat) (l1 : Int32), g_X11_bestWithout_b20 T l0 l1 = some (e1, r1, T1) → GR T T1 := by
  intro T l0 l1 h
  have p0 := GR.rf T
  unfold g_X11_bestWithout_b20 at h
  obtain ⟨g2, h⟩ := oif_some h
  obtain ⟨n3, en3, h⟩ := obind_some h
  obtain ⟨g4, h⟩ := oif_some h
  obtain ⟨n5, en5, h⟩ := obind_some h
  obtain ⟨g6, h⟩ := oif_some h
  obtain ⟨g7, h⟩ := oif_some h
  obtain ⟨T8, eT8, h⟩ := elet_some h
  have p1 : GR T T8 := GR.tr p0 (by rw [eT8]; exact gr_sp sp_uI)
  obtain ⟨g9, h⟩ := oif_some h
  obtain ⟨r11, T10, eT10, h⟩ := obind2_some h
  have p2 : GR T T10 := GR.tr p1 (sr_X11_trialBest eT10)
  exact GR.tr p2 (sr_X11_bestWithout_b34 _ _ h)
set_option maxHeartbeats 4000000 in
set_option maxRecDepth 100000 in
theorem sr_X11_bestWithout {T : AT} {o : Nat} {a0 : Int32} {e1 : Nat} {r1 : Int32} {T1 : AT} (h : g_X11_bestWithout T o a0 = some (e1, r1, T1)) : GR T T1 := by
  have p0 := GR.rf T
  unfold g_X11_bestWithout at h
  obtain ⟨g2, h⟩ := oif_some h
  rcases othr_s h with ⟨k9, r9, e9, -⟩ | ⟨r4, T3, eT3, h⟩
  · exact GR.tr p0 (gr_sp (s_X11_needCamera e9))
  have p1 : GR T T3 := GR.tr p0 (gr_sp (s_X11_needCamera eT3))
  obtain ⟨g5, h⟩ := oif_some h
  rcases othr_s h with ⟨k9, r9, e9, -⟩ | ⟨r7, T6, eT6, h⟩
  · exact GR.tr p1 (gr_sp (s_X11_needMic e9))
  have p2 : GR T T6 := GR.tr p1 (gr_sp (s_X11_needMic eT6))
  obtain ⟨g8, h⟩ := oif_some h
  obtain ⟨n9, en9, h⟩ := obind_some h
  obtain ⟨g10, h⟩ := oif_some h
  obtain ⟨n11, en11, h⟩ := obind_some h
  obtain ⟨g12, h⟩ := oif_some h
  obtain ⟨T13, eT13, h⟩ := obind_some h
  have p3 : GR T T13 := GR.tr p2 (sr_X8_copyFrom eT13)
  exact GR.tr p3 (sr_X11_bestWithout_b20 _ _ _ h)
set_option maxHeartbeats 4000000 in
set_option maxRecDepth 100000 in
theorem sr_X11_bestIfOff_b49 {e1 : Nat} {r1 : Int32} {T1 : AT} : ∀ (T : AT) (s0 : Int32), g_X11_bestIfOff_b49 T s0 = some (e1, r1, T1) → GR T T1 := by
  intro T s0 h
  have p0 := GR.rf T
  unfold g_X11_bestIfOff_b49 at h
  rw [← (osome3 h).2.2]
  exact p0
set_option maxHeartbeats 4000000 in
set_option maxRecDepth 100000 in
theorem sr_X11_bestIfOff_b45 {e1 : Nat} {r1 : Int32} {T1 : AT} : ∀ (T : AT) (l0 : Nat), g_X11_bestIfOff_b45 T l0 = some (e1, r1, T1) → GR T T1 := by
  intro T l0 h
  have p0 := GR.rf T
  unfold g_X11_bestIfOff_b45 at h
  obtain ⟨g2, h⟩ := oif_some h
  obtain ⟨r4, T3, eT3, h⟩ := obind2_some h
  have p1 : GR T T3 := GR.tr p0 (sr_X11_trialBest eT3)
  exact GR.tr p1 (sr_X11_bestIfOff_b49 _ _ h)
set_option maxHeartbeats 4000000 in
set_option maxRecDepth 100000 in
theorem sr_X11_bestIfOff_b20 {e1 : Nat} {r1 : Int32} {T1 : AT} : ∀ (T : AT) (l0 : Nat) (l1 : Int32), g_X11_bestIfOff_b20 T l0 l1 = some (e1, r1, T1) → GR T T1 := by
  intro T l0 l1 h
  have p0 := GR.rf T
  unfold g_X11_bestIfOff_b20 at h
  obtain ⟨g2, h⟩ := oif_some h
  obtain ⟨n3, en3, h⟩ := obind_some h
  obtain ⟨g4, h⟩ := oif_some h
  obtain ⟨n5, en5, h⟩ := obind_some h
  obtain ⟨g6, h⟩ := oif_some h
  obtain ⟨g7, h⟩ := oif_some h
  obtain ⟨T8, eT8, h⟩ := elet_some h
  have p1 : GR T T8 := GR.tr p0 (by rw [eT8]; exact gr_sp sp_uI)
  obtain ⟨g9, h⟩ := oif_some h
  obtain ⟨n10, en10, h⟩ := obind_some h
  obtain ⟨g11, h⟩ := oif_some h
  obtain ⟨n12, en12, h⟩ := obind_some h
  obtain ⟨g13, h⟩ := oif_some h
  obtain ⟨n14, en14, h⟩ := obind_some h
  obtain ⟨g15, h⟩ := oif_some h
  obtain ⟨T16, eT16, h⟩ := obind_some h
  have p2 : GR T T16 := GR.tr p1 (sr_X5_record eT16)
  exact GR.tr p2 (sr_X11_bestIfOff_b45 _ _ h)
set_option maxHeartbeats 4000000 in
set_option maxRecDepth 100000 in
theorem sr_X11_bestIfOff {T : AT} {o : Nat} {a0 : Int32} {e1 : Nat} {r1 : Int32} {T1 : AT} (h : g_X11_bestIfOff T o a0 = some (e1, r1, T1)) : GR T T1 := by
  have p0 := GR.rf T
  unfold g_X11_bestIfOff at h
  obtain ⟨g2, h⟩ := oif_some h
  rcases othr_s h with ⟨k9, r9, e9, -⟩ | ⟨r4, T3, eT3, h⟩
  · exact GR.tr p0 (gr_sp (s_X11_needCamera e9))
  have p1 : GR T T3 := GR.tr p0 (gr_sp (s_X11_needCamera eT3))
  obtain ⟨g5, h⟩ := oif_some h
  rcases othr_s h with ⟨k9, r9, e9, -⟩ | ⟨r7, T6, eT6, h⟩
  · exact GR.tr p1 (gr_sp (s_X11_needSource e9))
  have p2 : GR T T6 := GR.tr p1 (gr_sp (s_X11_needSource eT6))
  obtain ⟨g8, h⟩ := oif_some h
  obtain ⟨n9, en9, h⟩ := obind_some h
  obtain ⟨g10, h⟩ := oif_some h
  obtain ⟨n11, en11, h⟩ := obind_some h
  obtain ⟨g12, h⟩ := oif_some h
  obtain ⟨T13, eT13, h⟩ := obind_some h
  have p3 : GR T T13 := GR.tr p2 (sr_X8_copyFrom eT13)
  exact GR.tr p3 (sr_X11_bestIfOff_b20 _ _ _ h)
set_option maxHeartbeats 4000000 in
set_option maxRecDepth 100000 in
theorem sr_X11_keepForUndo_b48 {T1 : AT} : ∀ (T : AT) (l0 : Nat), g_X11_keepForUndo_b48 T l0 = some T1 → GR T T1 := by
  intro T l0 h
  have p0 := GR.rf T
  unfold g_X11_keepForUndo_b48 at h
  obtain ⟨g2, h⟩ := oif_some h
  obtain ⟨n3, en3, h⟩ := obind_some h
  obtain ⟨g4, h⟩ := oif_some h
  obtain ⟨T5, eT5, h⟩ := elet_some h
  have p1 : GR T T5 := GR.tr p0 (by rw [eT5]; exact gr_sp sp_uI)
  rw [← osome1 h]
  exact p1
set_option maxHeartbeats 4000000 in
set_option maxRecDepth 100000 in
theorem sr_X11_keepForUndo_b29 {T1 : AT} : ∀ (T : AT) (l0 : Nat), g_X11_keepForUndo_b29 T l0 = some T1 → GR T T1 := by
  intro T l0 h
  have p0 := GR.rf T
  unfold g_X11_keepForUndo_b29 at h
  obtain ⟨g2, h⟩ := oif_some h
  obtain ⟨v3, -, h⟩ := elet_some h
  rcases oif_or h with ⟨c4, h⟩ | ⟨c4, h⟩
  · have h := h
    exact GR.tr p0 (sr_X11_keepForUndo_b48 _ _ h)
  · have h := h
    obtain ⟨g5, h⟩ := oif_some h
    obtain ⟨v6, -, h⟩ := elet_some h
    obtain ⟨v7, -, h⟩ := elet_some h
    obtain ⟨g8, h⟩ := oif_some h
    obtain ⟨T9, eT9, h⟩ := elet_some h
    have p1 : GR T T9 := GR.tr p0 (by rw [eT9]; exact gr_sp sp_uI)
    exact GR.tr p1 (sr_X11_keepForUndo_b48 _ _ h)
set_option maxHeartbeats 4000000 in
set_option maxRecDepth 100000 in
theorem sr_X11_keepForUndo {T : AT} {o : Nat} {T1 : AT} (h : g_X11_keepForUndo T o = some T1) : GR T T1 := by
  have p0 := GR.rf T
  unfold g_X11_keepForUndo at h
  obtain ⟨g2, h⟩ := oif_some h
  obtain ⟨v3, -, h⟩ := elet_some h
  obtain ⟨v4, -, h⟩ := elet_some h
  obtain ⟨v5, -, h⟩ := elet_some h
  obtain ⟨g6, h⟩ := oif_some h
  obtain ⟨T7, eT7, h⟩ := elet_some h
  have p1 : GR T T7 := GR.tr p0 (by rw [eT7]; exact gr_sp sp_uI)
  obtain ⟨g8, h⟩ := oif_some h
  obtain ⟨n9, en9, h⟩ := obind_some h
  obtain ⟨g10, h⟩ := oif_some h
  obtain ⟨v11, -, h⟩ := elet_some h
  obtain ⟨g12, h⟩ := oif_some h
  obtain ⟨g13, h⟩ := oif_some h
  obtain ⟨n14, en14, h⟩ := obind_some h
  obtain ⟨g15, h⟩ := oif_some h
  obtain ⟨n16, en16, h⟩ := obind_some h
  obtain ⟨g17, h⟩ := oif_some h
  obtain ⟨T18, eT18, h⟩ := obind_some h
  have p2 : GR T T18 := GR.tr p1 (sr_X8_copyFrom eT18)
  exact GR.tr p2 (sr_X11_keepForUndo_b29 _ _ h)
set_option maxHeartbeats 4000000 in
set_option maxRecDepth 100000 in
theorem sr_X11_mute_b23 {e1 : Nat} {r1 : Int32} {T1 : AT} : ∀ (T : AT) (l0 : Nat) (l1 : Int32) (l2 : Int32) (l3 : Int32), g_X11_mute_b23 T l0 l1 l2 l3 = some (e1, r1, T1) → GR T T1 := by
  intro T l0 l1 l2 l3 h
  have p0 := GR.rf T
  unfold g_X11_mute_b23 at h
  obtain ⟨g2, h⟩ := oif_some h
  obtain ⟨n3, en3, h⟩ := obind_some h
  obtain ⟨g4, h⟩ := oif_some h
  obtain ⟨n5, en5, h⟩ := obind_some h
  obtain ⟨g6, h⟩ := oif_some h
  obtain ⟨g7, h⟩ := oif_some h
  obtain ⟨gz, h⟩ := oif_some h
  obtain ⟨T8, eT8, h⟩ := elet_some h
  have p1 : GR T T8 := GR.tr p0 (by rw [eT8]; exact gr_sp sp_uI)
  obtain ⟨gz, h⟩ := oif_some h
  rw [← (osome3 h).2.2]
  exact p1
set_option maxHeartbeats 4000000 in
set_option maxRecDepth 100000 in
theorem sr_X11_mute {T : AT} {o : Nat} {a0 : Int32} {a1 : Int32} {e1 : Nat} {r1 : Int32} {T1 : AT} (h : g_X11_mute T o a0 a1 = some (e1, r1, T1)) : GR T T1 := by
  have p0 := GR.rf T
  unfold g_X11_mute at h
  obtain ⟨g2, h⟩ := oif_some h
  rcases othr_s h with ⟨k9, r9, e9, -⟩ | ⟨r4, T3, eT3, h⟩
  · exact GR.tr p0 (gr_sp (s_X11_needCamera e9))
  have p1 : GR T T3 := GR.tr p0 (gr_sp (s_X11_needCamera eT3))
  obtain ⟨g5, h⟩ := oif_some h
  rcases othr_s h with ⟨k9, r9, e9, -⟩ | ⟨r7, T6, eT6, h⟩
  · exact GR.tr p1 (gr_sp (s_X11_needMic e9))
  have p2 : GR T T6 := GR.tr p1 (gr_sp (s_X11_needMic eT6))
  obtain ⟨g8, h⟩ := oif_some h
  obtain ⟨n9, en9, h⟩ := obind_some h
  obtain ⟨g10, h⟩ := oif_some h
  obtain ⟨n11, en11, h⟩ := obind_some h
  obtain ⟨g12, h⟩ := oif_some h
  obtain ⟨g13, h⟩ := oif_some h
  obtain ⟨v14, -, h⟩ := elet_some h
  obtain ⟨g15, h⟩ := oif_some h
  obtain ⟨T16, eT16, h⟩ := obind_some h
  have p3 : GR T T16 := GR.tr p2 (sr_X11_keepForUndo eT16)
  exact GR.tr p3 (sr_X11_mute_b23 _ _ _ _ _ h)
set_option maxHeartbeats 4000000 in
set_option maxRecDepth 100000 in
theorem sr_X11_setWeight_b30 {e1 : Nat} {r1 : Int32} {T1 : AT} : ∀ (T : AT) (l0 : Nat) (l1 : Int32) (l2 : Int32) (l3 : Int32), g_X11_setWeight_b30 T l0 l1 l2 l3 = some (e1, r1, T1) → GR T T1 := by
  intro T l0 l1 l2 l3 h
  have p0 := GR.rf T
  unfold g_X11_setWeight_b30 at h
  obtain ⟨g2, h⟩ := oif_some h
  obtain ⟨n3, en3, h⟩ := obind_some h
  obtain ⟨g4, h⟩ := oif_some h
  obtain ⟨n5, en5, h⟩ := obind_some h
  obtain ⟨g6, h⟩ := oif_some h
  obtain ⟨g7, h⟩ := oif_some h
  obtain ⟨T8, eT8, h⟩ := elet_some h
  have p1 : GR T T8 := GR.tr p0 (by rw [eT8]; exact gr_sp sp_uI)
  rw [← (osome3 h).2.2]
  exact p1
set_option maxHeartbeats 4000000 in
set_option maxRecDepth 100000 in
theorem sr_X11_setWeight {T : AT} {o : Nat} {a0 : Int32} {a1 : Int32} {e1 : Nat} {r1 : Int32} {T1 : AT} (h : g_X11_setWeight T o a0 a1 = some (e1, r1, T1)) : GR T T1 := by
  have p0 := GR.rf T
  unfold g_X11_setWeight at h
  obtain ⟨g2, h⟩ := oif_some h
  rcases othr_s h with ⟨k9, r9, e9, -⟩ | ⟨r4, T3, eT3, h⟩
  · exact GR.tr p0 (gr_sp (s_X11_needCamera e9))
  have p1 : GR T T3 := GR.tr p0 (gr_sp (s_X11_needCamera eT3))
  obtain ⟨g5, h⟩ := oif_some h
  rcases othr_s h with ⟨k9, r9, e9, -⟩ | ⟨r7, T6, eT6, h⟩
  · exact GR.tr p1 (gr_sp (s_X11_needMic e9))
  have p2 : GR T T6 := GR.tr p1 (gr_sp (s_X11_needMic eT6))
  rcases othr_s h with ⟨k9, r9, e9, -⟩ | ⟨r9, T8, eT8, h⟩
  · exact GR.tr p2 (gr_sp (s_X11_needRange e9))
  have p3 : GR T T8 := GR.tr p2 (gr_sp (s_X11_needRange eT8))
  obtain ⟨g10, h⟩ := oif_some h
  obtain ⟨n11, en11, h⟩ := obind_some h
  obtain ⟨g12, h⟩ := oif_some h
  obtain ⟨n13, en13, h⟩ := obind_some h
  obtain ⟨g14, h⟩ := oif_some h
  obtain ⟨g15, h⟩ := oif_some h
  obtain ⟨v16, -, h⟩ := elet_some h
  obtain ⟨g17, h⟩ := oif_some h
  obtain ⟨T18, eT18, h⟩ := obind_some h
  have p4 : GR T T18 := GR.tr p3 (sr_X11_keepForUndo eT18)
  exact GR.tr p4 (sr_X11_setWeight_b30 _ _ _ _ _ h)
set_option maxHeartbeats 4000000 in
set_option maxRecDepth 100000 in
theorem sr_X11_setOn_b48 {e1 : Nat} {r1 : Int32} {T1 : AT} : ∀ (T : AT) (l3 : Int32), g_X11_setOn_b48 T l3 = some (e1, r1, T1) → GR T T1 := by
  intro T l3 h
  have p0 := GR.rf T
  unfold g_X11_setOn_b48 at h
  obtain ⟨gz, h⟩ := oif_some h
  rw [← (osome3 h).2.2]
  exact p0
set_option maxHeartbeats 4000000 in
set_option maxRecDepth 100000 in
theorem sr_X11_setOn_b23 {e1 : Nat} {r1 : Int32} {T1 : AT} : ∀ (T : AT) (l0 : Nat) (l1 : Int32) (l2 : Int32) (l3 : Int32), g_X11_setOn_b23 T l0 l1 l2 l3 = some (e1, r1, T1) → GR T T1 := by
  intro T l0 l1 l2 l3 h
  have p0 := GR.rf T
  unfold g_X11_setOn_b23 at h
  obtain ⟨g2, h⟩ := oif_some h
  obtain ⟨n3, en3, h⟩ := obind_some h
  obtain ⟨g4, h⟩ := oif_some h
  obtain ⟨n5, en5, h⟩ := obind_some h
  obtain ⟨g6, h⟩ := oif_some h
  obtain ⟨g7, h⟩ := oif_some h
  obtain ⟨gz, h⟩ := oif_some h
  obtain ⟨T8, eT8, h⟩ := elet_some h
  have p1 : GR T T8 := GR.tr p0 (by rw [eT8]; exact gr_sp sp_uI)
  obtain ⟨g9, h⟩ := oif_some h
  obtain ⟨n10, en10, h⟩ := obind_some h
  obtain ⟨g11, h⟩ := oif_some h
  obtain ⟨n12, en12, h⟩ := obind_some h
  obtain ⟨g13, h⟩ := oif_some h
  obtain ⟨n14, en14, h⟩ := obind_some h
  obtain ⟨g15, h⟩ := oif_some h
  obtain ⟨T16, eT16, h⟩ := obind_some h
  have p2 : GR T T16 := GR.tr p1 (sr_X5_record eT16)
  exact GR.tr p2 (sr_X11_setOn_b48 _ _ h)
set_option maxHeartbeats 4000000 in
set_option maxRecDepth 100000 in
theorem sr_X11_setOn {T : AT} {o : Nat} {a0 : Int32} {a1 : Int32} {e1 : Nat} {r1 : Int32} {T1 : AT} (h : g_X11_setOn T o a0 a1 = some (e1, r1, T1)) : GR T T1 := by
  have p0 := GR.rf T
  unfold g_X11_setOn at h
  obtain ⟨g2, h⟩ := oif_some h
  rcases othr_s h with ⟨k9, r9, e9, -⟩ | ⟨r4, T3, eT3, h⟩
  · exact GR.tr p0 (gr_sp (s_X11_needCamera e9))
  have p1 : GR T T3 := GR.tr p0 (gr_sp (s_X11_needCamera eT3))
  obtain ⟨g5, h⟩ := oif_some h
  rcases othr_s h with ⟨k9, r9, e9, -⟩ | ⟨r7, T6, eT6, h⟩
  · exact GR.tr p1 (gr_sp (s_X11_needSource e9))
  have p2 : GR T T6 := GR.tr p1 (gr_sp (s_X11_needSource eT6))
  obtain ⟨g8, h⟩ := oif_some h
  obtain ⟨n9, en9, h⟩ := obind_some h
  obtain ⟨g10, h⟩ := oif_some h
  obtain ⟨n11, en11, h⟩ := obind_some h
  obtain ⟨g12, h⟩ := oif_some h
  obtain ⟨g13, h⟩ := oif_some h
  obtain ⟨v14, -, h⟩ := elet_some h
  obtain ⟨g15, h⟩ := oif_some h
  obtain ⟨T16, eT16, h⟩ := obind_some h
  have p3 : GR T T16 := GR.tr p2 (sr_X11_keepForUndo eT16)
  exact GR.tr p3 (sr_X11_setOn_b23 _ _ _ _ _ h)
set_option maxHeartbeats 4000000 in
set_option maxRecDepth 100000 in
theorem sr_X11_moveSource_b72 {e1 : Nat} {r1 : Int32} {T1 : AT} : ∀ (T : AT) (s0 : Nat), g_X11_moveSource_b72 T s0 = some (e1, r1, T1) → GR T T1 := by
  intro T s0 h
  have p0 := GR.rf T
  unfold g_X11_moveSource_b72 at h
  obtain ⟨g2, h⟩ := oif_some h
  obtain ⟨v3, -, h⟩ := elet_some h
  rw [← (osome3 h).2.2]
  exact p0
set_option maxHeartbeats 4000000 in
set_option maxRecDepth 100000 in
theorem sr_X11_moveSource_b68 {e1 : Nat} {r1 : Int32} {T1 : AT} : ∀ (T : AT) (l0 : Nat), g_X11_moveSource_b68 T l0 = some (e1, r1, T1) → GR T T1 := by
  intro T l0 h
  have p0 := GR.rf T
  unfold g_X11_moveSource_b68 at h
  obtain ⟨g2, h⟩ := oif_some h
  obtain ⟨r4, T3, eT3, h⟩ := obind2_some h
  obtain ⟨g5, h⟩ := oif_some h
  have p1 : GR T T3 := GR.tr p0 (sr_X11_powersNow eT3)
  exact GR.tr p1 (sr_X11_moveSource_b72 _ _ h)
set_option maxHeartbeats 4000000 in
set_option maxRecDepth 100000 in
theorem sr_X11_moveSource_b33 {e1 : Nat} {r1 : Int32} {T1 : AT} : ∀ (T : AT) (l0 : Nat) (l1 : Int32) (l2 : Int32) (l3 : Int32), g_X11_moveSource_b33 T l0 l1 l2 l3 = some (e1, r1, T1) → GR T T1 := by
  intro T l0 l1 l2 l3 h
  have p0 := GR.rf T
  unfold g_X11_moveSource_b33 at h
  obtain ⟨g2, h⟩ := oif_some h
  obtain ⟨n3, en3, h⟩ := obind_some h
  obtain ⟨g4, h⟩ := oif_some h
  obtain ⟨n5, en5, h⟩ := obind_some h
  obtain ⟨g6, h⟩ := oif_some h
  obtain ⟨g7, h⟩ := oif_some h
  obtain ⟨T8, eT8, h⟩ := elet_some h
  have p1 : GR T T8 := GR.tr p0 (by rw [eT8]; exact gr_sp sp_uI)
  obtain ⟨g9, h⟩ := oif_some h
  obtain ⟨n10, en10, h⟩ := obind_some h
  obtain ⟨g11, h⟩ := oif_some h
  obtain ⟨n12, en12, h⟩ := obind_some h
  obtain ⟨g13, h⟩ := oif_some h
  obtain ⟨g14, h⟩ := oif_some h
  obtain ⟨T15, eT15, h⟩ := elet_some h
  have p2 : GR T T15 := GR.tr p1 (by rw [eT15]; exact gr_sp sp_uI)
  obtain ⟨g16, h⟩ := oif_some h
  obtain ⟨n17, en17, h⟩ := obind_some h
  obtain ⟨g18, h⟩ := oif_some h
  obtain ⟨n19, en19, h⟩ := obind_some h
  obtain ⟨g20, h⟩ := oif_some h
  obtain ⟨n21, en21, h⟩ := obind_some h
  obtain ⟨g22, h⟩ := oif_some h
  obtain ⟨T23, eT23, h⟩ := obind_some h
  have p3 : GR T T23 := GR.tr p2 (sr_X5_record eT23)
  exact GR.tr p3 (sr_X11_moveSource_b68 _ _ h)
set_option maxHeartbeats 4000000 in
set_option maxRecDepth 100000 in
theorem sr_X11_moveSource {T : AT} {o : Nat} {a0 : Int32} {a1 : Int32} {a2 : Int32} {e1 : Nat} {r1 : Int32} {T1 : AT} (h : g_X11_moveSource T o a0 a1 a2 = some (e1, r1, T1)) : GR T T1 := by
  have p0 := GR.rf T
  unfold g_X11_moveSource at h
  obtain ⟨g2, h⟩ := oif_some h
  rcases othr_s h with ⟨k9, r9, e9, -⟩ | ⟨r4, T3, eT3, h⟩
  · exact GR.tr p0 (gr_sp (s_X11_needCamera e9))
  have p1 : GR T T3 := GR.tr p0 (gr_sp (s_X11_needCamera eT3))
  obtain ⟨g5, h⟩ := oif_some h
  rcases othr_s h with ⟨k9, r9, e9, -⟩ | ⟨r7, T6, eT6, h⟩
  · exact GR.tr p1 (gr_sp (s_X11_needSource e9))
  have p2 : GR T T6 := GR.tr p1 (gr_sp (s_X11_needSource eT6))
  rcases othr_s h with ⟨k9, r9, e9, -⟩ | ⟨r9, T8, eT8, h⟩
  · exact GR.tr p2 (gr_sp (s_X11_needRange e9))
  have p3 : GR T T8 := GR.tr p2 (gr_sp (s_X11_needRange eT8))
  rcases othr_s h with ⟨k9, r9, e9, -⟩ | ⟨r11, T10, eT10, h⟩
  · exact GR.tr p3 (gr_sp (s_X11_needRange e9))
  have p4 : GR T T10 := GR.tr p3 (gr_sp (s_X11_needRange eT10))
  obtain ⟨g12, h⟩ := oif_some h
  obtain ⟨T13, eT13, h⟩ := obind_some h
  have p5 : GR T T13 := GR.tr p4 (sr_X11_keepForUndo eT13)
  exact GR.tr p5 (sr_X11_moveSource_b33 _ _ _ _ _ h)
set_option maxHeartbeats 4000000 in
set_option maxRecDepth 100000 in
theorem sr_X11_setVelocity_b72 {e1 : Nat} {r1 : Int32} {T1 : AT} : ∀ (T : AT) (s0 : Nat), g_X11_setVelocity_b72 T s0 = some (e1, r1, T1) → GR T T1 := by
  intro T s0 h
  have p0 := GR.rf T
  unfold g_X11_setVelocity_b72 at h
  obtain ⟨g2, h⟩ := oif_some h
  obtain ⟨v3, -, h⟩ := elet_some h
  rw [← (osome3 h).2.2]
  exact p0
set_option maxHeartbeats 4000000 in
set_option maxRecDepth 100000 in
theorem sr_X11_setVelocity_b68 {e1 : Nat} {r1 : Int32} {T1 : AT} : ∀ (T : AT) (l0 : Nat), g_X11_setVelocity_b68 T l0 = some (e1, r1, T1) → GR T T1 := by
  intro T l0 h
  have p0 := GR.rf T
  unfold g_X11_setVelocity_b68 at h
  obtain ⟨g2, h⟩ := oif_some h
  obtain ⟨r4, T3, eT3, h⟩ := obind2_some h
  obtain ⟨g5, h⟩ := oif_some h
  have p1 : GR T T3 := GR.tr p0 (sr_X11_powersNow eT3)
  exact GR.tr p1 (sr_X11_setVelocity_b72 _ _ h)
set_option maxHeartbeats 4000000 in
set_option maxRecDepth 100000 in
theorem sr_X11_setVelocity_b33 {e1 : Nat} {r1 : Int32} {T1 : AT} : ∀ (T : AT) (l0 : Nat) (l1 : Int32) (l2 : Int32) (l3 : Int32), g_X11_setVelocity_b33 T l0 l1 l2 l3 = some (e1, r1, T1) → GR T T1 := by
  intro T l0 l1 l2 l3 h
  have p0 := GR.rf T
  unfold g_X11_setVelocity_b33 at h
  obtain ⟨g2, h⟩ := oif_some h
  obtain ⟨n3, en3, h⟩ := obind_some h
  obtain ⟨g4, h⟩ := oif_some h
  obtain ⟨n5, en5, h⟩ := obind_some h
  obtain ⟨g6, h⟩ := oif_some h
  obtain ⟨g7, h⟩ := oif_some h
  obtain ⟨T8, eT8, h⟩ := elet_some h
  have p1 : GR T T8 := GR.tr p0 (by rw [eT8]; exact gr_sp sp_uI)
  obtain ⟨g9, h⟩ := oif_some h
  obtain ⟨n10, en10, h⟩ := obind_some h
  obtain ⟨g11, h⟩ := oif_some h
  obtain ⟨n12, en12, h⟩ := obind_some h
  obtain ⟨g13, h⟩ := oif_some h
  obtain ⟨g14, h⟩ := oif_some h
  obtain ⟨T15, eT15, h⟩ := elet_some h
  have p2 : GR T T15 := GR.tr p1 (by rw [eT15]; exact gr_sp sp_uI)
  obtain ⟨g16, h⟩ := oif_some h
  obtain ⟨n17, en17, h⟩ := obind_some h
  obtain ⟨g18, h⟩ := oif_some h
  obtain ⟨n19, en19, h⟩ := obind_some h
  obtain ⟨g20, h⟩ := oif_some h
  obtain ⟨n21, en21, h⟩ := obind_some h
  obtain ⟨g22, h⟩ := oif_some h
  obtain ⟨T23, eT23, h⟩ := obind_some h
  have p3 : GR T T23 := GR.tr p2 (sr_X5_record eT23)
  exact GR.tr p3 (sr_X11_setVelocity_b68 _ _ h)
set_option maxHeartbeats 4000000 in
set_option maxRecDepth 100000 in
theorem sr_X11_setVelocity {T : AT} {o : Nat} {a0 : Int32} {a1 : Int32} {a2 : Int32} {e1 : Nat} {r1 : Int32} {T1 : AT} (h : g_X11_setVelocity T o a0 a1 a2 = some (e1, r1, T1)) : GR T T1 := by
  have p0 := GR.rf T
  unfold g_X11_setVelocity at h
  obtain ⟨g2, h⟩ := oif_some h
  rcases othr_s h with ⟨k9, r9, e9, -⟩ | ⟨r4, T3, eT3, h⟩
  · exact GR.tr p0 (gr_sp (s_X11_needCamera e9))
  have p1 : GR T T3 := GR.tr p0 (gr_sp (s_X11_needCamera eT3))
  obtain ⟨g5, h⟩ := oif_some h
  rcases othr_s h with ⟨k9, r9, e9, -⟩ | ⟨r7, T6, eT6, h⟩
  · exact GR.tr p1 (gr_sp (s_X11_needSource e9))
  have p2 : GR T T6 := GR.tr p1 (gr_sp (s_X11_needSource eT6))
  rcases othr_s h with ⟨k9, r9, e9, -⟩ | ⟨r9, T8, eT8, h⟩
  · exact GR.tr p2 (gr_sp (s_X11_needRange e9))
  have p3 : GR T T8 := GR.tr p2 (gr_sp (s_X11_needRange eT8))
  rcases othr_s h with ⟨k9, r9, e9, -⟩ | ⟨r11, T10, eT10, h⟩
  · exact GR.tr p3 (gr_sp (s_X11_needRange e9))
  have p4 : GR T T10 := GR.tr p3 (gr_sp (s_X11_needRange eT10))
  obtain ⟨g12, h⟩ := oif_some h
  obtain ⟨T13, eT13, h⟩ := obind_some h
  have p5 : GR T T13 := GR.tr p4 (sr_X11_keepForUndo eT13)
  exact GR.tr p5 (sr_X11_setVelocity_b33 _ _ _ _ _ h)
set_option maxHeartbeats 4000000 in
set_option maxRecDepth 100000 in
theorem sr_X11_clean_b58 {e1 : Nat} {r1 : Int32} {T1 : AT} : ∀ (T : AT) (l2 : Int32), g_X11_clean_b58 T l2 = some (e1, r1, T1) → GR T T1 := by
  intro T l2 h
  have p0 := GR.rf T
  unfold g_X11_clean_b58 at h
  rw [← (osome3 h).2.2]
  exact p0
set_option maxHeartbeats 4000000 in
set_option maxRecDepth 100000 in
theorem sr_X11_clean_b41 {e1 : Nat} {r1 : Int32} {T1 : AT} : ∀ (T : AT) (l0 : Nat) (l1 : Int32) (l2 : Int32), g_X11_clean_b41 T l0 l1 l2 = some (e1, r1, T1) → GR T T1 := by
  intro T l0 l1 l2 h
  have p0 := GR.rf T
  unfold g_X11_clean_b41 at h
  obtain ⟨g2, h⟩ := oif_some h
  obtain ⟨n3, en3, h⟩ := obind_some h
  obtain ⟨g4, h⟩ := oif_some h
  obtain ⟨n5, en5, h⟩ := obind_some h
  obtain ⟨g6, h⟩ := oif_some h
  obtain ⟨n7, en7, h⟩ := obind_some h
  obtain ⟨g8, h⟩ := oif_some h
  obtain ⟨g9, h⟩ := oif_some h
  obtain ⟨n10, en10, h⟩ := obind_some h
  obtain ⟨g11, h⟩ := oif_some h
  obtain ⟨T12, eT12, h⟩ := obind_some h
  have p1 : GR T T12 := GR.tr p0 (sr_X8_subtractBeam eT12)
  exact GR.tr p1 (sr_X11_clean_b58 _ _ h)
set_option maxHeartbeats 4000000 in
set_option maxRecDepth 100000 in
theorem sr_X11_clean_b33 {e1 : Nat} {r1 : Int32} {T1 : AT} : ∀ (T : AT) (s0 : Nat) (l0 : Nat) (l1 : Int32), g_X11_clean_b33 T s0 l0 l1 = some (e1, r1, T1) → GR T T1 := by
  intro T s0 l0 l1 h
  have p0 := GR.rf T
  unfold g_X11_clean_b33 at h
  obtain ⟨g2, h⟩ := oif_some h
  obtain ⟨v3, -, h⟩ := elet_some h
  obtain ⟨g4, h⟩ := oif_some h
  obtain ⟨T5, eT5, h⟩ := obind_some h
  have p1 : GR T T5 := GR.tr p0 (sr_X11_keepForUndo eT5)
  exact GR.tr p1 (sr_X11_clean_b41 _ _ _ _ h)
set_option maxHeartbeats 4000000 in
set_option maxRecDepth 100000 in
theorem sr_X11_clean {T : AT} {o : Nat} {a0 : Int32} {e1 : Nat} {r1 : Int32} {T1 : AT} (h : g_X11_clean T o a0 = some (e1, r1, T1)) : GR T T1 := by
  have p0 := GR.rf T
  unfold g_X11_clean at h
  obtain ⟨g2, h⟩ := oif_some h
  rcases othr_s h with ⟨k9, r9, e9, -⟩ | ⟨r4, T3, eT3, h⟩
  · exact GR.tr p0 (gr_sp (s_X11_needCamera e9))
  have p1 : GR T T3 := GR.tr p0 (gr_sp (s_X11_needCamera eT3))
  obtain ⟨g5, h⟩ := oif_some h
  obtain ⟨n6, en6, h⟩ := obind_some h
  obtain ⟨g7, h⟩ := oif_some h
  obtain ⟨r9, T8, eT8, h⟩ := obind2_some h
  have p2 : GR T T8 := GR.tr p1 (gr_sp (s_X8_activeWeight eT8))
  rcases oif_or h with ⟨c10, h⟩ | ⟨c10, h⟩
  · have h := h
    rw [← (osome3 h).2.2]
    exact p2
  · have h := h
    rcases othr_s h with ⟨k9, r9, e9, -⟩ | ⟨r12, T11, eT11, h⟩
    · exact GR.tr p2 (gr_sp (s_X11_needRange e9))
    have p3 : GR T T11 := GR.tr p2 (gr_sp (s_X11_needRange eT11))
    obtain ⟨g13, h⟩ := oif_some h
    obtain ⟨r15, T14, eT14, h⟩ := obind2_some h
    obtain ⟨g16, h⟩ := oif_some h
    have p4 : GR T T14 := GR.tr p3 (sr_X11_powersNow eT14)
    exact GR.tr p4 (sr_X11_clean_b33 _ _ _ _ h)
set_option maxHeartbeats 4000000 in
set_option maxRecDepth 100000 in
theorem sr_X11_undo_b31 {e1 : Nat} {r1 : Int32} {T1 : AT} : ∀ (T : AT) (l0 : Nat), g_X11_undo_b31 T l0 = some (e1, r1, T1) → GR T T1 := by
  intro T l0 h
  have p0 := GR.rf T
  unfold g_X11_undo_b31 at h
  obtain ⟨g2, h⟩ := oif_some h
  obtain ⟨v3, -, h⟩ := elet_some h
  obtain ⟨v4, -, h⟩ := elet_some h
  obtain ⟨v5, -, h⟩ := elet_some h
  obtain ⟨v6, -, h⟩ := elet_some h
  obtain ⟨g7, h⟩ := oif_some h
  obtain ⟨T8, eT8, h⟩ := elet_some h
  have p1 : GR T T8 := GR.tr p0 (by rw [eT8]; exact gr_sp sp_uI)
  obtain ⟨g9, h⟩ := oif_some h
  obtain ⟨v10, -, h⟩ := elet_some h
  obtain ⟨v11, -, h⟩ := elet_some h
  obtain ⟨g12, h⟩ := oif_some h
  obtain ⟨T13, eT13, h⟩ := elet_some h
  have p2 : GR T T13 := GR.tr p1 (by rw [eT13]; exact gr_sp sp_uI)
  obtain ⟨g14, h⟩ := oif_some h
  obtain ⟨n15, en15, h⟩ := obind_some h
  obtain ⟨g16, h⟩ := oif_some h
  obtain ⟨T17, eT17, h⟩ := elet_some h
  have p3 : GR T T17 := GR.tr p2 (by rw [eT17]; exact gr_sp sp_uI)
  obtain ⟨g18, h⟩ := oif_some h
  obtain ⟨v19, -, h⟩ := elet_some h
  rw [← (osome3 h).2.2]
  exact p3
set_option maxHeartbeats 4000000 in
set_option maxRecDepth 100000 in
theorem sr_X11_undo {T : AT} {o : Nat} {e1 : Nat} {r1 : Int32} {T1 : AT} (h : g_X11_undo T o = some (e1, r1, T1)) : GR T T1 := by
  have p0 := GR.rf T
  unfold g_X11_undo at h
  obtain ⟨g2, h⟩ := oif_some h
  obtain ⟨v3, -, h⟩ := elet_some h
  rcases oif_or h with ⟨c4, h⟩ | ⟨c4, h⟩
  · have h := h
    rw [← (osome3 h).2.2]
    exact p0
  · have h := h
    obtain ⟨g5, h⟩ := oif_some h
    obtain ⟨n6, en6, h⟩ := obind_some h
    obtain ⟨g7, h⟩ := oif_some h
    obtain ⟨n8, en8, h⟩ := obind_some h
    obtain ⟨g9, h⟩ := oif_some h
    obtain ⟨v10, -, h⟩ := elet_some h
    obtain ⟨g11, h⟩ := oif_some h
    obtain ⟨g12, h⟩ := oif_some h
    obtain ⟨n13, en13, h⟩ := obind_some h
    obtain ⟨g14, h⟩ := oif_some h
    obtain ⟨T15, eT15, h⟩ := obind_some h
    have p1 : GR T T15 := GR.tr p0 (sr_X8_copyFrom eT15)
    exact GR.tr p1 (sr_X11_undo_b31 _ _ h)
set_option maxHeartbeats 4000000 in
set_option maxRecDepth 100000 in
theorem sr_X11_save_b33 {e1 : Nat} {r1 : Int32} {T1 : AT} : ∀ (T : AT) (s0 : Nat), g_X11_save_b33 T s0 = some (e1, r1, T1) → GR T T1 := by
  intro T s0 h
  have p0 := GR.rf T
  unfold g_X11_save_b33 at h
  obtain ⟨g2, h⟩ := oif_some h
  obtain ⟨v3, -, h⟩ := elet_some h
  rw [← (osome3 h).2.2]
  exact p0
set_option maxHeartbeats 4000000 in
set_option maxRecDepth 100000 in
theorem sr_X11_save_b22 {e1 : Nat} {r1 : Int32} {T1 : AT} : ∀ (T : AT) (l0 : Nat) (l1 : Int32), g_X11_save_b22 T l0 l1 = some (e1, r1, T1) → GR T T1 := by
  intro T l0 l1 h
  have p0 := GR.rf T
  unfold g_X11_save_b22 at h
  obtain ⟨g2, h⟩ := oif_some h
  obtain ⟨n3, en3, h⟩ := obind_some h
  obtain ⟨g4, h⟩ := oif_some h
  obtain ⟨g5, h⟩ := oif_some h
  obtain ⟨T6, eT6, h⟩ := elet_some h
  have p1 : GR T T6 := GR.tr p0 (by rw [eT6]; exact gr_sp sp_uI)
  obtain ⟨g7, h⟩ := oif_some h
  obtain ⟨r9, T8, eT8, h⟩ := obind2_some h
  obtain ⟨g10, h⟩ := oif_some h
  have p2 : GR T T8 := GR.tr p1 (sr_X11_powersNow eT8)
  exact GR.tr p2 (sr_X11_save_b33 _ _ h)
set_option maxHeartbeats 4000000 in
set_option maxRecDepth 100000 in
theorem sr_X11_save {T : AT} {o : Nat} {a0 : Int32} {e1 : Nat} {r1 : Int32} {T1 : AT} (h : g_X11_save T o a0 = some (e1, r1, T1)) : GR T T1 := by
  have p0 := GR.rf T
  unfold g_X11_save at h
  obtain ⟨g2, h⟩ := oif_some h
  rcases othr_s h with ⟨k9, r9, e9, -⟩ | ⟨r4, T3, eT3, h⟩
  · exact GR.tr p0 (gr_sp (s_X11_needCamera e9))
  have p1 : GR T T3 := GR.tr p0 (gr_sp (s_X11_needCamera eT3))
  rcases othr_s h with ⟨k9, r9, e9, -⟩ | ⟨r6, T5, eT5, h⟩
  · exact GR.tr p1 (gr_sp (s_X11_needIndex e9))
  have p2 : GR T T5 := GR.tr p1 (gr_sp (s_X11_needIndex eT5))
  obtain ⟨g7, h⟩ := oif_some h
  obtain ⟨n8, en8, h⟩ := obind_some h
  obtain ⟨g9, h⟩ := oif_some h
  obtain ⟨g10, h⟩ := oif_some h
  obtain ⟨n11, en11, h⟩ := obind_some h
  obtain ⟨g12, h⟩ := oif_some h
  obtain ⟨n13, en13, h⟩ := obind_some h
  obtain ⟨g14, h⟩ := oif_some h
  obtain ⟨T15, eT15, h⟩ := obind_some h
  have p3 : GR T T15 := GR.tr p2 (sr_X8_copyFrom eT15)
  exact GR.tr p3 (sr_X11_save_b22 _ _ _ h)
set_option maxHeartbeats 4000000 in
set_option maxRecDepth 100000 in
theorem sr_X11_restore_b52 {e1 : Nat} {r1 : Int32} {T1 : AT} : ∀ (T : AT) (s0 : Nat), g_X11_restore_b52 T s0 = some (e1, r1, T1) → GR T T1 := by
  intro T s0 h
  have p0 := GR.rf T
  unfold g_X11_restore_b52 at h
  obtain ⟨g2, h⟩ := oif_some h
  obtain ⟨v3, -, h⟩ := elet_some h
  rw [← (osome3 h).2.2]
  exact p0
set_option maxHeartbeats 4000000 in
set_option maxRecDepth 100000 in
theorem sr_X11_restore_b35 {e1 : Nat} {r1 : Int32} {T1 : AT} : ∀ (T : AT) (l0 : Nat), g_X11_restore_b35 T l0 = some (e1, r1, T1) → GR T T1 := by
  intro T l0 h
  have p0 := GR.rf T
  unfold g_X11_restore_b35 at h
  obtain ⟨g2, h⟩ := oif_some h
  obtain ⟨T3, eT3, h⟩ := elet_some h
  have p1 : GR T T3 := GR.tr p0 (by rw [eT3]; exact gr_sp sp_uI)
  obtain ⟨g4, h⟩ := oif_some h
  obtain ⟨n5, en5, h⟩ := obind_some h
  obtain ⟨g6, h⟩ := oif_some h
  obtain ⟨T7, eT7, h⟩ := elet_some h
  have p2 : GR T T7 := GR.tr p1 (by rw [eT7]; exact gr_sp sp_uI)
  obtain ⟨g8, h⟩ := oif_some h
  obtain ⟨r10, T9, eT9, h⟩ := obind2_some h
  obtain ⟨g11, h⟩ := oif_some h
  have p3 : GR T T9 := GR.tr p2 (sr_X11_powersNow eT9)
  exact GR.tr p3 (sr_X11_restore_b52 _ _ h)
set_option maxHeartbeats 4000000 in
set_option maxRecDepth 100000 in
theorem sr_X11_restore {T : AT} {o : Nat} {a0 : Int32} {e1 : Nat} {r1 : Int32} {T1 : AT} (h : g_X11_restore T o a0 = some (e1, r1, T1)) : GR T T1 := by
  have p0 := GR.rf T
  unfold g_X11_restore at h
  rcases othr_s h with ⟨k9, r9, e9, -⟩ | ⟨r3, T2, eT2, h⟩
  · exact GR.tr p0 (gr_sp (s_X11_needIndex e9))
  have p1 : GR T T2 := GR.tr p0 (gr_sp (s_X11_needIndex eT2))
  obtain ⟨g4, h⟩ := oif_some h
  obtain ⟨n5, en5, h⟩ := obind_some h
  obtain ⟨g6, h⟩ := oif_some h
  obtain ⟨g7, h⟩ := oif_some h
  obtain ⟨v8, -, h⟩ := elet_some h
  rcases oif_or h with ⟨c9, h⟩ | ⟨c9, h⟩
  · have h := h
    rw [← (osome3 h).2.2]
    exact p1
  · have h := h
    obtain ⟨g10, h⟩ := oif_some h
    obtain ⟨n11, en11, h⟩ := obind_some h
    obtain ⟨g12, h⟩ := oif_some h
    obtain ⟨n13, en13, h⟩ := obind_some h
    obtain ⟨g14, h⟩ := oif_some h
    obtain ⟨g15, h⟩ := oif_some h
    obtain ⟨n16, en16, h⟩ := obind_some h
    obtain ⟨g17, h⟩ := oif_some h
    obtain ⟨T18, eT18, h⟩ := obind_some h
    have p2 : GR T T18 := GR.tr p1 (sr_X8_copyFrom eT18)
    exact GR.tr p2 (sr_X11_restore_b35 _ _ h)
end
section
/-! 18c.qf.lean.txt -/
/-- no Source's field changes -/
def QF (T T1 : AT) : Prop := GL T T1 ∧ ∀ n k, n < T.1 → T.2.1 n = (7, 0) → T1.2.2.1 n k = T.2.2.1 n k
theorem QF.rf (T : AT) : QF T T := ⟨GL.rf T, fun _ _ _ _ => rfl⟩
theorem QF.tr {T T1 T2 : AT} (h : QF T T1) (k : QF T1 T2) : QF T T2 := ⟨h.1.tr k.1, fun n j hn a => (k.2 n j (Nat.lt_of_lt_of_le hn h.1.1) (by rw [h.1.2.1 n hn]; exact a)).trans (h.2 n j hn a)⟩
theorem qf_uO {T : AT} {n k c : Nat} {v : Int32} (h : T.2.1 n = (c, 0)) (hc : c ≠ 7) : QF T (uI T n k v) := ⟨gl_sp sp_uI, fun m j _ a => by
  show va_up T.2.2.1 n _ m j = _
  rw [va_up_ne _ _ (fun e => by rw [e, h] at a; exact hc (congrArg Prod.fst a))]⟩
theorem qf_uA {T : AT} {n k c : Nat} {v : Int32} (h : (T.2.1 n).1 = c) (hc : c ≠ 7) : QF T (uI T n k v) := ⟨gl_sp sp_uI, fun m j _ a => by
  show va_up T.2.2.1 n _ m j = _
  rw [va_up_ne _ _ (fun e => by rw [e] at a; rw [a] at h; exact hc h.symm)]⟩
theorem qf_uJ {T : AT} {n k : Nat} {v : Int64} : QF T (uJ T n k v) := ⟨gl_sp sp_uJ, fun _ _ _ _ => rfl⟩
theorem qf_uC {T : AT} {a b k : Nat} : QF T (uC T a b k) := ⟨gl_sp sp_uC, fun _ _ _ _ => rfl⟩
theorem qf_uR {T : AT} {n k x : Nat} (hx : x < T.1) : QF T (uR T n k x) := ⟨gl_uR hx, fun _ _ _ _ => rfl⟩
theorem qf_newJ {T : AT} {K : Nat} : QF T (newJ T K) := ⟨gl_newJ, fun _ _ _ _ => rfl⟩
set_option maxHeartbeats 4000000 in
set_option maxRecDepth 100000 in
theorem sq_X10_narrow {T : AT} {o : Nat} {T1 : AT} (h : g_X10_narrow T o = some T1) : QF T T1 := by
  have p0 := QF.rf T
  unfold g_X10_narrow at h
  obtain ⟨g2, h⟩ := oif_some h
  obtain ⟨T3, eT3, h⟩ := elet_some h
  have p1 : QF T T3 := QF.tr p0 (by rw [eT3]; first | exact qf_uO (oO_k g2).2 (by decide) | exact qf_uA (aA_k g2).2.1 (by decide))
  rw [← osome1 h]
  exact p1
set_option maxHeartbeats 4000000 in
set_option maxRecDepth 100000 in
theorem sq_X1_cells {T : AT} {o : Nat} {r1 : Int32} {T1 : AT} (h : g_X1_cells T o = some (r1, T1)) : QF T T1 := by
  have p0 := QF.rf T
  unfold g_X1_cells at h
  obtain ⟨g2, h⟩ := oif_some h
  obtain ⟨v3, -, h⟩ := elet_some h
  obtain ⟨g4, h⟩ := oif_some h
  obtain ⟨v5, -, h⟩ := elet_some h
  obtain ⟨v6, -, h⟩ := elet_some h
  rw [← (osome2 h).2]
  exact p0
set_option maxHeartbeats 4000000 in
set_option maxRecDepth 100000 in
theorem sq_X8_greatestDelay_b29 {r1 : Int32} {T1 : AT} {k4 : AT → Nat → Nat → Int32 → Int32 → Option (Int32 × AT)} (hk4 : ∀ (T : AT) (l0 : Nat) (l1 : Nat) (l2 : Int32) (l3 : Int32), k4 T l0 l1 l2 l3 = some (r1, T1) → QF T T1) : ∀ (T : AT) (l0 : Nat) (l1 : Nat) (l2 : Int32) (l3 : Int32), g_X8_greatestDelay_b29 k4 T l0 l1 l2 l3 = some (r1, T1) → QF T T1 := by
  intro T l0 l1 l2 l3 h
  have p0 := QF.rf T
  unfold g_X8_greatestDelay_b29 at h
  obtain ⟨v2, ev2, h⟩ := elet_some h
  exact QF.tr p0 (hk4 _ _ _ _ _ h)
set_option maxHeartbeats 4000000 in
set_option maxRecDepth 100000 in
theorem sq_X8_greatestDelay_b4 {r1 : Int32} {T1 : AT} : ∀ n : Nat, ∀ (T : AT) (l0 : Nat) (l1 : Nat) (l2 : Int32) (l3 : Int32), g_X8_greatestDelay_b4 n T l0 l1 l2 l3 = some (r1, T1) → QF T T1 := by
  intro n
  induction n with
  | zero =>
    intro T l0 l1 l2 l3 h
    have h : (none : Option (Int32 × AT)) = some (r1, T1) := h
    cases h
  | succ n ih =>
    intro T l0 l1 l2 l3 h
    have p0 := QF.rf T
    unfold g_X8_greatestDelay_b4 at h
    obtain ⟨g2, h⟩ := oif_some h
    obtain ⟨v3, -, h⟩ := elet_some h
    rcases oif_or h with ⟨c4, h⟩ | ⟨c4, h⟩
    · have h := h
      rw [← (osome2 h).2]
      exact p0
    · have h := h
      obtain ⟨g5, h⟩ := oif_some h
      obtain ⟨n6, en6, h⟩ := obind_some h
      obtain ⟨g7, h⟩ := oif_some h
      obtain ⟨g8, h⟩ := oif_some h
      obtain ⟨v9, -, h⟩ := elet_some h
      rcases oif_or h with ⟨c10, h⟩ | ⟨c10, h⟩
      · have h := h
        obtain ⟨g11, h⟩ := oif_some h
        obtain ⟨g12, h⟩ := oif_some h
        obtain ⟨v13, -, h⟩ := elet_some h
        obtain ⟨v14, -, h⟩ := elet_some h
        exact QF.tr p0 (sq_X8_greatestDelay_b29 ih _ _ _ _ _ h)
      · have h := h
        exact QF.tr p0 (sq_X8_greatestDelay_b29 ih _ _ _ _ _ h)
set_option maxHeartbeats 4000000 in
set_option maxRecDepth 100000 in
theorem sq_X8_greatestDelay {T : AT} {o : Nat} {a0 : Nat} {r1 : Int32} {T1 : AT} (h : g_X8_greatestDelay T o a0 = some (r1, T1)) : QF T T1 := by
  have p0 := QF.rf T
  unfold g_X8_greatestDelay at h
  exact QF.tr p0 (sq_X8_greatestDelay_b4 _ _ _ _ _ _ h)
set_option maxHeartbeats 4000000 in
set_option maxRecDepth 100000 in
theorem sq_X8_windowOf {T : AT} {o : Nat} {a0 : Nat} {r1 : Int32} {T1 : AT} (h : g_X8_windowOf T o a0 = some (r1, T1)) : QF T T1 := by
  have p0 := QF.rf T
  unfold g_X8_windowOf at h
  obtain ⟨g2, h⟩ := oif_some h
  obtain ⟨v3, -, h⟩ := elet_some h
  obtain ⟨g4, h⟩ := oif_some h
  obtain ⟨r6, T5, eT5, h⟩ := obind2_some h
  have p1 : QF T T5 := QF.tr p0 (sq_X8_greatestDelay eT5)
  obtain ⟨v7, -, h⟩ := elet_some h
  obtain ⟨v8, -, h⟩ := elet_some h
  rw [← (osome2 h).2]
  exact p1
set_option maxHeartbeats 4000000 in
set_option maxRecDepth 100000 in
theorem sq_X10_clear_b2 {T1 : AT} : ∀ n : Nat, ∀ (T : AT) (l0 : Nat) (l1 : Int32) (l2 : Int32), g_X10_clear_b2 n T l0 l1 l2 = some T1 → QF T T1 := by
  intro n
  induction n with
  | zero =>
    intro T l0 l1 l2 h
    have h : (none : Option (AT)) = some T1 := h
    cases h
  | succ n ih =>
    intro T l0 l1 l2 h
    have p0 := QF.rf T
    unfold g_X10_clear_b2 at h
    obtain ⟨g2, h⟩ := oif_some h
    obtain ⟨v3, -, h⟩ := elet_some h
    rcases oif_or h with ⟨c4, h⟩ | ⟨c4, h⟩
    · have h := h
      rw [← osome1 h]
      exact p0
    · have h := h
      obtain ⟨g5, h⟩ := oif_some h
      obtain ⟨n6, en6, h⟩ := obind_some h
      obtain ⟨g7, h⟩ := oif_some h
      obtain ⟨g8, h⟩ := oif_some h
      obtain ⟨n9, en9, h⟩ := obind_some h
      obtain ⟨g10, h⟩ := oif_some h
      obtain ⟨g11, h⟩ := oif_some h
      obtain ⟨T12, eT12, h⟩ := elet_some h
      have p1 : QF T T12 := QF.tr p0 (by rw [eT12]; exact qf_uJ)
      obtain ⟨v13, ev13, h⟩ := elet_some h
      exact QF.tr p1 (ih _ _ _ _ h)
set_option maxHeartbeats 4000000 in
set_option maxRecDepth 100000 in
theorem sq_X10_clear {T : AT} {o : Nat} {a0 : Int32} {T1 : AT} (h : g_X10_clear T o a0 = some T1) : QF T T1 := by
  have p0 := QF.rf T
  unfold g_X10_clear at h
  exact QF.tr p0 (sq_X10_clear_b2 _ _ _ _ _ h)
set_option maxHeartbeats 4000000 in
set_option maxRecDepth 100000 in
theorem sq_X10_widenTo_b108 {T1 : AT} : ∀ (T : AT), g_X10_widenTo_b108 T = some T1 → QF T T1 := by
  intro T h
  have p0 := QF.rf T
  unfold g_X10_widenTo_b108 at h
  rw [← osome1 h]
  exact p0
set_option maxHeartbeats 4000000 in
set_option maxRecDepth 100000 in
theorem sq_X10_widenTo_b40 {T1 : AT} {k5 : AT → Nat → Int32 → Int32 → Option (AT)} (hk5 : ∀ (T : AT) (l0 : Nat) (l1 : Int32) (l2 : Int32), k5 T l0 l1 l2 = some T1 → QF T T1) : ∀ n : Nat, ∀ (T : AT) (l0 : Nat) (l1 : Int32) (l2 : Int32) (l3 : Int32), g_X10_widenTo_b40 k5 n T l0 l1 l2 l3 = some T1 → QF T T1 := by
  intro n
  induction n with
  | zero =>
    intro T l0 l1 l2 l3 h
    have h : (none : Option (AT)) = some T1 := h
    cases h
  | succ n ih =>
    intro T l0 l1 l2 l3 h
    have p0 := QF.rf T
    unfold g_X10_widenTo_b40 at h
    obtain ⟨g2, h⟩ := oif_some h
    obtain ⟨v3, -, h⟩ := elet_some h
    rcases oif_or h with ⟨c4, h⟩ | ⟨c4, h⟩
    · have h := h
      obtain ⟨v5, -, h⟩ := elet_some h
      obtain ⟨g6, h⟩ := oif_some h
      obtain ⟨T7, eT7, h⟩ := elet_some h
      have p1 : QF T T7 := QF.tr p0 (by rw [eT7]; first | exact qf_uO (oO_k g6).2 (by decide) | exact qf_uA (aA_k g2).2.1 (by decide))
      obtain ⟨v8, ev8, h⟩ := elet_some h
      exact QF.tr p1 (hk5 _ _ _ _ h)
    · have h := h
      obtain ⟨g9, h⟩ := oif_some h
      obtain ⟨n10, en10, h⟩ := obind_some h
      obtain ⟨v11, -, h⟩ := elet_some h
      obtain ⟨g12, h⟩ := oif_some h
      obtain ⟨g13, h⟩ := oif_some h
      obtain ⟨n14, en14, h⟩ := obind_some h
      obtain ⟨g15, h⟩ := oif_some h
      obtain ⟨g16, h⟩ := oif_some h
      obtain ⟨v17, -, h⟩ := elet_some h
      obtain ⟨g18, h⟩ := oif_some h
      obtain ⟨n19, en19, h⟩ := obind_some h
      obtain ⟨v20, -, h⟩ := elet_some h
      obtain ⟨g21, h⟩ := oif_some h
      obtain ⟨g22, h⟩ := oif_some h
      obtain ⟨n23, en23, h⟩ := obind_some h
      obtain ⟨v24, -, h⟩ := elet_some h
      obtain ⟨g25, h⟩ := oif_some h
      obtain ⟨g26, h⟩ := oif_some h
      obtain ⟨T27, eT27, h⟩ := elet_some h
      have p1 : QF T T27 := QF.tr p0 (by rw [eT27]; exact qf_uJ)
      obtain ⟨g28, h⟩ := oif_some h
      obtain ⟨n29, en29, h⟩ := obind_some h
      obtain ⟨g30, h⟩ := oif_some h
      obtain ⟨g31, h⟩ := oif_some h
      obtain ⟨n32, en32, h⟩ := obind_some h
      obtain ⟨v33, -, h⟩ := elet_some h
      obtain ⟨g34, h⟩ := oif_some h
      obtain ⟨g35, h⟩ := oif_some h
      obtain ⟨T36, eT36, h⟩ := elet_some h
      have p2 : QF T T36 := QF.tr p1 (by rw [eT36]; exact qf_uJ)
      obtain ⟨v37, ev37, h⟩ := elet_some h
      exact QF.tr p2 (ih _ _ _ _ _ h)
set_option maxHeartbeats 4000000 in
set_option maxRecDepth 100000 in
theorem sq_X10_widenTo_b38 {T1 : AT} {k5 : AT → Nat → Int32 → Int32 → Option (AT)} (hk5 : ∀ (T : AT) (l0 : Nat) (l1 : Int32) (l2 : Int32), k5 T l0 l1 l2 = some T1 → QF T T1) : ∀ (T : AT) (l0 : Nat) (l1 : Int32) (l2 : Int32), g_X10_widenTo_b38 k5 T l0 l1 l2 = some T1 → QF T T1 := by
  intro T l0 l1 l2 h
  have p0 := QF.rf T
  unfold g_X10_widenTo_b38 at h
  exact QF.tr p0 (sq_X10_widenTo_b40 hk5 _ _ _ _ _ _ h)
set_option maxHeartbeats 4000000 in
set_option maxRecDepth 100000 in
theorem sq_X10_widenTo_b37 {T1 : AT} {k5 : AT → Nat → Int32 → Int32 → Option (AT)} (hk5 : ∀ (T : AT) (l0 : Nat) (l1 : Int32) (l2 : Int32), k5 T l0 l1 l2 = some T1 → QF T T1) : ∀ (T : AT) (s0 : Nat) (s1 : Int32) (s2 : Nat) (l0 : Nat) (l1 : Int32) (l2 : Int32), g_X10_widenTo_b37 k5 T s0 s1 s2 l0 l1 l2 = some T1 → QF T T1 := by
  intro T s0 s1 s2 l0 l1 l2 h
  have p0 := QF.rf T
  unfold g_X10_widenTo_b37 at h
  obtain ⟨g2, h⟩ := oif_some h
  obtain ⟨g3, h⟩ := oif_some h
  obtain ⟨g4, h⟩ := oif_some h
  obtain ⟨T5, eT5, h⟩ := elet_some h
  have p1 : QF T T5 := QF.tr p0 (by rw [eT5]; exact qf_uR (aA_k g4).1)
  exact QF.tr p1 (sq_X10_widenTo_b38 hk5 _ _ _ _ h)
set_option maxHeartbeats 4000000 in
set_option maxRecDepth 100000 in
theorem sq_X10_widenTo_b5 {T1 : AT} : ∀ n : Nat, ∀ (T : AT) (l0 : Nat) (l1 : Int32) (l2 : Int32), g_X10_widenTo_b5 n T l0 l1 l2 = some T1 → QF T T1 := by
  intro n
  induction n with
  | zero =>
    intro T l0 l1 l2 h
    have h : (none : Option (AT)) = some T1 := h
    cases h
  | succ n ih =>
    intro T l0 l1 l2 h
    have p0 := QF.rf T
    unfold g_X10_widenTo_b5 at h
    rcases oif_or h with ⟨c2, h⟩ | ⟨c2, h⟩
    · have h := h
      exact QF.tr p0 (sq_X10_widenTo_b108 _ h)
    · have h := h
      rcases oif_or h with ⟨c3, h⟩ | ⟨c3, h⟩
      · have h := h
        exact QF.tr p0 (sq_X10_widenTo_b108 _ h)
      · have h := h
        obtain ⟨g4, h⟩ := oif_some h
        obtain ⟨n5, en5, h⟩ := obind_some h
        obtain ⟨g6, h⟩ := oif_some h
        obtain ⟨g7, h⟩ := oif_some h
        obtain ⟨n8, en8, h⟩ := obind_some h
        obtain ⟨g9, h⟩ := oif_some h
        obtain ⟨v10, -, h⟩ := elet_some h
        rcases oif_or h with ⟨c11, h⟩ | ⟨c11, h⟩
        · have h := h
          obtain ⟨g12, h⟩ := oif_some h
          obtain ⟨n13, en13, h⟩ := obind_some h
          obtain ⟨g14, h⟩ := oif_some h
          obtain ⟨v15, -, h⟩ := elet_some h
          obtain ⟨g16, h⟩ := oif_some h
          obtain ⟨T17, eT17, h⟩ := elet_some h
          have p1 : QF T T17 := QF.tr p0 (by rw [eT17]; exact qf_newJ)
          exact QF.tr p1 (sq_X10_widenTo_b37 ih _ _ _ _ _ _ _ h)
        · have h := h
          exact QF.tr p0 (sq_X10_widenTo_b38 ih _ _ _ _ h)
set_option maxHeartbeats 4000000 in
set_option maxRecDepth 100000 in
theorem sq_X10_widenTo {T : AT} {o : Nat} {a0 : Int32} {T1 : AT} (h : g_X10_widenTo T o a0 = some T1) : QF T T1 := by
  have p0 := QF.rf T
  unfold g_X10_widenTo at h
  obtain ⟨g2, h⟩ := oif_some h
  obtain ⟨v3, -, h⟩ := elet_some h
  exact QF.tr p0 (sq_X10_widenTo_b5 _ _ _ _ _ h)
set_option maxHeartbeats 4000000 in
set_option maxRecDepth 100000 in
theorem sq_X10_settle_b99 {T1 : AT} : ∀ (T : AT), g_X10_settle_b99 T = some T1 → QF T T1 := by
  intro T h
  have p0 := QF.rf T
  unfold g_X10_settle_b99 at h
  rw [← osome1 h]
  exact p0
set_option maxHeartbeats 4000000 in
set_option maxRecDepth 100000 in
theorem sq_X10_settle_b93 {T1 : AT} {k64 : AT → Nat → Int32 → Int32 → Option (AT)} (hk64 : ∀ (T : AT) (l0 : Nat) (l1 : Int32) (l2 : Int32), k64 T l0 l1 l2 = some T1 → QF T T1) : ∀ (T : AT) (l0 : Nat) (l1 : Int32) (l2 : Int32), g_X10_settle_b93 k64 T l0 l1 l2 = some T1 → QF T T1 := by
  intro T l0 l1 l2 h
  have p0 := QF.rf T
  unfold g_X10_settle_b93 at h
  obtain ⟨v2, ev2, h⟩ := elet_some h
  exact QF.tr p0 (hk64 _ _ _ _ h)
set_option maxHeartbeats 4000000 in
set_option maxRecDepth 100000 in
theorem sq_X10_settle_b64 {T1 : AT} : ∀ n : Nat, ∀ (T : AT) (l0 : Nat) (l1 : Int32) (l2 : Int32), g_X10_settle_b64 n T l0 l1 l2 = some T1 → QF T T1 := by
  intro n
  induction n with
  | zero =>
    intro T l0 l1 l2 h
    have h : (none : Option (AT)) = some T1 := h
    cases h
  | succ n ih =>
    intro T l0 l1 l2 h
    have p0 := QF.rf T
    unfold g_X10_settle_b64 at h
    obtain ⟨v2, -, h⟩ := elet_some h
    rcases oif_or h with ⟨c3, h⟩ | ⟨c3, h⟩
    · have h := h
      exact QF.tr p0 (sq_X10_settle_b99 _ h)
    · have h := h
      obtain ⟨g4, h⟩ := oif_some h
      obtain ⟨n5, en5, h⟩ := obind_some h
      obtain ⟨g6, h⟩ := oif_some h
      obtain ⟨g7, h⟩ := oif_some h
      obtain ⟨n8, en8, h⟩ := obind_some h
      obtain ⟨g9, h⟩ := oif_some h
      obtain ⟨g10, h⟩ := oif_some h
      obtain ⟨v11, -, h⟩ := elet_some h
      obtain ⟨r12, -, h⟩ := obind_some h
      rcases oif_or h with ⟨c13, h⟩ | ⟨c13, h⟩
      · have h := h
        exact QF.tr p0 (sq_X10_settle_b99 _ h)
      · have h := h
        obtain ⟨v14, -, h⟩ := elet_some h
        obtain ⟨g15, h⟩ := oif_some h
        obtain ⟨T16, eT16, h⟩ := obind_some h
        have p1 : QF T T16 := QF.tr p0 (sq_X10_widenTo eT16)
        exact QF.tr p1 (sq_X10_settle_b93 ih _ _ _ _ h)
set_option maxHeartbeats 4000000 in
set_option maxRecDepth 100000 in
theorem sq_X10_settle_b2 {T1 : AT} : ∀ n : Nat, ∀ (T : AT) (l0 : Nat) (l1 : Int32) (l2 : Int32), g_X10_settle_b2 n T l0 l1 l2 = some T1 → QF T T1 := by
  intro n
  induction n with
  | zero =>
    intro T l0 l1 l2 h
    have h : (none : Option (AT)) = some T1 := h
    cases h
  | succ n ih =>
    intro T l0 l1 l2 h
    have p0 := QF.rf T
    unfold g_X10_settle_b2 at h
    obtain ⟨v2, -, h⟩ := elet_some h
    obtain ⟨g3, h⟩ := oif_some h
    obtain ⟨v4, -, h⟩ := elet_some h
    rcases oif_or h with ⟨c5, h⟩ | ⟨c5, h⟩
    · have h := h
      obtain ⟨g6, h⟩ := oif_some h
      obtain ⟨v7, -, h⟩ := elet_some h
      obtain ⟨v8, -, h⟩ := elet_some h
      exact QF.tr p0 (sq_X10_settle_b64 _ _ _ _ _ h)
    · have h := h
      obtain ⟨g9, h⟩ := oif_some h
      obtain ⟨n10, en10, h⟩ := obind_some h
      obtain ⟨g11, h⟩ := oif_some h
      obtain ⟨g12, h⟩ := oif_some h
      obtain ⟨n13, en13, h⟩ := obind_some h
      obtain ⟨g14, h⟩ := oif_some h
      obtain ⟨g15, h⟩ := oif_some h
      obtain ⟨v16, -, h⟩ := elet_some h
      obtain ⟨g17, h⟩ := oif_some h
      obtain ⟨n18, en18, h⟩ := obind_some h
      obtain ⟨g19, h⟩ := oif_some h
      obtain ⟨g20, h⟩ := oif_some h
      obtain ⟨n21, en21, h⟩ := obind_some h
      obtain ⟨v22, -, h⟩ := elet_some h
      obtain ⟨g23, h⟩ := oif_some h
      obtain ⟨g24, h⟩ := oif_some h
      obtain ⟨T25, eT25, h⟩ := elet_some h
      have p1 : QF T T25 := QF.tr p0 (by rw [eT25]; exact qf_uJ)
      obtain ⟨g26, h⟩ := oif_some h
      obtain ⟨n27, en27, h⟩ := obind_some h
      obtain ⟨v28, -, h⟩ := elet_some h
      obtain ⟨g29, h⟩ := oif_some h
      obtain ⟨g30, h⟩ := oif_some h
      obtain ⟨n31, en31, h⟩ := obind_some h
      obtain ⟨g32, h⟩ := oif_some h
      obtain ⟨g33, h⟩ := oif_some h
      obtain ⟨v34, -, h⟩ := elet_some h
      obtain ⟨v35, -, h⟩ := elet_some h
      obtain ⟨v36, -, h⟩ := elet_some h
      obtain ⟨g37, h⟩ := oif_some h
      obtain ⟨g38, h⟩ := oif_some h
      obtain ⟨T39, eT39, h⟩ := elet_some h
      have p2 : QF T T39 := QF.tr p1 (by rw [eT39]; exact qf_uJ)
      obtain ⟨v40, ev40, h⟩ := elet_some h
      exact QF.tr p2 (ih _ _ _ _ h)
set_option maxHeartbeats 4000000 in
set_option maxRecDepth 100000 in
theorem sq_X10_settle {T : AT} {o : Nat} {a0 : Int32} {T1 : AT} (h : g_X10_settle T o a0 = some T1) : QF T T1 := by
  have p0 := QF.rf T
  unfold g_X10_settle at h
  exact QF.tr p0 (sq_X10_settle_b2 _ _ _ _ _ h)
set_option maxHeartbeats 4000000 in
set_option maxRecDepth 100000 in
theorem sq_X10_divide_b121 {T1 : AT} : ∀ (T : AT), g_X10_divide_b121 T = some T1 → QF T T1 := by
  intro T h
  have p0 := QF.rf T
  unfold g_X10_divide_b121 at h
  rw [← osome1 h]
  exact p0
set_option maxHeartbeats 4000000 in
set_option maxRecDepth 100000 in
theorem sq_X10_divide_b40 {T1 : AT} : ∀ n : Nat, ∀ (T : AT) (l0 : Nat) (l1 : Int32) (l2 : Int32) (l3 : Int32) (l4 : Int64) (l6 : Int32), g_X10_divide_b40 n T l0 l1 l2 l3 l4 l6 = some T1 → QF T T1 := by
  intro n
  induction n with
  | zero =>
    intro T l0 l1 l2 l3 l4 l6 h
    have h : (none : Option (AT)) = some T1 := h
    cases h
  | succ n ih =>
    intro T l0 l1 l2 l3 l4 l6 h
    have p0 := QF.rf T
    unfold g_X10_divide_b40 at h
    rcases oif_or h with ⟨c2, h⟩ | ⟨c2, h⟩
    · have h := h
      rcases oif_or h with ⟨c3, h⟩ | ⟨c3, h⟩
      · have h := h
        exact QF.tr p0 (sq_X10_divide_b121 _ h)
      · have h := h
        obtain ⟨v4, -, h⟩ := elet_some h
        rcases oif_or h with ⟨c5, h⟩ | ⟨c5, h⟩
        · have h := h
          exact QF.tr p0 (sq_X10_divide_b121 _ h)
        · have h := h
          obtain ⟨g6, h⟩ := oif_some h
          obtain ⟨n7, en7, h⟩ := obind_some h
          obtain ⟨g8, h⟩ := oif_some h
          obtain ⟨g9, h⟩ := oif_some h
          obtain ⟨n10, en10, h⟩ := obind_some h
          obtain ⟨g11, h⟩ := oif_some h
          obtain ⟨g12, h⟩ := oif_some h
          obtain ⟨v13, -, h⟩ := elet_some h
          obtain ⟨v14, -, h⟩ := elet_some h
          obtain ⟨g15, h⟩ := oif_some h
          obtain ⟨g16, h⟩ := oif_some h
          obtain ⟨T17, eT17, h⟩ := elet_some h
          have p1 : QF T T17 := QF.tr p0 (by rw [eT17]; exact qf_uJ)
          obtain ⟨g18, h⟩ := oif_some h
          obtain ⟨T19, eT19, h⟩ := obind_some h
          have p2 : QF T T19 := QF.tr p1 (sq_X10_settle eT19)
          exact QF.tr p2 (sq_X10_divide_b121 _ h)
    · have h := h
      obtain ⟨v21, -, h⟩ := elet_some h
      obtain ⟨g22, h⟩ := oif_some h
      obtain ⟨n23, en23, h⟩ := obind_some h
      obtain ⟨g24, h⟩ := oif_some h
      obtain ⟨g25, h⟩ := oif_some h
      obtain ⟨n26, en26, h⟩ := obind_some h
      obtain ⟨g27, h⟩ := oif_some h
      obtain ⟨g28, h⟩ := oif_some h
      obtain ⟨v29, -, h⟩ := elet_some h
      obtain ⟨v30, -, h⟩ := elet_some h
      obtain ⟨g31, h⟩ := oif_some h
      obtain ⟨n32, en32, h⟩ := obind_some h
      obtain ⟨g33, h⟩ := oif_some h
      obtain ⟨g34, h⟩ := oif_some h
      obtain ⟨n35, en35, h⟩ := obind_some h
      obtain ⟨v36, -, h⟩ := elet_some h
      obtain ⟨r37, -, h⟩ := obind_some h
      obtain ⟨g38, h⟩ := oif_some h
      obtain ⟨g39, h⟩ := oif_some h
      obtain ⟨T40, eT40, h⟩ := elet_some h
      have p1 : QF T T40 := QF.tr p0 (by rw [eT40]; exact qf_uJ)
      obtain ⟨v41, -, h⟩ := elet_some h
      obtain ⟨r42, -, h⟩ := obind_some h
      obtain ⟨v43, ev43, h⟩ := elet_some h
      exact QF.tr p1 (ih _ _ _ _ _ _ _ h)
set_option maxHeartbeats 4000000 in
set_option maxRecDepth 100000 in
theorem sq_X10_divide_b28 {T1 : AT} : ∀ (T : AT) (s0 : Int32) (l0 : Nat) (l1 : Int32) (l2 : Int32), g_X10_divide_b28 T s0 l0 l1 l2 = some T1 → QF T T1 := by
  intro T s0 l0 l1 l2 h
  have p0 := QF.rf T
  unfold g_X10_divide_b28 at h
  obtain ⟨g2, h⟩ := oif_some h
  obtain ⟨v3, -, h⟩ := elet_some h
  obtain ⟨v4, -, h⟩ := elet_some h
  exact QF.tr p0 (sq_X10_divide_b40 _ _ _ _ _ _ _ _ h)
set_option maxHeartbeats 4000000 in
set_option maxRecDepth 100000 in
theorem sq_X10_divide {T : AT} {o : Nat} {a0 : Int32} {a1 : Int32} {T1 : AT} (h : g_X10_divide T o a0 a1 = some T1) : QF T T1 := by
  have p0 := QF.rf T
  unfold g_X10_divide at h
  rcases oif_or h with ⟨c2, h⟩ | ⟨c2, h⟩
  · have h := h
    obtain ⟨g3, h⟩ := oif_some h
    obtain ⟨n4, en4, h⟩ := obind_some h
    obtain ⟨g5, h⟩ := oif_some h
    obtain ⟨v6, -, h⟩ := elet_some h
    obtain ⟨v7, -, h⟩ := elet_some h
    obtain ⟨g8, h⟩ := oif_some h
    obtain ⟨g9, h⟩ := oif_some h
    obtain ⟨n10, en10, h⟩ := obind_some h
    obtain ⟨g11, h⟩ := oif_some h
    obtain ⟨g12, h⟩ := oif_some h
    obtain ⟨v13, -, h⟩ := elet_some h
    obtain ⟨v14, -, h⟩ := elet_some h
    rcases oif_or h with ⟨c15, h⟩ | ⟨c15, h⟩
    · have h := h
      exact QF.tr p0 (sq_X10_divide_b28 _ _ _ _ _ h)
    · have h := h
      exact QF.tr p0 (sq_X10_divide_b28 _ _ _ _ _ h)
  · have h := h
    rw [← osome1 h]
    exact p0
set_option maxHeartbeats 4000000 in
set_option maxRecDepth 100000 in
theorem sq_X8_weighted_b70 {r1 : Int64} {T1 : AT} {k6 : AT → Nat → Nat → Nat → Int32 → Int64 → Int32 → Option (Int64 × AT)} (hk6 : ∀ (T : AT) (l0 : Nat) (l1 : Nat) (l2 : Nat) (l3 : Int32) (l4 : Int64) (l6 : Int32), k6 T l0 l1 l2 l3 l4 l6 = some (r1, T1) → QF T T1) : ∀ (T : AT) (l0 : Nat) (l1 : Nat) (l2 : Nat) (l3 : Int32) (l4 : Int64) (l6 : Int32), g_X8_weighted_b70 k6 T l0 l1 l2 l3 l4 l6 = some (r1, T1) → QF T T1 := by
  intro T l0 l1 l2 l3 l4 l6 h
  have p0 := QF.rf T
  unfold g_X8_weighted_b70 at h
  obtain ⟨v2, ev2, h⟩ := elet_some h
  exact QF.tr p0 (hk6 _ _ _ _ _ _ _ h)
set_option maxHeartbeats 4000000 in
set_option maxRecDepth 100000 in
theorem sq_X8_weighted_b6 {r1 : Int64} {T1 : AT} : ∀ n : Nat, ∀ (T : AT) (l0 : Nat) (l1 : Nat) (l2 : Nat) (l3 : Int32) (l4 : Int64) (l6 : Int32), g_X8_weighted_b6 n T l0 l1 l2 l3 l4 l6 = some (r1, T1) → QF T T1 := by
  intro n
  induction n with
  | zero =>
    intro T l0 l1 l2 l3 l4 l6 h
    have h : (none : Option (Int64 × AT)) = some (r1, T1) := h
    cases h
  | succ n ih =>
    intro T l0 l1 l2 l3 l4 l6 h
    have p0 := QF.rf T
    unfold g_X8_weighted_b6 at h
    obtain ⟨g2, h⟩ := oif_some h
    obtain ⟨v3, -, h⟩ := elet_some h
    rcases oif_or h with ⟨c4, h⟩ | ⟨c4, h⟩
    · have h := h
      rw [← (osome2 h).2]
      exact p0
    · have h := h
      obtain ⟨g5, h⟩ := oif_some h
      obtain ⟨g6, h⟩ := oif_some h
      obtain ⟨v7, -, h⟩ := elet_some h
      obtain ⟨v8, -, h⟩ := elet_some h
      obtain ⟨g9, h⟩ := oif_some h
      obtain ⟨n10, en10, h⟩ := obind_some h
      obtain ⟨g11, h⟩ := oif_some h
      obtain ⟨g12, h⟩ := oif_some h
      obtain ⟨v13, -, h⟩ := elet_some h
      rcases oif_or h with ⟨c14, h⟩ | ⟨c14, h⟩
      · have h := h
        rcases oif_or h with ⟨c15, h⟩ | ⟨c15, h⟩
        · have h := h
          exact QF.tr p0 (sq_X8_weighted_b70 ih _ _ _ _ _ _ _ h)
        · have h := h
          obtain ⟨g16, h⟩ := oif_some h
          obtain ⟨v17, -, h⟩ := elet_some h
          rcases oif_or h with ⟨c18, h⟩ | ⟨c18, h⟩
          · have h := h
            exact QF.tr p0 (sq_X8_weighted_b70 ih _ _ _ _ _ _ _ h)
          · have h := h
            obtain ⟨g19, h⟩ := oif_some h
            obtain ⟨n20, en20, h⟩ := obind_some h
            obtain ⟨g21, h⟩ := oif_some h
            obtain ⟨g22, h⟩ := oif_some h
            obtain ⟨v23, -, h⟩ := elet_some h
            obtain ⟨v24, -, h⟩ := elet_some h
            obtain ⟨r25, -, h⟩ := obind_some h
            obtain ⟨g26, h⟩ := oif_some h
            obtain ⟨g27, h⟩ := oif_some h
            obtain ⟨v28, -, h⟩ := elet_some h
            obtain ⟨v29, -, h⟩ := elet_some h
            obtain ⟨v30, -, h⟩ := elet_some h
            exact QF.tr p0 (sq_X8_weighted_b70 ih _ _ _ _ _ _ _ h)
      · have h := h
        exact QF.tr p0 (sq_X8_weighted_b70 ih _ _ _ _ _ _ _ h)
set_option maxHeartbeats 4000000 in
set_option maxRecDepth 100000 in
theorem sq_X8_weighted {T : AT} {o : Nat} {a0 : Nat} {a1 : Nat} {a2 : Int32} {r1 : Int64} {T1 : AT} (h : g_X8_weighted T o a0 a1 a2 = some (r1, T1)) : QF T T1 := by
  have p0 := QF.rf T
  unfold g_X8_weighted at h
  exact QF.tr p0 (sq_X8_weighted_b6 _ _ _ _ _ _ _ _ h)
set_option maxHeartbeats 4000000 in
set_option maxRecDepth 100000 in
theorem sq_X8_focus_b74 {T1 : AT} : ∀ (T : AT), g_X8_focus_b74 T = some T1 → QF T T1 := by
  intro T h
  have p0 := QF.rf T
  unfold g_X8_focus_b74 at h
  rw [← osome1 h]
  exact p0
set_option maxHeartbeats 4000000 in
set_option maxRecDepth 100000 in
theorem sq_X8_focus_b23 {T1 : AT} : ∀ n : Nat, ∀ (T : AT) (l0 : Nat) (l1 : Nat) (l2 : Int32) (l3 : Int32), g_X8_focus_b23 n T l0 l1 l2 l3 = some T1 → QF T T1 := by
  intro n
  induction n with
  | zero =>
    intro T l0 l1 l2 l3 h
    have h : (none : Option (AT)) = some T1 := h
    cases h
  | succ n ih =>
    intro T l0 l1 l2 l3 h
    have p0 := QF.rf T
    unfold g_X8_focus_b23 at h
    obtain ⟨g2, h⟩ := oif_some h
    obtain ⟨n3, en3, h⟩ := obind_some h
    obtain ⟨g4, h⟩ := oif_some h
    obtain ⟨v5, -, h⟩ := elet_some h
    rcases oif_or h with ⟨c6, h⟩ | ⟨c6, h⟩
    · have h := h
      obtain ⟨g7, h⟩ := oif_some h
      obtain ⟨n8, en8, h⟩ := obind_some h
      obtain ⟨g9, h⟩ := oif_some h
      obtain ⟨T10, eT10, h⟩ := obind_some h
      have p1 : QF T T10 := QF.tr p0 (sq_X10_settle eT10)
      exact QF.tr p1 (sq_X8_focus_b74 _ h)
    · have h := h
      obtain ⟨g12, h⟩ := oif_some h
      obtain ⟨n13, en13, h⟩ := obind_some h
      obtain ⟨g14, h⟩ := oif_some h
      obtain ⟨n15, en15, h⟩ := obind_some h
      obtain ⟨g16, h⟩ := oif_some h
      obtain ⟨g17, h⟩ := oif_some h
      obtain ⟨n18, en18, h⟩ := obind_some h
      obtain ⟨g19, h⟩ := oif_some h
      obtain ⟨n20, en20, h⟩ := obind_some h
      obtain ⟨g21, h⟩ := oif_some h
      obtain ⟨n22, en22, h⟩ := obind_some h
      obtain ⟨g23, h⟩ := oif_some h
      obtain ⟨g24, h⟩ := oif_some h
      obtain ⟨n25, en25, h⟩ := obind_some h
      obtain ⟨g26, h⟩ := oif_some h
      obtain ⟨r28, T27, eT27, h⟩ := obind2_some h
      have p1 : QF T T27 := QF.tr p0 ((sq_X8_weighted eT27))
      obtain ⟨g29, h⟩ := oif_some h
      obtain ⟨g30, h⟩ := oif_some h
      obtain ⟨T31, eT31, h⟩ := elet_some h
      have p2 : QF T T31 := QF.tr p1 (by rw [eT31]; exact qf_uJ)
      obtain ⟨v32, ev32, h⟩ := elet_some h
      exact QF.tr p2 (ih _ _ _ _ _ h)
set_option maxHeartbeats 4000000 in
set_option maxRecDepth 100000 in
theorem sq_X8_focus_b21 {T1 : AT} : ∀ (T : AT) (l0 : Nat) (l1 : Nat) (l2 : Int32), g_X8_focus_b21 T l0 l1 l2 = some T1 → QF T T1 := by
  intro T l0 l1 l2 h
  have p0 := QF.rf T
  unfold g_X8_focus_b21 at h
  exact QF.tr p0 (sq_X8_focus_b23 _ _ _ _ _ _ h)
set_option maxHeartbeats 4000000 in
set_option maxRecDepth 100000 in
theorem sq_X8_focus {T : AT} {o : Nat} {a0 : Nat} {a1 : Int32} {T1 : AT} (h : g_X8_focus T o a0 a1 = some T1) : QF T T1 := by
  have p0 := QF.rf T
  unfold g_X8_focus at h
  obtain ⟨g2, h⟩ := oif_some h
  obtain ⟨n3, en3, h⟩ := obind_some h
  obtain ⟨g4, h⟩ := oif_some h
  obtain ⟨T5, eT5, h⟩ := obind_some h
  have p1 : QF T T5 := QF.tr p0 ((sq_X10_narrow eT5))
  obtain ⟨g7, h⟩ := oif_some h
  obtain ⟨n8, en8, h⟩ := obind_some h
  obtain ⟨g9, h⟩ := oif_some h
  obtain ⟨n10, en10, h⟩ := obind_some h
  obtain ⟨g11, h⟩ := oif_some h
  obtain ⟨v12, -, h⟩ := elet_some h
  obtain ⟨g13, h⟩ := oif_some h
  obtain ⟨T14, eT14, h⟩ := obind_some h
  have p2 : QF T T14 := QF.tr p1 (sq_X10_widenTo eT14)
  exact QF.tr p2 (sq_X8_focus_b21 _ _ _ _ h)
set_option maxHeartbeats 4000000 in
set_option maxRecDepth 100000 in
theorem sq_X10_addProduct_b138 {T1 : AT} : ∀ (T : AT), g_X10_addProduct_b138 T = some T1 → QF T T1 := by
  intro T h
  have p0 := QF.rf T
  unfold g_X10_addProduct_b138 at h
  rw [← osome1 h]
  exact p0
set_option maxHeartbeats 4000000 in
set_option maxRecDepth 100000 in
theorem sq_X10_addProduct_b133 {T1 : AT} : ∀ (T : AT) (l0 : Nat) (l1 : Int32), g_X10_addProduct_b133 T l0 l1 = some T1 → QF T T1 := by
  intro T l0 l1 h
  have p0 := QF.rf T
  unfold g_X10_addProduct_b133 at h
  obtain ⟨g2, h⟩ := oif_some h
  obtain ⟨T3, eT3, h⟩ := obind_some h
  have p1 : QF T T3 := QF.tr p0 (sq_X10_settle eT3)
  exact QF.tr p1 (sq_X10_addProduct_b138 _ h)
set_option maxHeartbeats 4000000 in
set_option maxRecDepth 100000 in
theorem sq_X10_addProduct_b113 {T1 : AT} {k17 : AT → Nat → Int32 → Nat → Int32 → Nat → Int32 → Int32 → Option (AT)} (hk17 : ∀ (T : AT) (l0 : Nat) (l1 : Int32) (l2 : Nat) (l3 : Int32) (l4 : Nat) (l5 : Int32) (l6 : Int32), k17 T l0 l1 l2 l3 l4 l5 l6 = some T1 → QF T T1) : ∀ (T : AT) (l0 : Nat) (l1 : Int32) (l2 : Nat) (l3 : Int32) (l4 : Nat) (l5 : Int32) (l6 : Int32) (l7 : Int64), g_X10_addProduct_b113 k17 T l0 l1 l2 l3 l4 l5 l6 l7 = some T1 → QF T T1 := by
  intro T l0 l1 l2 l3 l4 l5 l6 l7 h
  have p0 := QF.rf T
  unfold g_X10_addProduct_b113 at h
  obtain ⟨g2, h⟩ := oif_some h
  obtain ⟨n3, en3, h⟩ := obind_some h
  obtain ⟨g4, h⟩ := oif_some h
  obtain ⟨g5, h⟩ := oif_some h
  obtain ⟨n6, en6, h⟩ := obind_some h
  obtain ⟨g7, h⟩ := oif_some h
  obtain ⟨g8, h⟩ := oif_some h
  obtain ⟨v9, -, h⟩ := elet_some h
  obtain ⟨v10, -, h⟩ := elet_some h
  obtain ⟨g11, h⟩ := oif_some h
  obtain ⟨g12, h⟩ := oif_some h
  obtain ⟨T13, eT13, h⟩ := elet_some h
  have p1 : QF T T13 := QF.tr p0 (by rw [eT13]; exact qf_uJ)
  obtain ⟨v14, ev14, h⟩ := elet_some h
  exact QF.tr p1 (hk17 _ _ _ _ _ _ _ _ h)
set_option maxHeartbeats 4000000 in
set_option maxRecDepth 100000 in
theorem sq_X10_addProduct_b62 {T1 : AT} {k17 : AT → Nat → Int32 → Nat → Int32 → Nat → Int32 → Int32 → Option (AT)} (hk17 : ∀ (T : AT) (l0 : Nat) (l1 : Int32) (l2 : Nat) (l3 : Int32) (l4 : Nat) (l5 : Int32) (l6 : Int32), k17 T l0 l1 l2 l3 l4 l5 l6 = some T1 → QF T T1) : ∀ n : Nat, ∀ (T : AT) (l0 : Nat) (l1 : Int32) (l2 : Nat) (l3 : Int32) (l4 : Nat) (l5 : Int32) (l6 : Int32) (l7 : Int64) (l9 : Int32), g_X10_addProduct_b62 k17 n T l0 l1 l2 l3 l4 l5 l6 l7 l9 = some T1 → QF T T1 := by
  intro n
  induction n with
  | zero =>
    intro T l0 l1 l2 l3 l4 l5 l6 l7 l9 h
    have h : (none : Option (AT)) = some T1 := h
    cases h
  | succ n ih =>
    intro T l0 l1 l2 l3 l4 l5 l6 l7 l9 h
    have p0 := QF.rf T
    unfold g_X10_addProduct_b62 at h
    rcases oif_or h with ⟨c2, h⟩ | ⟨c2, h⟩
    · have h := h
      exact QF.tr p0 (sq_X10_addProduct_b113 hk17 _ _ _ _ _ _ _ _ _ h)
    · have h := h
      obtain ⟨g3, h⟩ := oif_some h
      obtain ⟨v4, -, h⟩ := elet_some h
      rcases oif_or h with ⟨c5, h⟩ | ⟨c5, h⟩
      · have h := h
        exact QF.tr p0 (sq_X10_addProduct_b113 hk17 _ _ _ _ _ _ _ _ _ h)
      · have h := h
        obtain ⟨g6, h⟩ := oif_some h
        obtain ⟨n7, en7, h⟩ := obind_some h
        obtain ⟨g8, h⟩ := oif_some h
        obtain ⟨g9, h⟩ := oif_some h
        obtain ⟨n10, en10, h⟩ := obind_some h
        obtain ⟨g11, h⟩ := oif_some h
        obtain ⟨g12, h⟩ := oif_some h
        obtain ⟨v13, -, h⟩ := elet_some h
        obtain ⟨g14, h⟩ := oif_some h
        obtain ⟨n15, en15, h⟩ := obind_some h
        obtain ⟨v16, -, h⟩ := elet_some h
        obtain ⟨g17, h⟩ := oif_some h
        obtain ⟨g18, h⟩ := oif_some h
        obtain ⟨n19, en19, h⟩ := obind_some h
        obtain ⟨g20, h⟩ := oif_some h
        obtain ⟨g21, h⟩ := oif_some h
        obtain ⟨v22, -, h⟩ := elet_some h
        obtain ⟨v23, -, h⟩ := elet_some h
        obtain ⟨v24, -, h⟩ := elet_some h
        obtain ⟨v25, ev25, h⟩ := elet_some h
        exact QF.tr p0 (ih _ _ _ _ _ _ _ _ _ _ h)
set_option maxHeartbeats 4000000 in
set_option maxRecDepth 100000 in
theorem sq_X10_addProduct_b17 {T1 : AT} : ∀ n : Nat, ∀ (T : AT) (l0 : Nat) (l1 : Int32) (l2 : Nat) (l3 : Int32) (l4 : Nat) (l5 : Int32) (l6 : Int32), g_X10_addProduct_b17 n T l0 l1 l2 l3 l4 l5 l6 = some T1 → QF T T1 := by
  intro n
  induction n with
  | zero =>
    intro T l0 l1 l2 l3 l4 l5 l6 h
    have h : (none : Option (AT)) = some T1 := h
    cases h
  | succ n ih =>
    intro T l0 l1 l2 l3 l4 l5 l6 h
    have p0 := QF.rf T
    unfold g_X10_addProduct_b17 at h
    obtain ⟨g2, h⟩ := oif_some h
    obtain ⟨v3, -, h⟩ := elet_some h
    rcases oif_or h with ⟨c4, h⟩ | ⟨c4, h⟩
    · have h := h
      exact QF.tr p0 (sq_X10_addProduct_b133 _ _ _ h)
    · have h := h
      obtain ⟨g5, h⟩ := oif_some h
      obtain ⟨v6, -, h⟩ := elet_some h
      obtain ⟨g7, h⟩ := oif_some h
      obtain ⟨v8, -, h⟩ := elet_some h
      obtain ⟨v9, -, h⟩ := elet_some h
      obtain ⟨v10, -, h⟩ := elet_some h
      rcases oif_or h with ⟨c11, h⟩ | ⟨c11, h⟩
      · have h := h
        exact QF.tr p0 (sq_X10_addProduct_b133 _ _ _ h)
      · have h := h
        obtain ⟨g12, h⟩ := oif_some h
        obtain ⟨v13, -, h⟩ := elet_some h
        obtain ⟨v14, -, h⟩ := elet_some h
        obtain ⟨v15, -, h⟩ := elet_some h
        obtain ⟨v16, -, h⟩ := elet_some h
        exact QF.tr p0 (sq_X10_addProduct_b62 ih _ _ _ _ _ _ _ _ _ _ _ h)
set_option maxHeartbeats 4000000 in
set_option maxRecDepth 100000 in
theorem sq_X10_addProduct_b14 {T1 : AT} : ∀ (T : AT) (l0 : Nat) (l1 : Int32) (l2 : Nat) (l3 : Int32) (l4 : Nat) (l5 : Int32), g_X10_addProduct_b14 T l0 l1 l2 l3 l4 l5 = some T1 → QF T T1 := by
  intro T l0 l1 l2 l3 l4 l5 h
  have p0 := QF.rf T
  unfold g_X10_addProduct_b14 at h
  exact QF.tr p0 (sq_X10_addProduct_b17 _ _ _ _ _ _ _ _ _ h)
set_option maxHeartbeats 4000000 in
set_option maxRecDepth 100000 in
theorem sq_X10_addProduct {T : AT} {o : Nat} {a0 : Int32} {a1 : Nat} {a2 : Int32} {a3 : Nat} {a4 : Int32} {T1 : AT} (h : g_X10_addProduct T o a0 a1 a2 a3 a4 = some T1) : QF T T1 := by
  have p0 := QF.rf T
  unfold g_X10_addProduct at h
  obtain ⟨g2, h⟩ := oif_some h
  obtain ⟨v3, -, h⟩ := elet_some h
  obtain ⟨g4, h⟩ := oif_some h
  obtain ⟨v5, -, h⟩ := elet_some h
  obtain ⟨v6, -, h⟩ := elet_some h
  obtain ⟨g7, h⟩ := oif_some h
  obtain ⟨T8, eT8, h⟩ := obind_some h
  have p1 : QF T T8 := QF.tr p0 (sq_X10_widenTo eT8)
  exact QF.tr p1 (sq_X10_addProduct_b14 _ _ _ _ _ _ _ h)
set_option maxHeartbeats 4000000 in
set_option maxRecDepth 100000 in
theorem sq_X8_blockPowerOf_b68 {T1 : AT} : ∀ (T : AT), g_X8_blockPowerOf_b68 T = some T1 → QF T T1 := by
  intro T h
  have p0 := QF.rf T
  unfold g_X8_blockPowerOf_b68 at h
  rw [← osome1 h]
  exact p0
set_option maxHeartbeats 4000000 in
set_option maxRecDepth 100000 in
theorem sq_X8_blockPowerOf_b54 {T1 : AT} {k23 : AT → Nat → Nat → Int32 → Nat → Int32 → Int32 → Int32 → Option (AT)} (hk23 : ∀ (T : AT) (l0 : Nat) (l1 : Nat) (l3 : Int32) (l4 : Nat) (l5 : Int32) (l6 : Int32) (l7 : Int32), k23 T l0 l1 l3 l4 l5 l6 l7 = some T1 → QF T T1) : ∀ (T : AT) (l0 : Nat) (l1 : Nat) (l3 : Int32) (l4 : Nat) (l5 : Int32) (l6 : Int32) (l7 : Int32), g_X8_blockPowerOf_b54 k23 T l0 l1 l3 l4 l5 l6 l7 = some T1 → QF T T1 := by
  intro T l0 l1 l3 l4 l5 l6 l7 h
  have p0 := QF.rf T
  unfold g_X8_blockPowerOf_b54 at h
  obtain ⟨v2, ev2, h⟩ := elet_some h
  exact QF.tr p0 (hk23 _ _ _ _ _ _ _ _ h)
set_option maxHeartbeats 4000000 in
set_option maxRecDepth 100000 in
theorem sq_X8_blockPowerOf_b37 {T1 : AT} {k23 : AT → Nat → Nat → Int32 → Nat → Int32 → Int32 → Int32 → Option (AT)} (hk23 : ∀ (T : AT) (l0 : Nat) (l1 : Nat) (l3 : Int32) (l4 : Nat) (l5 : Int32) (l6 : Int32) (l7 : Int32), k23 T l0 l1 l3 l4 l5 l6 l7 = some T1 → QF T T1) : ∀ (T : AT) (l0 : Nat) (l1 : Nat) (l3 : Int32) (l4 : Nat) (l5 : Int32) (l6 : Int32) (l7 : Int32), g_X8_blockPowerOf_b37 k23 T l0 l1 l3 l4 l5 l6 l7 = some T1 → QF T T1 := by
  intro T l0 l1 l3 l4 l5 l6 l7 h
  have p0 := QF.rf T
  unfold g_X8_blockPowerOf_b37 at h
  obtain ⟨g2, h⟩ := oif_some h
  obtain ⟨n3, en3, h⟩ := obind_some h
  obtain ⟨g4, h⟩ := oif_some h
  obtain ⟨n5, en5, h⟩ := obind_some h
  obtain ⟨g6, h⟩ := oif_some h
  obtain ⟨T7, eT7, h⟩ := obind_some h
  have p1 : QF T T7 := QF.tr p0 (sq_X10_addProduct eT7)
  exact QF.tr p1 (sq_X8_blockPowerOf_b54 hk23 _ _ _ _ _ _ _ _ h)
set_option maxHeartbeats 4000000 in
set_option maxRecDepth 100000 in
theorem sq_X8_blockPowerOf_b23 {T1 : AT} : ∀ n : Nat, ∀ (T : AT) (l0 : Nat) (l1 : Nat) (l3 : Int32) (l4 : Nat) (l5 : Int32) (l6 : Int32) (l7 : Int32), g_X8_blockPowerOf_b23 n T l0 l1 l3 l4 l5 l6 l7 = some T1 → QF T T1 := by
  intro n
  induction n with
  | zero =>
    intro T l0 l1 l3 l4 l5 l6 l7 h
    have h : (none : Option (AT)) = some T1 := h
    cases h
  | succ n ih =>
    intro T l0 l1 l3 l4 l5 l6 l7 h
    have p0 := QF.rf T
    unfold g_X8_blockPowerOf_b23 at h
    rcases oif_or h with ⟨c2, h⟩ | ⟨c2, h⟩
    · have h := h
      obtain ⟨g3, h⟩ := oif_some h
      obtain ⟨T4, eT4, h⟩ := obind_some h
      have p1 : QF T T4 := QF.tr p0 (sq_X10_divide eT4)
      exact QF.tr p1 (sq_X8_blockPowerOf_b68 _ h)
    · have h := h
      obtain ⟨g6, h⟩ := oif_some h
      obtain ⟨T7, eT7, h⟩ := obind_some h
      have p1 : QF T T7 := QF.tr p0 (sq_X8_focus eT7)
      exact QF.tr p1 (sq_X8_blockPowerOf_b37 ih _ _ _ _ _ _ _ _ h)
set_option maxHeartbeats 4000000 in
set_option maxRecDepth 100000 in
theorem sq_X8_blockPowerOf {T : AT} {o : Nat} {a0 : Nat} {a1 : Int32} {a2 : Int32} {a3 : Nat} {a4 : Int32} {T1 : AT} (h : g_X8_blockPowerOf T o a0 a1 a2 a3 a4 = some T1) : QF T T1 := by
  have p0 := QF.rf T
  unfold g_X8_blockPowerOf at h
  obtain ⟨v2, -, h⟩ := elet_some h
  obtain ⟨g3, h⟩ := oif_some h
  obtain ⟨r5, T4, eT4, h⟩ := obind2_some h
  have p1 : QF T T4 := QF.tr p0 ((sq_X8_windowOf eT4))
  obtain ⟨v6, -, h⟩ := elet_some h
  obtain ⟨g7, h⟩ := oif_some h
  obtain ⟨T8, eT8, h⟩ := obind_some h
  have p2 : QF T T8 := QF.tr p1 ((sq_X10_clear eT8))
  exact QF.tr p2 (sq_X8_blockPowerOf_b23 _ _ _ _ _ _ _ _ _ h)
set_option maxHeartbeats 4000000 in
set_option maxRecDepth 100000 in
theorem sq_X10_compare_b47 {r1 : Int32} {T1 : AT} : ∀ (T : AT) (l3 : Int32), g_X10_compare_b47 T l3 = some (r1, T1) → QF T T1 := by
  intro T l3 h
  have p0 := QF.rf T
  unfold g_X10_compare_b47 at h
  rw [← (osome2 h).2]
  exact p0
set_option maxHeartbeats 4000000 in
set_option maxRecDepth 100000 in
theorem sq_X10_compare_b10 {r1 : Int32} {T1 : AT} : ∀ n : Nat, ∀ (T : AT) (l0 : Nat) (l1 : Int32) (l2 : Int32) (l3 : Int32) (l4 : Int32), g_X10_compare_b10 n T l0 l1 l2 l3 l4 = some (r1, T1) → QF T T1 := by
  intro n
  induction n with
  | zero =>
    intro T l0 l1 l2 l3 l4 h
    have h : (none : Option (Int32 × AT)) = some (r1, T1) := h
    cases h
  | succ n ih =>
    intro T l0 l1 l2 l3 l4 h
    have p0 := QF.rf T
    unfold g_X10_compare_b10 at h
    rcases oif_or h with ⟨c2, h⟩ | ⟨c2, h⟩
    · have h := h
      exact QF.tr p0 (sq_X10_compare_b47 _ _ h)
    · have h := h
      rcases oif_or h with ⟨c3, h⟩ | ⟨c3, h⟩
      · have h := h
        obtain ⟨g4, h⟩ := oif_some h
        obtain ⟨n5, en5, h⟩ := obind_some h
        obtain ⟨g6, h⟩ := oif_some h
        obtain ⟨g7, h⟩ := oif_some h
        obtain ⟨n8, en8, h⟩ := obind_some h
        obtain ⟨g9, h⟩ := oif_some h
        obtain ⟨g10, h⟩ := oif_some h
        obtain ⟨v11, -, h⟩ := elet_some h
        obtain ⟨g12, h⟩ := oif_some h
        obtain ⟨n13, en13, h⟩ := obind_some h
        obtain ⟨g14, h⟩ := oif_some h
        obtain ⟨g15, h⟩ := oif_some h
        obtain ⟨n16, en16, h⟩ := obind_some h
        obtain ⟨g17, h⟩ := oif_some h
        obtain ⟨g18, h⟩ := oif_some h
        obtain ⟨v19, -, h⟩ := elet_some h
        obtain ⟨r20, -, h⟩ := obind_some h
        obtain ⟨v21, ev21, h⟩ := elet_some h
        exact QF.tr p0 (ih _ _ _ _ _ _ h)
      · have h := h
        exact QF.tr p0 (sq_X10_compare_b47 _ _ h)
set_option maxHeartbeats 4000000 in
set_option maxRecDepth 100000 in
theorem sq_X10_compare {T : AT} {o : Nat} {a0 : Int32} {a1 : Int32} {r1 : Int32} {T1 : AT} (h : g_X10_compare T o a0 a1 = some (r1, T1)) : QF T T1 := by
  have p0 := QF.rf T
  unfold g_X10_compare at h
  obtain ⟨g2, h⟩ := oif_some h
  obtain ⟨v3, -, h⟩ := elet_some h
  obtain ⟨v4, -, h⟩ := elet_some h
  exact QF.tr p0 (sq_X10_compare_b10 _ _ _ _ _ _ _ h)
set_option maxHeartbeats 4000000 in
set_option maxRecDepth 100000 in
theorem sq_X1_bestIn_b71 {r1 : Int32} {T1 : AT} {k19 : AT → Nat → Nat → Nat → Int32 → Int32 → Int32 → Option (Int32 × AT)} {k32 : AT → Nat → Nat → Nat → Int32 → Int32 → Int32 → Int32 → Option (Int32 × AT)} (hk19 : ∀ (T : AT) (l0 : Nat) (l1 : Nat) (l2 : Nat) (l3 : Int32) (l4 : Int32) (l5 : Int32), k19 T l0 l1 l2 l3 l4 l5 = some (r1, T1) → QF T T1) (hk32 : ∀ (T : AT) (l0 : Nat) (l1 : Nat) (l2 : Nat) (l3 : Int32) (l4 : Int32) (l5 : Int32) (l6 : Int32), k32 T l0 l1 l2 l3 l4 l5 l6 = some (r1, T1) → QF T T1) : ∀ (T : AT) (l0 : Nat) (l1 : Nat) (l2 : Nat) (l3 : Int32) (l4 : Int32) (l5 : Int32) (l6 : Int32), g_X1_bestIn_b71 k19 k32 T l0 l1 l2 l3 l4 l5 l6 = some (r1, T1) → QF T T1 := by
  intro T l0 l1 l2 l3 l4 l5 l6 h
  have p0 := QF.rf T
  unfold g_X1_bestIn_b71 at h
  obtain ⟨v2, ev2, h⟩ := elet_some h
  exact QF.tr p0 (hk32 _ _ _ _ _ _ _ _ h)
set_option maxHeartbeats 4000000 in
set_option maxRecDepth 100000 in
theorem sq_X1_bestIn_b32 {r1 : Int32} {T1 : AT} {k19 : AT → Nat → Nat → Nat → Int32 → Int32 → Int32 → Option (Int32 × AT)} (hk19 : ∀ (T : AT) (l0 : Nat) (l1 : Nat) (l2 : Nat) (l3 : Int32) (l4 : Int32) (l5 : Int32), k19 T l0 l1 l2 l3 l4 l5 = some (r1, T1) → QF T T1) : ∀ n : Nat, ∀ (T : AT) (l0 : Nat) (l1 : Nat) (l2 : Nat) (l3 : Int32) (l4 : Int32) (l5 : Int32) (l6 : Int32), g_X1_bestIn_b32 k19 n T l0 l1 l2 l3 l4 l5 l6 = some (r1, T1) → QF T T1 := by
  intro n
  induction n with
  | zero =>
    intro T l0 l1 l2 l3 l4 l5 l6 h
    have h : (none : Option (Int32 × AT)) = some (r1, T1) := h
    cases h
  | succ n ih =>
    intro T l0 l1 l2 l3 l4 l5 l6 h
    have p0 := QF.rf T
    unfold g_X1_bestIn_b32 at h
    obtain ⟨g2, h⟩ := oif_some h
    obtain ⟨g3, h⟩ := oif_some h
    obtain ⟨v4, -, h⟩ := elet_some h
    rcases oif_or h with ⟨c5, h⟩ | ⟨c5, h⟩
    · have h := h
      obtain ⟨v6, ev6, h⟩ := elet_some h
      exact QF.tr p0 (hk19 _ _ _ _ _ _ _ h)
    · have h := h
      obtain ⟨g7, h⟩ := oif_some h
      obtain ⟨v8, -, h⟩ := elet_some h
      obtain ⟨v9, -, h⟩ := elet_some h
      obtain ⟨v10, -, h⟩ := elet_some h
      obtain ⟨v11, -, h⟩ := elet_some h
      obtain ⟨v12, -, h⟩ := elet_some h
      obtain ⟨g13, h⟩ := oif_some h
      obtain ⟨r15, T14, eT14, h⟩ := obind2_some h
      have p1 : QF T T14 := QF.tr p0 (sq_X10_compare eT14)
      rcases oif_or h with ⟨c16, h⟩ | ⟨c16, h⟩
      · have h := h
        exact QF.tr p1 (sq_X1_bestIn_b71 hk19 ih _ _ _ _ _ _ _ _ h)
      · have h := h
        exact QF.tr p1 (sq_X1_bestIn_b71 hk19 ih _ _ _ _ _ _ _ _ h)
set_option maxHeartbeats 4000000 in
set_option maxRecDepth 100000 in
theorem sq_X1_bestIn_b19 {r1 : Int32} {T1 : AT} : ∀ n : Nat, ∀ (T : AT) (l0 : Nat) (l1 : Nat) (l2 : Nat) (l3 : Int32) (l4 : Int32) (l5 : Int32), g_X1_bestIn_b19 n T l0 l1 l2 l3 l4 l5 = some (r1, T1) → QF T T1 := by
  intro n
  induction n with
  | zero =>
    intro T l0 l1 l2 l3 l4 l5 h
    have h : (none : Option (Int32 × AT)) = some (r1, T1) := h
    cases h
  | succ n ih =>
    intro T l0 l1 l2 l3 l4 l5 h
    have p0 := QF.rf T
    unfold g_X1_bestIn_b19 at h
    obtain ⟨g2, h⟩ := oif_some h
    obtain ⟨g3, h⟩ := oif_some h
    obtain ⟨v4, -, h⟩ := elet_some h
    rcases oif_or h with ⟨c5, h⟩ | ⟨c5, h⟩
    · have h := h
      rw [← (osome2 h).2]
      exact p0
    · have h := h
      obtain ⟨g6, h⟩ := oif_some h
      obtain ⟨g7, h⟩ := oif_some h
      obtain ⟨v8, -, h⟩ := elet_some h
      exact QF.tr p0 (sq_X1_bestIn_b32 ih _ _ _ _ _ _ _ _ _ h)
set_option maxHeartbeats 4000000 in
set_option maxRecDepth 100000 in
theorem sq_X1_bestIn {T : AT} {o : Nat} {a0 : Nat} {a1 : Nat} {a2 : Int32} {r1 : Int32} {T1 : AT} (h : g_X1_bestIn T o a0 a1 a2 = some (r1, T1)) : QF T T1 := by
  have p0 := QF.rf T
  unfold g_X1_bestIn at h
  obtain ⟨g2, h⟩ := oif_some h
  obtain ⟨g3, h⟩ := oif_some h
  obtain ⟨v4, -, h⟩ := elet_some h
  obtain ⟨g5, h⟩ := oif_some h
  obtain ⟨v6, -, h⟩ := elet_some h
  obtain ⟨v7, -, h⟩ := elet_some h
  obtain ⟨g8, h⟩ := oif_some h
  obtain ⟨g9, h⟩ := oif_some h
  obtain ⟨v10, -, h⟩ := elet_some h
  obtain ⟨v11, -, h⟩ := elet_some h
  obtain ⟨g12, h⟩ := oif_some h
  obtain ⟨g13, h⟩ := oif_some h
  obtain ⟨v14, -, h⟩ := elet_some h
  exact QF.tr p0 (sq_X1_bestIn_b19 _ _ _ _ _ _ _ _ h)
set_option maxHeartbeats 4000000 in
set_option maxRecDepth 100000 in
theorem sq_X1_columnOf {T : AT} {o : Nat} {a0 : Int32} {r1 : Int32} {T1 : AT} (h : g_X1_columnOf T o a0 = some (r1, T1)) : QF T T1 := by
  have p0 := QF.rf T
  unfold g_X1_columnOf at h
  obtain ⟨g2, h⟩ := oif_some h
  obtain ⟨v3, -, h⟩ := elet_some h
  obtain ⟨r4, -, h⟩ := obind_some h
  rw [← (osome2 h).2]
  exact p0
set_option maxHeartbeats 4000000 in
set_option maxRecDepth 100000 in
theorem sq_X1_rowOf {T : AT} {o : Nat} {a0 : Int32} {r1 : Int32} {T1 : AT} (h : g_X1_rowOf T o a0 = some (r1, T1)) : QF T T1 := by
  have p0 := QF.rf T
  unfold g_X1_rowOf at h
  obtain ⟨v2, -, h⟩ := elet_some h
  obtain ⟨g3, h⟩ := oif_some h
  obtain ⟨v4, -, h⟩ := elet_some h
  obtain ⟨v5, -, h⟩ := elet_some h
  obtain ⟨r6, -, h⟩ := obind_some h
  obtain ⟨v7, -, h⟩ := elet_some h
  rw [← (osome2 h).2]
  exact p0
set_option maxHeartbeats 4000000 in
set_option maxRecDepth 100000 in
theorem sq_X1_areaAround {T : AT} {o : Nat} {a0 : Int32} {r1 : Nat} {T1 : AT} (h : g_X1_areaAround T o a0 = some (r1, T1)) : QF T T1 := by
  have p0 := QF.rf T
  unfold g_X1_areaAround at h
  obtain ⟨g2, h⟩ := oif_some h
  obtain ⟨r4, T3, eT3, h⟩ := obind2_some h
  have p1 : QF T T3 := QF.tr p0 (sq_X1_columnOf eT3)
  obtain ⟨g5, h⟩ := oif_some h
  obtain ⟨r7, T6, eT6, h⟩ := obind2_some h
  have p2 : QF T T6 := QF.tr p1 (sq_X1_rowOf eT6)
  obtain ⟨g8, h⟩ := oif_some h
  obtain ⟨n9, en9, h⟩ := obind_some h
  obtain ⟨v10, -, h⟩ := elet_some h
  obtain ⟨v11, -, h⟩ := elet_some h
  obtain ⟨g12, h⟩ := oif_some h
  obtain ⟨g13, h⟩ := oif_some h
  obtain ⟨T14, eT14, h⟩ := elet_some h
  have p3 : QF T T14 := QF.tr p2 (by rw [eT14]; first | exact qf_uO (oO_k g13).2 (by decide) | exact qf_uA (aA_k g12).2.1 (by decide))
  obtain ⟨g15, h⟩ := oif_some h
  obtain ⟨n16, en16, h⟩ := obind_some h
  obtain ⟨v17, -, h⟩ := elet_some h
  obtain ⟨v18, -, h⟩ := elet_some h
  obtain ⟨g19, h⟩ := oif_some h
  obtain ⟨g20, h⟩ := oif_some h
  obtain ⟨T21, eT21, h⟩ := elet_some h
  have p4 : QF T T21 := QF.tr p3 (by rw [eT21]; first | exact qf_uO (oO_k g20).2 (by decide) | exact qf_uA (aA_k g19).2.1 (by decide))
  obtain ⟨g22, h⟩ := oif_some h
  obtain ⟨n23, en23, h⟩ := obind_some h
  obtain ⟨v24, -, h⟩ := elet_some h
  obtain ⟨g25, h⟩ := oif_some h
  obtain ⟨v26, -, h⟩ := elet_some h
  obtain ⟨v27, -, h⟩ := elet_some h
  obtain ⟨v28, -, h⟩ := elet_some h
  obtain ⟨g29, h⟩ := oif_some h
  obtain ⟨g30, h⟩ := oif_some h
  obtain ⟨T31, eT31, h⟩ := elet_some h
  have p5 : QF T T31 := QF.tr p4 (by rw [eT31]; first | exact qf_uO (oO_k g30).2 (by decide) | exact qf_uA (aA_k g29).2.1 (by decide))
  obtain ⟨g32, h⟩ := oif_some h
  obtain ⟨n33, en33, h⟩ := obind_some h
  obtain ⟨v34, -, h⟩ := elet_some h
  obtain ⟨g35, h⟩ := oif_some h
  obtain ⟨v36, -, h⟩ := elet_some h
  obtain ⟨v37, -, h⟩ := elet_some h
  obtain ⟨v38, -, h⟩ := elet_some h
  obtain ⟨g39, h⟩ := oif_some h
  obtain ⟨g40, h⟩ := oif_some h
  obtain ⟨T41, eT41, h⟩ := elet_some h
  have p6 : QF T T41 := QF.tr p5 (by rw [eT41]; first | exact qf_uO (oO_k g40).2 (by decide) | exact qf_uA (aA_k g39).2.1 (by decide))
  obtain ⟨g42, h⟩ := oif_some h
  obtain ⟨n43, en43, h⟩ := obind_some h
  rw [← (osome2 h).2]
  exact p6
set_option maxHeartbeats 4000000 in
set_option maxRecDepth 100000 in
theorem sq_X10_add_b56 {T1 : AT} : ∀ (T : AT), g_X10_add_b56 T = some T1 → QF T T1 := by
  intro T h
  have p0 := QF.rf T
  unfold g_X10_add_b56 at h
  rw [← osome1 h]
  exact p0
set_option maxHeartbeats 4000000 in
set_option maxRecDepth 100000 in
theorem sq_X10_add_b11 {T1 : AT} : ∀ n : Nat, ∀ (T : AT) (l0 : Nat) (l1 : Int32) (l2 : Nat) (l3 : Int32) (l4 : Int32) (l5 : Int32), g_X10_add_b11 n T l0 l1 l2 l3 l4 l5 = some T1 → QF T T1 := by
  intro n
  induction n with
  | zero =>
    intro T l0 l1 l2 l3 l4 l5 h
    have h : (none : Option (AT)) = some T1 := h
    cases h
  | succ n ih =>
    intro T l0 l1 l2 l3 l4 l5 h
    have p0 := QF.rf T
    unfold g_X10_add_b11 at h
    obtain ⟨g2, h⟩ := oif_some h
    obtain ⟨v3, -, h⟩ := elet_some h
    rcases oif_or h with ⟨c4, h⟩ | ⟨c4, h⟩
    · have h := h
      obtain ⟨g5, h⟩ := oif_some h
      obtain ⟨T6, eT6, h⟩ := obind_some h
      have p1 : QF T T6 := QF.tr p0 (sq_X10_settle eT6)
      exact QF.tr p1 (sq_X10_add_b56 _ h)
    · have h := h
      obtain ⟨g8, h⟩ := oif_some h
      obtain ⟨n9, en9, h⟩ := obind_some h
      obtain ⟨g10, h⟩ := oif_some h
      obtain ⟨g11, h⟩ := oif_some h
      obtain ⟨n12, en12, h⟩ := obind_some h
      obtain ⟨g13, h⟩ := oif_some h
      obtain ⟨g14, h⟩ := oif_some h
      obtain ⟨v15, -, h⟩ := elet_some h
      obtain ⟨v16, -, h⟩ := elet_some h
      obtain ⟨g17, h⟩ := oif_some h
      obtain ⟨n18, en18, h⟩ := obind_some h
      obtain ⟨g19, h⟩ := oif_some h
      obtain ⟨g20, h⟩ := oif_some h
      obtain ⟨n21, en21, h⟩ := obind_some h
      obtain ⟨g22, h⟩ := oif_some h
      obtain ⟨g23, h⟩ := oif_some h
      obtain ⟨v24, -, h⟩ := elet_some h
      obtain ⟨v25, -, h⟩ := elet_some h
      obtain ⟨v26, -, h⟩ := elet_some h
      obtain ⟨g27, h⟩ := oif_some h
      obtain ⟨g28, h⟩ := oif_some h
      obtain ⟨T29, eT29, h⟩ := elet_some h
      have p1 : QF T T29 := QF.tr p0 (by rw [eT29]; exact qf_uJ)
      obtain ⟨v30, ev30, h⟩ := elet_some h
      exact QF.tr p1 (ih _ _ _ _ _ _ _ h)
set_option maxHeartbeats 4000000 in
set_option maxRecDepth 100000 in
theorem sq_X10_add_b8 {T1 : AT} : ∀ (T : AT) (l0 : Nat) (l1 : Int32) (l2 : Nat) (l3 : Int32) (l4 : Int32), g_X10_add_b8 T l0 l1 l2 l3 l4 = some T1 → QF T T1 := by
  intro T l0 l1 l2 l3 l4 h
  have p0 := QF.rf T
  unfold g_X10_add_b8 at h
  exact QF.tr p0 (sq_X10_add_b11 _ _ _ _ _ _ _ _ h)
set_option maxHeartbeats 4000000 in
set_option maxRecDepth 100000 in
theorem sq_X10_add {T : AT} {o : Nat} {a0 : Int32} {a1 : Nat} {a2 : Int32} {a3 : Int32} {T1 : AT} (h : g_X10_add T o a0 a1 a2 a3 = some T1) : QF T T1 := by
  have p0 := QF.rf T
  unfold g_X10_add at h
  obtain ⟨g2, h⟩ := oif_some h
  obtain ⟨v3, -, h⟩ := elet_some h
  obtain ⟨g4, h⟩ := oif_some h
  obtain ⟨T5, eT5, h⟩ := obind_some h
  have p1 : QF T T5 := QF.tr p0 (sq_X10_widenTo eT5)
  exact QF.tr p1 (sq_X10_add_b8 _ _ _ _ _ _ h)
set_option maxHeartbeats 4000000 in
set_option maxRecDepth 100000 in
theorem sq_X1_centreX {T : AT} {o : Nat} {a0 : Int32} {r1 : Int32} {T1 : AT} (h : g_X1_centreX T o a0 = some (r1, T1)) : QF T T1 := by
  have p0 := QF.rf T
  unfold g_X1_centreX at h
  obtain ⟨g2, h⟩ := oif_some h
  obtain ⟨v3, -, h⟩ := elet_some h
  obtain ⟨g4, h⟩ := oif_some h
  obtain ⟨v5, -, h⟩ := elet_some h
  obtain ⟨g6, h⟩ := oif_some h
  obtain ⟨r8, T7, eT7, h⟩ := obind2_some h
  have p1 : QF T T7 := QF.tr p0 (sq_X1_columnOf eT7)
  obtain ⟨v9, -, h⟩ := elet_some h
  obtain ⟨v10, -, h⟩ := elet_some h
  rw [← (osome2 h).2]
  exact p1
set_option maxHeartbeats 4000000 in
set_option maxRecDepth 100000 in
theorem sq_X1_centreY {T : AT} {o : Nat} {a0 : Int32} {r1 : Int32} {T1 : AT} (h : g_X1_centreY T o a0 = some (r1, T1)) : QF T T1 := by
  have p0 := QF.rf T
  unfold g_X1_centreY at h
  obtain ⟨g2, h⟩ := oif_some h
  obtain ⟨v3, -, h⟩ := elet_some h
  obtain ⟨g4, h⟩ := oif_some h
  obtain ⟨v5, -, h⟩ := elet_some h
  obtain ⟨g6, h⟩ := oif_some h
  obtain ⟨r8, T7, eT7, h⟩ := obind2_some h
  have p1 : QF T T7 := QF.tr p0 (sq_X1_rowOf eT7)
  obtain ⟨v9, -, h⟩ := elet_some h
  obtain ⟨v10, -, h⟩ := elet_some h
  rw [← (osome2 h).2]
  exact p1
set_option maxHeartbeats 4000000 in
set_option maxRecDepth 100000 in
theorem sq_X4_standsOut_b65 {r1 : Int32} {T1 : AT} {k11 : AT → Nat → Int32 → Nat → Nat → Int32 → Option (Int32 × AT)} {k24 : AT → Nat → Int32 → Nat → Nat → Int32 → Int32 → Option (Int32 × AT)} (hk11 : ∀ (T : AT) (l0 : Nat) (l1 : Int32) (l2 : Nat) (l3 : Nat) (l4 : Int32), k11 T l0 l1 l2 l3 l4 = some (r1, T1) → QF T T1) (hk24 : ∀ (T : AT) (l0 : Nat) (l1 : Int32) (l2 : Nat) (l3 : Nat) (l4 : Int32) (l5 : Int32), k24 T l0 l1 l2 l3 l4 l5 = some (r1, T1) → QF T T1) : ∀ (T : AT) (l0 : Nat) (l1 : Int32) (l2 : Nat) (l3 : Nat) (l4 : Int32) (l5 : Int32), g_X4_standsOut_b65 k11 k24 T l0 l1 l2 l3 l4 l5 = some (r1, T1) → QF T T1 := by
  intro T l0 l1 l2 l3 l4 l5 h
  have p0 := QF.rf T
  unfold g_X4_standsOut_b65 at h
  obtain ⟨v2, ev2, h⟩ := elet_some h
  exact QF.tr p0 (hk24 _ _ _ _ _ _ _ h)
set_option maxHeartbeats 4000000 in
set_option maxRecDepth 100000 in
theorem sq_X4_standsOut_b24 {r1 : Int32} {T1 : AT} {k11 : AT → Nat → Int32 → Nat → Nat → Int32 → Option (Int32 × AT)} (hk11 : ∀ (T : AT) (l0 : Nat) (l1 : Int32) (l2 : Nat) (l3 : Nat) (l4 : Int32), k11 T l0 l1 l2 l3 l4 = some (r1, T1) → QF T T1) : ∀ n : Nat, ∀ (T : AT) (l0 : Nat) (l1 : Int32) (l2 : Nat) (l3 : Nat) (l4 : Int32) (l5 : Int32), g_X4_standsOut_b24 k11 n T l0 l1 l2 l3 l4 l5 = some (r1, T1) → QF T T1 := by
  intro n
  induction n with
  | zero =>
    intro T l0 l1 l2 l3 l4 l5 h
    have h : (none : Option (Int32 × AT)) = some (r1, T1) := h
    cases h
  | succ n ih =>
    intro T l0 l1 l2 l3 l4 l5 h
    have p0 := QF.rf T
    unfold g_X4_standsOut_b24 at h
    obtain ⟨g2, h⟩ := oif_some h
    obtain ⟨g3, h⟩ := oif_some h
    obtain ⟨v4, -, h⟩ := elet_some h
    rcases oif_or h with ⟨c5, h⟩ | ⟨c5, h⟩
    · have h := h
      obtain ⟨v6, ev6, h⟩ := elet_some h
      exact QF.tr p0 (hk11 _ _ _ _ _ _ h)
    · have h := h
      obtain ⟨g7, h⟩ := oif_some h
      obtain ⟨v8, -, h⟩ := elet_some h
      obtain ⟨v9, -, h⟩ := elet_some h
      obtain ⟨v10, -, h⟩ := elet_some h
      rcases oif_or h with ⟨c11, h⟩ | ⟨c11, h⟩
      · have h := h
        exact QF.tr p0 (sq_X4_standsOut_b65 hk11 ih _ _ _ _ _ _ _ h)
      · have h := h
        obtain ⟨g12, h⟩ := oif_some h
        obtain ⟨n13, en13, h⟩ := obind_some h
        obtain ⟨g14, h⟩ := oif_some h
        obtain ⟨r16, T15, eT15, h⟩ := obind2_some h
        have p1 : QF T T15 := QF.tr p0 (sq_X10_compare eT15)
        rcases oif_or h with ⟨c17, h⟩ | ⟨c17, h⟩
        · have h := h
          exact QF.tr p1 (sq_X4_standsOut_b65 hk11 ih _ _ _ _ _ _ _ h)
        · have h := h
          rw [← (osome2 h).2]
          exact p1
set_option maxHeartbeats 4000000 in
set_option maxRecDepth 100000 in
theorem sq_X4_standsOut_b11 {r1 : Int32} {T1 : AT} : ∀ n : Nat, ∀ (T : AT) (l0 : Nat) (l1 : Int32) (l2 : Nat) (l3 : Nat) (l4 : Int32), g_X4_standsOut_b11 n T l0 l1 l2 l3 l4 = some (r1, T1) → QF T T1 := by
  intro n
  induction n with
  | zero =>
    intro T l0 l1 l2 l3 l4 h
    have h : (none : Option (Int32 × AT)) = some (r1, T1) := h
    cases h
  | succ n ih =>
    intro T l0 l1 l2 l3 l4 h
    have p0 := QF.rf T
    unfold g_X4_standsOut_b11 at h
    obtain ⟨g2, h⟩ := oif_some h
    obtain ⟨g3, h⟩ := oif_some h
    obtain ⟨v4, -, h⟩ := elet_some h
    rcases oif_or h with ⟨c5, h⟩ | ⟨c5, h⟩
    · have h := h
      rw [← (osome2 h).2]
      exact p0
    · have h := h
      obtain ⟨g6, h⟩ := oif_some h
      obtain ⟨g7, h⟩ := oif_some h
      obtain ⟨v8, -, h⟩ := elet_some h
      exact QF.tr p0 (sq_X4_standsOut_b24 ih _ _ _ _ _ _ _ _ h)
set_option maxHeartbeats 4000000 in
set_option maxRecDepth 100000 in
theorem sq_X4_standsOut {T : AT} {o : Nat} {a0 : Int32} {a1 : Nat} {r1 : Int32} {T1 : AT} (h : g_X4_standsOut T o a0 a1 = some (r1, T1)) : QF T T1 := by
  have p0 := QF.rf T
  unfold g_X4_standsOut at h
  obtain ⟨g2, h⟩ := oif_some h
  obtain ⟨r4, T3, eT3, h⟩ := obind2_some h
  have p1 : QF T T3 := QF.tr p0 (sq_X1_areaAround eT3)
  obtain ⟨g5, h⟩ := oif_some h
  obtain ⟨g6, h⟩ := oif_some h
  obtain ⟨v7, -, h⟩ := elet_some h
  exact QF.tr p1 (sq_X4_standsOut_b11 _ _ _ _ _ _ _ h)

set_option maxHeartbeats 4000000 in
set_option maxRecDepth 100000 in
theorem sq_X10_set_b13 {T1 : AT} : ∀ (T : AT), g_X10_set_b13 T = some T1 → QF T T1 := by
  intro T h
  have p0 := QF.rf T
  unfold g_X10_set_b13 at h
  rw [← osome1 h]
  exact p0
set_option maxHeartbeats 4000000 in
set_option maxRecDepth 100000 in
theorem sq_X10_set {T : AT} {o : Nat} {a0 : Int32} {a1 : Nat} {a2 : Int32} {T1 : AT} (h : g_X10_set T o a0 a1 a2 = some T1) : QF T T1 := by
  have p0 := QF.rf T
  unfold g_X10_set at h
  obtain ⟨g2, h⟩ := oif_some h
  obtain ⟨T3, eT3, h⟩ := obind_some h
  have p1 : QF T T3 := QF.tr p0 ((sq_X10_clear eT3))
  obtain ⟨g5, h⟩ := oif_some h
  obtain ⟨T6, eT6, h⟩ := obind_some h
  have p2 : QF T T6 := QF.tr p1 (sq_X10_add eT6)
  exact QF.tr p2 (sq_X10_set_b13 _ h)
set_option maxHeartbeats 4000000 in
set_option maxRecDepth 100000 in
theorem sq_X4_measure_b148 {T1 : AT} {k89 : AT → Nat → Nat → Int32 → Option (AT)} (hk89 : ∀ (T : AT) (l0 : Nat) (l1 : Nat) (l3 : Int32), k89 T l0 l1 l3 = some T1 → QF T T1) : ∀ (T : AT) (l0 : Nat) (l1 : Nat) (l3 : Int32), g_X4_measure_b148 k89 T l0 l1 l3 = some T1 → QF T T1 := by
  intro T l0 l1 l3 h
  have p0 := QF.rf T
  unfold g_X4_measure_b148 at h
  obtain ⟨v2, ev2, h⟩ := elet_some h
  exact QF.tr p0 (hk89 _ _ _ _ h)
set_option maxHeartbeats 4000000 in
set_option maxRecDepth 100000 in
theorem sq_X4_measure_b138 {T1 : AT} {k89 : AT → Nat → Nat → Int32 → Option (AT)} (hk89 : ∀ (T : AT) (l0 : Nat) (l1 : Nat) (l3 : Int32), k89 T l0 l1 l3 = some T1 → QF T T1) : ∀ (T : AT) (l0 : Nat) (l1 : Nat) (l3 : Int32), g_X4_measure_b138 k89 T l0 l1 l3 = some T1 → QF T T1 := by
  intro T l0 l1 l3 h
  have p0 := QF.rf T
  unfold g_X4_measure_b138 at h
  obtain ⟨g2, h⟩ := oif_some h
  obtain ⟨v3, -, h⟩ := elet_some h
  obtain ⟨v4, -, h⟩ := elet_some h
  obtain ⟨g5, h⟩ := oif_some h
  obtain ⟨T6, eT6, h⟩ := elet_some h
  have p1 : QF T T6 := QF.tr p0 (by rw [eT6]; first | exact qf_uO (oO_k g5).2 (by decide) | exact qf_uA (aA_k g2).2.1 (by decide))
  exact QF.tr p1 (sq_X4_measure_b148 hk89 _ _ _ _ h)
set_option maxHeartbeats 4000000 in
set_option maxRecDepth 100000 in
theorem sq_X4_measure_b89 {T1 : AT} : ∀ n : Nat, ∀ (T : AT) (l0 : Nat) (l1 : Nat) (l3 : Int32), g_X4_measure_b89 n T l0 l1 l3 = some T1 → QF T T1 := by
  intro n
  induction n with
  | zero =>
    intro T l0 l1 l3 h
    have h : (none : Option (AT)) = some T1 := h
    cases h
  | succ n ih =>
    intro T l0 l1 l3 h
    have p0 := QF.rf T
    unfold g_X4_measure_b89 at h
    obtain ⟨g2, h⟩ := oif_some h
    obtain ⟨n3, en3, h⟩ := obind_some h
    obtain ⟨g4, h⟩ := oif_some h
    obtain ⟨r6, T5, eT5, h⟩ := obind2_some h
    have p1 : QF T T5 := QF.tr p0 ((sq_X1_cells eT5))
    rcases oif_or h with ⟨c7, h⟩ | ⟨c7, h⟩
    · have h := h
      rw [← osome1 h]
      exact p1
    · have h := h
      obtain ⟨g8, h⟩ := oif_some h
      obtain ⟨n9, en9, h⟩ := obind_some h
      obtain ⟨g10, h⟩ := oif_some h
      obtain ⟨r12, T11, eT11, h⟩ := obind2_some h
      have p2 : QF T T11 := QF.tr p1 ((sq_X4_standsOut eT11))
      rcases oif_or h with ⟨c13, h⟩ | ⟨c13, h⟩
      · have h := h
        exact QF.tr p2 (sq_X4_measure_b148 ih _ _ _ _ h)
      · have h := h
        obtain ⟨g14, h⟩ := oif_some h
        obtain ⟨n15, en15, h⟩ := obind_some h
        obtain ⟨g16, h⟩ := oif_some h
        obtain ⟨v17, -, h⟩ := elet_some h
        obtain ⟨g18, h⟩ := oif_some h
        obtain ⟨g19, h⟩ := oif_some h
        obtain ⟨T20, eT20, h⟩ := elet_some h
        have p3 : QF T T20 := QF.tr p2 (by rw [eT20]; first | exact qf_uO (oO_k g19).2 (by decide) | exact qf_uA (aA_k g18).2.1 (by decide))
        obtain ⟨g21, h⟩ := oif_some h
        obtain ⟨n22, en22, h⟩ := obind_some h
        obtain ⟨g23, h⟩ := oif_some h
        obtain ⟨v24, -, h⟩ := elet_some h
        obtain ⟨g25, h⟩ := oif_some h
        obtain ⟨n26, en26, h⟩ := obind_some h
        obtain ⟨g27, h⟩ := oif_some h
        obtain ⟨T28, eT28, h⟩ := obind_some h
        have p4 : QF T T28 := QF.tr p3 (sq_X10_set eT28)
        exact QF.tr p4 (sq_X4_measure_b138 ih _ _ _ _ h)
set_option maxHeartbeats 4000000 in
set_option maxRecDepth 100000 in
theorem sq_X4_measure_b53 {T1 : AT} {k16 : AT → Nat → Nat → Nat → Int32 → Option (AT)} (hk16 : ∀ (T : AT) (l0 : Nat) (l1 : Nat) (l2 : Nat) (l3 : Int32), k16 T l0 l1 l2 l3 = some T1 → QF T T1) : ∀ (T : AT) (l0 : Nat) (l1 : Nat) (l2 : Nat) (l3 : Int32), g_X4_measure_b53 k16 T l0 l1 l2 l3 = some T1 → QF T T1 := by
  intro T l0 l1 l2 l3 h
  have p0 := QF.rf T
  unfold g_X4_measure_b53 at h
  obtain ⟨v2, ev2, h⟩ := elet_some h
  exact QF.tr p0 (hk16 _ _ _ _ _ h)
set_option maxHeartbeats 4000000 in
set_option maxRecDepth 100000 in
theorem sq_X4_measure_b16 {T1 : AT} : ∀ n : Nat, ∀ (T : AT) (l0 : Nat) (l1 : Nat) (l2 : Nat) (l3 : Int32), g_X4_measure_b16 n T l0 l1 l2 l3 = some T1 → QF T T1 := by
  intro n
  induction n with
  | zero =>
    intro T l0 l1 l2 l3 h
    have h : (none : Option (AT)) = some T1 := h
    cases h
  | succ n ih =>
    intro T l0 l1 l2 l3 h
    have p0 := QF.rf T
    unfold g_X4_measure_b16 at h
    obtain ⟨g2, h⟩ := oif_some h
    obtain ⟨n3, en3, h⟩ := obind_some h
    obtain ⟨g4, h⟩ := oif_some h
    obtain ⟨r6, T5, eT5, h⟩ := obind2_some h
    have p1 : QF T T5 := QF.tr p0 ((sq_X1_cells eT5))
    rcases oif_or h with ⟨c7, h⟩ | ⟨c7, h⟩
    · have h := h
      obtain ⟨g8, h⟩ := oif_some h
      obtain ⟨n9, en9, h⟩ := obind_some h
      obtain ⟨g10, h⟩ := oif_some h
      obtain ⟨n11, en11, h⟩ := obind_some h
      obtain ⟨g12, h⟩ := oif_some h
      obtain ⟨n13, en13, h⟩ := obind_some h
      obtain ⟨g14, h⟩ := oif_some h
      obtain ⟨n15, en15, h⟩ := obind_some h
      obtain ⟨g16, h⟩ := oif_some h
      obtain ⟨r18, T17, eT17, h⟩ := obind2_some h
      have p2 : QF T T17 := QF.tr p1 ((sq_X1_bestIn eT17))
      obtain ⟨g19, h⟩ := oif_some h
      obtain ⟨T20, eT20, h⟩ := elet_some h
      have p3 : QF T T20 := QF.tr p2 (by rw [eT20]; first | exact qf_uO (oO_k g19).2 (by decide) | exact qf_uA (aA_k g16).2.1 (by decide))
      obtain ⟨g21, h⟩ := oif_some h
      obtain ⟨T22, eT22, h⟩ := elet_some h
      have p4 : QF T T22 := QF.tr p3 (by rw [eT22]; first | exact qf_uO (oO_k g21).2 (by decide) | exact qf_uA (aA_k g19).2.1 (by decide))
      exact QF.tr p4 (sq_X4_measure_b89 _ _ _ _ _ h)
    · have h := h
      obtain ⟨g23, h⟩ := oif_some h
      obtain ⟨n24, en24, h⟩ := obind_some h
      obtain ⟨g25, h⟩ := oif_some h
      obtain ⟨g26, h⟩ := oif_some h
      obtain ⟨n27, en27, h⟩ := obind_some h
      obtain ⟨g28, h⟩ := oif_some h
      obtain ⟨r30, T29, eT29, h⟩ := obind2_some h
      have p2 : QF T T29 := QF.tr p1 ((sq_X8_windowOf eT29))
      obtain ⟨g31, h⟩ := oif_some h
      obtain ⟨n32, en32, h⟩ := obind_some h
      obtain ⟨g33, h⟩ := oif_some h
      obtain ⟨T34, eT34, h⟩ := obind_some h
      have p3 : QF T T34 := QF.tr p2 (sq_X8_blockPowerOf eT34)
      exact QF.tr p3 (sq_X4_measure_b53 ih _ _ _ _ _ h)
set_option maxHeartbeats 4000000 in
set_option maxRecDepth 100000 in
theorem sq_X4_measure {T : AT} {o : Nat} {a0 : Nat} {a1 : Nat} {T1 : AT} (h : g_X4_measure T o a0 a1 = some T1) : QF T T1 := by
  have p0 := QF.rf T
  unfold g_X4_measure at h
  obtain ⟨g2, h⟩ := oif_some h
  obtain ⟨n3, en3, h⟩ := obind_some h
  obtain ⟨g4, h⟩ := oif_some h
  obtain ⟨T5, eT5, h⟩ := obind_some h
  have p1 : QF T T5 := QF.tr p0 ((sq_X10_narrow eT5))
  obtain ⟨g7, h⟩ := oif_some h
  obtain ⟨n8, en8, h⟩ := obind_some h
  obtain ⟨g9, h⟩ := oif_some h
  obtain ⟨T10, eT10, h⟩ := obind_some h
  have p2 : QF T T10 := QF.tr p1 ((sq_X10_narrow eT10))
  exact QF.tr p2 (sq_X4_measure_b16 _ _ _ _ _ _ h)
set_option maxHeartbeats 4000000 in
set_option maxRecDepth 100000 in
theorem sq_J7_fill_53178_b5 {T1 : AT} : ∀ n : Nat, ∀ (T : AT) (l0 : Nat) (l1 : Int32) (l2 : Int32) (l3 : Int32), g_J7_fill_53178_b5 n T l0 l1 l2 l3 = some T1 → QF T T1 := by
  intro n
  induction n with
  | zero =>
    intro T l0 l1 l2 l3 h
    have h : (none : Option (AT)) = some T1 := h
    cases h
  | succ n ih =>
    intro T l0 l1 l2 l3 h
    have p0 := QF.rf T
    unfold g_J7_fill_53178_b5 at h
    rcases oif_or h with ⟨c2, h⟩ | ⟨c2, h⟩
    · have h := h
      rw [← osome1 h]
      exact p0
    · have h := h
      obtain ⟨g3, h⟩ := oif_some h
      obtain ⟨g4, h⟩ := oif_some h
      obtain ⟨T5, eT5, h⟩ := elet_some h
      have p1 : QF T T5 := QF.tr p0 (by rw [eT5]; first | exact qf_uO (oO_k g4).2 (by decide) | exact qf_uA (aA_k g3).2.1 (by decide))
      obtain ⟨v6, ev6, h⟩ := elet_some h
      exact QF.tr p1 (ih _ _ _ _ _ h)
set_option maxHeartbeats 4000000 in
set_option maxRecDepth 100000 in
theorem sq_J7_fill_53178 {T : AT} {a0 : Nat} {a1 : Int32} {T1 : AT} (h : g_J7_fill_53178 T a0 a1 = some T1) : QF T T1 := by
  have p0 := QF.rf T
  unfold g_J7_fill_53178 at h
  obtain ⟨g2, h⟩ := oif_some h
  obtain ⟨v3, -, h⟩ := elet_some h
  exact QF.tr p0 (sq_J7_fill_53178_b5 _ _ _ _ _ _ h)
set_option maxHeartbeats 4000000 in
set_option maxRecDepth 100000 in
theorem sq_X5_silence_b2 {T1 : AT} : ∀ n : Nat, ∀ (T : AT) (l0 : Nat) (l1 : Int32), g_X5_silence_b2 n T l0 l1 = some T1 → QF T T1 := by
  intro n
  induction n with
  | zero =>
    intro T l0 l1 h
    have h : (none : Option (AT)) = some T1 := h
    cases h
  | succ n ih =>
    intro T l0 l1 h
    have p0 := QF.rf T
    unfold g_X5_silence_b2 at h
    rcases oif_or h with ⟨c2, h⟩ | ⟨c2, h⟩
    · have h := h
      rw [← osome1 h]
      exact p0
    · have h := h
      obtain ⟨g3, h⟩ := oif_some h
      obtain ⟨n4, en4, h⟩ := obind_some h
      obtain ⟨g5, h⟩ := oif_some h
      obtain ⟨g6, h⟩ := oif_some h
      obtain ⟨n7, en7, h⟩ := obind_some h
      obtain ⟨T8, eT8, h⟩ := obind_some h
      have p1 : QF T T8 := QF.tr p0 (sq_J7_fill_53178 eT8)
      obtain ⟨v10, ev10, h⟩ := elet_some h
      exact QF.tr p1 (ih _ _ _ h)
set_option maxHeartbeats 4000000 in
set_option maxRecDepth 100000 in
theorem sq_X5_silence {T : AT} {o : Nat} {T1 : AT} (h : g_X5_silence T o = some T1) : QF T T1 := by
  have p0 := QF.rf T
  unfold g_X5_silence at h
  exact QF.tr p0 (sq_X5_silence_b2 _ _ _ _ h)
set_option maxHeartbeats 4000000 in
set_option maxRecDepth 100000 in
theorem sq_X5_raw_b49 {r1 : Int32} {T1 : AT} : ∀ (T : AT) (s0 : Int32), g_X5_raw_b49 T s0 = some (r1, T1) → QF T T1 := by
  intro T s0 h
  have p0 := QF.rf T
  unfold g_X5_raw_b49 at h
  rw [← (osome2 h).2]
  exact p0
set_option maxHeartbeats 4000000 in
set_option maxRecDepth 100000 in
theorem sq_X5_raw_b48 {r1 : Int32} {T1 : AT} : ∀ (T : AT), g_X5_raw_b48 T = some (r1, T1) → QF T T1 := by
  intro T h
  have p0 := QF.rf T
  unfold g_X5_raw_b48 at h
  exact QF.tr p0 (sq_X5_raw_b49 _ _ h)
set_option maxHeartbeats 4000000 in
set_option maxRecDepth 100000 in
theorem sq_X5_raw {T : AT} {o : Nat} {a0 : Nat} {a1 : Int32} {a2 : Int32} {r1 : Int32} {T1 : AT} (h : g_X5_raw T o a0 a1 a2 = some (r1, T1)) : QF T T1 := by
  have p0 := QF.rf T
  unfold g_X5_raw at h
  obtain ⟨g2, h⟩ := oif_some h
  obtain ⟨n3, en3, h⟩ := obind_some h
  obtain ⟨g4, h⟩ := oif_some h
  obtain ⟨g5, h⟩ := oif_some h
  obtain ⟨n6, en6, h⟩ := obind_some h
  obtain ⟨g7, h⟩ := oif_some h
  obtain ⟨v8, -, h⟩ := elet_some h
  obtain ⟨v9, -, h⟩ := elet_some h
  rcases oif_or h with ⟨c10, h⟩ | ⟨c10, h⟩
  · have h := h
    exact QF.tr p0 (sq_X5_raw_b48 _ h)
  · have h := h
    rcases oif_or h with ⟨c11, h⟩ | ⟨c11, h⟩
    · have h := h
      exact QF.tr p0 (sq_X5_raw_b48 _ h)
    · have h := h
      obtain ⟨g12, h⟩ := oif_some h
      obtain ⟨n13, en13, h⟩ := obind_some h
      obtain ⟨g14, h⟩ := oif_some h
      obtain ⟨g15, h⟩ := oif_some h
      obtain ⟨n16, en16, h⟩ := obind_some h
      obtain ⟨g17, h⟩ := oif_some h
      obtain ⟨v18, -, h⟩ := elet_some h
      obtain ⟨g19, h⟩ := oif_some h
      obtain ⟨n20, en20, h⟩ := obind_some h
      obtain ⟨g21, h⟩ := oif_some h
      obtain ⟨g22, h⟩ := oif_some h
      obtain ⟨n23, en23, h⟩ := obind_some h
      obtain ⟨g24, h⟩ := oif_some h
      obtain ⟨g25, h⟩ := oif_some h
      obtain ⟨v26, -, h⟩ := elet_some h
      obtain ⟨v27, -, h⟩ := elet_some h
      exact QF.tr p0 (sq_X5_raw_b49 _ _ h)
set_option maxHeartbeats 4000000 in
set_option maxRecDepth 100000 in
theorem sq_X5_filtered_b6 {r1 : Int32} {T1 : AT} : ∀ n : Nat, ∀ (T : AT) (l0 : Nat) (l1 : Nat) (l2 : Int32) (l3 : Int32) (l4 : Int32) (l5 : Int32), g_X5_filtered_b6 n T l0 l1 l2 l3 l4 l5 = some (r1, T1) → QF T T1 := by
  intro n
  induction n with
  | zero =>
    intro T l0 l1 l2 l3 l4 l5 h
    have h : (none : Option (Int32 × AT)) = some (r1, T1) := h
    cases h
  | succ n ih =>
    intro T l0 l1 l2 l3 l4 l5 h
    have p0 := QF.rf T
    unfold g_X5_filtered_b6 at h
    obtain ⟨g2, h⟩ := oif_some h
    obtain ⟨v3, -, h⟩ := elet_some h
    rcases oif_or h with ⟨c4, h⟩ | ⟨c4, h⟩
    · have h := h
      rw [← (osome2 h).2]
      exact p0
    · have h := h
      obtain ⟨g5, h⟩ := oif_some h
      obtain ⟨n6, en6, h⟩ := obind_some h
      obtain ⟨g7, h⟩ := oif_some h
      obtain ⟨g8, h⟩ := oif_some h
      obtain ⟨v9, -, h⟩ := elet_some h
      obtain ⟨v10, -, h⟩ := elet_some h
      obtain ⟨g11, h⟩ := oif_some h
      obtain ⟨r13, T12, eT12, h⟩ := obind2_some h
      have p1 : QF T T12 := QF.tr p0 (sq_X5_raw eT12)
      obtain ⟨v14, -, h⟩ := elet_some h
      obtain ⟨v15, -, h⟩ := elet_some h
      obtain ⟨v16, ev16, h⟩ := elet_some h
      exact QF.tr p1 (ih _ _ _ _ _ _ _ h)
set_option maxHeartbeats 4000000 in
set_option maxRecDepth 100000 in
theorem sq_X5_filtered {T : AT} {o : Nat} {a0 : Nat} {a1 : Int32} {a2 : Int32} {r1 : Int32} {T1 : AT} (h : g_X5_filtered T o a0 a1 a2 = some (r1, T1)) : QF T T1 := by
  have p0 := QF.rf T
  unfold g_X5_filtered at h
  exact QF.tr p0 (sq_X5_filtered_b6 _ _ _ _ _ _ _ _ h)

set_option maxHeartbeats 4000000 in
set_option maxRecDepth 100000 in
theorem sq_X10_put_b20 {T1 : AT} : ∀ (T : AT), g_X10_put_b20 T = some T1 → QF T T1 := by
  intro T h
  have p0 := QF.rf T
  unfold g_X10_put_b20 at h
  rw [← osome1 h]
  exact p0
set_option maxHeartbeats 4000000 in
set_option maxRecDepth 100000 in
theorem sq_X10_put {T : AT} {o : Nat} {a0 : Int32} {a1 : Int32} {T1 : AT} (h : g_X10_put T o a0 a1 = some T1) : QF T T1 := by
  have p0 := QF.rf T
  unfold g_X10_put at h
  obtain ⟨g2, h⟩ := oif_some h
  obtain ⟨T3, eT3, h⟩ := obind_some h
  have p1 : QF T T3 := QF.tr p0 ((sq_X10_clear eT3))
  obtain ⟨g5, h⟩ := oif_some h
  obtain ⟨n6, en6, h⟩ := obind_some h
  obtain ⟨g7, h⟩ := oif_some h
  obtain ⟨g8, h⟩ := oif_some h
  obtain ⟨n9, en9, h⟩ := obind_some h
  obtain ⟨v10, -, h⟩ := elet_some h
  obtain ⟨g11, h⟩ := oif_some h
  obtain ⟨g12, h⟩ := oif_some h
  obtain ⟨T13, eT13, h⟩ := elet_some h
  have p2 : QF T T13 := QF.tr p1 (by rw [eT13]; exact qf_uJ)
  obtain ⟨g14, h⟩ := oif_some h
  obtain ⟨T15, eT15, h⟩ := obind_some h
  have p3 : QF T T15 := QF.tr p2 (sq_X10_settle eT15)
  exact QF.tr p3 (sq_X10_put_b20 _ h)
set_option maxHeartbeats 4000000 in
set_option maxRecDepth 100000 in
theorem sq_X5_finish_b87 {T1 : AT} {k9 : AT → Nat → Nat → Nat → Int32 → Option (AT)} {k20 : AT → Nat → Nat → Nat → Int32 → Int32 → Option (AT)} (hk9 : ∀ (T : AT) (l0 : Nat) (l1 : Nat) (l2 : Nat) (l3 : Int32), k9 T l0 l1 l2 l3 = some T1 → QF T T1) (hk20 : ∀ (T : AT) (l0 : Nat) (l1 : Nat) (l2 : Nat) (l3 : Int32) (l4 : Int32), k20 T l0 l1 l2 l3 l4 = some T1 → QF T T1) : ∀ (T : AT) (l0 : Nat) (l1 : Nat) (l2 : Nat) (l3 : Int32) (l4 : Int32), g_X5_finish_b87 k9 k20 T l0 l1 l2 l3 l4 = some T1 → QF T T1 := by
  intro T l0 l1 l2 l3 l4 h
  have p0 := QF.rf T
  unfold g_X5_finish_b87 at h
  obtain ⟨v2, ev2, h⟩ := elet_some h
  exact QF.tr p0 (hk20 _ _ _ _ _ _ h)
set_option maxHeartbeats 4000000 in
set_option maxRecDepth 100000 in
theorem sq_X5_finish_b55 {T1 : AT} {k9 : AT → Nat → Nat → Nat → Int32 → Option (AT)} {k20 : AT → Nat → Nat → Nat → Int32 → Int32 → Option (AT)} (hk9 : ∀ (T : AT) (l0 : Nat) (l1 : Nat) (l2 : Nat) (l3 : Int32), k9 T l0 l1 l2 l3 = some T1 → QF T T1) (hk20 : ∀ (T : AT) (l0 : Nat) (l1 : Nat) (l2 : Nat) (l3 : Int32) (l4 : Int32), k20 T l0 l1 l2 l3 l4 = some T1 → QF T T1) : ∀ (T : AT) (s0 : Int32) (l0 : Nat) (l1 : Nat) (l2 : Nat) (l3 : Int32) (l4 : Int32), g_X5_finish_b55 k9 k20 T s0 l0 l1 l2 l3 l4 = some T1 → QF T T1 := by
  intro T s0 l0 l1 l2 l3 l4 h
  have p0 := QF.rf T
  unfold g_X5_finish_b55 at h
  obtain ⟨g2, h⟩ := oif_some h
  obtain ⟨n3, en3, h⟩ := obind_some h
  obtain ⟨r4, -, h⟩ := obind_some h
  obtain ⟨g5, h⟩ := oif_some h
  obtain ⟨v6, -, h⟩ := elet_some h
  obtain ⟨v7, -, h⟩ := elet_some h
  obtain ⟨g8, h⟩ := oif_some h
  obtain ⟨v9, -, h⟩ := elet_some h
  obtain ⟨v10, -, h⟩ := elet_some h
  obtain ⟨v11, -, h⟩ := elet_some h
  obtain ⟨g12, h⟩ := oif_some h
  obtain ⟨T13, eT13, h⟩ := obind_some h
  have p1 : QF T T13 := QF.tr p0 (sq_X10_put eT13)
  exact QF.tr p1 (sq_X5_finish_b87 hk9 hk20 _ _ _ _ _ _ h)
set_option maxHeartbeats 4000000 in
set_option maxRecDepth 100000 in
theorem sq_X5_finish_b20 {T1 : AT} {k9 : AT → Nat → Nat → Nat → Int32 → Option (AT)} (hk9 : ∀ (T : AT) (l0 : Nat) (l1 : Nat) (l2 : Nat) (l3 : Int32), k9 T l0 l1 l2 l3 = some T1 → QF T T1) : ∀ n : Nat, ∀ (T : AT) (l0 : Nat) (l1 : Nat) (l2 : Nat) (l3 : Int32) (l4 : Int32), g_X5_finish_b20 k9 n T l0 l1 l2 l3 l4 = some T1 → QF T T1 := by
  intro n
  induction n with
  | zero =>
    intro T l0 l1 l2 l3 l4 h
    have h : (none : Option (AT)) = some T1 := h
    cases h
  | succ n ih =>
    intro T l0 l1 l2 l3 l4 h
    have p0 := QF.rf T
    unfold g_X5_finish_b20 at h
    obtain ⟨g2, h⟩ := oif_some h
    obtain ⟨v3, -, h⟩ := elet_some h
    rcases oif_or h with ⟨c4, h⟩ | ⟨c4, h⟩
    · have h := h
      obtain ⟨v5, ev5, h⟩ := elet_some h
      exact QF.tr p0 (hk9 _ _ _ _ _ h)
    · have h := h
      obtain ⟨g6, h⟩ := oif_some h
      obtain ⟨v7, -, h⟩ := elet_some h
      rcases oif_or h with ⟨c8, h⟩ | ⟨c8, h⟩
      · have h := h
        obtain ⟨g9, h⟩ := oif_some h
        obtain ⟨r11, T10, eT10, h⟩ := obind2_some h
        have p1 : QF T T10 := QF.tr p0 ((sq_X5_raw eT10))
        exact QF.tr p1 (sq_X5_finish_b55 hk9 ih _ _ _ _ _ _ _ h)
      · have h := h
        obtain ⟨g12, h⟩ := oif_some h
        obtain ⟨r14, T13, eT13, h⟩ := obind2_some h
        have p1 : QF T T13 := QF.tr p0 ((sq_X5_filtered eT13))
        exact QF.tr p1 (sq_X5_finish_b55 hk9 ih _ _ _ _ _ _ _ h)
set_option maxHeartbeats 4000000 in
set_option maxRecDepth 100000 in
theorem sq_X5_finish_b9 {T1 : AT} : ∀ n : Nat, ∀ (T : AT) (l0 : Nat) (l1 : Nat) (l2 : Nat) (l3 : Int32), g_X5_finish_b9 n T l0 l1 l2 l3 = some T1 → QF T T1 := by
  intro n
  induction n with
  | zero =>
    intro T l0 l1 l2 l3 h
    have h : (none : Option (AT)) = some T1 := h
    cases h
  | succ n ih =>
    intro T l0 l1 l2 l3 h
    have p0 := QF.rf T
    unfold g_X5_finish_b9 at h
    obtain ⟨g2, h⟩ := oif_some h
    obtain ⟨v3, -, h⟩ := elet_some h
    rcases oif_or h with ⟨c4, h⟩ | ⟨c4, h⟩
    · have h := h
      obtain ⟨g5, h⟩ := oif_some h
      obtain ⟨T6, eT6, h⟩ := elet_some h
      have p1 : QF T T6 := QF.tr p0 (by rw [eT6]; first | exact qf_uO (oO_k g5).2 (by decide) | exact qf_uA (aA_k g2).2.1 (by decide))
      rw [← osome1 h]
      exact p1
    · have h := h
      exact QF.tr p0 (sq_X5_finish_b20 ih _ _ _ _ _ _ _ h)
set_option maxHeartbeats 4000000 in
set_option maxRecDepth 100000 in
theorem sq_X5_finish {T : AT} {o : Nat} {a0 : Nat} {a1 : Nat} {T1 : AT} (h : g_X5_finish T o a0 a1 = some T1) : QF T T1 := by
  have p0 := QF.rf T
  unfold g_X5_finish at h
  obtain ⟨g2, h⟩ := oif_some h
  obtain ⟨n3, en3, h⟩ := obind_some h
  obtain ⟨g4, h⟩ := oif_some h
  obtain ⟨T5, eT5, h⟩ := obind_some h
  have p1 : QF T T5 := QF.tr p0 ((sq_X10_narrow eT5))
  exact QF.tr p1 (sq_X5_finish_b9 _ _ _ _ _ _ h)
set_option maxHeartbeats 4000000 in
set_option maxRecDepth 100000 in
theorem sq_X6_delayFrom {T : AT} {o : Nat} {a0 : Nat} {a1 : Int32} {a2 : Int32} {r1 : Int32} {T1 : AT} (h : g_X6_delayFrom T o a0 a1 a2 = some (r1, T1)) : QF T T1 := by
  have p0 := QF.rf T
  unfold g_X6_delayFrom at h
  obtain ⟨g2, h⟩ := oif_some h
  obtain ⟨v3, -, h⟩ := elet_some h
  obtain ⟨v4, -, h⟩ := elet_some h
  obtain ⟨g5, h⟩ := oif_some h
  obtain ⟨v6, -, h⟩ := elet_some h
  obtain ⟨v7, -, h⟩ := elet_some h
  obtain ⟨v8, -, h⟩ := elet_some h
  obtain ⟨v9, -, h⟩ := elet_some h
  obtain ⟨v10, -, h⟩ := elet_some h
  obtain ⟨g11, h⟩ := oif_some h
  obtain ⟨v12, -, h⟩ := elet_some h
  obtain ⟨g13, h⟩ := oif_some h
  obtain ⟨v14, -, h⟩ := elet_some h
  obtain ⟨v15, -, h⟩ := elet_some h
  obtain ⟨v16, -, h⟩ := elet_some h
  obtain ⟨r17, -, h⟩ := obind_some h
  obtain ⟨v18, -, h⟩ := elet_some h
  obtain ⟨g19, h⟩ := oif_some h
  obtain ⟨v20, -, h⟩ := elet_some h
  obtain ⟨v21, -, h⟩ := elet_some h
  obtain ⟨r22, -, h⟩ := obind_some h
  obtain ⟨g23, h⟩ := oif_some h
  obtain ⟨v24, -, h⟩ := elet_some h
  obtain ⟨v25, -, h⟩ := elet_some h
  obtain ⟨g26, h⟩ := oif_some h
  obtain ⟨v27, -, h⟩ := elet_some h
  obtain ⟨v28, -, h⟩ := elet_some h
  obtain ⟨r29, -, h⟩ := obind_some h
  obtain ⟨v30, -, h⟩ := elet_some h
  obtain ⟨v31, -, h⟩ := elet_some h
  rw [← (osome2 h).2]
  exact p0
set_option maxHeartbeats 4000000 in
set_option maxRecDepth 100000 in
theorem sq_X7_valueAt_b78 {r1 : Int32} {T1 : AT} : ∀ (T : AT) (s0 : Int32), g_X7_valueAt_b78 T s0 = some (r1, T1) → QF T T1 := by
  intro T s0 h
  have p0 := QF.rf T
  unfold g_X7_valueAt_b78 at h
  rw [← (osome2 h).2]
  exact p0
set_option maxHeartbeats 4000000 in
set_option maxRecDepth 100000 in
theorem sq_X7_valueAt_b125 {r1 : Int32} {T1 : AT} : ∀ (T : AT) (s0 : Int32), g_X7_valueAt_b125 T s0 = some (r1, T1) → QF T T1 := by
  intro T s0 h
  have p0 := QF.rf T
  unfold g_X7_valueAt_b125 at h
  rw [← (osome2 h).2]
  exact p0
set_option maxHeartbeats 4000000 in
set_option maxRecDepth 100000 in
theorem sq_X7_valueAt {T : AT} {o : Nat} {a0 : Int32} {r1 : Int32} {T1 : AT} (h : g_X7_valueAt T o a0 = some (r1, T1)) : QF T T1 := by
  have p0 := QF.rf T
  unfold g_X7_valueAt at h
  obtain ⟨g2, h⟩ := oif_some h
  obtain ⟨v3, -, h⟩ := elet_some h
  rcases oif_or h with ⟨c4, h⟩ | ⟨c4, h⟩
  · have h := h
    obtain ⟨g5, h⟩ := oif_some h
    obtain ⟨v6, -, h⟩ := elet_some h
    obtain ⟨v7, -, h⟩ := elet_some h
    obtain ⟨g8, h⟩ := oif_some h
    obtain ⟨v9, -, h⟩ := elet_some h
    obtain ⟨r10, -, h⟩ := obind_some h
    obtain ⟨g11, h⟩ := oif_some h
    obtain ⟨v12, -, h⟩ := elet_some h
    by_cases c13 : v12 = 0
    · have h := oif_pos c13 h
      obtain ⟨g14, h⟩ := oif_some h
      obtain ⟨v15, -, h⟩ := elet_some h
      obtain ⟨v16, -, h⟩ := elet_some h
      rcases oif_or h with ⟨c17, h⟩ | ⟨c17, h⟩
      · have h := h
        obtain ⟨g18, h⟩ := oif_some h
        obtain ⟨v19, -, h⟩ := elet_some h
        obtain ⟨v20, -, h⟩ := elet_some h
        exact QF.tr p0 (sq_X7_valueAt_b78 _ _ h)
      · have h := h
        obtain ⟨g21, h⟩ := oif_some h
        obtain ⟨v22, -, h⟩ := elet_some h
        exact QF.tr p0 (sq_X7_valueAt_b78 _ _ h)
    have h := oif_neg c13 h
    by_cases c23 : v12 = 1
    · have h := oif_pos c23 h
      obtain ⟨g24, h⟩ := oif_some h
      obtain ⟨v25, -, h⟩ := elet_some h
      obtain ⟨g26, h⟩ := oif_some h
      obtain ⟨v27, -, h⟩ := elet_some h
      obtain ⟨v28, -, h⟩ := elet_some h
      obtain ⟨v29, -, h⟩ := elet_some h
      obtain ⟨v30, -, h⟩ := elet_some h
      obtain ⟨v31, -, h⟩ := elet_some h
      obtain ⟨g32, h⟩ := oif_some h
      obtain ⟨v33, -, h⟩ := elet_some h
      obtain ⟨v34, -, h⟩ := elet_some h
      obtain ⟨v35, -, h⟩ := elet_some h
      obtain ⟨v36, -, h⟩ := elet_some h
      obtain ⟨g37, h⟩ := oif_some h
      obtain ⟨v38, -, h⟩ := elet_some h
      obtain ⟨v39, -, h⟩ := elet_some h
      obtain ⟨r40, -, h⟩ := obind_some h
      obtain ⟨v41, -, h⟩ := elet_some h
      rw [← (osome2 h).2]
      exact p0
    have h := oif_neg c23 h
    by_cases c42 : v12 = 2
    · have h := oif_pos c42 h
      rcases oif_or h with ⟨c43, h⟩ | ⟨c43, h⟩
      · have h := h
        obtain ⟨g44, h⟩ := oif_some h
        obtain ⟨v45, -, h⟩ := elet_some h
        exact QF.tr p0 (sq_X7_valueAt_b125 _ _ h)
      · have h := h
        exact QF.tr p0 (sq_X7_valueAt_b125 _ _ h)
    have h := oif_neg c42 h
    obtain ⟨v46, -, h⟩ := elet_some h
    obtain ⟨v47, -, h⟩ := elet_some h
    obtain ⟨v48, -, h⟩ := elet_some h
    obtain ⟨v49, -, h⟩ := elet_some h
    obtain ⟨g50, h⟩ := oif_some h
    obtain ⟨v51, -, h⟩ := elet_some h
    obtain ⟨v52, -, h⟩ := elet_some h
    obtain ⟨v53, -, h⟩ := elet_some h
    obtain ⟨g54, h⟩ := oif_some h
    obtain ⟨v55, -, h⟩ := elet_some h
    obtain ⟨v56, -, h⟩ := elet_some h
    obtain ⟨v57, -, h⟩ := elet_some h
    obtain ⟨r58, -, h⟩ := obind_some h
    obtain ⟨g59, h⟩ := oif_some h
    obtain ⟨v60, -, h⟩ := elet_some h
    obtain ⟨v61, -, h⟩ := elet_some h
    rw [← (osome2 h).2]
    exact p0
  · have h := h
    rw [← (osome2 h).2]
    exact p0
set_option maxHeartbeats 4000000 in
set_option maxRecDepth 100000 in
theorem sq_X5_arriving_b47 {r1 : Int32} {T1 : AT} : ∀ (T : AT) (s0 : Int32), g_X5_arriving_b47 T s0 = some (r1, T1) → QF T T1 := by
  intro T s0 h
  have p0 := QF.rf T
  unfold g_X5_arriving_b47 at h
  rw [← (osome2 h).2]
  exact p0
set_option maxHeartbeats 4000000 in
set_option maxRecDepth 100000 in
theorem sq_X5_arriving {T : AT} {a0 : Nat} {a1 : Nat} {a2 : Int32} {a3 : Int32} {r1 : Int32} {T1 : AT} (h : g_X5_arriving T a0 a1 a2 a3 = some (r1, T1)) : QF T T1 := by
  have p0 := QF.rf T
  unfold g_X5_arriving at h
  rcases oif_or h with ⟨c2, h⟩ | ⟨c2, h⟩
  · have h := h
    obtain ⟨v3, -, h⟩ := elet_some h
    obtain ⟨g4, h⟩ := oif_some h
    obtain ⟨r6, T5, eT5, h⟩ := obind2_some h
    have p1 : QF T T5 := QF.tr p0 (sq_X7_valueAt eT5)
    obtain ⟨g7, h⟩ := oif_some h
    obtain ⟨v8, -, h⟩ := elet_some h
    rcases oif_or h with ⟨c9, h⟩ | ⟨c9, h⟩
    · have h := h
      exact QF.tr p1 (sq_X5_arriving_b47 _ _ h)
    · have h := h
      obtain ⟨g10, h⟩ := oif_some h
      obtain ⟨v11, -, h⟩ := elet_some h
      obtain ⟨v12, -, h⟩ := elet_some h
      obtain ⟨v13, -, h⟩ := elet_some h
      obtain ⟨g14, h⟩ := oif_some h
      obtain ⟨v15, -, h⟩ := elet_some h
      obtain ⟨v16, -, h⟩ := elet_some h
      obtain ⟨v17, -, h⟩ := elet_some h
      obtain ⟨r18, -, h⟩ := obind_some h
      obtain ⟨v19, -, h⟩ := elet_some h
      exact QF.tr p1 (sq_X5_arriving_b47 _ _ h)
  · have h := h
    rw [← (osome2 h).2]
    exact p0
set_option maxHeartbeats 4000000 in
set_option maxRecDepth 100000 in
theorem sq_X5_hear_b42 {T1 : AT} {k3 : AT → Nat → Nat → Nat → Int32 → Int32 → Int32 → Int32 → Option (AT)} (hk3 : ∀ (T : AT) (l0 : Nat) (l1 : Nat) (l2 : Nat) (l3 : Int32) (l4 : Int32) (l5 : Int32) (l6 : Int32), k3 T l0 l1 l2 l3 l4 l5 l6 = some T1 → QF T T1) : ∀ n : Nat, ∀ (T : AT) (l0 : Nat) (l1 : Nat) (l2 : Nat) (l3 : Int32) (l4 : Int32) (l5 : Int32) (l6 : Int32) (l7 : Nat) (l8 : Int32) (l9 : Int32), g_X5_hear_b42 k3 n T l0 l1 l2 l3 l4 l5 l6 l7 l8 l9 = some T1 → QF T T1 := by
  intro n
  induction n with
  | zero =>
    intro T l0 l1 l2 l3 l4 l5 l6 l7 l8 l9 h
    have h : (none : Option (AT)) = some T1 := h
    cases h
  | succ n ih =>
    intro T l0 l1 l2 l3 l4 l5 l6 l7 l8 l9 h
    have p0 := QF.rf T
    unfold g_X5_hear_b42 at h
    obtain ⟨g2, h⟩ := oif_some h
    obtain ⟨v3, -, h⟩ := elet_some h
    rcases oif_or h with ⟨c4, h⟩ | ⟨c4, h⟩
    · have h := h
      obtain ⟨g5, h⟩ := oif_some h
      obtain ⟨n6, en6, h⟩ := obind_some h
      obtain ⟨g7, h⟩ := oif_some h
      obtain ⟨g8, h⟩ := oif_some h
      obtain ⟨n9, en9, h⟩ := obind_some h
      obtain ⟨g10, h⟩ := oif_some h
      obtain ⟨g11, h⟩ := oif_some h
      obtain ⟨v12, -, h⟩ := elet_some h
      obtain ⟨v13, -, h⟩ := elet_some h
      obtain ⟨g14, h⟩ := oif_some h
      obtain ⟨g15, h⟩ := oif_some h
      obtain ⟨T16, eT16, h⟩ := elet_some h
      have p1 : QF T T16 := QF.tr p0 (by rw [eT16]; first | exact qf_uO (oO_k g15).2 (by decide) | exact qf_uA (aA_k g14).2.1 (by decide))
      obtain ⟨v17, ev17, h⟩ := elet_some h
      exact QF.tr p1 (hk3 _ _ _ _ _ _ _ _ h)
    · have h := h
      obtain ⟨g18, h⟩ := oif_some h
      obtain ⟨n19, en19, h⟩ := obind_some h
      obtain ⟨g20, h⟩ := oif_some h
      obtain ⟨g21, h⟩ := oif_some h
      obtain ⟨v22, -, h⟩ := elet_some h
      obtain ⟨v23, -, h⟩ := elet_some h
      obtain ⟨v24, -, h⟩ := elet_some h
      obtain ⟨g25, h⟩ := oif_some h
      obtain ⟨r27, T26, eT26, h⟩ := obind2_some h
      have p1 : QF T T26 := QF.tr p0 (sq_X6_delayFrom eT26)
      obtain ⟨r29, T28, eT28, h⟩ := obind2_some h
      have p2 : QF T T28 := QF.tr p1 (sq_X5_arriving eT28)
      obtain ⟨g30, h⟩ := oif_some h
      obtain ⟨n31, en31, h⟩ := obind_some h
      obtain ⟨g32, h⟩ := oif_some h
      obtain ⟨g33, h⟩ := oif_some h
      obtain ⟨v34, -, h⟩ := elet_some h
      obtain ⟨v35, -, h⟩ := elet_some h
      obtain ⟨v36, -, h⟩ := elet_some h
      obtain ⟨v37, -, h⟩ := elet_some h
      obtain ⟨v38, ev38, h⟩ := elet_some h
      exact QF.tr p2 (ih _ _ _ _ _ _ _ _ _ _ _ h)
set_option maxHeartbeats 4000000 in
set_option maxRecDepth 100000 in
theorem sq_X5_hear_b3 {T1 : AT} : ∀ n : Nat, ∀ (T : AT) (l0 : Nat) (l1 : Nat) (l2 : Nat) (l3 : Int32) (l4 : Int32) (l5 : Int32) (l6 : Int32), g_X5_hear_b3 n T l0 l1 l2 l3 l4 l5 l6 = some T1 → QF T T1 := by
  intro n
  induction n with
  | zero =>
    intro T l0 l1 l2 l3 l4 l5 l6 h
    have h : (none : Option (AT)) = some T1 := h
    cases h
  | succ n ih =>
    intro T l0 l1 l2 l3 l4 l5 l6 h
    have p0 := QF.rf T
    unfold g_X5_hear_b3 at h
    obtain ⟨g2, h⟩ := oif_some h
    obtain ⟨v3, -, h⟩ := elet_some h
    rcases oif_or h with ⟨c4, h⟩ | ⟨c4, h⟩
    · have h := h
      rw [← osome1 h]
      exact p0
    · have h := h
      obtain ⟨g5, h⟩ := oif_some h
      obtain ⟨n6, en6, h⟩ := obind_some h
      obtain ⟨g7, h⟩ := oif_some h
      obtain ⟨g8, h⟩ := oif_some h
      obtain ⟨n9, en9, h⟩ := obind_some h
      obtain ⟨g10, h⟩ := oif_some h
      obtain ⟨r12, T11, eT11, h⟩ := obind2_some h
      have p1 : QF T T11 := QF.tr p0 (sq_X6_delayFrom eT11)
      obtain ⟨r14, T13, eT13, h⟩ := obind2_some h
      have p2 : QF T T13 := QF.tr p1 (sq_X5_arriving eT13)
      exact QF.tr p2 (sq_X5_hear_b42 ih _ _ _ _ _ _ _ _ _ _ _ _ h)
set_option maxHeartbeats 4000000 in
set_option maxRecDepth 100000 in
theorem sq_X5_hear {T : AT} {o : Nat} {a0 : Nat} {a1 : Nat} {a2 : Int32} {a3 : Int32} {a4 : Int32} {T1 : AT} (h : g_X5_hear T o a0 a1 a2 a3 a4 = some T1) : QF T T1 := by
  have p0 := QF.rf T
  unfold g_X5_hear at h
  exact QF.tr p0 (sq_X5_hear_b3 _ _ _ _ _ _ _ _ _ h)
set_option maxHeartbeats 4000000 in
set_option maxRecDepth 100000 in
theorem sq_X5_recordPoint_b89 {T1 : AT} : ∀ (T : AT), g_X5_recordPoint_b89 T = some T1 → QF T T1 := by
  intro T h
  have p0 := QF.rf T
  unfold g_X5_recordPoint_b89 at h
  rw [← osome1 h]
  exact p0
set_option maxHeartbeats 4000000 in
set_option maxRecDepth 100000 in
theorem sq_X5_recordPoint_b53 {T1 : AT} : ∀ n : Nat, ∀ (T : AT) (l0 : Nat) (l1 : Nat) (l2 : Nat) (l5 : Int32) (l6 : Int32) (l7 : Int32), g_X5_recordPoint_b53 n T l0 l1 l2 l5 l6 l7 = some T1 → QF T T1 := by
  intro n
  induction n with
  | zero =>
    intro T l0 l1 l2 l5 l6 l7 h
    have h : (none : Option (AT)) = some T1 := h
    cases h
  | succ n ih =>
    intro T l0 l1 l2 l5 l6 l7 h
    have p0 := QF.rf T
    unfold g_X5_recordPoint_b53 at h
    obtain ⟨g2, h⟩ := oif_some h
    obtain ⟨v3, -, h⟩ := elet_some h
    rcases oif_or h with ⟨c4, h⟩ | ⟨c4, h⟩
    · have h := h
      obtain ⟨g5, h⟩ := oif_some h
      obtain ⟨T6, eT6, h⟩ := obind_some h
      have p1 : QF T T6 := QF.tr p0 (sq_X5_finish eT6)
      exact QF.tr p1 (sq_X5_recordPoint_b89 _ h)
    · have h := h
      obtain ⟨g8, h⟩ := oif_some h
      obtain ⟨n9, en9, h⟩ := obind_some h
      obtain ⟨g10, h⟩ := oif_some h
      obtain ⟨T11, eT11, h⟩ := obind_some h
      have p1 : QF T T11 := QF.tr p0 ((sq_X5_hear eT11))
      obtain ⟨v13, ev13, h⟩ := elet_some h
      exact QF.tr p1 (ih _ _ _ _ _ _ _ h)
set_option maxHeartbeats 4000000 in
set_option maxRecDepth 100000 in
theorem sq_X10_copyFrom_b18 {T1 : AT} : ∀ n : Nat, ∀ (T : AT) (l0 : Nat) (l1 : Nat) (l2 : Int32), g_X10_copyFrom_b18 n T l0 l1 l2 = some T1 → QF T T1 := by
  intro n
  induction n with
  | zero =>
    intro T l0 l1 l2 h
    have h : (none : Option (AT)) = some T1 := h
    cases h
  | succ n ih =>
    intro T l0 l1 l2 h
    have p0 := QF.rf T
    unfold g_X10_copyFrom_b18 at h
    obtain ⟨g2, h⟩ := oif_some h
    obtain ⟨v3, -, h⟩ := elet_some h
    rcases oif_or h with ⟨c4, h⟩ | ⟨c4, h⟩
    · have h := h
      rw [← osome1 h]
      exact p0
    · have h := h
      obtain ⟨g5, h⟩ := oif_some h
      obtain ⟨n6, en6, h⟩ := obind_some h
      obtain ⟨g7, h⟩ := oif_some h
      obtain ⟨g8, h⟩ := oif_some h
      obtain ⟨n9, en9, h⟩ := obind_some h
      obtain ⟨g10, h⟩ := oif_some h
      obtain ⟨n11, en11, h⟩ := obind_some h
      obtain ⟨g12, h⟩ := oif_some h
      obtain ⟨g13, h⟩ := oif_some h
      obtain ⟨n14, en14, h⟩ := obind_some h
      obtain ⟨g15, h⟩ := oif_some h
      obtain ⟨v16, -, h⟩ := elet_some h
      obtain ⟨g17, h⟩ := oif_some h
      obtain ⟨v18, -, h⟩ := elet_some h
      obtain ⟨v19, -, h⟩ := elet_some h
      obtain ⟨g20, h⟩ := oif_some h
      obtain ⟨g21, h⟩ := oif_some h
      obtain ⟨g22, h⟩ := oif_some h
      obtain ⟨T23, eT23, h⟩ := elet_some h
      have p1 : QF T T23 := QF.tr p0 (by rw [eT23]; exact qf_uC)
      obtain ⟨v24, ev24, h⟩ := elet_some h
      exact QF.tr p1 (ih _ _ _ _ h)
set_option maxHeartbeats 4000000 in
set_option maxRecDepth 100000 in
theorem sq_X10_copyFrom_b8 {T1 : AT} : ∀ (T : AT) (l0 : Nat) (l1 : Nat), g_X10_copyFrom_b8 T l0 l1 = some T1 → QF T T1 := by
  intro T l0 l1 h
  have p0 := QF.rf T
  unfold g_X10_copyFrom_b8 at h
  obtain ⟨g2, h⟩ := oif_some h
  obtain ⟨v3, -, h⟩ := elet_some h
  obtain ⟨g4, h⟩ := oif_some h
  obtain ⟨T5, eT5, h⟩ := elet_some h
  have p1 : QF T T5 := QF.tr p0 (by rw [eT5]; first | exact qf_uO (oO_k g4).2 (by decide) | exact qf_uA (aA_k g2).2.1 (by decide))
  exact QF.tr p1 (sq_X10_copyFrom_b18 _ _ _ _ _ h)
set_option maxHeartbeats 4000000 in
set_option maxRecDepth 100000 in
theorem sq_X10_copyFrom {T : AT} {o : Nat} {a0 : Nat} {T1 : AT} (h : g_X10_copyFrom T o a0 = some T1) : QF T T1 := by
  have p0 := QF.rf T
  unfold g_X10_copyFrom at h
  obtain ⟨g2, h⟩ := oif_some h
  obtain ⟨v3, -, h⟩ := elet_some h
  obtain ⟨g4, h⟩ := oif_some h
  obtain ⟨T5, eT5, h⟩ := obind_some h
  have p1 : QF T T5 := QF.tr p0 (sq_X10_widenTo eT5)
  exact QF.tr p1 (sq_X10_copyFrom_b8 _ _ _ h)
set_option maxHeartbeats 4000000 in
set_option maxRecDepth 100000 in
theorem sq_X8_copyFrom_b147 {T1 : AT} : ∀ (T : AT), g_X8_copyFrom_b147 T = some T1 → QF T T1 := by
  intro T h
  have p0 := QF.rf T
  unfold g_X8_copyFrom_b147 at h
  rw [← osome1 h]
  exact p0
set_option maxHeartbeats 4000000 in
set_option maxRecDepth 100000 in
theorem sq_X8_copyFrom_b64 {T1 : AT} : ∀ n : Nat, ∀ (T : AT) (l0 : Nat) (l1 : Nat) (l2 : Int32), g_X8_copyFrom_b64 n T l0 l1 l2 = some T1 → QF T T1 := by
  intro n
  induction n with
  | zero =>
    intro T l0 l1 l2 h
    have h : (none : Option (AT)) = some T1 := h
    cases h
  | succ n ih =>
    intro T l0 l1 l2 h
    have p0 := QF.rf T
    unfold g_X8_copyFrom_b64 at h
    rcases oif_or h with ⟨c2, h⟩ | ⟨c2, h⟩
    · have h := h
      obtain ⟨g3, h⟩ := oif_some h
      obtain ⟨n4, en4, h⟩ := obind_some h
      obtain ⟨g5, h⟩ := oif_some h
      obtain ⟨n6, en6, h⟩ := obind_some h
      obtain ⟨g7, h⟩ := oif_some h
      obtain ⟨T8, eT8, h⟩ := obind_some h
      have p1 : QF T T8 := QF.tr p0 (sq_X10_copyFrom eT8)
      exact QF.tr p1 (sq_X8_copyFrom_b147 _ h)
    · have h := h
      obtain ⟨g10, h⟩ := oif_some h
      obtain ⟨n11, en11, h⟩ := obind_some h
      obtain ⟨g12, h⟩ := oif_some h
      obtain ⟨n13, en13, h⟩ := obind_some h
      obtain ⟨g14, h⟩ := oif_some h
      obtain ⟨g15, h⟩ := oif_some h
      obtain ⟨v16, -, h⟩ := elet_some h
      obtain ⟨g17, h⟩ := oif_some h
      obtain ⟨g18, h⟩ := oif_some h
      obtain ⟨gz, h⟩ := oif_some h
      obtain ⟨T19, eT19, h⟩ := elet_some h
      have p1 : QF T T19 := QF.tr p0 (by rw [eT19]; first | exact qf_uO (oO_k g18).2 (by decide) | exact qf_uA (aA_k g17).2.1 (by decide))
      obtain ⟨g20, h⟩ := oif_some h
      obtain ⟨n21, en21, h⟩ := obind_some h
      obtain ⟨g22, h⟩ := oif_some h
      obtain ⟨n23, en23, h⟩ := obind_some h
      obtain ⟨g24, h⟩ := oif_some h
      obtain ⟨g25, h⟩ := oif_some h
      obtain ⟨v26, -, h⟩ := elet_some h
      obtain ⟨g27, h⟩ := oif_some h
      obtain ⟨g28, h⟩ := oif_some h
      obtain ⟨T29, eT29, h⟩ := elet_some h
      have p2 : QF T T29 := QF.tr p1 (by rw [eT29]; first | exact qf_uO (oO_k g28).2 (by decide) | exact qf_uA (aA_k g27).2.1 (by decide))
      obtain ⟨g30, h⟩ := oif_some h
      obtain ⟨n31, en31, h⟩ := obind_some h
      obtain ⟨g32, h⟩ := oif_some h
      obtain ⟨n33, en33, h⟩ := obind_some h
      obtain ⟨g34, h⟩ := oif_some h
      obtain ⟨g35, h⟩ := oif_some h
      obtain ⟨v36, -, h⟩ := elet_some h
      obtain ⟨g37, h⟩ := oif_some h
      obtain ⟨g38, h⟩ := oif_some h
      obtain ⟨T39, eT39, h⟩ := elet_some h
      have p3 : QF T T39 := QF.tr p2 (by rw [eT39]; first | exact qf_uO (oO_k g38).2 (by decide) | exact qf_uA (aA_k g37).2.1 (by decide))
      obtain ⟨g40, h⟩ := oif_some h
      obtain ⟨n41, en41, h⟩ := obind_some h
      obtain ⟨g42, h⟩ := oif_some h
      obtain ⟨n43, en43, h⟩ := obind_some h
      obtain ⟨g44, h⟩ := oif_some h
      obtain ⟨g45, h⟩ := oif_some h
      obtain ⟨v46, -, h⟩ := elet_some h
      obtain ⟨g47, h⟩ := oif_some h
      obtain ⟨g48, h⟩ := oif_some h
      obtain ⟨T49, eT49, h⟩ := elet_some h
      have p4 : QF T T49 := QF.tr p3 (by rw [eT49]; first | exact qf_uO (oO_k g48).2 (by decide) | exact qf_uA (aA_k g47).2.1 (by decide))
      obtain ⟨g50, h⟩ := oif_some h
      obtain ⟨n51, en51, h⟩ := obind_some h
      obtain ⟨g52, h⟩ := oif_some h
      obtain ⟨n53, en53, h⟩ := obind_some h
      obtain ⟨g54, h⟩ := oif_some h
      obtain ⟨g55, h⟩ := oif_some h
      obtain ⟨v56, -, h⟩ := elet_some h
      obtain ⟨g57, h⟩ := oif_some h
      obtain ⟨g58, h⟩ := oif_some h
      obtain ⟨T59, eT59, h⟩ := elet_some h
      have p5 : QF T T59 := QF.tr p4 (by rw [eT59]; first | exact qf_uO (oO_k g58).2 (by decide) | exact qf_uA (aA_k g57).2.1 (by decide))
      obtain ⟨v60, ev60, h⟩ := elet_some h
      exact QF.tr p5 (ih _ _ _ _ h)
set_option maxHeartbeats 4000000 in
set_option maxRecDepth 100000 in
theorem sq_X8_copyFrom_b26 {T1 : AT} : ∀ n : Nat, ∀ (T : AT) (l0 : Nat) (l1 : Nat) (l2 : Int32), g_X8_copyFrom_b26 n T l0 l1 l2 = some T1 → QF T T1 := by
  intro n
  induction n with
  | zero =>
    intro T l0 l1 l2 h
    have h : (none : Option (AT)) = some T1 := h
    cases h
  | succ n ih =>
    intro T l0 l1 l2 h
    have p0 := QF.rf T
    unfold g_X8_copyFrom_b26 at h
    rcases oif_or h with ⟨c2, h⟩ | ⟨c2, h⟩
    · have h := h
      exact QF.tr p0 (sq_X8_copyFrom_b64 _ _ _ _ _ h)
    · have h := h
      obtain ⟨g3, h⟩ := oif_some h
      obtain ⟨n4, en4, h⟩ := obind_some h
      obtain ⟨g5, h⟩ := oif_some h
      obtain ⟨n6, en6, h⟩ := obind_some h
      obtain ⟨g7, h⟩ := oif_some h
      obtain ⟨g8, h⟩ := oif_some h
      obtain ⟨v9, -, h⟩ := elet_some h
      obtain ⟨g10, h⟩ := oif_some h
      obtain ⟨g11, h⟩ := oif_some h
      obtain ⟨gz, h⟩ := oif_some h
      obtain ⟨T12, eT12, h⟩ := elet_some h
      have p1 : QF T T12 := QF.tr p0 (by rw [eT12]; first | exact qf_uO (oO_k g11).2 (by decide) | exact qf_uA (aA_k g10).2.1 (by decide))
      obtain ⟨g13, h⟩ := oif_some h
      obtain ⟨n14, en14, h⟩ := obind_some h
      obtain ⟨g15, h⟩ := oif_some h
      obtain ⟨n16, en16, h⟩ := obind_some h
      obtain ⟨g17, h⟩ := oif_some h
      obtain ⟨g18, h⟩ := oif_some h
      obtain ⟨v19, -, h⟩ := elet_some h
      obtain ⟨g20, h⟩ := oif_some h
      obtain ⟨g21, h⟩ := oif_some h
      obtain ⟨T22, eT22, h⟩ := elet_some h
      have p2 : QF T T22 := QF.tr p1 (by rw [eT22]; first | exact qf_uO (oO_k g21).2 (by decide) | exact qf_uA (aA_k g20).2.1 (by decide))
      obtain ⟨v23, ev23, h⟩ := elet_some h
      exact QF.tr p2 (ih _ _ _ _ h)
set_option maxHeartbeats 4000000 in
set_option maxRecDepth 100000 in
theorem sq_X8_copyFrom {T : AT} {o : Nat} {a0 : Nat} {T1 : AT} (h : g_X8_copyFrom T o a0 = some T1) : QF T T1 := by
  have p0 := QF.rf T
  unfold g_X8_copyFrom at h
  obtain ⟨g2, h⟩ := oif_some h
  obtain ⟨v3, -, h⟩ := elet_some h
  obtain ⟨g4, h⟩ := oif_some h
  obtain ⟨T5, eT5, h⟩ := elet_some h
  have p1 : QF T T5 := QF.tr p0 (by rw [eT5]; first | exact qf_uO (oO_k g4).2 (by decide) | exact qf_uA (aA_k g2).2.1 (by decide))
  obtain ⟨g6, h⟩ := oif_some h
  obtain ⟨v7, -, h⟩ := elet_some h
  obtain ⟨g8, h⟩ := oif_some h
  obtain ⟨T9, eT9, h⟩ := elet_some h
  have p2 : QF T T9 := QF.tr p1 (by rw [eT9]; first | exact qf_uO (oO_k g8).2 (by decide) | exact qf_uA (aA_k g6).2.1 (by decide))
  obtain ⟨g10, h⟩ := oif_some h
  obtain ⟨v11, -, h⟩ := elet_some h
  obtain ⟨g12, h⟩ := oif_some h
  obtain ⟨T13, eT13, h⟩ := elet_some h
  have p3 : QF T T13 := QF.tr p2 (by rw [eT13]; first | exact qf_uO (oO_k g12).2 (by decide) | exact qf_uA (aA_k g10).2.1 (by decide))
  exact QF.tr p3 (sq_X8_copyFrom_b26 _ _ _ _ _ h)
set_option maxHeartbeats 4000000 in
set_option maxRecDepth 100000 in
theorem sq_X8_powerOf_b13 {T1 : AT} : ∀ (T : AT), g_X8_powerOf_b13 T = some T1 → QF T T1 := by
  intro T h
  have p0 := QF.rf T
  unfold g_X8_powerOf_b13 at h
  rw [← osome1 h]
  exact p0
set_option maxHeartbeats 4000000 in
set_option maxRecDepth 100000 in
theorem sq_X8_powerOf {T : AT} {o : Nat} {a0 : Nat} {a1 : Nat} {a2 : Int32} {T1 : AT} (h : g_X8_powerOf T o a0 a1 a2 = some T1) : QF T T1 := by
  have p0 := QF.rf T
  unfold g_X8_powerOf at h
  obtain ⟨g2, h⟩ := oif_some h
  obtain ⟨r4, T3, eT3, h⟩ := obind2_some h
  have p1 : QF T T3 := QF.tr p0 ((sq_X8_windowOf eT3))
  obtain ⟨g5, h⟩ := oif_some h
  obtain ⟨T6, eT6, h⟩ := obind_some h
  have p2 : QF T T6 := QF.tr p1 (sq_X8_blockPowerOf eT6)
  exact QF.tr p2 (sq_X8_powerOf_b13 _ h)
set_option maxHeartbeats 4000000 in
set_option maxRecDepth 100000 in
theorem sq_X10_value_b10 {r1 : Int64} {T1 : AT} : ∀ n : Nat, ∀ (T : AT) (l0 : Nat) (l1 : Int32) (l2 : Int64) (l4 : Int32), g_X10_value_b10 n T l0 l1 l2 l4 = some (r1, T1) → QF T T1 := by
  intro n
  induction n with
  | zero =>
    intro T l0 l1 l2 l4 h
    have h : (none : Option (Int64 × AT)) = some (r1, T1) := h
    cases h
  | succ n ih =>
    intro T l0 l1 l2 l4 h
    have p0 := QF.rf T
    unfold g_X10_value_b10 at h
    rcases oif_or h with ⟨c2, h⟩ | ⟨c2, h⟩
    · have h := h
      rw [← (osome2 h).2]
      exact p0
    · have h := h
      obtain ⟨v3, -, h⟩ := elet_some h
      obtain ⟨g4, h⟩ := oif_some h
      obtain ⟨n5, en5, h⟩ := obind_some h
      obtain ⟨g6, h⟩ := oif_some h
      obtain ⟨g7, h⟩ := oif_some h
      obtain ⟨n8, en8, h⟩ := obind_some h
      obtain ⟨g9, h⟩ := oif_some h
      obtain ⟨g10, h⟩ := oif_some h
      obtain ⟨v11, -, h⟩ := elet_some h
      obtain ⟨v12, -, h⟩ := elet_some h
      obtain ⟨v13, ev13, h⟩ := elet_some h
      exact QF.tr p0 (ih _ _ _ _ _ h)
set_option maxHeartbeats 4000000 in
set_option maxRecDepth 100000 in
theorem sq_X10_value {T : AT} {o : Nat} {a0 : Int32} {r1 : Int64} {T1 : AT} (h : g_X10_value T o a0 = some (r1, T1)) : QF T T1 := by
  have p0 := QF.rf T
  unfold g_X10_value at h
  obtain ⟨g2, h⟩ := oif_some h
  obtain ⟨v3, -, h⟩ := elet_some h
  obtain ⟨v4, -, h⟩ := elet_some h
  exact QF.tr p0 (sq_X10_value_b10 _ _ _ _ _ _ h)
set_option maxHeartbeats 4000000 in
set_option maxRecDepth 100000 in
theorem sq_X11_trialBest_b15 {r1 : Int32} {T1 : AT} : ∀ (T : AT) (l0 : Nat), g_X11_trialBest_b15 T l0 = some (r1, T1) → QF T T1 := by
  intro T l0 h
  have p0 := QF.rf T
  unfold g_X11_trialBest_b15 at h
  obtain ⟨g2, h⟩ := oif_some h
  obtain ⟨n3, en3, h⟩ := obind_some h
  obtain ⟨g4, h⟩ := oif_some h
  obtain ⟨v5, -, h⟩ := elet_some h
  rw [← (osome2 h).2]
  exact p0
set_option maxHeartbeats 4000000 in
set_option maxRecDepth 100000 in
theorem sq_X11_trialBest {T : AT} {o : Nat} {r1 : Int32} {T1 : AT} (h : g_X11_trialBest T o = some (r1, T1)) : QF T T1 := by
  have p0 := QF.rf T
  unfold g_X11_trialBest at h
  obtain ⟨g2, h⟩ := oif_some h
  obtain ⟨n3, en3, h⟩ := obind_some h
  obtain ⟨g4, h⟩ := oif_some h
  obtain ⟨n5, en5, h⟩ := obind_some h
  obtain ⟨g6, h⟩ := oif_some h
  obtain ⟨n7, en7, h⟩ := obind_some h
  obtain ⟨g8, h⟩ := oif_some h
  obtain ⟨T9, eT9, h⟩ := obind_some h
  have p1 : QF T T9 := QF.tr p0 (sq_X4_measure eT9)
  exact QF.tr p1 (sq_X11_trialBest_b15 _ _ h)
set_option maxHeartbeats 4000000 in
set_option maxRecDepth 100000 in
theorem sq_X11_pointPower_b48 {e1 : Nat} {r1 : Int64} {T1 : AT} : ∀ (T : AT) (l0 : Nat), g_X11_pointPower_b48 T l0 = some (e1, r1, T1) → QF T T1 := by
  intro T l0 h
  have p0 := QF.rf T
  unfold g_X11_pointPower_b48 at h
  obtain ⟨g2, h⟩ := oif_some h
  obtain ⟨n3, en3, h⟩ := obind_some h
  obtain ⟨g4, h⟩ := oif_some h
  obtain ⟨r6, T5, eT5, h⟩ := obind2_some h
  have p1 : QF T T5 := QF.tr p0 ((sq_X10_value eT5))
  rw [← (osome3 h).2.2]
  exact p1
end
section
/-! 20a.tok.lean.txt -/
/-! Class and reference read a text alike: tokens by their places -/
theorem ui_get {T : AT} {n k : Nat} {v : Int32} (m j : Nat) : (uI T n k v).2.2.1 m j = if m = n ∧ j = k then v else T.2.2.1 m j := by
  show va_up T.2.2.1 n (upd (T.2.2.1 n) k v) m j = _
  by_cases e : m = n
  · subst e
    rw [va_up_self]
    unfold upd
    by_cases e2 : j = k
    · rw [if_pos e2, if_pos ⟨rfl, e2⟩]
    · rw [if_neg e2, if_neg (fun q => e2 q.2)]
  · rw [va_up_ne _ _ e, if_neg (fun q => e q.1)]
theorem ui_at {T : AT} {n k : Nat} {v : Int32} : (uI T n k v).2.2.1 n k = v := by rw [ui_get, if_pos ⟨rfl, rfl⟩]
theorem ui_ne {T : AT} {n k m j : Nat} {v : Int32} (h : m ≠ n ∨ j ≠ k) : (uI T n k v).2.2.1 m j = T.2.2.1 m j := by
  rw [ui_get, if_neg (fun q => by rcases h with h | h; exact h q.1; exact h q.2)]
theorem mi_ne {S : MS} {k j : Nat} {v : Int32} (h : j ≠ k) : (mi S k v).1 j = S.1 j := by
  show (bif Nat.beq j k then v else S.1 j) = _
  have e : Nat.beq j k = false := Bool.eq_false_iff.mpr (fun q => h (Nat.eq_of_beq_eq_true q))
  rw [e]
  rfl
theorem mi_at {S : MS} {k : Nat} {v : Int32} : (mi S k v).1 k = v := by
  show (bif Nat.beq k k then v else S.1 k) = _
  rw [Nat.beq_refl]
  rfl
theorem othr_k {α β : Type} {x : Option (Nat × α × AT)} {z : β} {f : α → AT → Option (Nat × β × AT)} {e1 : Nat} {r1 : β} {T1 : AT} (h : othr x z f = some (e1, r1, T1)) : (∃ r, x = some (e1, r, T1) ∧ e1 ≠ 0) ∨ ∃ r T, x = some (0, r, T) ∧ f r T = some (e1, r1, T1) := by
  unfold othr at h
  match x, h with
  | none, h => cases h
  | some (0, r, T), h => exact .inr ⟨r, T, rfl, h⟩
  | some (k + 1, r, T), h =>
    have f := osome3 h
    refine .inl ⟨r, ?_, ?_⟩
    · rw [← f.1, ← f.2.2]
    · rw [← f.1]; exact Nat.succ_ne_zero k
def sk1 (b : Nat → Int32) (n : Nat) : Nat → Nat → Nat
  | 0, p => p
  | f + 1, p => if p < n ∧ b p = 32 then sk1 b n f (p + 1) else p
def sk (b : Nat → Int32) (n p : Nat) : Nat := sk1 b n (n - p) p
def rn1 (b : Nat → Int32) (n : Nat) (lo hi : Int32) : Nat → Nat → Nat
  | 0, p => p
  | f + 1, p => if p < n ∧ lo ≤ b p ∧ b p ≤ hi then rn1 b n lo hi f (p + 1) else p
def rn (b : Nat → Int32) (n : Nat) (lo hi : Int32) (p : Nat) : Nat := rn1 b n lo hi (n - p) p
def te (b : Nat → Int32) (n p : Nat) : Nat := if n ≤ p then n else if 97 ≤ b p ∧ b p ≤ 122 then rn b n 97 122 p else if 48 ≤ b p ∧ b p ≤ 57 then rn b n 48 57 p else p + 1
def kd (b : Nat → Int32) (n p : Nat) : Int32 := if n ≤ p then 5 else if 97 ≤ b p ∧ b p ≤ 122 then (if te b n p - p ≤ 8 then 1 else 6) else if 48 ≤ b p ∧ b p ≤ 57 then (if te b n p - p ≤ 4 then 2 else 6) else if b p = 45 then 3 else if b p = 59 then 4 else 6
def pst (b : Nat → Int32) (n : Nat) : Nat → Nat
  | 0 => sk b n 0
  | i + 1 => sk b n (te b n (pst b n i))
def vf (b : Nat → Int32) : Nat → Nat → Int32 → Int32
  | 0, _, a => a
  | k + 1, p, a => vf b k (p + 1) (10 * a + b p - 48)
section
variable {b : Nat → Int32} {n : Nat}
theorem vf_snoc : ∀ (k p : Nat) (a : Int32), vf b (k + 1) p a = 10 * vf b k p a + b (p + k) - 48 := by
  intro k
  induction k with
  | zero => intro p a; rfl
  | succ k ih =>
    intro p a
    show vf b (k + 1) (p + 1) _ = 10 * vf b k (p + 1) _ + _ - _
    rw [ih, show p + 1 + k = p + (k + 1) from by omega]
theorem sk_sp {p : Nat} (h : p < n) (e : b p = 32) : sk b n p = sk b n (p + 1) := by
  unfold sk
  rw [show n - p = (n - (p + 1)) + 1 from by omega]
  show (if p < n ∧ b p = 32 then sk1 b n (n - (p + 1)) (p + 1) else p) = _
  rw [if_pos ⟨h, e⟩]
theorem sk_no {p : Nat} (h : ¬ (p < n ∧ b p = 32)) : sk b n p = p := by
  unfold sk
  cases n - p with
  | zero => rfl
  | succ f =>
    show (if p < n ∧ b p = 32 then sk1 b n f (p + 1) else p) = _
    rw [if_neg h]
theorem sk1_b : ∀ f p : Nat, p + f ≤ n → p ≤ sk1 b n f p ∧ sk1 b n f p ≤ n := by
  intro f
  induction f with
  | zero => intro p h; exact ⟨Nat.le_refl _, h⟩
  | succ f ih =>
    intro p h
    show p ≤ (if p < n ∧ b p = 32 then sk1 b n f (p + 1) else p) ∧ (if p < n ∧ b p = 32 then sk1 b n f (p + 1) else p) ≤ n
    by_cases c : p < n ∧ b p = 32
    · rw [if_pos c]
      have := ih (p + 1) (by omega)
      omega
    · rw [if_neg c]
      omega
theorem sk_b {p : Nat} (h : p ≤ n) : p ≤ sk b n p ∧ sk b n p ≤ n := sk1_b (n - p) p (by omega)
theorem rn_in {lo hi : Int32} {p : Nat} (h : p < n) (h1 : lo ≤ b p) (h2 : b p ≤ hi) : rn b n lo hi p = rn b n lo hi (p + 1) := by
  unfold rn
  rw [show n - p = (n - (p + 1)) + 1 from by omega]
  show (if p < n ∧ lo ≤ b p ∧ b p ≤ hi then rn1 b n lo hi (n - (p + 1)) (p + 1) else p) = _
  rw [if_pos ⟨h, h1, h2⟩]
theorem rn_no {lo hi : Int32} {p : Nat} (h : ¬ (p < n ∧ lo ≤ b p ∧ b p ≤ hi)) : rn b n lo hi p = p := by
  unfold rn
  cases n - p with
  | zero => rfl
  | succ f =>
    show (if p < n ∧ lo ≤ b p ∧ b p ≤ hi then rn1 b n lo hi f (p + 1) else p) = _
    rw [if_neg h]
theorem rn1_b {lo hi : Int32} : ∀ f p : Nat, p + f ≤ n → p ≤ rn1 b n lo hi f p ∧ rn1 b n lo hi f p ≤ n := by
  intro f
  induction f with
  | zero => intro p h; exact ⟨Nat.le_refl _, h⟩
  | succ f ih =>
    intro p h
    show p ≤ (if p < n ∧ lo ≤ b p ∧ b p ≤ hi then rn1 b n lo hi f (p + 1) else p) ∧ (if p < n ∧ lo ≤ b p ∧ b p ≤ hi then rn1 b n lo hi f (p + 1) else p) ≤ n
    by_cases c : p < n ∧ lo ≤ b p ∧ b p ≤ hi
    · rw [if_pos c]
      have := ih (p + 1) (by omega)
      omega
    · rw [if_neg c]
      omega
theorem rn_b {lo hi : Int32} {p : Nat} (h : p ≤ n) : p ≤ rn b n lo hi p ∧ rn b n lo hi p ≤ n := rn1_b (n - p) p (by omega)
theorem te_b {p : Nat} (h : p < n) : p + 1 ≤ te b n p ∧ te b n p ≤ n := by
  unfold te
  rw [if_neg (by omega)]
  by_cases c : 97 ≤ b p ∧ b p ≤ 122
  · rw [if_pos c, rn_in h c.1 c.2]
    exact rn_b (by omega)
  · rw [if_neg c]
    by_cases c : 48 ≤ b p ∧ b p ≤ 57
    · rw [if_pos c, rn_in h c.1 c.2]
      exact rn_b (by omega)
    · rw [if_neg c]
      omega
theorem te_n {p : Nat} (h : n ≤ p) : te b n p = n := by unfold te; rw [if_pos h]
theorem te_le {p : Nat} : te b n p ≤ n := by
  by_cases h : n ≤ p
  · rw [te_n h]; exact Nat.le_refl _
  · exact (te_b (by omega)).2
theorem pst_le (i : Nat) : pst b n i ≤ n := by
  cases i with
  | zero => exact (sk_b (Nat.zero_le _)).2
  | succ i => exact (sk_b te_le).2
theorem kd_n {p : Nat} (h : n ≤ p) : kd b n p = 5 := by unfold kd; rw [if_pos h]
theorem kd_all (p : Nat) : kd b n p = 1 ∨ kd b n p = 2 ∨ kd b n p = 3 ∨ kd b n p = 4 ∨ kd b n p = 5 ∨ kd b n p = 6 := by
  unfold kd
  by_cases c : n ≤ p
  · rw [if_pos c]; simp
  · rw [if_neg c]
    by_cases c : 97 ≤ b p ∧ b p ≤ 122
    · rw [if_pos c]; split <;> simp
    · rw [if_neg c]
      by_cases c : 48 ≤ b p ∧ b p ≤ 57
      · rw [if_pos c]; split <;> simp
      · rw [if_neg c]
        by_cases c : b p = 45
        · rw [if_pos c]; simp
        · rw [if_neg c]; split <;> simp
/-- what the reference's token says -/
def TKR (b : Nat → Int32) (n p : Nat) (t v : Int32) : Prop := (kd b n p = 5 → t = 1) ∧ (kd b n p = 1 → t = 2) ∧ (kd b n p = 2 → t = 3 ∧ v = vf b (te b n p - p) p 0) ∧ (kd b n p = 3 → t = 4 ∧ v = 45) ∧ (kd b n p = 4 → t = 4 ∧ v = 59) ∧ (kd b n p = 6 → t = 0 ∨ t = 4 ∧ v ≠ 45 ∧ v ≠ 59)
theorem tk_end {p : Nat} {t v : Int32} (h : TKR b n p t v) : t = 1 ↔ kd b n p = 5 := by
  obtain ⟨h5, h1, h2, h3, h4, h6⟩ := h
  rcases kd_all (b := b) (n := n) p with e | e | e | e | e | e <;> rw [e] at h1 h2 h3 h4 h5 h6 ⊢
  · rw [h1 rfl]; decide
  · rw [(h2 rfl).1]; decide
  · rw [(h3 rfl).1]; decide
  · rw [(h4 rfl).1]; decide
  · rw [h5 rfl]
    decide
  · rcases h6 rfl with q | q
    · rw [q]; decide
    · rw [q.1]; decide
theorem tk_word {p : Nat} {t v : Int32} (h : TKR b n p t v) : t = 2 ↔ kd b n p = 1 := by
  obtain ⟨h5, h1, h2, h3, h4, h6⟩ := h
  rcases kd_all (b := b) (n := n) p with e | e | e | e | e | e <;> rw [e] at h1 h2 h3 h4 h5 h6 ⊢
  · rw [h1 rfl]; decide
  · rw [(h2 rfl).1]; decide
  · rw [(h3 rfl).1]; decide
  · rw [(h4 rfl).1]; decide
  · rw [h5 rfl]; decide
  · rcases h6 rfl with q | q
    · rw [q]; decide
    · rw [q.1]; decide
theorem tk_num {p : Nat} {t v : Int32} (h : TKR b n p t v) : t = 3 ↔ kd b n p = 2 := by
  obtain ⟨h5, h1, h2, h3, h4, h6⟩ := h
  rcases kd_all (b := b) (n := n) p with e | e | e | e | e | e <;> rw [e] at h1 h2 h3 h4 h5 h6 ⊢
  · rw [h1 rfl]; decide
  · rw [(h2 rfl).1]; decide
  · rw [(h3 rfl).1]; decide
  · rw [(h4 rfl).1]; decide
  · rw [h5 rfl]; decide
  · rcases h6 rfl with q | q
    · rw [q]; decide
    · rw [q.1]; decide
theorem tk_minus {p : Nat} {t v : Int32} (h : TKR b n p t v) : (t = 4 ∧ v = 45) ↔ kd b n p = 3 := by
  obtain ⟨h5, h1, h2, h3, h4, h6⟩ := h
  rcases kd_all (b := b) (n := n) p with e | e | e | e | e | e <;> rw [e] at h1 h2 h3 h4 h5 h6 ⊢
  · rw [h1 rfl]; exact ⟨fun q => absurd q.1 (by decide), fun q => absurd q (by decide)⟩
  · rw [(h2 rfl).1]; exact ⟨fun q => absurd q.1 (by decide), fun q => absurd q (by decide)⟩
  · exact ⟨fun _ => rfl, fun _ => h3 rfl⟩
  · rw [(h4 rfl).2]; exact ⟨fun q => absurd q.2 (by decide), fun q => absurd q (by decide)⟩
  · rw [h5 rfl]; exact ⟨fun q => absurd q.1 (by decide), fun q => absurd q (by decide)⟩
  · refine ⟨fun q => ?_, fun q => absurd q (by decide)⟩
    rcases h6 rfl with w | w
    · rw [w] at q; exact absurd q.1 (by decide)
    · exact absurd q.2 w.2.1
theorem tk_semi {p : Nat} {t v : Int32} (h : TKR b n p t v) : (t = 4 ∧ v = 59) ↔ kd b n p = 4 := by
  obtain ⟨h5, h1, h2, h3, h4, h6⟩ := h
  rcases kd_all (b := b) (n := n) p with e | e | e | e | e | e <;> rw [e] at h1 h2 h3 h4 h5 h6 ⊢
  · rw [h1 rfl]; exact ⟨fun q => absurd q.1 (by decide), fun q => absurd q (by decide)⟩
  · rw [(h2 rfl).1]; exact ⟨fun q => absurd q.1 (by decide), fun q => absurd q (by decide)⟩
  · rw [(h3 rfl).2]; exact ⟨fun q => absurd q.2 (by decide), fun q => absurd q (by decide)⟩
  · exact ⟨fun _ => rfl, fun _ => h4 rfl⟩
  · rw [h5 rfl]; exact ⟨fun q => absurd q.1 (by decide), fun q => absurd q (by decide)⟩
  · refine ⟨fun q => ?_, fun q => absurd q (by decide)⟩
    rcases h6 rfl with w | w
    · rw [w] at q; exact absurd q.1 (by decide)
    · exact absurd q.2 w.2.2
/-! the class cuts -/
def TXR (T : AT) : Prop := T.2.2.2.2 1 0 = some 2 ∧ T.2.2.2.2 1 2 = some 3 ∧ T.2.2.2.2 1 3 = some 4 ∧ T.2.2.2.2 1 4 = some 5 ∧ T.2.2.2.2 6 0 = some 1 ∧ T.2.1 3 = (100, 1001)
def BYq (b : Nat → Int32) (T : AT) : Prop := ∀ k, k < 1000 → T.2.2.1 2 k = b k
theorem q_run {lo hi : Int32} : ∀ (f : Nat) {T : AT} {p : Nat} {r : Int32} {T1 : AT}, TXR T → BYq b T → n ≤ 1000 → p ≤ n → g_X9_runEnd_b3 f T 1 (nI n) lo hi (nI p) = some (r, T1) → r = nI (rn b n lo hi p) ∧ T1 = T := by
  intro f
  induction f with
  | zero => intro T p r T1 hR hB hn hp h; cases h
  | succ f ih =>
    intro T p r T1 hR hB hn hp h
    unfold g_X9_runEnd_b3 at h
    by_cases c : nI n ≤ nI p
    · rw [if_pos c] at h
      have c := (nI_leI (by omega) (by omega)).mp c
      have f := osome2 h
      rw [rn_no (by omega)]
      exact ⟨by rw [← f.1, show p = n from by omega], f.2.symm⟩
    · rw [if_neg c] at h
      have c : p < n := Nat.lt_of_not_le (fun q => c ((nI_leI (by omega) (by omega)).mpr q))
      obtain ⟨-, h⟩ := oif_some h
      obtain ⟨n4, e4, h⟩ := obind_some h
      rw [hR.1] at e4
      cases e4
      obtain ⟨-, h⟩ := oif_some h
      obtain ⟨-, h⟩ := oif_some h
      obtain ⟨v7, e7, h⟩ := elet_some h
      rw [nI_clamp (by omega), hB p (by omega)] at e7
      by_cases c2 : v7 < lo
      · rw [if_pos c2] at h
        unfold g_X9_runEnd_b32 at h
        have f := osome2 h
        rw [rn_no (fun q => Int32.not_lt.mpr q.2.1 (by rw [← e7]; exact c2))]
        exact ⟨f.1.symm, f.2.symm⟩
      · rw [if_neg c2] at h
        obtain ⟨-, h⟩ := oif_some h
        obtain ⟨n10, e10, h⟩ := obind_some h
        rw [hR.1] at e10
        cases e10
        obtain ⟨-, h⟩ := oif_some h
        obtain ⟨-, h⟩ := oif_some h
        obtain ⟨v13, e13, h⟩ := elet_some h
        rw [nI_clamp (by omega), hB p (by omega)] at e13
        by_cases c3 : v13 ≤ hi
        · rw [if_pos c3] at h
          obtain ⟨v15, e15, h⟩ := elet_some h
          have e15 : v15 = nI (p + 1) := e15.trans (nI_1 p)
          rw [e15] at h
          have k := ih hR hB hn (by omega) h
          rw [rn_in c (by rw [← e7]; exact Int32.not_lt.mp c2) (by rw [← e13]; exact c3)]
          exact k
        · rw [if_neg c3] at h
          unfold g_X9_runEnd_b32 at h
          have f := osome2 h
          rw [rn_no (fun q => c3 (by rw [e13]; exact q.2.2))]
          exact ⟨f.1.symm, f.2.symm⟩
theorem q_add {T T1 : AT} {c : Nat} {k st en : Int32} (hR : TXR T) (hc : T.2.2.1 1 5 = nI c) (hc2 : c ≤ 1000) (h : g_X9_add T 1 k st en = some T1) : T1 = uI (uI (uI (uI T 3 c k) 4 c st) 5 c en) 1 5 (nI (c + 1)) := by
  unfold g_X9_add at h
  obtain ⟨-, h⟩ := oif_some h
  obtain ⟨v3, e3, h⟩ := elet_some h
  rw [hc] at e3
  obtain ⟨-, h⟩ := oif_some h
  obtain ⟨n5, e5, h⟩ := obind_some h
  rw [hR.2.1] at e5
  cases e5
  obtain ⟨-, h⟩ := oif_some h
  obtain ⟨v7, e7, h⟩ := elet_some h
  rw [hR.2.2.2.2.2] at e7
  have e7 : v7 = nI 1001 := e7
  rw [if_neg (fun q => by rw [e7, e3] at q; have := (nI_leI (by decide) (by omega)).mp q; omega)] at h
  obtain ⟨-, h⟩ := oif_some h
  obtain ⟨n10, e10, h⟩ := obind_some h
  rw [hR.2.1] at e10
  cases e10
  obtain ⟨-, h⟩ := oif_some h
  obtain ⟨v12, e12, h⟩ := elet_some h
  rw [hc] at e12
  obtain ⟨-, h⟩ := oif_some h
  obtain ⟨-, h⟩ := oif_some h
  obtain ⟨T15, e15, h⟩ := elet_some h
  rw [e12, nI_clamp (by omega)] at e15
  have i15 : T15.2.2.1 1 5 = nI c := by rw [e15, ui_ne (.inl (by decide))]; exact hc
  have r15 : T15.2.2.2.2 = T.2.2.2.2 := by rw [e15]; rfl
  obtain ⟨-, h⟩ := oif_some h
  obtain ⟨n17, e17, h⟩ := obind_some h
  rw [r15, hR.2.2.1] at e17
  cases e17
  obtain ⟨-, h⟩ := oif_some h
  obtain ⟨v19, e19, h⟩ := elet_some h
  rw [i15] at e19
  obtain ⟨-, h⟩ := oif_some h
  obtain ⟨-, h⟩ := oif_some h
  obtain ⟨T22, e22, h⟩ := elet_some h
  rw [e19, nI_clamp (by omega)] at e22
  have i22 : T22.2.2.1 1 5 = nI c := by rw [e22, ui_ne (.inl (by decide))]; exact i15
  have r22 : T22.2.2.2.2 = T.2.2.2.2 := by rw [e22]; exact r15
  obtain ⟨-, h⟩ := oif_some h
  obtain ⟨n24, e24, h⟩ := obind_some h
  rw [r22, hR.2.2.2.1] at e24
  cases e24
  obtain ⟨-, h⟩ := oif_some h
  obtain ⟨v26, e26, h⟩ := elet_some h
  rw [i22] at e26
  obtain ⟨-, h⟩ := oif_some h
  obtain ⟨-, h⟩ := oif_some h
  obtain ⟨T29, e29, h⟩ := elet_some h
  rw [e26, nI_clamp (by omega)] at e29
  have i29 : T29.2.2.1 1 5 = nI c := by rw [e29, ui_ne (.inl (by decide))]; exact i22
  obtain ⟨-, h⟩ := oif_some h
  obtain ⟨v31, e31, h⟩ := elet_some h
  rw [i29] at e31
  obtain ⟨v32, e32, h⟩ := elet_some h
  rw [e31, nI_1] at e32
  obtain ⟨-, h⟩ := oif_some h
  obtain ⟨T34, e34, h⟩ := elet_some h
  unfold g_X9_add_b52 at h
  rw [← osome1 h, e34, e32, e29, e22, e15]
/-- the tokens that are stored -/
def TK1 (b : Nat → Int32) (n : Nat) (T : AT) (j : Nat) : Prop := ∀ i, i < j → T.2.2.1 3 i = kd b n (pst b n i) ∧ T.2.2.1 4 i = nI (pst b n i) ∧ T.2.2.1 5 i = nI (te b n (pst b n i)) ∧ pst b n i < n
def KPq (T T1 : AT) : Prop := T1.1 = T.1 ∧ T1.2.1 = T.2.1 ∧ T1.2.2.2 = T.2.2.2 ∧ ∀ m k, m ≠ 3 → m ≠ 4 → m ≠ 5 → (m ≠ 1 ∨ k ≠ 5) → T1.2.2.1 m k = T.2.2.1 m k
theorem KPq.rf (T : AT) : KPq T T := ⟨rfl, rfl, rfl, fun _ _ _ _ _ _ => rfl⟩
theorem KPq.tr {T T1 T2 : AT} (h : KPq T T1) (k : KPq T1 T2) : KPq T T2 := ⟨k.1.trans h.1, k.2.1.trans h.2.1, k.2.2.1.trans h.2.2.1, fun m j a b c d => (k.2.2.2 m j a b c d).trans (h.2.2.2 m j a b c d)⟩
theorem KPq.txr {T T1 : AT} (h : KPq T T1) (q : TXR T) : TXR T1 := by
  unfold TXR at q ⊢
  rw [h.2.2.1, h.2.1]
  exact q
theorem KPq.by {T T1 : AT} (h : KPq T T1) (q : BYq b T) : BYq b T1 := fun k hk => (h.2.2.2 2 k (by decide) (by decide) (by decide) (.inl (by decide))).trans (q k hk)
theorem q_tok {T T1 : AT} {j p : Nat} {k : Int32} (hR : TXR T) (hn : n ≤ 1000) (hj : j ≤ p) (hp : p < n) (hc : T.2.2.1 1 5 = nI j) (hT : TK1 b n T j) (e : pst b n j = p) (hk : k = kd b n p) (h : g_X9_add T 1 k (nI p) (nI (te b n p)) = some T1) : KPq T T1 ∧ T1.2.2.1 1 5 = nI (j + 1) ∧ TK1 b n T1 (j + 1) := by
  have q := q_add hR hc (by omega) h
  refine ⟨?_, by rw [q, ui_at], fun i hi => ?_⟩
  · rw [q]
    refine ⟨rfl, rfl, rfl, fun m k a3 a4 a5 a1 => ?_⟩
    rw [ui_ne (by omega), ui_ne (.inl a5), ui_ne (.inl a4), ui_ne (.inl a3)]
  · rw [q]
    by_cases c : i = j
    · subst c
      rw [ui_ne (.inl (by decide)), ui_ne (.inl (by decide)), ui_ne (.inl (by decide)), ui_at, ui_ne (.inl (by decide)), ui_ne (.inl (by decide)), ui_at, ui_ne (.inl (by decide)), ui_at, e]
      exact ⟨hk, rfl, rfl, hp⟩
    · rw [ui_ne (.inl (by decide)), ui_ne (.inl (by decide)), ui_ne (.inl (by decide)), ui_ne (.inr c), ui_ne (.inl (by decide)), ui_ne (.inl (by decide)), ui_ne (.inr c), ui_ne (.inl (by decide)), ui_ne (.inl (by decide)), ui_ne (.inr c), ui_ne (.inl (by decide)), ui_ne (.inl (by decide))]
      exact hT i (by omega)
end
end
section
/-! 20b.cut.lean.txt -/
section
variable {b : Nat → Int32} {n : Nat}
theorem q_let {c : Int32} (h1 : ¬ c < 97) (h2 : ¬ 122 < c) : 97 ≤ c ∧ c ≤ 122 := ⟨Int32.not_lt.mp h1, Int32.not_lt.mp h2⟩
theorem nI_dif {p q : Nat} (h : p ≤ q) (hq : q ≤ 2000) : (nI q - nI p).toInt = (q : Int) - p := by
  have a : (nI q).toInt = (q : Int) := nI_toInt (by omega)
  have c : (nI p).toInt = (p : Int) := nI_toInt (by omega)
  rw [i_sub (v := nI q - nI p) rfl (by omega) (by omega), a, c]
theorem q_one {T T1 : AT} {j p : Nat} {r : Int32} (hR : TXR T) (hB : BYq b T) (hn : n ≤ 1000) (hj : j ≤ p) (hp : p < n) (hc : T.2.2.1 1 5 = nI j) (hT : TK1 b n T j) (e : pst b n j = sk b n p) (h : g_X9_cutOne T 1 (nI n) (nI p) = some (r, T1)) : KPq T T1 ∧ ∃ j1 p1, r = nI p1 ∧ p < p1 ∧ p1 ≤ n ∧ j1 ≤ p1 ∧ T1.2.2.1 1 5 = nI j1 ∧ TK1 b n T1 j1 ∧ pst b n j1 = sk b n p1 := by
  have z8 : (8 : Int32).toInt = 8 := by decide
  have z4 : (4 : Int32).toInt = 4 := by decide
  have tb := te_b (b := b) hp
  -- a token that begins here
  have key : ∀ {T2 : AT} {k en : Int32}, ¬ b p = 32 → en = nI (te b n p) → k = kd b n p → g_X9_add T 1 k (nI p) en = some T2 → T1 = T2 → r = en → KPq T T1 ∧ ∃ j1 p1, r = nI p1 ∧ p < p1 ∧ p1 ≤ n ∧ j1 ≤ p1 ∧ T1.2.2.1 1 5 = nI j1 ∧ TK1 b n T1 j1 ∧ pst b n j1 = sk b n p1 := by
    intro T2 k en h32 he hk ha hT1 hr
    have ep : pst b n j = p := e.trans (sk_no (fun q => h32 q.2))
    rw [he] at ha
    obtain ⟨a1, a2, a3⟩ := q_tok hR hn hj hp hc hT ep hk ha
    rw [hT1]
    refine ⟨a1, j + 1, te b n p, hr.trans he, by omega, by omega, by omega, a2, a3, ?_⟩
    show sk b n (te b n (pst b n j)) = _
    rw [ep]
  have r109 : ∀ {l4 : Int32}, ¬ (97 ≤ b p ∧ b p ≤ 122) → ¬ (48 ≤ b p ∧ b p ≤ 57) → l4 = nI (p + 1) → g_X9_cutOne_b109 T 1 (nI p) (b p) l4 = some (r, T1) → KPq T T1 ∧ ∃ j1 p1, r = nI p1 ∧ p < p1 ∧ p1 ≤ n ∧ j1 ≤ p1 ∧ T1.2.2.1 1 5 = nI j1 ∧ TK1 b n T1 j1 ∧ pst b n j1 = sk b n p1 := by
    intro l4 n1 n2 hl h
    have et : te b n p = p + 1 := by unfold te; rw [if_neg (by omega), if_neg n1, if_neg n2]
    have ek : kd b n p = if b p = 45 then 3 else if b p = 59 then 4 else 6 := by unfold kd; rw [if_neg (by omega), if_neg n1, if_neg n2]
    unfold g_X9_cutOne_b109 at h
    by_cases c1 : b p = 45
    · rw [if_pos c1] at h
      obtain ⟨-, h⟩ := oif_some h
      obtain ⟨T4, e4, h⟩ := obind_some h
      unfold g_X9_cutOne_b158 at h
      have f := osome2 h
      exact key (by rw [c1]; decide) (by rw [hl, et]) (by rw [ek, if_pos c1]) e4 f.2.symm f.1.symm
    · rw [if_neg c1] at h
      by_cases c2 : b p = 59
      · rw [if_pos c2] at h
        obtain ⟨-, h⟩ := oif_some h
        obtain ⟨T4, e4, h⟩ := obind_some h
        unfold g_X9_cutOne_b158 at h
        have f := osome2 h
        exact key (by rw [c2]; decide) (by rw [hl, et]) (by rw [ek, if_neg c1, if_pos c2]) e4 f.2.symm f.1.symm
      · rw [if_neg c2] at h
        by_cases c3 : b p = 32
        · rw [if_pos c3] at h
          unfold g_X9_cutOne_b158 at h
          have f := osome2 h
          rw [← f.2, ← f.1]
          exact ⟨KPq.rf T, j, p + 1, hl, by omega, by omega, by omega, hc, hT, e.trans (sk_sp hp c3)⟩
        · rw [if_neg c3] at h
          obtain ⟨-, h⟩ := oif_some h
          obtain ⟨T4, e4, h⟩ := obind_some h
          unfold g_X9_cutOne_b158 at h
          have f := osome2 h
          exact key c3 (by rw [hl, et]) (by rw [ek, if_neg c1, if_neg c2]) e4 f.2.symm f.1.symm
  have r61 : ∀ {l4 : Int32}, ¬ (97 ≤ b p ∧ b p ≤ 122) → l4 = nI (p + 1) → g_X9_cutOne_b61 T 1 (nI n) (nI p) (b p) l4 = some (r, T1) → KPq T T1 ∧ ∃ j1 p1, r = nI p1 ∧ p < p1 ∧ p1 ≤ n ∧ j1 ≤ p1 ∧ T1.2.2.1 1 5 = nI j1 ∧ TK1 b n T1 j1 ∧ pst b n j1 = sk b n p1 := by
    intro l4 n1 hl h
    unfold g_X9_cutOne_b61 at h
    by_cases c1 : b p < 48
    · rw [if_pos c1] at h
      exact r109 n1 (fun q => Int32.not_lt.mpr q.1 c1) hl h
    · rw [if_neg c1] at h
      by_cases c2 : 57 < b p
      · rw [if_pos c2] at h
        exact r109 n1 (fun q => Int32.not_lt.mpr q.2 c2) hl h
      · rw [if_neg c2] at h
        have n2 : 48 ≤ b p ∧ b p ≤ 57 := ⟨Int32.not_lt.mp c1, Int32.not_lt.mp c2⟩
        have et : te b n p = rn b n 48 57 p := by unfold te; rw [if_neg (by omega), if_neg n1, if_pos n2]
        have ek : kd b n p = if te b n p - p ≤ 4 then 2 else 6 := by unfold kd; rw [if_neg (by omega), if_neg n1, if_pos n2]
        obtain ⟨-, h⟩ := oif_some h
        obtain ⟨r7, T5, e5, h⟩ := obind2_some h
        obtain ⟨k1, k2⟩ := q_run 16384 hR hB hn (by omega) e5
        rw [k2] at h
        obtain ⟨v9, e9, h⟩ := elet_some h
        rw [k1, ← et] at e9
        have q9 : v9.toInt = (te b n p : Int) - p := by rw [e9]; exact nI_dif (by omega) (by omega)
        have h32 : ¬ b p = 32 := fun q => by rw [q] at n2; exact absurd n2.1 (by decide)
        by_cases c3 : 4 < v9
        · rw [if_pos c3] at h
          have c3 := i_lt c3
          unfold g_X9_cutOne_b100 at h
          obtain ⟨-, h⟩ := oif_some h
          obtain ⟨T3, e3, h⟩ := obind_some h
          unfold g_X9_cutOne_b158 at h
          have f := osome2 h
          exact key h32 (by rw [k1, et]) (by rw [ek, if_neg (by omega)]) e3 f.2.symm f.1.symm
        · rw [if_neg c3] at h
          have c3 := i_nlt c3
          unfold g_X9_cutOne_b100 at h
          obtain ⟨-, h⟩ := oif_some h
          obtain ⟨T3, e3, h⟩ := obind_some h
          unfold g_X9_cutOne_b158 at h
          have f := osome2 h
          exact key h32 (by rw [k1, et]) (by rw [ek, if_pos (by omega)]) e3 f.2.symm f.1.symm
  unfold g_X9_cutOne at h
  obtain ⟨-, h⟩ := oif_some h
  obtain ⟨n3, e3, h⟩ := obind_some h
  rw [hR.1] at e3
  cases e3
  obtain ⟨-, h⟩ := oif_some h
  obtain ⟨-, h⟩ := oif_some h
  obtain ⟨v6, e6, h⟩ := elet_some h
  rw [nI_clamp (by omega), hB p (by omega)] at e6
  rw [e6] at h
  obtain ⟨v7, e7, h⟩ := elet_some h
  rw [nI_1] at e7
  by_cases c1 : b p < 97
  · rw [if_pos c1] at h
    exact r61 (fun q => Int32.not_lt.mpr q.1 c1) e7 h
  · rw [if_neg c1] at h
    by_cases c2 : 122 < b p
    · rw [if_pos c2] at h
      exact r61 (fun q => Int32.not_lt.mpr q.2 c2) e7 h
    · rw [if_neg c2] at h
      have n1 := q_let c1 c2
      have et : te b n p = rn b n 97 122 p := by unfold te; rw [if_neg (by omega), if_pos n1]
      have ek : kd b n p = if te b n p - p ≤ 8 then 1 else 6 := by unfold kd; rw [if_neg (by omega), if_pos n1]
      obtain ⟨-, h⟩ := oif_some h
      obtain ⟨r7, T5, e5, h⟩ := obind2_some h
      obtain ⟨k1, k2⟩ := q_run 16384 hR hB hn (by omega) e5
      rw [k2] at h
      obtain ⟨v9, e9, h⟩ := elet_some h
      rw [k1, ← et] at e9
      have q9 : v9.toInt = (te b n p : Int) - p := by rw [e9]; exact nI_dif (by omega) (by omega)
      have h32 : ¬ b p = 32 := fun q => by rw [q] at n1; exact absurd n1.1 (by decide)
      by_cases c3 : 8 < v9
      · rw [if_pos c3] at h
        have c3 := i_lt c3
        unfold g_X9_cutOne_b52 at h
        obtain ⟨-, h⟩ := oif_some h
        obtain ⟨T3, e3, h⟩ := obind_some h
        unfold g_X9_cutOne_b158 at h
        have f := osome2 h
        exact key h32 (by rw [k1, et]) (by rw [ek, if_neg (by omega)]) e3 f.2.symm f.1.symm
      · rw [if_neg c3] at h
        have c3 := i_nlt c3
        unfold g_X9_cutOne_b52 at h
        obtain ⟨-, h⟩ := oif_some h
        obtain ⟨T3, e3, h⟩ := obind_some h
        unfold g_X9_cutOne_b158 at h
        have f := osome2 h
        exact key h32 (by rw [k1, et]) (by rw [ek, if_pos (by omega)]) e3 f.2.symm f.1.symm
/-- all tokens: c of them, the last one the end -/
def TKS (b : Nat → Int32) (n : Nat) (T : AT) (c : Nat) : Prop := T.2.2.1 1 5 = nI c ∧ 1 ≤ c ∧ c ≤ 1001 ∧ (∀ i, i < c → T.2.2.1 3 i = kd b n (pst b n i) ∧ T.2.2.1 4 i = nI (pst b n i) ∧ T.2.2.1 5 i = nI (te b n (pst b n i))) ∧ (∀ i, i + 1 < c → pst b n i < n) ∧ pst b n (c - 1) = n
theorem q_cutl : ∀ (f : Nat) {T T1 : AT} {j p i : Nat}, TXR T → BYq b T → n ≤ 1000 → j ≤ p → p ≤ n → i ≤ p → T.2.2.1 1 5 = nI j → TK1 b n T j → pst b n j = sk b n p → g_X9_cut_b9 f T 1 (nI n) (nI p) (nI i) = some T1 → KPq T T1 ∧ ∃ c, TKS b n T1 c := by
  intro f
  induction f with
  | zero => intro T T1 j p i hR hB hn hj hp hi hc hT e h; cases h
  | succ f ih =>
    intro T T1 j p i hR hB hn hj hp hi hc hT e h
    unfold g_X9_cut_b9 at h
    have fin : p = n → g_X9_cut_b32 T 1 (nI n) = some T1 → KPq T T1 ∧ ∃ c, TKS b n T1 c := by
      intro hpn h
      subst hpn
      unfold g_X9_cut_b32 at h
      obtain ⟨-, h⟩ := oif_some h
      obtain ⟨T3, e3, h⟩ := obind_some h
      have q := q_add hR hc (by omega) e3
      have en : pst b p j = p := e.trans (sk_no (by omega))
      rw [← osome1 h]
      refine ⟨?_, j + 1, by rw [q, ui_at], by omega, by omega, fun i hi => ?_, fun i hi => (hT i (by omega)).2.2.2, by rw [Nat.add_sub_cancel]; exact en⟩
      · rw [q]
        refine ⟨rfl, rfl, rfl, fun m k a3 a4 a5 a1 => ?_⟩
        rw [ui_ne (by omega), ui_ne (.inl a5), ui_ne (.inl a4), ui_ne (.inl a3)]
      · rw [q]
        by_cases c : i = j
        · subst c
          rw [ui_ne (.inl (by decide)), ui_ne (.inl (by decide)), ui_ne (.inl (by decide)), ui_at, ui_ne (.inl (by decide)), ui_ne (.inl (by decide)), ui_at, ui_ne (.inl (by decide)), ui_at, en]
          exact ⟨(kd_n (Nat.le_refl _)).symm, rfl, by rw [te_n (Nat.le_refl _)]⟩
        · rw [ui_ne (.inl (by decide)), ui_ne (.inl (by decide)), ui_ne (.inl (by decide)), ui_ne (.inr c), ui_ne (.inl (by decide)), ui_ne (.inl (by decide)), ui_ne (.inr c), ui_ne (.inl (by decide)), ui_ne (.inl (by decide)), ui_ne (.inr c), ui_ne (.inl (by decide)), ui_ne (.inl (by decide))]
          exact ⟨(hT i (by omega)).1, (hT i (by omega)).2.1, (hT i (by omega)).2.2.1⟩
    by_cases c1 : nI n ≤ nI i
    · rw [if_pos c1] at h
      have c1 := (nI_leI (by omega) (by omega)).mp c1
      exact fin (by omega) h
    · rw [if_neg c1] at h
      by_cases c2 : nI n ≤ nI p
      · rw [if_pos c2] at h
        have c2 := (nI_leI (by omega) (by omega)).mp c2
        exact fin (by omega) h
      · rw [if_neg c2] at h
        have c2 : p < n := Nat.lt_of_not_le (fun q => c2 ((nI_leI (by omega) (by omega)).mpr q))
        obtain ⟨-, h⟩ := oif_some h
        obtain ⟨r7, T5, e5, h⟩ := obind2_some h
        obtain ⟨k1, j1, p1, hr, hp1, hp2, hj1, hc1, hT1, e1⟩ := q_one hR hB hn hj c2 hc hT e e5
        obtain ⟨v9, e9, h⟩ := elet_some h
        have e9 : v9 = nI (i + 1) := e9.trans (nI_1 i)
        rw [hr, e9] at h
        obtain ⟨k2, q⟩ := ih (k1.txr hR) (k1.by hB) hn hj1 hp2 (by omega) hc1 hT1 e1 h
        exact ⟨k1.tr k2, q⟩
theorem q_cut {T T1 : AT} (hR : TXR T) (hB : BYq b T) (hn : n ≤ 1000) (h : g_X9_cut T 1 (nI n) = some T1) : KPq T T1 ∧ ∃ c, TKS b n T1 c := by
  unfold g_X9_cut at h
  obtain ⟨-, h⟩ := oif_some h
  obtain ⟨T3, e3, h⟩ := elet_some h
  have k : KPq T T3 := by
    rw [e3]
    exact ⟨rfl, rfl, rfl, fun m k a3 a4 a5 a1 => ui_ne (by omega)⟩
  obtain ⟨k2, q⟩ := q_cutl 16384 (j := 0) (p := 0) (i := 0) (k.txr hR) (k.by hB) hn (Nat.le_refl _) (Nat.zero_le _) (Nat.le_refl _) (by rw [e3, ui_at]; rfl) (fun i hi => absurd hi (Nat.not_lt_zero i)) rfl h
  exact ⟨k.tr k2, q⟩
/-! the reference's next token -/
theorem r_in {v lo hi r : Int32} (h : fr_in v lo hi = some r) : r = if lo ≤ v ∧ v ≤ hi then 1 else 0 := by
  unfold fr_in at h
  by_cases c : v < lo
  · rw [if_pos c] at h
    have h : some (0 : Int32) = some r := h
    rw [if_neg (fun q => Int32.not_lt.mpr q.1 c)]
    exact (osome1 h).symm
  · rw [if_neg c] at h
    by_cases c2 : hi < v
    · rw [if_pos c2] at h
      have h : some (0 : Int32) = some r := h
      rw [if_neg (fun q => Int32.not_lt.mpr q.2 c2)]
      exact (osome1 h).symm
    · rw [if_neg c2] at h
      have h : some (1 : Int32) = some r := h
      rw [if_pos ⟨Int32.not_lt.mp c, Int32.not_lt.mp c2⟩]
      exact (osome1 h).symm
theorem r_byte {S S1 : MS} {p : Nat} {r : Int32} (he : S.1 3 = nI n) (hn : n ≤ 1000) (hp : p ≤ n) (h : fr_byteAt S (nI p) = some (r, S1)) : S1 = S ∧ r = if p < n then S.2.1 1 p else -1 := by
  unfold fr_byteAt at h
  obtain ⟨v2, e2, h⟩ := elet_some h
  rw [he] at e2
  rw [e2] at h
  by_cases c : nI n ≤ nI p
  · rw [if_pos c] at h
    have c := (nI_leI (by omega) (by omega)).mp c
    unfold fr_byteAt_b18 at h
    have f := osome2 h
    rw [if_neg (by omega)]
    exact ⟨f.2.symm, f.1.symm⟩
  · rw [if_neg c] at h
    have c : p < n := Nat.lt_of_not_le (fun q => c ((nI_leI (by omega) (by omega)).mpr q))
    obtain ⟨-, h⟩ := oif_some h
    obtain ⟨v5, e5, h⟩ := elet_some h
    unfold fr_byteAt_b18 at h
    have f := osome2 h
    rw [if_pos c]
    exact ⟨f.2.symm, by rw [← f.1, e5, nI_clamp (by omega)]⟩
def MFq (S S1 : MS) : Prop := S1.2 = S.2 ∧ ∀ k, k ≠ 4 → k ≠ 7 → k ≠ 8 → k ≠ 9 → S1.1 k = S.1 k
theorem MFq.rf (S : MS) : MFq S S := ⟨rfl, fun _ _ _ _ _ => rfl⟩
theorem MFq.tr {S S1 S2 : MS} (h : MFq S S1) (k : MFq S1 S2) : MFq S S2 := ⟨k.1.trans h.1, fun j a c d e => (k.2 j a c d e).trans (h.2 j a c d e)⟩
theorem mq {S S1 : MS} {k : Nat} {v : Int32} (h : MFq S S1) (hk : k = 4 ∨ k = 7 ∨ k = 8 ∨ k = 9) : MFq S (mi S1 k v) := ⟨h.1, fun j a c d e => (mi_ne (by omega)).trans (h.2 j a c d e)⟩
theorem r_let : ∀ (f : Nat) {S S1 : MS} {p q : Nat}, S.2.1 1 = b → S.1 3 = nI n → S.1 4 = nI q → S.1 8 = nI p → p ≤ q → q ≤ n → n ≤ 1000 → fr_nextToken_b79 f S = some S1 → MFq S S1 ∧ S1.1 8 = nI p ∧ S1.1 4 = nI (rn b n 97 122 q) ∧ S1.1 7 = if rn b n 97 122 q - p ≤ 8 then 2 else 0 := by
  have z8 : (8 : Int32).toInt = 8 := by decide
  intro f
  induction f with
  | zero => intro S S1 p q hb h3 h4 h8 hpq hq hn h; cases h
  | succ f ih =>
    intro S S1 p q hb h3 h4 h8 hpq hq hn h
    unfold fr_nextToken_b79 at h
    obtain ⟨v2, e2, h⟩ := elet_some h
    rw [h4] at e2
    rw [e2] at h
    obtain ⟨r6, S3, e3, h⟩ := obind2_some h
    obtain ⟨k1, k2⟩ := r_byte h3 hn hq e3
    rw [k1] at h
    obtain ⟨r7, e7, h⟩ := obind_some h
    have e7 := r_in e7
    by_cases c : q < n ∧ 97 ≤ b q ∧ b q ≤ 122
    · have c7 : r7 = 1 := by rw [e7, k2, if_pos c.1, hb, if_pos c.2]
      rw [if_neg (by rw [c7]; decide)] at h
      obtain ⟨v14, e14, h⟩ := elet_some h
      rw [h4] at e14
      obtain ⟨v15, e15, h⟩ := elet_some h
      rw [e14, nI_1] at e15
      obtain ⟨S16, e16, h⟩ := elet_some h
      have f16 : MFq S S16 := by rw [e16]; exact mq (MFq.rf S) (by omega)
      obtain ⟨a1, a2, a3, a4⟩ := ih (p := p) (q := q + 1) (by rw [f16.1]; exact hb) (by rw [f16.2 3 (by decide) (by decide) (by decide) (by decide)]; exact h3) (by rw [e16, mi_at, e15]) (by rw [e16, mi_ne (by decide)]; exact h8) (by omega) (by omega) hn h
      rw [rn_in c.1 c.2.1 c.2.2]
      exact ⟨f16.tr a1, a2, a3, a4⟩
    · have c7 : r7 = 0 := by
        rw [e7, k2]
        by_cases c1 : q < n
        · rw [if_pos c1, hb, if_neg (fun w => c ⟨c1, w⟩)]
        · rw [if_neg c1]
          decide
      rw [if_pos c7] at h
      obtain ⟨v10, e10, h⟩ := elet_some h
      rw [h4] at e10
      obtain ⟨v11, e11, h⟩ := elet_some h
      rw [h8] at e11
      obtain ⟨v12, e12, h⟩ := elet_some h
      rw [e10, e11] at e12
      have q12 : v12.toInt = (q : Int) - p := by rw [e12]; exact nI_dif hpq (by omega)
      rw [rn_no c]
      by_cases c8 : v12 ≤ 8
      · rw [if_pos c8] at h
        have c8 := i_le c8
        have h : some (mi S 7 2) = some S1 := h
        rw [← osome1 h, if_pos (by omega)]
        exact ⟨mq (MFq.rf S) (by omega), by rw [mi_ne (by decide)]; exact h8, by rw [mi_ne (by decide)]; exact h4, mi_at⟩
      · rw [if_neg c8] at h
        have c8 := i_nle c8
        have h : some (mi S 7 0) = some S1 := h
        rw [← osome1 h, if_neg (by omega)]
        exact ⟨mq (MFq.rf S) (by omega), by rw [mi_ne (by decide)]; exact h8, by rw [mi_ne (by decide)]; exact h4, mi_at⟩
theorem r_dig : ∀ (f : Nat) {S S1 : MS} {p q : Nat}, S.2.1 1 = b → S.1 3 = nI n → S.1 4 = nI q → S.1 8 = nI p → p ≤ q → q ≤ n → n ≤ 1000 → (q - p ≤ 4 → S.1 9 = vf b (q - p) p 0) → fr_nextToken_b159 f S = some S1 → MFq S S1 ∧ S1.1 8 = nI p ∧ S1.1 4 = nI (rn b n 48 57 q) ∧ S1.1 7 = (if rn b n 48 57 q - p ≤ 4 then 3 else 0) ∧ (rn b n 48 57 q - p ≤ 4 → S1.1 9 = vf b (rn b n 48 57 q - p) p 0) := by
  have z4 : (4 : Int32).toInt = 4 := by decide
  intro f
  induction f with
  | zero => intro S S1 p q hb h3 h4 h8 hpq hq hn hv h; cases h
  | succ f ih =>
    intro S S1 p q hb h3 h4 h8 hpq hq hn hv h
    unfold fr_nextToken_b159 at h
    obtain ⟨v2, e2, h⟩ := elet_some h
    rw [h4] at e2
    rw [e2] at h
    obtain ⟨r6, S3, e3, h⟩ := obind2_some h
    obtain ⟨k1, k2⟩ := r_byte h3 hn hq e3
    rw [k1] at h
    obtain ⟨r7, e7, h⟩ := obind_some h
    have e7 := r_in e7
    by_cases c : q < n ∧ 48 ≤ b q ∧ b q ≤ 57
    · have c7 : r7 = 1 := by rw [e7, k2, if_pos c.1, hb, if_pos c.2]
      rw [if_neg (by rw [c7]; decide)] at h
      obtain ⟨v14, e14, h⟩ := elet_some h
      rw [h4] at e14
      obtain ⟨v15, e15, h⟩ := elet_some h
      rw [h8] at e15
      obtain ⟨v16, e16, h⟩ := elet_some h
      rw [e14, e15] at e16
      have q16 : v16.toInt = (q : Int) - p := by rw [e16]; exact nI_dif hpq (by omega)
      have go : ∀ {S2 : MS}, MFq S S2 → S2.1 4 = nI q → S2.1 8 = nI p → (q + 1 - p ≤ 4 → S2.1 9 = vf b (q + 1 - p) p 0) → fr_nextToken_b213 (fr_nextToken_b159 f) S2 = some S1 → MFq S S1 ∧ S1.1 8 = nI p ∧ S1.1 4 = nI (rn b n 48 57 q) ∧ S1.1 7 = (if rn b n 48 57 q - p ≤ 4 then 3 else 0) ∧ (rn b n 48 57 q - p ≤ 4 → S1.1 9 = vf b (rn b n 48 57 q - p) p 0) := by
        intro S2 m2 a4 a8 a9 h
        unfold fr_nextToken_b213 at h
        obtain ⟨w2, d2, h⟩ := elet_some h
        rw [a4] at d2
        obtain ⟨w3, d3, h⟩ := elet_some h
        rw [d2, nI_1] at d3
        obtain ⟨S4, d4, h⟩ := elet_some h
        have f4 : MFq S S4 := by rw [d4]; exact mq m2 (by omega)
        obtain ⟨a1, a2, a3, a5⟩ := ih (p := p) (q := q + 1) (by rw [f4.1]; exact hb) (by rw [f4.2 3 (by decide) (by decide) (by decide) (by decide)]; exact h3) (by rw [d4, mi_at, d3]) (by rw [d4, mi_ne (by decide)]; exact a8) (by omega) (by omega) hn (fun w => by rw [d4, mi_ne (by decide)]; exact a9 w) h
        rw [rn_in c.1 c.2.1 c.2.2]
        exact ⟨f4.tr a1, a2, a3, a5⟩
      by_cases c4 : 4 ≤ v16
      · rw [if_pos c4] at h
        have c4 := i_le c4
        exact go (MFq.rf S) h4 h8 (fun w => absurd w (by omega)) h
      · rw [if_neg c4] at h
        have c4 := i_nle c4
        obtain ⟨v18, e18, h⟩ := elet_some h
        rw [hv (by omega)] at e18
        obtain ⟨v19, e19, h⟩ := elet_some h
        obtain ⟨v20, e20, h⟩ := elet_some h
        rw [h4] at e20
        rw [e20] at h
        obtain ⟨r24, S21, e21, h⟩ := obind2_some h
        obtain ⟨k3, k4⟩ := r_byte h3 hn hq e21
        rw [k3] at h
        rw [if_pos c.1, hb] at k4
        obtain ⟨v25, e25, h⟩ := elet_some h
        obtain ⟨v26, e26, h⟩ := elet_some h
        obtain ⟨S27, e27, h⟩ := elet_some h
        refine go (S2 := S27) (by rw [e27]; exact mq (MFq.rf S) (by omega)) (by rw [e27, mi_ne (by decide)]; exact h4) (by rw [e27, mi_ne (by decide)]; exact h8) (fun _ => ?_) h
        rw [e27, mi_at, e26, e25, k4, e19, e18, show q + 1 - p = (q - p) + 1 from by omega, vf_snoc, show p + (q - p) = q from by omega]
    · have c7 : r7 = 0 := by
        rw [e7, k2]
        by_cases c1 : q < n
        · rw [if_pos c1, hb, if_neg (fun w => c ⟨c1, w⟩)]
        · rw [if_neg c1]
          decide
      rw [if_pos c7] at h
      obtain ⟨v10, e10, h⟩ := elet_some h
      rw [h4] at e10
      obtain ⟨v11, e11, h⟩ := elet_some h
      rw [h8] at e11
      obtain ⟨v12, e12, h⟩ := elet_some h
      rw [e10, e11] at e12
      have q12 : v12.toInt = (q : Int) - p := by rw [e12]; exact nI_dif hpq (by omega)
      rw [rn_no c]
      by_cases c8 : v12 ≤ 4
      · rw [if_pos c8] at h
        have c8 := i_le c8
        have h : some (mi S 7 3) = some S1 := h
        rw [← osome1 h, if_pos (by omega)]
        exact ⟨mq (MFq.rf S) (by omega), by rw [mi_ne (by decide)]; exact h8, by rw [mi_ne (by decide)]; exact h4, mi_at, fun w => by rw [mi_ne (by decide)]; exact hv w⟩
      · rw [if_neg c8] at h
        have c8 := i_nle c8
        have h : some (mi S 7 0) = some S1 := h
        rw [← osome1 h, if_neg (by omega)]
        exact ⟨mq (MFq.rf S) (by omega), by rw [mi_ne (by decide)]; exact h8, by rw [mi_ne (by decide)]; exact h4, mi_at, fun w => by rw [mi_ne (by decide)]; exact hv w⟩
theorem r_sign {v r : Int32} (h : fr_isSign v = some r) (e : v = 45 ∨ v = 59) : r = 1 := by
  rcases e with rfl | rfl
  · have h : some (1 : Int32) = some r := h
    exact (osome1 h).symm
  · have h : some (1 : Int32) = some r := h
    exact (osome1 h).symm
theorem r_tok : ∀ (f : Nat) {S S1 : MS} {p : Nat}, S.2.1 1 = b → S.1 3 = nI n → S.1 4 = nI p → p ≤ n → n ≤ 1000 → fr_nextToken_b8 f S = some S1 → MFq S S1 ∧ S1.1 8 = nI (sk b n p) ∧ S1.1 4 = nI (te b n (sk b n p)) ∧ TKR b n (sk b n p) (S1.1 7) (S1.1 9) := by
  intro f
  induction f with
  | zero => intro S S1 p hb h3 h4 hp hn h; cases h
  | succ f ih =>
    intro S S1 p hb h3 h4 hp hn h
    unfold fr_nextToken_b8 at h
    obtain ⟨v2, e2, h⟩ := elet_some h
    rw [h4] at e2
    rw [e2] at h
    obtain ⟨r6, S3, e3, h⟩ := obind2_some h
    obtain ⟨k1, k2⟩ := r_byte h3 hn hp e3
    rw [k1] at h
    by_cases c : p < n ∧ b p = 32
    · rw [if_pos (by rw [k2, if_pos c.1, hb]; exact c.2)] at h
      obtain ⟨v8, e8, h⟩ := elet_some h
      rw [h4] at e8
      obtain ⟨v9, e9, h⟩ := elet_some h
      rw [e8, nI_1] at e9
      obtain ⟨S10, e10, h⟩ := elet_some h
      have f10 : MFq S S10 := by rw [e10]; exact mq (MFq.rf S) (by omega)
      obtain ⟨a1, a2, a3, a4⟩ := ih (p := p + 1) (by rw [f10.1]; exact hb) (by rw [f10.2 3 (by decide) (by decide) (by decide) (by decide)]; exact h3) (by rw [e10, mi_at, e9]) (by omega) hn h
      rw [sk_sp c.1 c.2]
      exact ⟨f10.tr a1, a2, a3, a4⟩
    · rw [if_neg (fun w => by
        rw [k2] at w
        by_cases c1 : p < n
        · rw [if_pos c1, hb] at w; exact c ⟨c1, w⟩
        · rw [if_neg c1] at w; exact absurd w (by decide))] at h
      rw [sk_no c]
      obtain ⟨v11, e11, h⟩ := elet_some h
      rw [h4] at e11
      obtain ⟨S12, e12, h⟩ := elet_some h
      have m12 : MFq S S12 := by rw [e12]; exact mq (MFq.rf S) (by omega)
      have a8 : S12.1 8 = nI p := by rw [e12, mi_at, e11]
      have a4 : S12.1 4 = nI p := by rw [e12, mi_ne (by decide)]; exact h4
      have a3 : S12.1 3 = nI n := by rw [e12, mi_ne (by decide)]; exact h3
      have ab : S12.2.1 1 = b := by rw [m12.1]; exact hb
      obtain ⟨v13, e13, h⟩ := elet_some h
      rw [a4] at e13
      obtain ⟨v14, e14, h⟩ := elet_some h
      rw [a3] at e14
      by_cases c1 : n = p
      · rw [if_pos (by rw [e13, e14, c1])] at h
        have h : some (mi S12 7 1) = some S1 := h
        rw [← osome1 h]
        have k5 : kd b n p = 5 := kd_n (by omega)
        refine ⟨mq m12 (by omega), by rw [mi_ne (by decide)]; exact a8, by rw [mi_ne (by decide), a4, te_n (by omega), c1], ?_⟩
        rw [mi_at]
        unfold TKR
        rw [k5]
        exact ⟨fun _ => rfl, fun w => absurd w (by decide), fun w => absurd w (by decide), fun w => absurd w (by decide), fun w => absurd w (by decide), fun w => absurd w (by decide)⟩
      · have c1 : p < n := by omega
        rw [if_neg (fun w => by rw [e13, e14] at w; have := (nI_eq (by omega) (by omega)).mp w; omega)] at h
        obtain ⟨v17, e17, h⟩ := elet_some h
        rw [a4] at e17
        rw [e17] at h
        obtain ⟨r21, S18, e18, h⟩ := obind2_some h
        obtain ⟨k3, k4⟩ := r_byte a3 hn hp e18
        rw [if_pos c1, ab] at k4
        rw [k3] at h
        obtain ⟨r22, e22, h⟩ := obind_some h
        have e22 := r_in e22
        rw [k4] at e22
        by_cases n1 : 97 ≤ b p ∧ b p ≤ 122
        · rw [if_pos n1] at e22
          rw [if_neg (by rw [e22]; decide)] at h
          obtain ⟨d1, d2, d3, d4⟩ := r_let 16384 ab a3 a4 a8 (Nat.le_refl _) hp hn h
          have et : te b n p = rn b n 97 122 p := by unfold te; rw [if_neg (by omega), if_pos n1]
          have ek : kd b n p = if te b n p - p ≤ 8 then 1 else 6 := by unfold kd; rw [if_neg (by omega), if_pos n1]
          rw [← et] at d3 d4
          refine ⟨m12.tr d1, d2, d3, ?_⟩
          unfold TKR
          by_cases c8 : te b n p - p ≤ 8
          · rw [if_pos c8] at d4 ek
            rw [ek, d4]
            exact ⟨fun w => absurd w (by decide), fun _ => rfl, fun w => absurd w (by decide), fun w => absurd w (by decide), fun w => absurd w (by decide), fun w => absurd w (by decide)⟩
          · rw [if_neg c8] at d4 ek
            rw [ek, d4]
            exact ⟨fun w => absurd w (by decide), fun w => absurd w (by decide), fun w => absurd w (by decide), fun w => absurd w (by decide), fun w => absurd w (by decide), fun _ => .inl rfl⟩
        · rw [if_neg n1] at e22
          rw [if_pos e22] at h
          obtain ⟨v25, e25, h⟩ := elet_some h
          rw [a4] at e25
          rw [e25] at h
          obtain ⟨r29, S26, e26, h⟩ := obind2_some h
          obtain ⟨k5, k6⟩ := r_byte a3 hn hp e26
          rw [if_pos c1, ab] at k6
          rw [k5] at h
          obtain ⟨r30, e30, h⟩ := obind_some h
          have e30 := r_in e30
          rw [k6] at e30
          by_cases n2 : 48 ≤ b p ∧ b p ≤ 57
          · rw [if_pos n2] at e30
            rw [if_neg (by rw [e30]; decide)] at h
            obtain ⟨S43, e43, h⟩ := elet_some h
            have m43 : MFq S S43 := by rw [e43]; exact mq m12 (by omega)
            obtain ⟨d1, d2, d3, d4, d5⟩ := r_dig (b := b) 16384 (by rw [m43.1]; exact hb) (by rw [e43, mi_ne (by decide)]; exact a3) (by rw [e43, mi_ne (by decide)]; exact a4) (by rw [e43, mi_ne (by decide)]; exact a8) (Nat.le_refl _) hp hn (fun _ => by rw [e43, mi_at, Nat.sub_self]; rfl) h
            have et : te b n p = rn b n 48 57 p := by unfold te; rw [if_neg (by omega), if_neg n1, if_pos n2]
            have ek : kd b n p = if te b n p - p ≤ 4 then 2 else 6 := by unfold kd; rw [if_neg (by omega), if_neg n1, if_pos n2]
            rw [← et] at d3 d4 d5
            refine ⟨m43.tr d1, d2, d3, ?_⟩
            unfold TKR
            by_cases c8 : te b n p - p ≤ 4
            · rw [if_pos c8] at d4 ek
              rw [ek, d4, d5 c8]
              exact ⟨fun w => absurd w (by decide), fun w => absurd w (by decide), fun _ => ⟨rfl, rfl⟩, fun w => absurd w (by decide), fun w => absurd w (by decide), fun w => absurd w (by decide)⟩
            · rw [if_neg c8] at d4 ek
              rw [ek, d4]
              exact ⟨fun w => absurd w (by decide), fun w => absurd w (by decide), fun w => absurd w (by decide), fun w => absurd w (by decide), fun w => absurd w (by decide), fun _ => .inl rfl⟩
          · rw [if_neg n2] at e30
            rw [if_pos e30] at h
            obtain ⟨v33, e33, h⟩ := elet_some h
            rw [a4] at e33
            rw [e33] at h
            obtain ⟨r37, S34, e34, h⟩ := obind2_some h
            obtain ⟨k7, k8⟩ := r_byte a3 hn hp e34
            rw [if_pos c1, ab] at k8
            rw [k7] at h
            obtain ⟨S38, e38, h⟩ := elet_some h
            have m38 : MFq S S38 := by rw [e38]; exact mq m12 (by omega)
            obtain ⟨v39, e39, h⟩ := elet_some h
            rw [e38, mi_at, k8] at e39
            obtain ⟨r40, e40, h⟩ := obind_some h
            have et : te b n p = p + 1 := by unfold te; rw [if_neg (by omega), if_neg n1, if_neg n2]
            have ek : kd b n p = if b p = 45 then 3 else if b p = 59 then 4 else 6 := by unfold kd; rw [if_neg (by omega), if_neg n1, if_neg n2]
            have b38 : S38.1 4 = nI p := by rw [e38, mi_ne (by decide)]; exact a4
            have c38 : S38.1 8 = nI p := by rw [e38, mi_ne (by decide)]; exact a8
            have d38 : S38.1 9 = b p := by rw [e38, mi_at, k8]
            have go : ∀ {t : Int32}, (t = 4 ∨ t = 0 ∧ ¬ (b p = 45 ∨ b p = 59)) → fr_nextToken_b279 S38 t = some S1 → MFq S S1 ∧ S1.1 8 = nI p ∧ S1.1 4 = nI (te b n p) ∧ TKR b n p (S1.1 7) (S1.1 9) := by
              intro t ht h
              unfold fr_nextToken_b279 at h
              obtain ⟨S2, d2, h⟩ := elet_some h
              obtain ⟨w3, d3, h⟩ := elet_some h
              rw [d2, mi_ne (by decide), b38] at d3
              obtain ⟨w4, d4, h⟩ := elet_some h
              rw [d3, nI_1] at d4
              obtain ⟨S5, d5, h⟩ := elet_some h
              have h : some S5 = some S1 := h
              have m5 : MFq S S5 := by rw [d5, d2]; exact mq (mq m38 (by omega)) (by omega)
              rw [← osome1 h]
              have t7 : S5.1 7 = t := by rw [d5, mi_ne (by decide), d2, mi_at]
              have t9 : S5.1 9 = b p := by rw [d5, mi_ne (by decide), d2, mi_ne (by decide), d38]
              refine ⟨m5, by rw [d5, mi_ne (by decide), d2, mi_ne (by decide), c38], by rw [d5, mi_at, d4, et], ?_⟩
              rw [t7, t9]
              unfold TKR
              rw [ek]
              by_cases b45 : b p = 45
              · rw [if_pos b45]
                have t4 : t = 4 := by
                  rcases ht with w | w
                  · exact w
                  · exact absurd (.inl b45) w.2
                exact ⟨fun w => absurd w (by decide), fun w => absurd w (by decide), fun w => absurd w (by decide), fun _ => ⟨t4, b45⟩, fun w => absurd w (by decide), fun w => absurd w (by decide)⟩
              · rw [if_neg b45]
                by_cases b59 : b p = 59
                · rw [if_pos b59]
                  have t4 : t = 4 := by
                    rcases ht with w | w
                    · exact w
                    · exact absurd (.inr b59) w.2
                  exact ⟨fun w => absurd w (by decide), fun w => absurd w (by decide), fun w => absurd w (by decide), fun w => absurd w (by decide), fun _ => ⟨t4, b59⟩, fun w => absurd w (by decide)⟩
                · rw [if_neg b59]
                  refine ⟨fun w => absurd w (by decide), fun w => absurd w (by decide), fun w => absurd w (by decide), fun w => absurd w (by decide), fun w => absurd w (by decide), fun _ => ?_⟩
                  rcases ht with w | w
                  · exact .inr ⟨w, b45, b59⟩
                  · exact .inl w.1
            by_cases c40 : r40 = 0
            · rw [if_pos c40] at h
              refine go (.inr ⟨rfl, fun w => ?_⟩) h
              have := r_sign e40 (by rw [e39]; exact w)
              rw [this] at c40
              exact absurd c40 (by decide)
            · rw [if_neg c40] at h
              exact go (.inl rfl) h
theorem r_next {S S1 : MS} {p : Nat} (hb : S.2.1 1 = b) (h3 : S.1 3 = nI n) (h4 : S.1 4 = nI p) (hp : p ≤ n) (hn : n ≤ 1000) (h5 : S.1 5 = 0) (h : fr_nextToken S = some S1) : MFq S S1 ∧ S1.1 8 = nI (sk b n p) ∧ S1.1 4 = nI (te b n (sk b n p)) ∧ TKR b n (sk b n p) (S1.1 7) (S1.1 9) := by
  unfold fr_nextToken at h
  obtain ⟨v2, e2, h⟩ := elet_some h
  rw [if_pos (by rw [e2, h5]; decide)] at h
  exact r_tok 16384 hb h3 h4 hp hn h
end
end
section
/-! 20c.prim.lean.txt -/
section
variable {b : Nat → Int32} {n c i : Nat} {T T1 : AT} {S S1 : MS}
/-- at token i of c, nothing wrong yet -/
def PRq (b : Nat → Int32) (n c i : Nat) (T : AT) (S : MS) : Prop := (n ≤ 1000 ∧ TXR T ∧ BYq b T ∧ TKS b n T c ∧ i < c ∧ T.2.2.1 6 1 = nI i) ∧ (S.2.1 1 = b ∧ S.1 5 = 0 ∧ S.1 6 = -1 ∧ S.1 3 = nI n ∧ S.1 8 = nI (pst b n i) ∧ S.1 4 = nI (te b n (pst b n i)) ∧ TKR b n (pst b n i) (S.1 7) (S.1 9))
/-- both have found the same fault -/
def ERq (T : AT) (S : MS) : Prop := 0 < (S.1 5).toInt ∧ T.2.2.1 6 2 = S.1 5 ∧ T.2.2.1 6 3 = S.1 6
def TFq (T T1 : AT) : Prop := T1.1 = T.1 ∧ T1.2.1 = T.2.1 ∧ T1.2.2.2 = T.2.2.2 ∧ ∀ m k, m ≠ 6 → T1.2.2.1 m k = T.2.2.1 m k
theorem TFq.rf (T : AT) : TFq T T := ⟨rfl, rfl, rfl, fun _ _ _ => rfl⟩
theorem TFq.tr {T T1 T2 : AT} (h : TFq T T1) (k : TFq T1 T2) : TFq T T2 := ⟨k.1.trans h.1, k.2.1.trans h.2.1, k.2.2.1.trans h.2.2.1, fun m j a => (k.2.2.2 m j a).trans (h.2.2.2 m j a)⟩
theorem tf6 {k : Nat} {v : Int32} : TFq T (uI T 6 k v) := ⟨rfl, rfl, rfl, fun m j a => ui_ne (.inl a)⟩
theorem pr_uI {m k : Nat} {v : Int32} (h : PRq b n c i T S) (hm : 7 ≤ m) : PRq b n c i (uI T m k v) S := by
  obtain ⟨⟨h1, h2, h3, ⟨h4, h5, h6, h7, h8, h9⟩, h10, h11⟩, h12⟩ := h
  refine ⟨⟨h1, h2, fun j hj => ?_, ⟨?_, h5, h6, fun j hj => ?_, h8, h9⟩, h10, ?_⟩, h12⟩
  · rw [ui_ne (by omega)]; exact h3 j hj
  · rw [ui_ne (by omega)]; exact h4
  · rw [ui_ne (by omega), ui_ne (by omega), ui_ne (by omega)]; exact h7 j hj
  · rw [ui_ne (by omega)]; exact h11
theorem pr_mf {a : Nat} {f : Nat → Int32} (h : PRq b n c i T S) (ha : a ≠ 1) : PRq b n c i T (mf S a f) := by
  refine ⟨h.1, ?_, h.2.2⟩
  rw [mf_ne (Ne.symm ha)]
  exact h.2.1
theorem pr_adv (h : PRq b n c i T S) (hk : kd b n (pst b n i) ≠ 5) (hf : fr_nextToken S = some S1) : PRq b n c (i + 1) (uI T 6 1 (nI (i + 1))) S1 ∧ MFq S S1 := by
  obtain ⟨⟨h1, h2, h3, ⟨h4, h5, h6, h7, h8, h9⟩, h10, h11⟩, q1, q5, q6, q3, q8, q4, qt⟩ := h
  obtain ⟨m, a8, a4, at_⟩ := r_next q1 q3 q4 te_le h1 q5 hf
  have hi : i + 1 < c := by
    refine Nat.lt_of_le_of_ne h10 (fun e => hk (kd_n ?_))
    rw [show i = c - 1 from by omega, h9]
    exact Nat.le_refl _
  refine ⟨⟨⟨h1, h2, fun j hj => ?_, ⟨?_, h5, h6, fun j hj => ?_, h8, h9⟩, hi, ui_at⟩, ?_, ?_, ?_, ?_, a8, a4, at_⟩, m⟩
  · rw [ui_ne (by omega)]; exact h3 j hj
  · rw [ui_ne (by omega)]; exact h4
  · rw [ui_ne (by omega), ui_ne (by omega), ui_ne (by omega)]; exact h7 j hj
  · rw [m.1]; exact q1
  · rw [m.2 5 (by decide) (by decide) (by decide) (by decide)]; exact q5
  · rw [m.2 6 (by decide) (by decide) (by decide) (by decide)]; exact q6
  · rw [m.2 3 (by decide) (by decide) (by decide) (by decide)]; exact q3
theorem k_kind {r : Int32} (h : PRq b n c i T S) (hg : g_X3_kind T 6 = some (r, T1)) : r = kd b n (pst b n i) ∧ T1 = T := by
  obtain ⟨⟨h1, ⟨r10, r12, r13, r14, r60, s3⟩, h3, ⟨h4, h5, h6, h7, h8, h9⟩, h10, h11⟩, -⟩ := h
  unfold g_X3_kind at hg
  obtain ⟨-, hg⟩ := oif_some hg
  obtain ⟨v3, e3, hg⟩ := elet_some hg
  rw [h11] at e3
  obtain ⟨-, hg⟩ := oif_some hg
  obtain ⟨n5, e5, hg⟩ := obind_some hg
  rw [r60] at e5
  cases e5
  obtain ⟨-, hg⟩ := oif_some hg
  obtain ⟨v7, e7, hg⟩ := elet_some hg
  rw [h4] at e7
  rw [if_neg (fun q => by rw [e7, e3] at q; have := (nI_leI (by omega) (by omega)).mp q; omega)] at hg
  obtain ⟨-, hg⟩ := oif_some hg
  obtain ⟨n10, e10, hg⟩ := obind_some hg
  rw [r60] at e10
  cases e10
  obtain ⟨-, hg⟩ := oif_some hg
  obtain ⟨n12, e12, hg⟩ := obind_some hg
  rw [r12] at e12
  cases e12
  obtain ⟨-, hg⟩ := oif_some hg
  obtain ⟨v14, e14, hg⟩ := elet_some hg
  rw [h11] at e14
  obtain ⟨-, hg⟩ := oif_some hg
  obtain ⟨-, hg⟩ := oif_some hg
  obtain ⟨v17, e17, hg⟩ := elet_some hg
  rw [e14, nI_clamp (by omega), (h7 i h10).1] at e17
  unfold g_X3_kind_b30 at hg
  have f := osome2 hg
  exact ⟨f.1.symm.trans e17, f.2.symm⟩
theorem k_val1 : ∀ (f : Nat) {q : Nat} {a r : Int32}, PRq b n c i T S → q ≤ te b n (pst b n i) → g_X3_value_b15 f T 6 a (nI q) = some (r, T1) → r = vf b (te b n (pst b n i) - q) q a ∧ T1 = T := by
  intro f
  induction f with
  | zero => intro q a r h hq hg; cases hg
  | succ f ih =>
    intro q a r h hq hg
    have hh := h
    obtain ⟨⟨h1, ⟨r10, r12, r13, r14, r60, s3⟩, h3, ⟨h4, h5, h6, h7, h8, h9⟩, h10, h11⟩, -⟩ := h
    have tl : te b n (pst b n i) ≤ n := te_le
    unfold g_X3_value_b15 at hg
    obtain ⟨-, hg⟩ := oif_some hg
    obtain ⟨n3, e3, hg⟩ := obind_some hg
    rw [r60] at e3
    cases e3
    obtain ⟨-, hg⟩ := oif_some hg
    obtain ⟨n5, e5, hg⟩ := obind_some hg
    rw [r14] at e5
    cases e5
    obtain ⟨-, hg⟩ := oif_some hg
    obtain ⟨v7, e7, hg⟩ := elet_some hg
    rw [h11] at e7
    obtain ⟨-, hg⟩ := oif_some hg
    obtain ⟨-, hg⟩ := oif_some hg
    obtain ⟨v10, e10, hg⟩ := elet_some hg
    rw [e7, nI_clamp (by omega), (h7 i h10).2.2] at e10
    by_cases c1 : v10 ≤ nI q
    · rw [if_pos c1] at hg
      rw [e10] at c1
      have c1 := (nI_leI (by omega) (by omega)).mp c1
      have f := osome2 hg
      rw [show te b n (pst b n i) - q = 0 from by omega]
      exact ⟨f.1.symm, f.2.symm⟩
    · rw [if_neg c1] at hg
      have c1 : q < te b n (pst b n i) := Nat.lt_of_not_le (fun w => c1 (by rw [e10]; exact (nI_leI (by omega) (by omega)).mpr w))
      obtain ⟨v12, e12, hg⟩ := elet_some hg
      obtain ⟨-, hg⟩ := oif_some hg
      obtain ⟨n14, e14, hg⟩ := obind_some hg
      rw [r60] at e14
      cases e14
      obtain ⟨-, hg⟩ := oif_some hg
      obtain ⟨n16, e16, hg⟩ := obind_some hg
      rw [r10] at e16
      cases e16
      obtain ⟨-, hg⟩ := oif_some hg
      obtain ⟨-, hg⟩ := oif_some hg
      obtain ⟨v19, e19, hg⟩ := elet_some hg
      rw [nI_clamp (by omega), h3 q (by omega)] at e19
      obtain ⟨v20, e20, hg⟩ := elet_some hg
      obtain ⟨v21, e21, hg⟩ := elet_some hg
      obtain ⟨v22, e22, hg⟩ := elet_some hg
      have e22 : v22 = nI (q + 1) := e22.trans (nI_1 q)
      rw [e22] at hg
      obtain ⟨k1, k2⟩ := ih hh (by omega) hg
      refine ⟨?_, k2⟩
      rw [show te b n (pst b n i) - q = (te b n (pst b n i) - (q + 1)) + 1 from by omega, k1, e21, e20, e19, e12]
      rfl
theorem pst_te (i : Nat) : pst b n i ≤ te b n (pst b n i) := by
  by_cases h : n ≤ pst b n i
  · rw [te_n h]; exact pst_le i
  · have := (te_b (b := b) (n := n) (p := pst b n i) (by omega)).1
    omega
theorem k_value {r : Int32} (h : PRq b n c i T S) (hg : g_X3_value T 6 = some (r, T1)) : r = vf b (te b n (pst b n i) - pst b n i) (pst b n i) 0 ∧ T1 = T := by
  have hh := h
  obtain ⟨⟨h1, ⟨r10, r12, r13, r14, r60, s3⟩, h3, ⟨h4, h5, h6, h7, h8, h9⟩, h10, h11⟩, -⟩ := h
  unfold g_X3_value at hg
  obtain ⟨-, hg⟩ := oif_some hg
  obtain ⟨n3, e3, hg⟩ := obind_some hg
  rw [r60] at e3
  cases e3
  obtain ⟨-, hg⟩ := oif_some hg
  obtain ⟨n5, e5, hg⟩ := obind_some hg
  rw [r13] at e5
  cases e5
  obtain ⟨-, hg⟩ := oif_some hg
  obtain ⟨v7, e7, hg⟩ := elet_some hg
  rw [h11] at e7
  obtain ⟨-, hg⟩ := oif_some hg
  obtain ⟨-, hg⟩ := oif_some hg
  obtain ⟨v10, e10, hg⟩ := elet_some hg
  rw [e7, nI_clamp (by omega), (h7 i h10).2.1] at e10
  rw [e10] at hg
  exact k_val1 16384 hh (pst_te i) hg
theorem k_failT {j k : Nat} {e r : Int32} (h2 : TXR T) (h4 : T.2.2.1 1 5 = nI c) (h6 : c ≤ 1001) (h7 : ∀ j, j < c → T.2.2.1 4 j = nI (pst b n j)) (hj : j < c) (hg : g_X3_failAt T 6 (nI j) e = some (k, r, T1)) : k = 3 ∧ T1.2.2.1 6 2 = e ∧ T1.2.2.1 6 3 = nI (pst b n j) := by
  obtain ⟨r10, r12, r13, r14, r60, s3⟩ := h2
  unfold g_X3_failAt at hg
  obtain ⟨-, hg⟩ := oif_some hg
  obtain ⟨T3, e3, hg⟩ := elet_some hg
  rw [if_neg (nI_pos (by omega))] at hg
  have i3 : T3.2.2.1 1 5 = nI c := by rw [e3, ui_ne (.inl (by decide))]; exact h4
  have t3 : T3.2.2.1 4 j = nI (pst b n j) := by rw [e3, ui_ne (.inl (by decide))]; exact h7 j hj
  have r3 : T3.2.2.2.2 = T.2.2.2.2 := by rw [e3]; rfl
  obtain ⟨-, hg⟩ := oif_some hg
  obtain ⟨n6, e6, hg⟩ := obind_some hg
  rw [r3, r60] at e6
  cases e6
  obtain ⟨-, hg⟩ := oif_some hg
  obtain ⟨v8, e8, hg⟩ := elet_some hg
  rw [i3] at e8
  rw [if_neg (fun q => by rw [e8] at q; have := (nI_leI (by omega) (by omega)).mp q; omega)] at hg
  obtain ⟨-, hg⟩ := oif_some hg
  obtain ⟨n11, e11, hg⟩ := obind_some hg
  rw [r3, r60] at e11
  cases e11
  obtain ⟨-, hg⟩ := oif_some hg
  obtain ⟨n13, e13, hg⟩ := obind_some hg
  rw [r3, r13] at e13
  cases e13
  obtain ⟨-, hg⟩ := oif_some hg
  obtain ⟨-, hg⟩ := oif_some hg
  obtain ⟨v16, e16, hg⟩ := elet_some hg
  rw [nI_clamp (by omega), t3] at e16
  unfold g_X3_failAt_b34 at hg
  obtain ⟨-, hg⟩ := oif_some hg
  obtain ⟨T4, e4, hg⟩ := elet_some hg
  have f := osome3 hg
  rw [← f.2.2]
  refine ⟨f.1.symm, ?_, ?_⟩
  · rw [e4, ui_ne (.inr (by decide)), e3, ui_at]
  · rw [e4, ui_at, e16]
theorem k_fail {j k : Nat} {e r : Int32} (h : PRq b n c i T S) (hj : j < c) (hg : g_X3_failAt T 6 (nI j) e = some (k, r, T1)) : k = 3 ∧ T1.2.2.1 6 2 = e ∧ T1.2.2.1 6 3 = nI (pst b n j) := k_failT h.1.2.1 h.1.2.2.2.1.1 h.1.2.2.2.1.2.2.1 (fun j hj => (h.1.2.2.2.1.2.2.2.1 j hj).2.1) hj hg
/-! the reference's faults stay -/
theorem st_le (h : 0 < (S.1 5).toInt) {v : Int32} (e : v = S.1 5) : ¬ v ≤ 0 := fun q => by
  have := i_le q
  rw [e] at this
  have z : (0 : Int32).toInt = 0 := by decide
  omega
theorem st_ne (h : 0 < (S.1 5).toInt) {v : Int32} (e : v = S.1 5) : ¬ v = 0 := fun q => by
  rw [← e, q] at h
  exact absurd h (by decide)
theorem st_faults {e : Int32} (h : 0 < (S.1 5).toInt) (hf : fr_faults S e = some S1) : S1 = S := by
  unfold fr_faults at hf
  obtain ⟨v2, e2, hf⟩ := elet_some hf
  rw [if_neg (st_le h e2)] at hf
  exact (osome1 hf).symm
theorem st_next (h : 0 < (S.1 5).toInt) (hf : fr_nextToken S = some S1) : S1 = S := by
  unfold fr_nextToken at hf
  obtain ⟨v2, e2, hf⟩ := elet_some hf
  rw [if_neg (st_le h e2)] at hf
  exact (osome1 hf).symm
theorem st_here {a r : Int32} (h : 0 < (S.1 5).toInt) (hf : fr_isSignHere S a = some (r, S1)) : r = 0 ∧ S1 = S := by
  unfold fr_isSignHere at hf
  obtain ⟨v2, e2, hf⟩ := elet_some hf
  rw [if_neg (st_ne h e2)] at hf
  have f := osome2 (show some ((0 : Int32), S) = some (r, S1) from hf)
  exact ⟨f.1.symm, f.2.symm⟩
theorem st_word {tx : Nat × (Nat → Int32)} {r : Int32} (h : 0 < (S.1 5).toInt) (hf : fr_isWord S tx = some (r, S1)) : r = 0 ∧ S1 = S := by
  unfold fr_isWord at hf
  obtain ⟨v2, e2, hf⟩ := elet_some hf
  rw [if_pos (by rw [e2]; exact Int32.lt_iff_toInt_lt.mpr h)] at hf
  have f := osome2 (show some ((0 : Int32), S) = some (r, S1) from hf)
  exact ⟨f.1.symm, f.2.symm⟩
theorem st_takes {tx : Nat × (Nat → Int32)} {r : Int32} (h : 0 < (S.1 5).toInt) (hf : fr_takes S tx = some (r, S1)) : r = 0 ∧ S1 = S := by
  unfold fr_takes at hf
  obtain ⟨r5, S2, e5, hf⟩ := obind2_some hf
  obtain ⟨k1, k2⟩ := st_word h e5
  rw [if_pos k1, k1, k2] at hf
  have f := osome2 (show some ((0 : Int32), S) = some (r, S1) from hf)
  exact ⟨f.1.symm, f.2.symm⟩
theorem st_keyword {tx : Nat × (Nat → Int32)} (h : 0 < (S.1 5).toInt) (hf : fr_keyword S tx = some S1) : S1 = S := by
  unfold fr_keyword at hf
  obtain ⟨r5, S2, e5, hf⟩ := obind2_some hf
  obtain ⟨k1, k2⟩ := st_takes h e5
  rw [if_pos k1, k2] at hf
  obtain ⟨S7, e7, hf⟩ := obind_some hf
  rw [st_faults h e7] at hf
  exact (osome1 (show some S = some S1 from hf)).symm
theorem st_look {a0 a1 r : Int32} (h : 0 < (S.1 5).toInt) (hf : fr_look S a0 a1 = some (r, S1)) : S1 = S := by
  unfold fr_look at hf
  obtain ⟨v2, e2, hf⟩ := elet_some hf
  rw [if_neg (st_le h e2)] at hf
  exact (osome2 hf).2.symm
theorem st_number {a0 a1 r : Int32} (h : 0 < (S.1 5).toInt) (hf : fr_number S a0 a1 = some (r, S1)) : S1 = S := by
  unfold fr_number at hf
  obtain ⟨r5, S2, e5, hf⟩ := obind2_some hf
  rw [st_look h e5] at hf
  obtain ⟨S6, e6, hf⟩ := obind_some hf
  rw [st_next h e6] at hf
  exact (osome2 hf).2.symm
theorem st_gauge {tx : Nat × (Nat → Int32)} {a0 a1 r : Int32} (h : 0 < (S.1 5).toInt) (hf : fr_gauge S tx a0 a1 = some (r, S1)) : S1 = S := by
  unfold fr_gauge at hf
  obtain ⟨S2, e2, hf⟩ := obind_some hf
  rw [st_keyword h e2] at hf
  obtain ⟨r8, S5, e8, hf⟩ := obind2_some hf
  rw [st_number h e8] at hf
  exact (osome2 hf).2.symm
theorem st_signed {a0 a1 r : Int32} (h : 0 < (S.1 5).toInt) (hf : fr_signed S a0 a1 = some (r, S1)) : S1 = S := by
  unfold fr_signed at hf
  obtain ⟨r5, S2, e5, hf⟩ := obind2_some hf
  obtain ⟨k1, k2⟩ := st_here h e5
  rw [if_pos k1, k1, k2] at hf
  unfold fr_signed_b15 at hf
  rw [if_pos rfl] at hf
  obtain ⟨r6, S3, e6, hf⟩ := obind2_some hf
  rw [st_number h e6] at hf
  exact (osome2 (show some (r6, S) = some (r, S1) from hf)).2.symm
theorem r_fault {e : Int32} (h : S.1 5 = 0) (hf : fr_faults S e = some S1) : S1 = mi (mi S 5 e) 6 (S.1 8) := by
  unfold fr_faults at hf
  obtain ⟨v2, e2, hf⟩ := elet_some hf
  rw [if_pos (by rw [e2, h]; decide)] at hf
  obtain ⟨S4, e4, hf⟩ := elet_some hf
  obtain ⟨v5, e5, hf⟩ := elet_some hf
  obtain ⟨S6, e6, hf⟩ := elet_some hf
  rw [← osome1 hf, e6, e5, e4]
  rfl
/-- class and reference fail at token i with one code -/
theorem k_err {j k : Nat} {e r : Int32} (h : PRq b n c i T S) (hj : j < c) (hij : pst b n j = pst b n i) (he : 0 < e.toInt) (hg : g_X3_failAt T 6 (nI j) e = some (k, r, T1)) (hf : fr_faults S e = some S1) : k = 3 ∧ ERq T1 S1 := by
  obtain ⟨a1, a2, a3⟩ := k_fail h hj hg
  have q := r_fault h.2.2.1 hf
  refine ⟨a1, ?_⟩
  rw [q]
  refine ⟨?_, ?_, ?_⟩
  · rw [mi_ne (by decide), mi_at]; exact he
  · rw [mi_ne (by decide), mi_at, a2]
  · rw [mi_at, a3, hij]; exact h.2.2.2.2.2.1.symm
theorem tin2 {v a0 a1 r : Int32} (h : fr_in v a0 a1 = some r) : r = 1 ∧ a0 ≤ v ∧ v ≤ a1 ∨ r = 0 ∧ ¬ (a0 ≤ v ∧ v ≤ a1) := by
  have q := r_in h
  by_cases c : a0 ≤ v ∧ v ≤ a1
  · rw [if_pos c] at q; exact .inl ⟨q, c⟩
  · rw [if_neg c] at q; exact .inr ⟨q, c⟩
/-- the outcome of a step: both go on, or both have failed alike -/
def OKq (b : Nat → Int32) (n c i : Nat) (T : AT) (S : MS) (T1 : AT) (S1 : MS) : Prop := (∃ j, i < j ∧ PRq b n c j T1 S1) ∧ TFq T T1 ∧ MFq S S1
/-- a number that both look at, taken by the class alone -/
theorem k_look {k : Nat} {a0 a1 r r2 : Int32} (h : PRq b n c i T S) (hg : g_X3_number T 6 a0 a1 = some (k, r, T1)) (hf : fr_look S a0 a1 = some (r2, S1)) : (k = 0 ∧ r2 = r ∧ a0.toInt ≤ r.toInt ∧ r.toInt ≤ a1.toInt ∧ kd b n (pst b n i) = 2 ∧ T1 = uI T 6 1 (nI (i + 1)) ∧ S1 = S) ∨ (k = 3 ∧ ERq T1 S1) := by
  have h11 := h.1.2.2.2.2.2
  have h10 := h.1.2.2.2.2.1
  have q5 := h.2.2.1
  have qt := h.2.2.2.2.2.2.2
  unfold g_X3_number at hg
  obtain ⟨-, hg⟩ := oif_some hg
  obtain ⟨r5, T3, e5, hg⟩ := obind2_some hg
  obtain ⟨k1, k2⟩ := k_kind h e5
  rw [k2] at hg
  have f5 := hf
  unfold fr_look at f5
  obtain ⟨w2, d2, f5⟩ := elet_some f5
  rw [if_pos (by rw [d2, q5]; decide)] at f5
  obtain ⟨w4, d4, f5⟩ := elet_some f5
  by_cases ck : kd b n (pst b n i) = 2
  · rw [if_pos (k1.trans ck)] at hg
    rw [if_pos (d4.trans ((tk_num qt).mpr ck))] at f5
    obtain ⟨w6, d6, f5⟩ := elet_some f5
    rw [(qt.2.2.1 ck).2] at d6
    obtain ⟨w7, d7, f5⟩ := obind_some f5
    unfold g_X3_number_b17 at hg
    obtain ⟨-, hg⟩ := oif_some hg
    obtain ⟨v5, T5, e6, hg⟩ := obind2_some hg
    obtain ⟨k3, k4⟩ := k_value h e6
    rw [k4] at hg
    rw [← k3] at d6
    rw [d6] at d7
    rcases tin2 d7 with ⟨c7, c8, c9⟩ | ⟨c7, c8⟩
    · -- inside
      rw [if_neg (Int32.not_lt.mpr c8), if_pos c9] at hg
      unfold g_X3_number_b41 at hg
      obtain ⟨-, hg⟩ := oif_some hg
      obtain ⟨v3, e3, hg⟩ := elet_some hg
      rw [h11] at e3
      obtain ⟨v4, e4, hg⟩ := elet_some hg
      rw [e3, nI_1] at e4
      obtain ⟨-, hg⟩ := oif_some hg
      obtain ⟨T6, e7, hg⟩ := elet_some hg
      have g := osome3 hg
      rw [if_neg (by rw [c7]; decide)] at f5
      unfold fr_look_b42 at f5
      obtain ⟨w8, d8, f5⟩ := elet_some f5
      rw [if_pos (by rw [d8, q5]; decide)] at f5
      obtain ⟨w9, d9, f5⟩ := elet_some f5
      have g5 := osome2 (show some (w9, S) = some (r2, S1) from f5)
      left
      refine ⟨g.1.symm, ?_, ?_, ?_, ck, ?_, g5.2.symm⟩
      · rw [← g5.1, d9, ← g.2.1, (qt.2.2.1 ck).2, k3]
      · rw [← g.2.1]; exact i_le c8
      · rw [← g.2.1]; exact i_le c9
      · rw [← g.2.2, e7, e4]
    · -- out of bounds
      have hg : g_X3_number_b32 T 6 v5 = some (k, r, T1) := by
        by_cases c1 : v5 < a0
        · rw [if_pos c1] at hg; exact hg
        · rw [if_neg c1] at hg
          rw [if_neg (fun q => c8 ⟨Int32.not_lt.mp c1, q⟩)] at hg
          exact hg
      unfold g_X3_number_b32 at hg
      obtain ⟨-, hg⟩ := oif_some hg
      obtain ⟨v3, e3, hg⟩ := elet_some hg
      rw [h11] at e3
      rw [e3] at hg
      obtain ⟨-, hg⟩ := oif_some hg
      rw [if_pos c7] at f5
      obtain ⟨S10, f10, f5⟩ := obind_some f5
      right
      rcases othr_k hg with ⟨r9, g9, -⟩ | ⟨r9, T9, g9, -⟩
      · obtain ⟨a1, a2⟩ := k_err h h10 rfl (by decide) g9 f10
        have st := a2.1
        unfold fr_look_b42 at f5
        obtain ⟨w8, d8, f5⟩ := elet_some f5
        rw [if_neg (st_le st d8)] at f5
        have g5 := osome2 (show some (a0, S10) = some (r2, S1) from f5)
        rw [← g5.2]
        exact ⟨a1, a2⟩
      · exact absurd (k_err h h10 rfl (by decide) g9 f10).1 (by decide)
  · rw [if_neg (fun q => ck (k1.symm.trans q))] at hg
    rw [if_neg (fun q => ck ((tk_num qt).mp (d4.symm.trans q)))] at f5
    obtain ⟨-, hg⟩ := oif_some hg
    obtain ⟨v9, e9, hg⟩ := elet_some hg
    rw [h11] at e9
    rw [e9] at hg
    obtain ⟨-, hg⟩ := oif_some hg
    obtain ⟨S13, f13, f5⟩ := obind_some f5
    right
    rcases othr_k hg with ⟨r9, g9, -⟩ | ⟨r9, T9, g9, -⟩
    · obtain ⟨a1, a2⟩ := k_err h h10 rfl (by decide) g9 f13
      have st := a2.1
      unfold fr_look_b42 at f5
      obtain ⟨w8, d8, f5⟩ := elet_some f5
      rw [if_neg (st_le st d8)] at f5
      have g5 := osome2 (show some (a0, S13) = some (r2, S1) from f5)
      rw [← g5.2]
      exact ⟨a1, a2⟩
    · exact absurd (k_err h h10 rfl (by decide) g9 f13).1 (by decide)
theorem k_number {k : Nat} {a0 a1 r r2 : Int32} (h : PRq b n c i T S) (hg : g_X3_number T 6 a0 a1 = some (k, r, T1)) (hf : fr_number S a0 a1 = some (r2, S1)) : (k = 0 ∧ r2 = r ∧ a0.toInt ≤ r.toInt ∧ r.toInt ≤ a1.toInt ∧ PRq b n c (i + 1) T1 S1 ∧ TFq T T1 ∧ MFq S S1) ∨ (k = 3 ∧ ERq T1 S1) := by
  unfold fr_number at hf
  obtain ⟨w5, S2, f5, hf⟩ := obind2_some hf
  obtain ⟨S6, f6, hf⟩ := obind_some hf
  have ff := osome2 hf
  rw [← ff.2]
  rcases k_look h hg f5 with ⟨a1, a2, a3, a4, a5, a6, a7⟩ | ⟨a1, a2⟩
  · rw [a7] at f6
    obtain ⟨p1, p2⟩ := pr_adv h (by rw [a5]; decide) f6
    left
    rw [a6]
    exact ⟨a1, ff.1.symm.trans a2, a3, a4, p1, tf6, p2⟩
  · rw [st_next a2.1 f6]
    exact .inr ⟨a1, a2⟩
theorem k_here {a r : Int32} (h : PRq b n c i T S) (ha : a = 45 ∨ a = 59) (hf : fr_isSignHere S a = some (r, S1)) : S1 = S ∧ (r = 1 ∧ kd b n (pst b n i) = (if a = 45 then 3 else 4) ∨ r = 0 ∧ kd b n (pst b n i) ≠ (if a = 45 then 3 else 4)) := by
  have q5 := h.2.2.1
  have qt := h.2.2.2.2.2.2.2
  have key : (S.1 7 = 4 ∧ S.1 9 = a) ↔ kd b n (pst b n i) = (if a = 45 then 3 else 4) := by
    rcases ha with rfl | rfl
    · exact tk_minus qt
    · exact tk_semi qt
  unfold fr_isSignHere at hf
  obtain ⟨v2, e2, hf⟩ := elet_some hf
  rw [if_pos (e2.trans q5)] at hf
  obtain ⟨v4, e4, hf⟩ := elet_some hf
  by_cases c1 : S.1 7 = 4
  · rw [if_pos (e4.trans c1)] at hf
    obtain ⟨v6, e6, hf⟩ := elet_some hf
    by_cases c2 : S.1 9 = a
    · rw [if_pos (e6.trans c2)] at hf
      have f := osome2 (show some ((1 : Int32), S) = some (r, S1) from hf)
      exact ⟨f.2.symm, .inl ⟨f.1.symm, key.mp ⟨c1, c2⟩⟩⟩
    · rw [if_neg (fun q => c2 (e6.symm.trans q))] at hf
      have f := osome2 (show some ((0 : Int32), S) = some (r, S1) from hf)
      exact ⟨f.2.symm, .inr ⟨f.1.symm, fun q => c2 (key.mpr q).2⟩⟩
  · rw [if_neg (fun q => c1 (e4.symm.trans q))] at hf
    have f := osome2 (show some ((0 : Int32), S) = some (r, S1) from hf)
    exact ⟨f.2.symm, .inr ⟨f.1.symm, fun q => c1 (key.mpr q).1⟩⟩
theorem k_signed {k : Nat} {a0 a1 r r2 : Int32} (h : PRq b n c i T S) (hg : g_X3_signed T 6 a0 a1 = some (k, r, T1)) (hf : fr_signed S a0 a1 = some (r2, S1)) : (k = 0 ∧ r2 = r ∧ OKq b n c i T S T1 S1) ∨ (k = 3 ∧ ERq T1 S1) := by
  have h11 := h.1.2.2.2.2.2
  unfold g_X3_signed at hg
  obtain ⟨-, hg⟩ := oif_some hg
  obtain ⟨r5, T3, e5, hg⟩ := obind2_some hg
  obtain ⟨k1, k2⟩ := k_kind h e5
  rw [k2] at hg
  unfold fr_signed at hf
  obtain ⟨w5, S2, f5, hf⟩ := obind2_some hf
  obtain ⟨g1, g2⟩ := k_here h (.inl rfl) f5
  rw [if_pos rfl] at g2
  rw [g1] at hf
  rcases g2 with ⟨w1, ck⟩ | ⟨w1, ck⟩
  · rw [if_pos (k1.trans ck)] at hg
    rw [if_neg (by rw [w1]; decide)] at hf
    obtain ⟨-, hg⟩ := oif_some hg
    obtain ⟨v9, e9, hg⟩ := elet_some hg
    rw [h11] at e9
    obtain ⟨v10, e10, hg⟩ := elet_some hg
    rw [e9, nI_1] at e10
    obtain ⟨-, hg⟩ := oif_some hg
    obtain ⟨T12, e12, hg⟩ := elet_some hg
    obtain ⟨v13, e13, hg⟩ := elet_some hg
    obtain ⟨v14, e14, hg⟩ := elet_some hg
    obtain ⟨-, hg⟩ := oif_some hg
    obtain ⟨S7, f7, hf⟩ := obind_some hf
    obtain ⟨p1, p2⟩ := pr_adv h (by rw [ck]; decide) f7
    rw [← e10, ← e12] at p1
    unfold fr_signed_b15 at hf
    rw [if_neg (by rw [w1]; decide)] at hf
    obtain ⟨w7, d7, hf⟩ := elet_some hf
    obtain ⟨w8, d8, hf⟩ := elet_some hf
    obtain ⟨w12, S9, f12, hf⟩ := obind2_some hf
    obtain ⟨w13, d13, hf⟩ := elet_some hf
    have ff := osome2 (show some (w13, S9) = some (r2, S1) from hf)
    rw [d7, d8] at f12
    rw [e13, e14] at hg
    rcases othr_k hg with ⟨r9, g9, z0⟩ | ⟨r9, T9, g9, hg⟩
    · rcases k_number p1 g9 f12 with ⟨z, -⟩ | ⟨z1, z2⟩
      · exact absurd z z0
      · right; rw [← ff.2]; exact ⟨z1, z2⟩
    · rcases k_number p1 g9 f12 with ⟨-, z1, -, -, z2, z3, z4⟩ | ⟨z1, -⟩
      · obtain ⟨v20, e20, hg⟩ := elet_some hg
        have g := osome3 hg
        left
        refine ⟨g.1.symm, ?_, ⟨i + 1 + 1, by omega, ?_⟩, ?_, ?_⟩
        · rw [← ff.1, d13, z1, ← g.2.1, e20]
        · rw [← ff.2, ← g.2.2]; exact z2
        · rw [← g.2.2]; exact TFq.tr (by rw [e12]; exact tf6) z3
        · rw [← ff.2]; exact p2.tr z4
      · exact absurd z1 (by decide)
  · rw [if_neg (fun q => ck (k1.symm.trans q))] at hg
    rw [if_pos w1] at hf
    obtain ⟨-, hg⟩ := oif_some hg
    unfold fr_signed_b15 at hf
    rw [if_pos w1] at hf
    obtain ⟨w6, S3, f6, hf⟩ := obind2_some hf
    have ff := osome2 (show some (w6, S3) = some (r2, S1) from hf)
    rcases othr_k hg with ⟨r9, g9, z0⟩ | ⟨r9, T9, g9, hg⟩
    · rcases k_number h g9 f6 with ⟨z, -⟩ | ⟨z1, z2⟩
      · exact absurd z z0
      · right; rw [← ff.2]; exact ⟨z1, z2⟩
    · rcases k_number h g9 f6 with ⟨-, z1, -, -, z2, z3, z4⟩ | ⟨z1, -⟩
      · have g := osome3 hg
        left
        refine ⟨g.1.symm, ?_, ⟨i + 1, by omega, ?_⟩, ?_, ?_⟩
        · rw [← ff.1, z1, ← g.2.1]
        · rw [← ff.2, ← g.2.2]; exact z2
        · rw [← g.2.2]; exact z3
        · rw [← ff.2]; exact z4
      · exact absurd z1 (by decide)
/-- a word stands here -/
def WD (b : Nat → Int32) (n p : Nat) (tx : Nat × (Nat → Int32)) : Prop := kd b n p = 1 ∧ te b n p - p = tx.1 ∧ ∀ j, j < tx.1 → b (p + j) = s_ch (tx.2 j)
theorem sh0 (x : Int32) : x >>> (0 &&& 31) = x := by
  have e : (0 &&& 31 : Int32) = 0 := by decide
  rw [e, Int32.shiftRight_zero]
theorem kc_word1 {tx : Nat × (Nat → Int32)} {p : Nat} (ht : tx.1 ≤ 8) (hp : p ≤ 1000) : ∀ (f : Nat) {l : Nat} {r : Int32}, TXR T → BYq b T → p + tx.1 ≤ 1000 → g_X3_isWord_b51 tx f T 6 (nI p) (nI tx.1) (nI l) = some (r, T1) → l ≤ tx.1 → T1 = T ∧ (r = 1 ∧ (∀ j, l ≤ j → j < tx.1 → b (p + j) = s_ch (tx.2 j)) ∨ r = 0 ∧ ¬ ∀ j, l ≤ j → j < tx.1 → b (p + j) = s_ch (tx.2 j)) := by
  intro f
  induction f with
  | zero => intro l r hR hB hn hg hl; cases hg
  | succ f ih =>
    intro l r hR hB hn hg hl
    unfold g_X3_isWord_b51 at hg
    by_cases c1 : nI tx.1 ≤ nI l
    · rw [if_pos c1] at hg
      have c1 := (nI_leI (by omega) (by omega)).mp c1
      have g := osome2 hg
      exact ⟨g.2.symm, .inl ⟨g.1.symm, fun j h1 h2 => absurd h2 (by omega)⟩⟩
    · rw [if_neg c1] at hg
      have c1 : l < tx.1 := Nat.lt_of_not_le (fun w => c1 ((nI_leI (by omega) (by omega)).mpr w))
      obtain ⟨-, hg⟩ := oif_some hg
      obtain ⟨n4, e4, hg⟩ := obind_some hg
      rw [hR.2.2.2.2.1] at e4
      cases e4
      obtain ⟨-, hg⟩ := oif_some hg
      obtain ⟨n6, e6, hg⟩ := obind_some hg
      rw [hR.1] at e6
      cases e6
      obtain ⟨v7, e7, hg⟩ := elet_some hg
      rw [nI_add] at e7
      obtain ⟨-, hg⟩ := oif_some hg
      obtain ⟨-, hg⟩ := oif_some hg
      obtain ⟨v10, e10, hg⟩ := elet_some hg
      rw [e7, nI_clamp (by omega), hB _ (by omega)] at e10
      obtain ⟨-, hg⟩ := oif_some hg
      obtain ⟨v13, e13, hg⟩ := elet_some hg
      rw [nI_clamp (by omega)] at e13
      by_cases c2 : v10 = v13
      · rw [if_pos c2] at hg
        obtain ⟨v15, e15, hg⟩ := elet_some hg
        have e15 : v15 = nI (l + 1) := e15.trans (nI_1 l)
        rw [e15] at hg
        rw [e10, e13] at c2
        obtain ⟨k1, k2⟩ := ih hR hB hn hg (by omega)
        refine ⟨k1, ?_⟩
        rcases k2 with ⟨k2, k3⟩ | ⟨k2, k3⟩
        · refine .inl ⟨k2, fun j h1 h2 => ?_⟩
          by_cases e : j = l
          · rw [e]; exact c2
          · exact k3 j (by omega) h2
        · exact .inr ⟨k2, fun q => k3 (fun j h1 h2 => q j (by omega) h2)⟩
      · rw [if_neg c2] at hg
        rw [e10, e13] at c2
        have g := osome2 hg
        exact ⟨g.2.symm, .inr ⟨g.1.symm, fun q => c2 (q l (Nat.le_refl _) c1)⟩⟩
theorem kr_word1 {tx : Nat × (Nat → Int32)} {p : Nat} (ht : tx.1 ≤ 8) (hp : p ≤ 1000) : ∀ (f : Nat) {l : Nat} {r : Int32}, S.2.1 1 = b → S.1 8 = nI p → p + tx.1 ≤ 1000 → fr_isWord_b35 tx f S (nI l) = some (r, S1) → l ≤ tx.1 → S1 = S ∧ (r = 1 ∧ (∀ j, l ≤ j → j < tx.1 → b (p + j) = s_ch (tx.2 j)) ∨ r = 0 ∧ ¬ ∀ j, l ≤ j → j < tx.1 → b (p + j) = s_ch (tx.2 j)) := by
  intro f
  induction f with
  | zero => intro l r hb h8 hn hf hl; cases hf
  | succ f ih =>
    intro l r hb h8 hn hf hl
    unfold fr_isWord_b35 at hf
    obtain ⟨v3, e3, hf⟩ := elet_some hf
    rw [sh0] at e3
    rw [e3] at hf
    by_cases c1 : nI tx.1 ≤ nI l
    · rw [if_pos c1] at hf
      have c1 := (nI_leI (by omega) (by omega)).mp c1
      have g := osome2 hf
      exact ⟨g.2.symm, .inl ⟨g.1.symm, fun j h1 h2 => absurd h2 (by omega)⟩⟩
    · rw [if_neg c1] at hf
      have c1 : l < tx.1 := Nat.lt_of_not_le (fun w => c1 ((nI_leI (by omega) (by omega)).mpr w))
      obtain ⟨v5, e5, hf⟩ := elet_some hf
      rw [h8] at e5
      obtain ⟨v6, e6, hf⟩ := elet_some hf
      rw [e5, nI_add] at e6
      obtain ⟨-, hf⟩ := oif_some hf
      obtain ⟨v10, e10, hf⟩ := elet_some hf
      rw [e6, nI_clamp (by omega), hb] at e10
      obtain ⟨-, hf⟩ := oif_some hf
      obtain ⟨v13, e13, hf⟩ := elet_some hf
      rw [nI_clamp (by omega)] at e13
      by_cases c2 : v10 = v13
      · rw [if_pos c2] at hf
        obtain ⟨v15, e15, hf⟩ := elet_some hf
        have e15 : v15 = nI (l + 1) := e15.trans (nI_1 l)
        rw [e15] at hf
        rw [e10, e13] at c2
        obtain ⟨k1, k2⟩ := ih hb h8 hn hf (by omega)
        refine ⟨k1, ?_⟩
        rcases k2 with ⟨k2, k3⟩ | ⟨k2, k3⟩
        · refine .inl ⟨k2, fun j h1 h2 => ?_⟩
          by_cases e : j = l
          · rw [e]; exact c2
          · exact k3 j (by omega) h2
        · exact .inr ⟨k2, fun q => k3 (fun j h1 h2 => q j (by omega) h2)⟩
      · rw [if_neg c2] at hf
        rw [e10, e13] at c2
        have g := osome2 hf
        exact ⟨g.2.symm, .inr ⟨g.1.symm, fun q => c2 (q l (Nat.le_refl _) c1)⟩⟩
theorem kc_word {tx : Nat × (Nat → Int32)} {r : Int32} (ht : tx.1 ≤ 8) (h : PRq b n c i T S) (hg : g_X3_isWord T tx 6 = some (r, T1)) : T1 = T ∧ (r = 1 ∧ WD b n (pst b n i) tx ∨ r = 0 ∧ ¬ WD b n (pst b n i) tx) := by
  have hn := h.1.1
  have hR := h.1.2.1
  have hB := h.1.2.2.1
  have h7 := h.1.2.2.2.1.2.2.2.1
  have h10 := h.1.2.2.2.2.1
  have h11 := h.1.2.2.2.2.2
  have hc := h.1.2.2.2.1.2.2.1
  have pt := pst_te (b := b) (n := n) i
  have tl := te_le (b := b) (n := n) (p := pst b n i)
  unfold g_X3_isWord at hg
  obtain ⟨-, hg⟩ := oif_some hg
  obtain ⟨r5, T3, e5, hg⟩ := obind2_some hg
  obtain ⟨k1, k2⟩ := k_kind h e5
  rw [k2] at hg
  by_cases ck : kd b n (pst b n i) = 1
  · rw [if_pos (k1.trans ck)] at hg
    obtain ⟨-, hg⟩ := oif_some hg
    obtain ⟨n9, e9, hg⟩ := obind_some hg
    rw [hR.2.2.2.2.1] at e9
    cases e9
    obtain ⟨-, hg⟩ := oif_some hg
    obtain ⟨n11, e11, hg⟩ := obind_some hg
    rw [hR.2.2.1] at e11
    cases e11
    obtain ⟨-, hg⟩ := oif_some hg
    obtain ⟨v13, e13, hg⟩ := elet_some hg
    rw [h11] at e13
    obtain ⟨-, hg⟩ := oif_some hg
    obtain ⟨-, hg⟩ := oif_some hg
    obtain ⟨v16, e16, hg⟩ := elet_some hg
    rw [e13, nI_clamp (by omega), (h7 i h10).2.1] at e16
    obtain ⟨-, hg⟩ := oif_some hg
    obtain ⟨n18, e18, hg⟩ := obind_some hg
    rw [hR.2.2.2.2.1] at e18
    cases e18
    obtain ⟨-, hg⟩ := oif_some hg
    obtain ⟨n20, e20, hg⟩ := obind_some hg
    rw [hR.2.2.2.1] at e20
    cases e20
    obtain ⟨-, hg⟩ := oif_some hg
    obtain ⟨v22, e22, hg⟩ := elet_some hg
    rw [h11] at e22
    obtain ⟨-, hg⟩ := oif_some hg
    obtain ⟨-, hg⟩ := oif_some hg
    obtain ⟨v25, e25, hg⟩ := elet_some hg
    rw [e22, nI_clamp (by omega), (h7 i h10).2.2] at e25
    obtain ⟨v26, e26, hg⟩ := elet_some hg
    rw [e25, e16] at e26
    obtain ⟨v28, e28, hg⟩ := elet_some hg
    rw [sh0] at e28
    have q26 : v26.toInt = (te b n (pst b n i) : Int) - pst b n i := by rw [e26]; exact nI_dif pt (by omega)
    have q28 : v28.toInt = (tx.1 : Int) := by rw [e28]; exact nI_toInt (by omega)
    by_cases cl : v26 = v28
    · rw [if_pos cl] at hg
      rw [cl] at q26 hg
      rw [e28, e16] at hg
      obtain ⟨a1, a2⟩ := kc_word1 (l := 0) ht (by omega) 16384 hR hB (by omega) hg (Nat.zero_le _)
      refine ⟨a1, ?_⟩
      rcases a2 with ⟨a2, a3⟩ | ⟨a2, a3⟩
      · exact .inl ⟨a2, ck, by omega, fun j hj => a3 j (Nat.zero_le _) hj⟩
      · exact .inr ⟨a2, fun q => a3 (fun j _ hj => q.2.2 j hj)⟩
    · rw [if_neg cl] at hg
      have g := osome2 hg
      exact ⟨g.2.symm, .inr ⟨g.1.symm, fun q => cl (Int32.toInt_inj.mp (by rw [q26, q28]; have := q.2.1; omega))⟩⟩
  · rw [if_neg (fun q => ck (k1.symm.trans q))] at hg
    have g := osome2 hg
    exact ⟨g.2.symm, .inr ⟨g.1.symm, fun q => ck q.1⟩⟩
theorem kr_word {tx : Nat × (Nat → Int32)} {r : Int32} (ht : tx.1 ≤ 8) (h : PRq b n c i T S) (hf : fr_isWord S tx = some (r, S1)) : S1 = S ∧ (r = 1 ∧ WD b n (pst b n i) tx ∨ r = 0 ∧ ¬ WD b n (pst b n i) tx) := by
  have hn := h.1.1
  have q5 := h.2.2.1
  have q8 := h.2.2.2.2.2.1
  have q4 := h.2.2.2.2.2.2.1
  have qt := h.2.2.2.2.2.2.2
  have pt := pst_te (b := b) (n := n) i
  have tl := te_le (b := b) (n := n) (p := pst b n i)
  unfold fr_isWord at hf
  obtain ⟨w2, d2, hf⟩ := elet_some hf
  rw [if_neg (by rw [d2, q5]; decide)] at hf
  obtain ⟨w4, d4, hf⟩ := elet_some hf
  by_cases ck : kd b n (pst b n i) = 1
  · rw [if_pos (d4.trans ((tk_word qt).mpr ck))] at hf
    obtain ⟨w6, d6, hf⟩ := elet_some hf
    rw [q4] at d6
    obtain ⟨w7, d7, hf⟩ := elet_some hf
    rw [q8] at d7
    obtain ⟨w8, d8, hf⟩ := elet_some hf
    rw [d6, d7] at d8
    obtain ⟨w10, d10, hf⟩ := elet_some hf
    rw [sh0] at d10
    have a8 : w8.toInt = (te b n (pst b n i) : Int) - pst b n i := by rw [d8]; exact nI_dif pt (by omega)
    have a10 : w10.toInt = (tx.1 : Int) := by rw [d10]; exact nI_toInt (by omega)
    by_cases cl : w8 = w10
    · rw [if_pos cl] at hf
      rw [cl] at a8
      obtain ⟨a1, a2⟩ := kr_word1 (l := 0) ht (by omega) 16384 h.2.1 q8 (by omega) hf (Nat.zero_le _)
      refine ⟨a1, ?_⟩
      rcases a2 with ⟨a2, a3⟩ | ⟨a2, a3⟩
      · exact .inl ⟨a2, ck, by omega, fun j hj => a3 j (Nat.zero_le _) hj⟩
      · exact .inr ⟨a2, fun q => a3 (fun j _ hj => q.2.2 j hj)⟩
    · rw [if_neg cl] at hf
      have g := osome2 (show some ((0 : Int32), S) = some (r, S1) from hf)
      exact ⟨g.2.symm, .inr ⟨g.1.symm, fun q => cl (Int32.toInt_inj.mp (by rw [a8, a10]; have := q.2.1; omega))⟩⟩
  · rw [if_neg (fun q => ck ((tk_word qt).mp (d4.symm.trans q)))] at hf
    have g := osome2 (show some ((0 : Int32), S) = some (r, S1) from hf)
    exact ⟨g.2.symm, .inr ⟨g.1.symm, fun q => ck q.1⟩⟩
/-- two words can't both stand at one place -/
def wxq (t u : Nat × (Nat → Int32)) : Bool := (!(Nat.beq t.1 u.1)) || (List.range t.1).any (fun j => !(decide (s_ch (t.2 j) = s_ch (u.2 j))))
theorem wx {t u : Nat × (Nat → Int32)} {p : Nat} (h : wxq t u = true) (a : WD b n p t) : ¬ WD b n p u := fun d => by
  unfold wxq at h
  rcases (Bool.or_eq_true _ _).mp h with h | h
  · have e : t.1 = u.1 := a.2.1.symm.trans d.2.1
    rw [e, Nat.beq_refl] at h
    cases h
  · obtain ⟨j, hj, q⟩ := List.any_eq_true.mp h
    have hj := List.mem_range.mp hj
    have e : s_ch (t.2 j) = s_ch (u.2 j) := (a.2.2 j hj).symm.trans (d.2.2 j (by rw [← d.2.1, a.2.1]; exact hj))
    rw [decide_eq_true e] at q
    cases q
theorem k_take {tx : Nat × (Nat → Int32)} {k : Nat} {r : Int32} (ht : tx.1 ≤ 8) (h : PRq b n c i T S) (hg : g_X3_takeWord T tx 6 = some (k, r, T1)) (hf : fr_keyword S tx = some S1) : (k = 0 ∧ OKq b n c i T S T1 S1) ∨ (k = 3 ∧ ERq T1 S1) := by
  have h11 := h.1.2.2.2.2.2
  have h10 := h.1.2.2.2.2.1
  unfold g_X3_takeWord at hg
  obtain ⟨-, hg⟩ := oif_some hg
  obtain ⟨r5, T3, e5, hg⟩ := obind2_some hg
  unfold fr_keyword at hf
  obtain ⟨w5, S2, f5, hf⟩ := obind2_some hf
  unfold fr_takes at f5
  obtain ⟨u5, S3, f6, f5⟩ := obind2_some f5
  obtain ⟨k2, k4⟩ := kc_word ht h e5
  obtain ⟨k3, k5⟩ := kr_word ht h f6
  rw [k2] at hg
  rw [k3] at f5
  by_cases c0 : WD b n (pst b n i) tx
  · have z1 : r5 = 1 := by
      rcases k4 with q | q
      · exact q.1
      · exact absurd c0 q.2
    have z2 : u5 = 1 := by
      rcases k5 with q | q
      · exact q.1
      · exact absurd c0 q.2
    rw [if_neg (by rw [z1]; decide)] at hg
    rw [if_neg (by rw [z2]; decide)] at f5
    obtain ⟨S7, f7, f5⟩ := obind_some f5
    unfold fr_takes_b14 at f5
    obtain ⟨-, f5⟩ := oif_some f5
    have g5 := osome2 f5
    rw [← g5.1, ← g5.2, if_neg (by rw [z2]; decide)] at hf
    have g7 := osome1 (show some S7 = some S1 from hf)
    rw [← g7]
    obtain ⟨p1, p2⟩ := pr_adv h (by rw [c0.1]; decide) f7
    unfold g_X3_takeWord_b17 at hg
    obtain ⟨-, hg⟩ := oif_some hg
    obtain ⟨v3, e3, hg⟩ := elet_some hg
    rw [h11] at e3
    obtain ⟨v4, e4, hg⟩ := elet_some hg
    rw [e3, nI_1] at e4
    obtain ⟨-, hg⟩ := oif_some hg
    obtain ⟨T6, e6, hg⟩ := elet_some hg
    have g := osome3 hg
    left
    refine ⟨g.1.symm, ⟨i + 1, by omega, ?_⟩, ?_, p2⟩
    · rw [← g.2.2, e6, e4]; exact p1
    · rw [← g.2.2, e6]; exact tf6
  · have z1 : r5 = 0 := by
      rcases k4 with q | q
      · exact absurd q.2 c0
      · exact q.1
    have z2 : u5 = 0 := by
      rcases k5 with q | q
      · exact absurd q.2 c0
      · exact q.1
    rw [if_pos z1] at hg
    rw [if_pos z2] at f5
    unfold fr_takes_b14 at f5
    obtain ⟨-, f5⟩ := oif_some f5
    have g5 := osome2 f5
    rw [← g5.1, ← g5.2, if_pos z2] at hf
    obtain ⟨S7, f7, hf⟩ := obind_some hf
    have g7 := osome1 (show some S7 = some S1 from hf)
    rw [← g7]
    obtain ⟨-, hg⟩ := oif_some hg
    obtain ⟨v9, e9, hg⟩ := elet_some hg
    rw [h11] at e9
    rw [e9] at hg
    obtain ⟨-, hg⟩ := oif_some hg
    right
    rcases othr_k hg with ⟨r9, g9, -⟩ | ⟨r9, T9, g9, -⟩
    · exact k_err h h10 rfl (by decide) g9 f7
    · exact absurd (k_err h h10 rfl (by decide) g9 f7).1 (by decide)
/-- the beginning of a line, refused or not -/
theorem k_start {k : Nat} {a0 e r : Int32} (h : PRq b n c i T S) (hg : g_X3_startLine T 6 a0 e = some (k, r, T1)) : (a0 = 0 ∧ k = 0 ∧ T1 = uI T 6 1 (nI (i + 1))) ∨ (a0 ≠ 0 ∧ ∃ r9, g_X3_failAt T 6 (nI i) e = some (k, r9, T1)) := by
  have h11 := h.1.2.2.2.2.2
  have h10 := h.1.2.2.2.2.1
  unfold g_X3_startLine at hg
  by_cases c0 : a0 = 0
  · rw [if_pos c0] at hg
    unfold g_X3_startLine_b13 at hg
    obtain ⟨-, hg⟩ := oif_some hg
    obtain ⟨v3, e3, hg⟩ := elet_some hg
    rw [h11] at e3
    obtain ⟨v4, e4, hg⟩ := elet_some hg
    rw [e3, nI_1] at e4
    obtain ⟨-, hg⟩ := oif_some hg
    obtain ⟨T6, e6, hg⟩ := elet_some hg
    have g := osome3 hg
    exact .inl ⟨c0, g.1.symm, by rw [← g.2.2, e6, e4]⟩
  · rw [if_neg c0] at hg
    obtain ⟨-, hg⟩ := oif_some hg
    obtain ⟨v4, e4, hg⟩ := elet_some hg
    rw [h11] at e4
    rw [e4] at hg
    obtain ⟨-, hg⟩ := oif_some hg
    rcases othr_k hg with ⟨r9, g9, -⟩ | ⟨r9, T9, g9, -⟩
    · exact .inr ⟨c0, r9, g9⟩
    · exact absurd (k_fail h h10 g9).1 (by decide)
/-- the beginning of a line on both sides -/
theorem k_line {k : Nat} {a0 e r : Int32} {S2 S3 : MS} (h : PRq b n c i T S) (hk : kd b n (pst b n i) = 1) (he : 0 < e.toInt) (hg : g_X3_startLine T 6 a0 e = some (k, r, T1)) (hf : (a0 = 0 ∧ S2 = S) ∨ (a0 ≠ 0 ∧ fr_faults S e = some S2)) (hn : fr_nextToken S2 = some S3) : (k = 0 ∧ PRq b n c (i + 1) T1 S3 ∧ TFq T T1 ∧ MFq S S3 ∧ a0 = 0) ∨ (k = 3 ∧ ERq T1 S3) := by
  rcases k_start h hg with ⟨a, k0, e1⟩ | ⟨a, r9, g9⟩
  · rcases hf with ⟨-, f⟩ | ⟨f, -⟩
    · rw [f] at hn
      obtain ⟨p1, p2⟩ := pr_adv h (by rw [hk]; decide) hn
      left
      rw [e1]
      exact ⟨k0, p1, tf6, p2, a⟩
    · exact absurd a f
  · rcases hf with ⟨f, -⟩ | ⟨-, f⟩
    · exact absurd f a
    · obtain ⟨a1, a2⟩ := k_err h h.1.2.2.2.2.1 rfl he g9 f
      rw [st_next a2.1 hn]
      exact .inr ⟨a1, a2⟩
theorem rn1_all {lo hi : Int32} : ∀ (f p q : Nat), p ≤ q → q < rn1 b n lo hi f p → lo ≤ b q ∧ b q ≤ hi := by
  intro f
  induction f with
  | zero => intro p q h1 h2; exact absurd (show q < p from h2) (by omega)
  | succ f ih =>
    intro p q h1 h2
    have h2 : q < (if p < n ∧ lo ≤ b p ∧ b p ≤ hi then rn1 b n lo hi f (p + 1) else p) := h2
    by_cases c1 : p < n ∧ lo ≤ b p ∧ b p ≤ hi
    · rw [if_pos c1] at h2
      by_cases e : q = p
      · rw [e]; exact c1.2
      · exact ih (p + 1) q (by omega) h2
    · rw [if_neg c1] at h2
      omega
theorem dg_all {p : Nat} (hk : kd b n p = 2) : te b n p - p ≤ 4 ∧ ∀ q, p ≤ q → q < te b n p → 48 ≤ b q ∧ b q ≤ 57 := by
  unfold kd at hk
  by_cases c0 : n ≤ p
  · rw [if_pos c0] at hk; exact absurd hk (by decide)
  rw [if_neg c0] at hk
  by_cases c1 : 97 ≤ b p ∧ b p ≤ 122
  · rw [if_pos c1] at hk
    by_cases c2 : te b n p - p ≤ 8
    · rw [if_pos c2] at hk; exact absurd hk (by decide)
    · rw [if_neg c2] at hk; exact absurd hk (by decide)
  rw [if_neg c1] at hk
  by_cases c2 : 48 ≤ b p ∧ b p ≤ 57
  · rw [if_pos c2] at hk
    by_cases c3 : te b n p - p ≤ 4
    · refine ⟨c3, fun q h1 h2 => ?_⟩
      have et : te b n p = rn b n 48 57 p := by unfold te; rw [if_neg c0, if_neg c1, if_pos c2]
      rw [et] at h2
      exact rn1_all _ _ _ h1 h2
    · rw [if_neg c3] at hk; exact absurd hk (by decide)
  rw [if_neg c2] at hk
  by_cases c3 : b p = 45
  · rw [if_pos c3] at hk; exact absurd hk (by decide)
  rw [if_neg c3] at hk
  by_cases c4 : b p = 59
  · rw [if_pos c4] at hk; exact absurd hk (by decide)
  · rw [if_neg c4] at hk; exact absurd hk (by decide)
theorem vf_stp {a d : Int32} {B : Int} (h0 : 0 ≤ a.toInt) (h1 : a.toInt ≤ B) (hB : B ≤ 100000) (hd : 48 ≤ d ∧ d ≤ 57) : 0 ≤ (10 * a + d - 48).toInt ∧ (10 * a + d - 48).toInt ≤ 10 * B + 9 := by
  have z10 : (10 : Int32).toInt = 10 := by decide
  have z48 : (48 : Int32).toInt = 48 := by decide
  have z57 : (57 : Int32).toInt = 57 := by decide
  have d1 := i_le hd.1
  have d2 := i_le hd.2
  have m1 := i_mulk (v := 10 * a) rfl z10 (by omega) (by omega)
  have m2 := i_add (v := 10 * a + d) rfl (by omega) (by omega)
  have m3 := i_sub (v := 10 * a + d - 48) rfl (by omega) (by omega)
  omega
theorem vf_pos (h : PRq b n c i T S) (hk : kd b n (pst b n i) = 2) : 0 ≤ vf b (te b n (pst b n i) - pst b n i) (pst b n i) 0 := by
  obtain ⟨h4, hd⟩ := dg_all hk
  refine Int32.le_iff_toInt_le.mpr ?_
  have z0 : (0 : Int32).toInt = 0 := by decide
  rw [z0]
  rcases (show te b n (pst b n i) - pst b n i = 0 ∨ te b n (pst b n i) - pst b n i = 1 ∨ te b n (pst b n i) - pst b n i = 2 ∨ te b n (pst b n i) - pst b n i = 3 ∨ te b n (pst b n i) - pst b n i = 4 by omega) with e | e | e | e | e <;> rw [e]
  · show 0 ≤ (0 : Int32).toInt
    decide
  · exact (vf_stp (a := 0) (B := 0) (by omega) (by omega) (by omega) (hd _ (by omega) (by omega))).1
  · have s1 := vf_stp (a := 0) (B := 0) (by omega) (by omega) (by omega) (hd (pst b n i) (by omega) (by omega))
    exact (vf_stp s1.1 s1.2 (by omega) (hd (pst b n i + 1) (by omega) (by omega))).1
  · have s1 := vf_stp (a := 0) (B := 0) (by omega) (by omega) (by omega) (hd (pst b n i) (by omega) (by omega))
    have s2 := vf_stp s1.1 s1.2 (by omega) (hd (pst b n i + 1) (by omega) (by omega))
    exact (vf_stp s2.1 s2.2 (by omega) (hd (pst b n i + 1 + 1) (by omega) (by omega))).1
  · have s1 := vf_stp (a := 0) (B := 0) (by omega) (by omega) (by omega) (hd (pst b n i) (by omega) (by omega))
    have s2 := vf_stp s1.1 s1.2 (by omega) (hd (pst b n i + 1) (by omega) (by omega))
    have s3 := vf_stp s2.1 s2.2 (by omega) (hd (pst b n i + 1 + 1) (by omega) (by omega))
    exact (vf_stp s3.1 s3.2 (by omega) (hd (pst b n i + 1 + 1 + 1) (by omega) (by omega))).1
end
end
section
/-! 20d.grp.lean.txt -/
/-! what the class's scene s (being read) and the reference's new plan have in common -/
section
variable {s : Nat} {T T1 : AT} {P P1 D D1 : Nat → Int32}
def HDg (s : Nat) (T : AT) (P : Nat → Int32) : Prop := T.2.2.1 s 0 = P 0 ∧ T.2.2.1 s 1 = P 1 ∧ T.2.2.1 s 2 = P 2 ∧ T.2.2.1 s 3 = P 3
def MICg (s : Nat) (T : AT) (P : Nat → Int32) : Prop := ∃ c : Nat, c ≤ 12 ∧ T.2.2.1 s 5 = nI c ∧ P 4 = nI c ∧ (∀ m, m < c → T.2.2.1 (s + 160 + m) 0 = P (11 + m) ∧ T.2.2.1 (s + 160 + m) 1 = P (23 + m) ∧ T.2.2.1 (s + 160 + m) 2 = P (35 + m) ∧ T.2.2.1 (s + 160 + m) 3 = P (83 + m)) ∧ ∀ m, c ≤ m → m < 12 → P (83 + m) = 0
def GRDg (s : Nat) (T : AT) (P : Nat → Int32) : Prop := T.2.2.1 (s + 2) 3 = P 9 ∧ T.2.2.1 (s + 2) 4 = P 10 ∧ (P 8 = 0 ∧ P 9 = 0 ∧ P 10 = 0 ∨ 1 ≤ (P 8).toInt ∧ 1 ≤ (P 9).toInt ∧ T.2.2.1 (s + 2) 0 = P 6 ∧ T.2.2.1 (s + 2) 1 = P 7 ∧ T.2.2.1 (s + 2) 2 = P 8 ∧ T.2.2.1 (s + 3) 2 = P 9 - 1 ∧ T.2.2.1 (s + 3) 3 = P 10 - 1)
def SRCg (s : Nat) (T : AT) (P D : Nat → Int32) : Prop := ∃ c : Nat, c ≤ 6 ∧ T.2.2.1 s 8 = nI c ∧ P 5 = nI c ∧ ∀ k, k < c → T.2.2.1 (s + 172 + k) 0 = P (47 + k) ∧ T.2.2.1 (s + 172 + k) 5 = P (53 + k) ∧ T.2.2.1 (s + 172 + k) 6 = P (59 + k) ∧ T.2.2.1 (s + 172 + k) 7 = P (65 + k) ∧ T.2.2.1 (s + 172 + k) 8 = P (95 + k) ∧ (T.2.2.1 (s + 172 + k) 9 = 0 ∧ D (25 + k) = 1 ∨ T.2.2.1 (s + 172 + k) 9 = 1 ∧ D (25 + k) = 0) ∧ T.2.2.1 (s + 172 + k) 1 = D (31 + k) ∧ T.2.2.1 (s + 172 + k) 2 = D (37 + k) ∧ T.2.2.1 (s + 172 + k) 3 = D (43 + k) ∧ T.2.2.1 (s + 172 + k) 4 = D (49 + k)
def WALg (s : Nat) (T : AT) (P : Nat → Int32) : Prop := ∃ c : Nat, c ≤ 2 ∧ T.2.2.1 s 11 = nI c ∧ P 71 = nI c ∧ ∀ k, k < c → T.2.2.1 (s + 11) k = P (72 + k) ∧ T.2.2.1 (s + 12) k = P (74 + k)
def FADg (s : Nat) (T : AT) (P : Nat → Int32) : Prop := T.2.2.1 s 12 = P 76
def TAPg (s : Nat) (T : AT) (P : Nat → Int32) : Prop := ∃ c : Nat, c ≤ 5 ∧ T.2.2.1 s 14 = nI c ∧ P 77 = nI c ∧ ∀ k, k < c → T.2.2.1 (s + 13) k = P (78 + k)
def ZONg (s : Nat) (T : AT) (P : Nat → Int32) : Prop := ∃ c : Nat, c ≤ 4 ∧ T.2.2.1 (s + 2) 7 = nI c ∧ P 101 = nI c ∧ ∀ k, k < c → ∀ j, j < 4 → T.2.2.1 (s + 5 + k) j = P (102 + 4 * k + j)
def SHDg (s : Nat) (T : AT) (P : Nat → Int32) : Prop := ∃ c : Nat, c ≤ 12 ∧ T.2.2.1 s 16 = nI c ∧ P 118 = nI c ∧ ∀ k, k < c → T.2.2.1 (s + 14) k = P (119 + k)
def DZg (D : Nat → Int32) : Prop := ∀ j, j < 25 → D j = 0
theorem HDg.cg (h : HDg s T P) (a : ∀ j, j < 4 → T1.2.2.1 s j = T.2.2.1 s j) (b : ∀ j, j < 4 → P1 j = P j) : HDg s T1 P1 := by
  unfold HDg at h ⊢
  rw [a 0 (by decide), a 1 (by decide), a 2 (by decide), a 3 (by decide), b 0 (by decide), b 1 (by decide), b 2 (by decide), b 3 (by decide)]
  exact h
theorem MICg.cg (h : MICg s T P) (a0 : T1.2.2.1 s 5 = T.2.2.1 s 5) (a : ∀ m k, s + 160 ≤ m → m < s + 172 → T1.2.2.1 m k = T.2.2.1 m k) (b : ∀ j, j = 4 ∨ 11 ≤ j ∧ j < 47 ∨ 83 ≤ j ∧ j < 95 → P1 j = P j) : MICg s T1 P1 := by
  obtain ⟨c, h1, h2, h3, h4, h5⟩ := h
  refine ⟨c, h1, a0.trans h2, (b 4 (by omega)).trans h3, fun m hm => ?_, fun m hm hm2 => (b _ (by omega)).trans (h5 m hm hm2)⟩
  rw [a _ _ (by omega) (by omega), a _ _ (by omega) (by omega), a _ _ (by omega) (by omega), a _ _ (by omega) (by omega), b (11 + m) (by omega), b (23 + m) (by omega), b (35 + m) (by omega), b (83 + m) (by omega)]
  exact h4 m hm
theorem GRDg.cg (h : GRDg s T P) (a : ∀ k, k < 5 → T1.2.2.1 (s + 2) k = T.2.2.1 (s + 2) k) (a2 : ∀ k, T1.2.2.1 (s + 3) k = T.2.2.1 (s + 3) k) (b : ∀ j, 6 ≤ j → j ≤ 10 → P1 j = P j) : GRDg s T1 P1 := by
  unfold GRDg at h ⊢
  rw [a 0 (by decide), a 1 (by decide), a 2 (by decide), a 3 (by decide), a 4 (by decide), a2, a2, b 6 (by decide) (by decide), b 7 (by decide) (by decide), b 8 (by decide) (by decide), b 9 (by decide) (by decide), b 10 (by decide) (by decide)]
  exact h
theorem SRCg.cg (h : SRCg s T P D) (a0 : T1.2.2.1 s 8 = T.2.2.1 s 8) (a : ∀ m k, s + 172 ≤ m → m < s + 178 → T1.2.2.1 m k = T.2.2.1 m k) (b : ∀ j, j = 5 ∨ 47 ≤ j ∧ j < 71 ∨ 95 ≤ j ∧ j < 101 → P1 j = P j) (d : ∀ j, 25 ≤ j → j < 55 → D1 j = D j) : SRCg s T1 P1 D1 := by
  obtain ⟨c, h1, h2, h3, h4⟩ := h
  refine ⟨c, h1, a0.trans h2, (b 5 (by omega)).trans h3, fun k hk => ?_⟩
  have q : ∀ j, T1.2.2.1 (s + 172 + k) j = T.2.2.1 (s + 172 + k) j := fun j => a _ _ (by omega) (by omega)
  rw [q, q, q, q, q, q, q, q, q, q, b (47 + k) (by omega), b (53 + k) (by omega), b (59 + k) (by omega), b (65 + k) (by omega), b (95 + k) (by omega), d (25 + k) (by omega) (by omega), d (31 + k) (by omega) (by omega), d (37 + k) (by omega) (by omega), d (43 + k) (by omega) (by omega), d (49 + k) (by omega) (by omega)]
  exact h4 k hk
theorem WALg.cg (h : WALg s T P) (a0 : T1.2.2.1 s 11 = T.2.2.1 s 11) (a : ∀ k, T1.2.2.1 (s + 11) k = T.2.2.1 (s + 11) k) (a2 : ∀ k, T1.2.2.1 (s + 12) k = T.2.2.1 (s + 12) k) (b : ∀ j, 71 ≤ j → j < 76 → P1 j = P j) : WALg s T1 P1 := by
  obtain ⟨c, h1, h2, h3, h4⟩ := h
  refine ⟨c, h1, a0.trans h2, (b 71 (by omega) (by omega)).trans h3, fun k hk => ?_⟩
  rw [a, a2, b (72 + k) (by omega) (by omega), b (74 + k) (by omega) (by omega)]
  exact h4 k hk
theorem FADg.cg (h : FADg s T P) (a : T1.2.2.1 s 12 = T.2.2.1 s 12) (b : P1 76 = P 76) : FADg s T1 P1 := a.trans (h.trans b.symm)
theorem TAPg.cg (h : TAPg s T P) (a0 : T1.2.2.1 s 14 = T.2.2.1 s 14) (a : ∀ k, T1.2.2.1 (s + 13) k = T.2.2.1 (s + 13) k) (b : ∀ j, 77 ≤ j → j < 83 → P1 j = P j) : TAPg s T1 P1 := by
  obtain ⟨c, h1, h2, h3, h4⟩ := h
  refine ⟨c, h1, a0.trans h2, (b 77 (by omega) (by omega)).trans h3, fun k hk => ?_⟩
  rw [a, b (78 + k) (by omega) (by omega)]
  exact h4 k hk
theorem ZONg.cg (h : ZONg s T P) (a0 : T1.2.2.1 (s + 2) 7 = T.2.2.1 (s + 2) 7) (a : ∀ m k, s + 5 ≤ m → m < s + 9 → T1.2.2.1 m k = T.2.2.1 m k) (b : ∀ j, 101 ≤ j → j < 118 → P1 j = P j) : ZONg s T1 P1 := by
  obtain ⟨c, h1, h2, h3, h4⟩ := h
  refine ⟨c, h1, a0.trans h2, (b 101 (by omega) (by omega)).trans h3, fun k hk j hj => ?_⟩
  rw [a _ _ (by omega) (by omega), b _ (by omega) (by omega)]
  exact h4 k hk j hj
theorem SHDg.cg (h : SHDg s T P) (a0 : T1.2.2.1 s 16 = T.2.2.1 s 16) (a : ∀ k, T1.2.2.1 (s + 14) k = T.2.2.1 (s + 14) k) (b : ∀ j, 118 ≤ j → j < 131 → P1 j = P j) : SHDg s T1 P1 := by
  obtain ⟨c, h1, h2, h3, h4⟩ := h
  refine ⟨c, h1, a0.trans h2, (b 118 (by omega) (by omega)).trans h3, fun k hk => ?_⟩
  rw [a, b (119 + k) (by omega) (by omega)]
  exact h4 k hk
def SCN0 (s : Nat) (T : AT) (P D : Nat → Int32) : Prop := MICg s T P ∧ GRDg s T P ∧ SRCg s T P D ∧ WALg s T P ∧ FADg s T P ∧ TAPg s T P ∧ ZONg s T P ∧ SHDg s T P ∧ DZg D
def SRF (s : Nat) (T : AT) : Prop := T.2.2.2.2 s 4 = some (s + 1) ∧ T.2.2.2.2 s 6 = some (s + 2) ∧ T.2.2.2.2 s 7 = some (s + 10) ∧ T.2.2.2.2 s 9 = some (s + 11) ∧ T.2.2.2.2 s 10 = some (s + 12) ∧ T.2.2.2.2 s 13 = some (s + 13) ∧ T.2.2.2.2 s 15 = some (s + 14) ∧ T.2.2.2.2 s 17 = some (s + 15) ∧ (∀ i, i < 12 → T.2.2.2.2 (s + 1) i = some (s + 160 + i)) ∧ (∀ i, i < 6 → T.2.2.2.2 (s + 10) i = some (s + 172 + i)) ∧ T.2.2.2.2 (s + 2) 5 = some (s + 3) ∧ T.2.2.2.2 (s + 2) 6 = some (s + 4) ∧ (∀ i, i < 4 → T.2.2.2.2 (s + 4) i = some (s + 5 + i)) ∧ T.2.2.2.2 (s + 2) 8 = some (s + 9) ∧ ∀ c, c < 144 → T.2.2.2.2 (s + 15) c = some (s + 16 + c)
theorem SRF.sub (h : SRF s T) (e : T1.2.2.2.2 = T.2.2.2.2) : SRF s T1 := by
  unfold SRF at h ⊢
  rw [e]
  exact h
def SCNq (s : Nat) (T : AT) (P D : Nat → Int32) : Prop := HDg s T P ∧ SCN0 s T P D
/-- the outcome of a line -/
def LNq (b : Nat → Int32) (n c i s : Nat) (T T1 : AT) (S1 : MS) (k : Nat) : Prop := (k = 0 ∧ (∃ j, i < j ∧ PRq b n c j T1 S1) ∧ SCNq s T1 (S1.2.1 11) (S1.2.1 13) ∧ T1.2.2.2.2 = T.2.2.2.2) ∨ (k = 3 ∧ ERq T1 S1)
end
end
