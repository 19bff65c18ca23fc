theorem dL_law_2178 : decode cL_law 2178 = .ok (.aload_n 1, 1) := by decide +kernel
theorem dL_law_2179 : decode cL_law 2179 = .ok (.aload_n 0, 1) := by decide +kernel
theorem dL_law_2180 : decode cL_law 2180 = .ok (.iload 5, 2) := by decide +kernel
theorem dL_law_2182 : decode cL_law 2182 = .ok (.iconst 1, 1) := by decide +kernel
theorem dL_law_2183 : decode cL_law 2183 = .ok (.iadd, 1) := by decide +kernel
theorem dL_law_2184 : decode cL_law 2184 = .ok (.iaload, 1) := by decide +kernel
theorem dL_law_2185 : decode cL_law 2185 = .ok (.aload_n 0, 1) := by decide +kernel
theorem dL_law_2186 : decode cL_law 2186 = .ok (.iload 5, 2) := by decide +kernel
theorem dL_law_2188 : decode cL_law 2188 = .ok (.iconst 2, 1) := by decide +kernel
theorem dL_law_2189 : decode cL_law 2189 = .ok (.iadd, 1) := by decide +kernel
theorem dL_law_2190 : decode cL_law 2190 = .ok (.iaload, 1) := by decide +kernel
theorem dL_law_2191 : decode cL_law 2191 = .ok (.aload_n 0, 1) := by decide +kernel
theorem dL_law_2192 : decode cL_law 2192 = .ok (.iload 5, 2) := by decide +kernel
theorem dL_law_2194 : decode cL_law 2194 = .ok (.iconst 3, 1) := by decide +kernel
theorem dL_law_2195 : decode cL_law 2195 = .ok (.iadd, 1) := by decide +kernel
theorem dL_law_2196 : decode cL_law 2196 = .ok (.iaload, 1) := by decide +kernel
theorem dL_law_2197 : decode cL_law 2197 = .ok (.aload_n 3, 1) := by decide +kernel
theorem dL_law_2198 : decode cL_law 2198 = .ok (.invokestatic 379, 3) := by decide +kernel
theorem dL_law_2201 : decode cL_law 2201 = .ok (.istore 6, 2) := by decide +kernel
theorem dL_law_2203 : decode cL_law 2203 = .ok (.aload_n 2, 1) := by decide +kernel
theorem dL_law_2204 : decode cL_law 2204 = .ok (.aload_n 0, 1) := by decide +kernel
theorem dL_law_2205 : decode cL_law 2205 = .ok (.iload 5, 2) := by decide +kernel
theorem dL_law_2207 : decode cL_law 2207 = .ok (.iconst 1, 1) := by decide +kernel
theorem dL_law_2208 : decode cL_law 2208 = .ok (.iadd, 1) := by decide +kernel
theorem dL_law_2209 : decode cL_law 2209 = .ok (.iaload, 1) := by decide +kernel
theorem dL_law_2210 : decode cL_law 2210 = .ok (.aload_n 0, 1) := by decide +kernel
theorem dL_law_2211 : decode cL_law 2211 = .ok (.iload 5, 2) := by decide +kernel
theorem dL_law_2213 : decode cL_law 2213 = .ok (.iconst 2, 1) := by decide +kernel
theorem dL_law_2214 : decode cL_law 2214 = .ok (.iadd, 1) := by decide +kernel
theorem dL_law_2215 : decode cL_law 2215 = .ok (.iaload, 1) := by decide +kernel
theorem dL_law_2216 : decode cL_law 2216 = .ok (.aload_n 0, 1) := by decide +kernel
theorem dL_law_2217 : decode cL_law 2217 = .ok (.iload 5, 2) := by decide +kernel
theorem dL_law_2219 : decode cL_law 2219 = .ok (.iconst 3, 1) := by decide +kernel
theorem dL_law_2220 : decode cL_law 2220 = .ok (.iadd, 1) := by decide +kernel
theorem dL_law_2221 : decode cL_law 2221 = .ok (.iaload, 1) := by decide +kernel
theorem dL_law_2222 : decode cL_law 2222 = .ok (.invokevirtual 381, 3) := by decide +kernel
theorem dL_law_2225 : decode cL_law 2225 = .ok (.istore 7, 2) := by decide +kernel
theorem dL_law_2227 : decode cL_law 2227 = .ok (.goto 184, 3) := by decide +kernel
theorem dL_law_2230 : decode cL_law 2230 = .ok (.aload_n 1, 1) := by decide +kernel
theorem dL_law_2231 : decode cL_law 2231 = .ok (.aload_n 0, 1) := by decide +kernel
theorem dL_law_2232 : decode cL_law 2232 = .ok (.iload 5, 2) := by decide +kernel
theorem dL_law_2234 : decode cL_law 2234 = .ok (.iconst 1, 1) := by decide +kernel
theorem dL_law_2235 : decode cL_law 2235 = .ok (.iadd, 1) := by decide +kernel
theorem dL_law_2236 : decode cL_law 2236 = .ok (.iaload, 1) := by decide +kernel
theorem dL_law_2237 : decode cL_law 2237 = .ok (.aload_n 0, 1) := by decide +kernel
theorem dL_law_2238 : decode cL_law 2238 = .ok (.iload 5, 2) := by decide +kernel
theorem dL_law_2240 : decode cL_law 2240 = .ok (.iconst 2, 1) := by decide +kernel
theorem dL_law_2241 : decode cL_law 2241 = .ok (.iadd, 1) := by decide +kernel
theorem dL_law_2242 : decode cL_law 2242 = .ok (.iaload, 1) := by decide +kernel
theorem dL_law_2243 : decode cL_law 2243 = .ok (.aload_n 0, 1) := by decide +kernel
theorem dL_law_2244 : decode cL_law 2244 = .ok (.iload 5, 2) := by decide +kernel
theorem dL_law_2246 : decode cL_law 2246 = .ok (.iconst 3, 1) := by decide +kernel
theorem dL_law_2247 : decode cL_law 2247 = .ok (.iadd, 1) := by decide +kernel
theorem dL_law_2248 : decode cL_law 2248 = .ok (.iaload, 1) := by decide +kernel
theorem dL_law_2249 : decode cL_law 2249 = .ok (.aload_n 3, 1) := by decide +kernel
theorem dL_law_2250 : decode cL_law 2250 = .ok (.invokestatic 382, 3) := by decide +kernel
theorem dL_law_2253 : decode cL_law 2253 = .ok (.istore 6, 2) := by decide +kernel
theorem dL_law_2255 : decode cL_law 2255 = .ok (.aload_n 2, 1) := by decide +kernel
theorem dL_law_2256 : decode cL_law 2256 = .ok (.aload_n 0, 1) := by decide +kernel
theorem dL_law_2257 : decode cL_law 2257 = .ok (.iload 5, 2) := by decide +kernel
theorem dL_law_2259 : decode cL_law 2259 = .ok (.iconst 1, 1) := by decide +kernel
theorem dL_law_2260 : decode cL_law 2260 = .ok (.iadd, 1) := by decide +kernel
theorem dL_law_2261 : decode cL_law 2261 = .ok (.iaload, 1) := by decide +kernel
theorem dL_law_2262 : decode cL_law 2262 = .ok (.aload_n 0, 1) := by decide +kernel
theorem dL_law_2263 : decode cL_law 2263 = .ok (.iload 5, 2) := by decide +kernel
theorem dL_law_2265 : decode cL_law 2265 = .ok (.iconst 2, 1) := by decide +kernel
theorem dL_law_2266 : decode cL_law 2266 = .ok (.iadd, 1) := by decide +kernel
theorem dL_law_2267 : decode cL_law 2267 = .ok (.iaload, 1) := by decide +kernel
theorem dL_law_2268 : decode cL_law 2268 = .ok (.aload_n 0, 1) := by decide +kernel
theorem dL_law_2269 : decode cL_law 2269 = .ok (.iload 5, 2) := by decide +kernel
theorem dL_law_2271 : decode cL_law 2271 = .ok (.iconst 3, 1) := by decide +kernel
theorem dL_law_2272 : decode cL_law 2272 = .ok (.iadd, 1) := by decide +kernel
theorem dL_law_2273 : decode cL_law 2273 = .ok (.iaload, 1) := by decide +kernel
theorem dL_law_2274 : decode cL_law 2274 = .ok (.invokevirtual 384, 3) := by decide +kernel
theorem dL_law_2277 : decode cL_law 2277 = .ok (.istore 7, 2) := by decide +kernel
theorem dL_law_2279 : decode cL_law 2279 = .ok (.goto 132, 3) := by decide +kernel
theorem dL_law_2282 : decode cL_law 2282 = .ok (.aload_n 1, 1) := by decide +kernel
theorem dL_law_2283 : decode cL_law 2283 = .ok (.aload_n 0, 1) := by decide +kernel
theorem dL_law_2284 : decode cL_law 2284 = .ok (.iload 5, 2) := by decide +kernel
theorem dL_law_2286 : decode cL_law 2286 = .ok (.iconst 1, 1) := by decide +kernel
theorem dL_law_2287 : decode cL_law 2287 = .ok (.iadd, 1) := by decide +kernel
theorem dL_law_2288 : decode cL_law 2288 = .ok (.iaload, 1) := by decide +kernel
theorem dL_law_2289 : decode cL_law 2289 = .ok (.aload_n 3, 1) := by decide +kernel
theorem dL_law_2290 : decode cL_law 2290 = .ok (.invokestatic 385, 3) := by decide +kernel
theorem dL_law_2293 : decode cL_law 2293 = .ok (.istore 6, 2) := by decide +kernel
theorem dL_law_2295 : decode cL_law 2295 = .ok (.aload_n 2, 1) := by decide +kernel
theorem dL_law_2296 : decode cL_law 2296 = .ok (.aload_n 0, 1) := by decide +kernel
theorem dL_law_2297 : decode cL_law 2297 = .ok (.iload 5, 2) := by decide +kernel
theorem dL_law_2299 : decode cL_law 2299 = .ok (.iconst 1, 1) := by decide +kernel
theorem dL_law_2300 : decode cL_law 2300 = .ok (.iadd, 1) := by decide +kernel
theorem dL_law_2301 : decode cL_law 2301 = .ok (.iaload, 1) := by decide +kernel
theorem dL_law_2302 : decode cL_law 2302 = .ok (.invokevirtual 387, 3) := by decide +kernel
theorem dL_law_2305 : decode cL_law 2305 = .ok (.istore 7, 2) := by decide +kernel
theorem dL_law_2307 : decode cL_law 2307 = .ok (.goto 104, 3) := by decide +kernel
theorem dL_law_2310 : decode cL_law 2310 = .ok (.aload_n 1, 1) := by decide +kernel
theorem dL_law_2311 : decode cL_law 2311 = .ok (.aload_n 3, 1) := by decide +kernel
theorem dL_law_2312 : decode cL_law 2312 = .ok (.invokestatic 388, 3) := by decide +kernel
theorem dL_law_2315 : decode cL_law 2315 = .ok (.istore 6, 2) := by decide +kernel
theorem dL_law_2317 : decode cL_law 2317 = .ok (.aload_n 2, 1) := by decide +kernel
theorem dL_law_2318 : decode cL_law 2318 = .ok (.invokevirtual 390, 3) := by decide +kernel
theorem dL_law_2321 : decode cL_law 2321 = .ok (.istore 7, 2) := by decide +kernel
theorem dL_law_2323 : decode cL_law 2323 = .ok (.goto 88, 3) := by decide +kernel
theorem dL_law_2326 : decode cL_law 2326 = .ok (.aload_n 1, 1) := by decide +kernel
theorem dL_law_2327 : decode cL_law 2327 = .ok (.aload_n 3, 1) := by decide +kernel
theorem dL_law_2328 : decode cL_law 2328 = .ok (.invokestatic 391, 3) := by decide +kernel
theorem dL_law_2331 : decode cL_law 2331 = .ok (.istore 6, 2) := by decide +kernel
theorem dL_law_2333 : decode cL_law 2333 = .ok (.aload_n 2, 1) := by decide +kernel
theorem dL_law_2334 : decode cL_law 2334 = .ok (.invokevirtual 393, 3) := by decide +kernel
theorem dL_law_2337 : decode cL_law 2337 = .ok (.istore 7, 2) := by decide +kernel
theorem dL_law_2339 : decode cL_law 2339 = .ok (.goto 72, 3) := by decide +kernel
theorem dL_law_2342 : decode cL_law 2342 = .ok (.aload_n 1, 1) := by decide +kernel
theorem dL_law_2343 : decode cL_law 2343 = .ok (.invokevirtual 394, 3) := by decide +kernel
theorem dL_law_2346 : decode cL_law 2346 = .ok (.pop, 1) := by decide +kernel
theorem dL_law_2347 : decode cL_law 2347 = .ok (.aload_n 2, 1) := by decide +kernel
theorem dL_law_2348 : decode cL_law 2348 = .ok (.invokevirtual 397, 3) := by decide +kernel
theorem dL_law_2351 : decode cL_law 2351 = .ok (.pop, 1) := by decide +kernel
theorem dL_law_2352 : decode cL_law 2352 = .ok (.goto 59, 3) := by decide +kernel
theorem dL_law_2355 : decode cL_law 2355 = .ok (.aload_n 1, 1) := by decide +kernel
theorem dL_law_2356 : decode cL_law 2356 = .ok (.aload_n 0, 1) := by decide +kernel
theorem dL_law_2357 : decode cL_law 2357 = .ok (.iload 5, 2) := by decide +kernel
theorem dL_law_2359 : decode cL_law 2359 = .ok (.iconst 1, 1) := by decide +kernel
theorem dL_law_2360 : decode cL_law 2360 = .ok (.iadd, 1) := by decide +kernel
theorem dL_law_2361 : decode cL_law 2361 = .ok (.iaload, 1) := by decide +kernel
theorem dL_law_2362 : decode cL_law 2362 = .ok (.aload_n 3, 1) := by decide +kernel
theorem dL_law_2363 : decode cL_law 2363 = .ok (.invokestatic 398, 3) := by decide +kernel
theorem dL_law_2366 : decode cL_law 2366 = .ok (.istore 6, 2) := by decide +kernel
theorem dL_law_2368 : decode cL_law 2368 = .ok (.aload_n 2, 1) := by decide +kernel
theorem dL_law_2369 : decode cL_law 2369 = .ok (.aload_n 0, 1) := by decide +kernel
theorem dL_law_2370 : decode cL_law 2370 = .ok (.iload 5, 2) := by decide +kernel
theorem dL_law_2372 : decode cL_law 2372 = .ok (.iconst 1, 1) := by decide +kernel
theorem dL_law_2373 : decode cL_law 2373 = .ok (.iadd, 1) := by decide +kernel
theorem dL_law_2374 : decode cL_law 2374 = .ok (.iaload, 1) := by decide +kernel
theorem dL_law_2375 : decode cL_law 2375 = .ok (.invokevirtual 400, 3) := by decide +kernel
theorem dL_law_2378 : decode cL_law 2378 = .ok (.istore 7, 2) := by decide +kernel
theorem dL_law_2380 : decode cL_law 2380 = .ok (.goto 31, 3) := by decide +kernel
theorem dL_law_2383 : decode cL_law 2383 = .ok (.aload_n 1, 1) := by decide +kernel
theorem dL_law_2384 : decode cL_law 2384 = .ok (.aload_n 0, 1) := by decide +kernel
theorem dL_law_2385 : decode cL_law 2385 = .ok (.iload 5, 2) := by decide +kernel
theorem dL_law_2387 : decode cL_law 2387 = .ok (.iconst 1, 1) := by decide +kernel
theorem dL_law_2388 : decode cL_law 2388 = .ok (.iadd, 1) := by decide +kernel
theorem dL_law_2389 : decode cL_law 2389 = .ok (.iaload, 1) := by decide +kernel
theorem dL_law_2390 : decode cL_law 2390 = .ok (.aload_n 3, 1) := by decide +kernel
theorem dL_law_2391 : decode cL_law 2391 = .ok (.invokestatic 401, 3) := by decide +kernel
theorem dL_law_2394 : decode cL_law 2394 = .ok (.istore 6, 2) := by decide +kernel
theorem dL_law_2396 : decode cL_law 2396 = .ok (.aload_n 2, 1) := by decide +kernel
theorem dL_law_2397 : decode cL_law 2397 = .ok (.aload_n 0, 1) := by decide +kernel
theorem dL_law_2398 : decode cL_law 2398 = .ok (.iload 5, 2) := by decide +kernel
theorem dL_law_2400 : decode cL_law 2400 = .ok (.iconst 1, 1) := by decide +kernel
theorem dL_law_2401 : decode cL_law 2401 = .ok (.iadd, 1) := by decide +kernel
theorem dL_law_2402 : decode cL_law 2402 = .ok (.iaload, 1) := by decide +kernel
theorem dL_law_2403 : decode cL_law 2403 = .ok (.invokevirtual 403, 3) := by decide +kernel
theorem dL_law_2406 : decode cL_law 2406 = .ok (.istore 7, 2) := by decide +kernel
theorem dL_law_2408 : decode cL_law 2408 = .ok (.goto 3, 3) := by decide +kernel
set_option maxHeartbeats 4000000 in
set_option maxRecDepth 100000 in
theorem y_a56 {p : Program} {e : Env} {s : State} {m : MethodId} {below : List Frame} {meth : Method} {c : Code} (l : Launch) (hst : l.stackTraces = false) {b L : Nat} {xs : Nat → Int32} (hx : p.tables.exec = Jvm.exec) (hb : c.code = code) (hml : c.maxLocals = 9) (hown : s.vm.findClass RL = some m.cls) (hts : ∀ w ∈ lw_tbl, w.before #[Value.ref b] s = true) (hX0 : va_X b L xs s s.heap) (hbl : b < s.heap.size) (hX : xT (fun q => s.heap.size ≤ q) s) (hN : nC s) (hTS : sAll s.heap.size s) {D : va_G} {cI cJ cZ cMic cSrc cSt cAI cAJ cD : ClassId} (hK : va_K D vwCl (CT cI cJ cZ cMic cSrc cSt cAI cAJ ++ [(cD, .double)]) s) {Q : State → Prop} {i j : Nat} (hi : i + 6 ≤ L) (hL : L ≤ 3072) (hj : j < 512) {aj ae : Nat} {ad am : Nat → Nat} {T : AT} {Sm : MS} {f : Nat → Int64} {g : Nat → UInt64} {ls : Array Slot} {H : Heap} {locs : List Loc} (hV : IV aR0 1586 aK1 aK2 T) (hrc : RC T) (hJ : JJ Sm) (G : gL cI cJ cZ cMic cSrc cSt cAI cAJ D ad (fun q => s.heap.size ≤ q) s.heap H locs T (oJ aj cJ f :: oD ae cD g :: MW cI cJ cZ am Sm)) (hl : lv_has ls 9 [(5, .int (nI i)), (4, .ref ae), (3, .ref aj), (2, .ref (am 0)), (1, .ref (ad 0)), (0, .ref b)]) (kk : ∀ {k1 : Nat} {r1 : Int32} {T1 : AT} {r2 : Int32} {S1 : MS} (ad2 : Nat → Nat) (f1 : Nat → Int64) (g1 : Nat → UInt64) (H1 : Heap) (locs1 : List Loc) (ls1 : Array Slot), g_X11_moveSource T 0 (xs (i + 1)) (xs (i + 2)) (xs (i + 3)) = some (k1, r1, T1) → fr_moveSource Sm (xs (i + 1)) (xs (i + 2)) (xs (i + 3)) = some (r2, S1) → ad2 0 = ad 0 → IV aR0 1586 aK1 aK2 T1 → RC T1 → JJ S1 → gL cI cJ cZ cMic cSrc cSt cAI cAJ D ad2 (fun q => s.heap.size ≤ q) s.heap H1 locs1 T1 (oJ aj cJ f1 :: oD ae cD g1 :: MW cI cJ cZ am S1) → lv_has ls1 9 [(5, .int (nI i)), (4, .ref ae), (3, .ref aj), (2, .ref (am 0)), (1, .ref (ad2 0)), (0, .ref b)] → W p l e room_1 s m #[Value.ref b] below meth c H1 locs1 (19 + T1.1 + (j + 1)) (38467 + sg T1 + 6 * (j + 1)) Q (F0 m 2411 ls1 [])) : W p l e room_1 s m #[Value.ref b] below meth c H locs (19 + T.1 + j) (38467 + sg T + 6 * j) Q (F0 m 2178 ls []) := by
  have E : cE p c cL_law s m #[Value.ref b] lw_tbl D RL (CT cI cJ cZ cMic cSrc cSt cAI cAJ ++ [(cD, .double)]) := ⟨hx, hb, hts, hown, hK⟩
  have hA : ∀ q : Nat, s.heap.size ≤ q → s.heap.size ≤ q := fun _ h => h
  have h0T : 0 < T.1 := Nat.lt_of_lt_of_le (by decide) hV.1.2.2
  have h0s : T.2.1 0 = (11, 0) := hV.2.1 0 ⟨by decide, by decide +kernel, by decide +kernel⟩
  refine lv_aload_n hx hb dL_law_2178 rfl (lv_at hl 4 rfl) ?_
  refine lv_aload_n hx hb dL_law_2179 rfl (lv_at hl 5 rfl) ?_
  refine lv_iload hx hb dL_law_2180 (lv_at hl 0 rfl) ?_
  refine lv_iconst (v := 1) hx hb dL_law_2182 (by decide) ?_
  refine lv_iadd hx hb dL_law_2183 ?_
  refine lv_to (y := nI (i + 1)) (nI_add i 1) ?_
  refine va_sld hx hb hX0 hbl (Nat.not_le.mpr hbl) G.2.2 (i := nI (i + 1)) (vp_in_nI (n := i + 1) (N := L) (by omega) (by omega)) dL_law_2184 ?_
  refine lv_to (y := xs (i + 1)) (congrArg xs (nI_clamp (by omega))) ?_
  refine lv_aload_n hx hb dL_law_2185 rfl (lv_at hl 5 rfl) ?_
  refine lv_iload hx hb dL_law_2186 (lv_at hl 0 rfl) ?_
  refine lv_iconst (v := 2) hx hb dL_law_2188 (by decide) ?_
  refine lv_iadd hx hb dL_law_2189 ?_
  refine lv_to (y := nI (i + 2)) (nI_add i 2) ?_
  refine va_sld hx hb hX0 hbl (Nat.not_le.mpr hbl) G.2.2 (i := nI (i + 2)) (vp_in_nI (n := i + 2) (N := L) (by omega) (by omega)) dL_law_2190 ?_
  refine lv_to (y := xs (i + 2)) (congrArg xs (nI_clamp (by omega))) ?_
  refine lv_aload_n hx hb dL_law_2191 rfl (lv_at hl 5 rfl) ?_
  refine lv_iload hx hb dL_law_2192 (lv_at hl 0 rfl) ?_
  refine lv_iconst (v := 3) hx hb dL_law_2194 (by decide) ?_
  refine lv_iadd hx hb dL_law_2195 ?_
  refine lv_to (y := nI (i + 3)) (nI_add i 3) ?_
  refine va_sld hx hb hX0 hbl (Nat.not_le.mpr hbl) G.2.2 (i := nI (i + 3)) (vp_in_nI (n := i + 3) (N := L) (by omega) (by omega)) dL_law_2196 ?_
  refine lv_to (y := xs (i + 3)) (congrArg xs (nI_clamp (by omega))) ?_
  refine lv_aload_n hx hb dL_law_2197 rfl (lv_at hl 2 rfl) ?_
  obtain ⟨⟨k1, r1, T1⟩, hg, hc⟩ := cs_X11_moveSource T 0 (xs (i + 1)) (xs (i + 2)) (xs (i + 3)) hV (by decide +kernel)
  have hV1 : IV aR0 1586 aK1 aK2 T1 := hc.1.1
  have hg1 := s_X11_moveSource hg
  have hg2 := sg_le hg1
  have hg3 := hg1.1
  have hk := hV1.2.2.2.2.2.2
  have hrc1 := hg1.2.2 hrc
  have hr0 := a_room
  refine l_v (h0 := s.heap.size) (As := [.ref (ad 0), .int (xs (i + 1)), .int (xs (i + 2)), .int (xs (i + 3)), .ref aj]) (rest := []) E G hA hX hN (fun _ h => h) hTS hml (v_moveSource l hst D s.heap.size ad T 0 (xs (i + 1)) (xs (i + 2)) (xs (i + 3)) aj f hg hrc h0T h0s) (vx_cwSW 5 hts (glA (L := [Cond.methodLink RL 379 yL_moveSource, Cond.static yL_moveSource, Cond.initialized RL]) (gl_in [(7, 145), (7, 146), (1, 0)] (by decide +kernel) (by decide +kernel)) ⟨(t_of [Cond.codeWith yL_moveSource cL_moveSource 6 (some .int) [(0, 12, 15, 21), (0, 12, 19, 13), (0, 12, 23, 15)]] [(7, 147)] (by decide +kernel) _ List.mem_cons_self), List.all_eq_true.mp (by decide +kernel : [Cond.codeWith yL_moveSource cL_moveSource 6 (some .int) [(0, 12, 15, 21), (0, 12, 19, 13), (0, 12, 23, 15)]].all goodWord = true) _ List.mem_cons_self⟩) rfl rfl rfl (by decide +kernel) ⟨Nat.le_of_ble_eq_true rfl, Nat.le_of_ble_eq_true rfl⟩) rfl hl.1 rfl (lv_room (Nat.le_of_ble_eq_true rfl)) dL_law_2198 ⟨by show _ ≤ 601024; omega, by show _ ≤ 7293034; omega⟩ ?_
  intro ad2 H locs had G
  rw [← had 0 h0T] at hl
  refine lv_istore (lv' := [(6, .int (vck 1 2 3 k1)), (5, .int (nI i)), (4, .ref ae), (3, .ref aj), (2, .ref (am 0)), (1, .ref (ad2 0)), (0, .ref b)]) hx hb dL_law_2201 hl (by decide) rfl (fun ls hl => ?_)
  refine lv_aload_n hx hb dL_law_2203 rfl (lv_at hl 4 rfl) ?_
  refine lv_aload_n hx hb dL_law_2204 rfl (lv_at hl 6 rfl) ?_
  refine lv_iload hx hb dL_law_2205 (lv_at hl 1 rfl) ?_
  refine lv_iconst (v := 1) hx hb dL_law_2207 (by decide) ?_
  refine lv_iadd hx hb dL_law_2208 ?_
  refine lv_to (y := nI (i + 1)) (nI_add i 1) ?_
  refine va_sld hx hb hX0 hbl (Nat.not_le.mpr hbl) G.2.2 (i := nI (i + 1)) (vp_in_nI (n := i + 1) (N := L) (by omega) (by omega)) dL_law_2209 ?_
  refine lv_to (y := xs (i + 1)) (congrArg xs (nI_clamp (by omega))) ?_
  refine lv_aload_n hx hb dL_law_2210 rfl (lv_at hl 6 rfl) ?_
  refine lv_iload hx hb dL_law_2211 (lv_at hl 1 rfl) ?_
  refine lv_iconst (v := 2) hx hb dL_law_2213 (by decide) ?_
  refine lv_iadd hx hb dL_law_2214 ?_
  refine lv_to (y := nI (i + 2)) (nI_add i 2) ?_
  refine va_sld hx hb hX0 hbl (Nat.not_le.mpr hbl) G.2.2 (i := nI (i + 2)) (vp_in_nI (n := i + 2) (N := L) (by omega) (by omega)) dL_law_2215 ?_
  refine lv_to (y := xs (i + 2)) (congrArg xs (nI_clamp (by omega))) ?_
  refine lv_aload_n hx hb dL_law_2216 rfl (lv_at hl 6 rfl) ?_
  refine lv_iload hx hb dL_law_2217 (lv_at hl 1 rfl) ?_
  refine lv_iconst (v := 3) hx hb dL_law_2219 (by decide) ?_
  refine lv_iadd hx hb dL_law_2220 ?_
  refine lv_to (y := nI (i + 3)) (nI_add i 3) ?_
  refine va_sld hx hb hX0 hbl (Nat.not_le.mpr hbl) G.2.2 (i := nI (i + 3)) (vp_in_nI (n := i + 3) (N := L) (by omega) (by omega)) dL_law_2221 ?_
  refine lv_to (y := xs (i + 3)) (congrArg xs (nI_clamp (by omega))) ?_
  obtain ⟨⟨r2, S1⟩, hf, hj⟩ := sj_moveSource Sm (xs (i + 1)) (xs (i + 2)) (xs (i + 3)) hJ
  have hJ1 : JJ S1 := hj
  refine y_mi (As := [.int (xs (i + 1)), .int (xs (i + 2)), .int (xs (i + 3))]) (rest := []) E G hA hX.2.2.2.2 hml (tr_moveSource l D cI cJ cZ am Sm (xs (i + 1)) (xs (i + 2)) (xs (i + 3)) hf) (cwV 3 hts (glM (L := [Cond.methodLink RL 381 yX12_moveSource, Cond.instanceMethod yX12_moveSource, Cond.selects RX12 yX12_moveSource yX12_moveSource, Cond.initialized RX12]) (gl_in [(10, 169), (10, 170), (10, 171), (1, 14)] (by decide +kernel) (by decide +kernel)) ⟨(t_of [Cond.code yX12_moveSource cX12_moveSource 4 (some .int)] [(10, 172)] (by decide +kernel) _ List.mem_cons_self), List.all_eq_true.mp (by decide +kernel : [Cond.code yX12_moveSource cX12_moveSource 4 (some .int)].all goodWord = true) _ List.mem_cons_self⟩) rfl rfl rfl (by decide +kernel) ⟨Nat.le_of_ble_eq_true rfl, Nat.le_of_ble_eq_true rfl⟩) rfl hl.1 rfl (lv_room (Nat.le_of_ble_eq_true rfl)) dL_law_2222 ⟨by show _ ≤ 601024; omega, by show _ ≤ 7293034; omega⟩ (fun H locs G => ?_)
  refine lv_istore (lv' := [(7, .int r2), (6, .int (vck 1 2 3 k1)), (5, .int (nI i)), (4, .ref ae), (3, .ref aj), (2, .ref (am 0)), (1, .ref (ad2 0)), (0, .ref b)]) hx hb dL_law_2225 hl (by decide) rfl (fun ls hl => ?_)
  refine lv_goto (tgt := 2411) hx hb dL_law_2227 (by decide) ?_
  have hl := lv_sub hl [2, 3, 4, 5, 6, 7] rfl
  refine W.widen (k := 19 + T1.1 + (j + 1)) (n := 38467 + sg T1 + 6 * (j + 1)) (by omega) (by omega) ?_
  exact kk ad2 (vfJ k1 f r1.toInt64) g H locs ls hg hf (had 0 h0T) hV1 hrc1 hJ1 G hl
set_option maxHeartbeats 4000000 in
set_option maxRecDepth 100000 in
theorem y_a57 {p : Program} {e : Env} {s : State} {m : MethodId} {below : List Frame} {meth : Method} {c : Code} (l : Launch) (hst : l.stackTraces = false) {b L : Nat} {xs : Nat → Int32} (hx : p.tables.exec = Jvm.exec) (hb : c.code = code) (hml : c.maxLocals = 9) (hown : s.vm.findClass RL = some m.cls) (hts : ∀ w ∈ lw_tbl, w.before #[Value.ref b] s = true) (hX0 : va_X b L xs s s.heap) (hbl : b < s.heap.size) (hX : xT (fun q => s.heap.size ≤ q) s) (hN : nC s) (hTS : sAll s.heap.size s) {D : va_G} {cI cJ cZ cMic cSrc cSt cAI cAJ cD : ClassId} (hK : va_K D vwCl (CT cI cJ cZ cMic cSrc cSt cAI cAJ ++ [(cD, .double)]) s) {Q : State → Prop} {i j : Nat} (hi : i + 6 ≤ L) (hL : L ≤ 3072) (hj : j < 512) {aj ae : Nat} {ad am : Nat → Nat} {T : AT} {Sm : MS} {f : Nat → Int64} {g : Nat → UInt64} {ls : Array Slot} {H : Heap} {locs : List Loc} (hV : IV aR0 1586 aK1 aK2 T) (hrc : RC T) (hJ : JJ Sm) (G : gL cI cJ cZ cMic cSrc cSt cAI cAJ D ad (fun q => s.heap.size ≤ q) s.heap H locs T (oJ aj cJ f :: oD ae cD g :: MW cI cJ cZ am Sm)) (hl : lv_has ls 9 [(5, .int (nI i)), (4, .ref ae), (3, .ref aj), (2, .ref (am 0)), (1, .ref (ad 0)), (0, .ref b)]) (kk : ∀ {k1 : Nat} {r1 : Int32} {T1 : AT} {r2 : Int32} {S1 : MS} (ad2 : Nat → Nat) (f1 : Nat → Int64) (g1 : Nat → UInt64) (H1 : Heap) (locs1 : List Loc) (ls1 : Array Slot), g_X11_setVelocity T 0 (xs (i + 1)) (xs (i + 2)) (xs (i + 3)) = some (k1, r1, T1) → fr_setVelocity Sm (xs (i + 1)) (xs (i + 2)) (xs (i + 3)) = some (r2, S1) → ad2 0 = ad 0 → IV aR0 1586 aK1 aK2 T1 → RC T1 → JJ S1 → gL cI cJ cZ cMic cSrc cSt cAI cAJ D ad2 (fun q => s.heap.size ≤ q) s.heap H1 locs1 T1 (oJ aj cJ f1 :: oD ae cD g1 :: MW cI cJ cZ am S1) → lv_has ls1 9 [(5, .int (nI i)), (4, .ref ae), (3, .ref aj), (2, .ref (am 0)), (1, .ref (ad2 0)), (0, .ref b)] → W p l e room_1 s m #[Value.ref b] below meth c H1 locs1 (19 + T1.1 + (j + 1)) (38467 + sg T1 + 6 * (j + 1)) Q (F0 m 2411 ls1 [])) : W p l e room_1 s m #[Value.ref b] below meth c H locs (19 + T.1 + j) (38467 + sg T + 6 * j) Q (F0 m 2230 ls []) := by
  have E : cE p c cL_law s m #[Value.ref b] lw_tbl D RL (CT cI cJ cZ cMic cSrc cSt cAI cAJ ++ [(cD, .double)]) := ⟨hx, hb, hts, hown, hK⟩
  have hA : ∀ q : Nat, s.heap.size ≤ q → s.heap.size ≤ q := fun _ h => h
  have h0T : 0 < T.1 := Nat.lt_of_lt_of_le (by decide) hV.1.2.2
  have h0s : T.2.1 0 = (11, 0) := hV.2.1 0 ⟨by decide, by decide +kernel, by decide +kernel⟩
  refine lv_aload_n hx hb dL_law_2230 rfl (lv_at hl 4 rfl) ?_
  refine lv_aload_n hx hb dL_law_2231 rfl (lv_at hl 5 rfl) ?_
  refine lv_iload hx hb dL_law_2232 (lv_at hl 0 rfl) ?_
  refine lv_iconst (v := 1) hx hb dL_law_2234 (by decide) ?_
  refine lv_iadd hx hb dL_law_2235 ?_
  refine lv_to (y := nI (i + 1)) (nI_add i 1) ?_
  refine va_sld hx hb hX0 hbl (Nat.not_le.mpr hbl) G.2.2 (i := nI (i + 1)) (vp_in_nI (n := i + 1) (N := L) (by omega) (by omega)) dL_law_2236 ?_
  refine lv_to (y := xs (i + 1)) (congrArg xs (nI_clamp (by omega))) ?_
  refine lv_aload_n hx hb dL_law_2237 rfl (lv_at hl 5 rfl) ?_
  refine lv_iload hx hb dL_law_2238 (lv_at hl 0 rfl) ?_
  refine lv_iconst (v := 2) hx hb dL_law_2240 (by decide) ?_
  refine lv_iadd hx hb dL_law_2241 ?_
  refine lv_to (y := nI (i + 2)) (nI_add i 2) ?_
  refine va_sld hx hb hX0 hbl (Nat.not_le.mpr hbl) G.2.2 (i := nI (i + 2)) (vp_in_nI (n := i + 2) (N := L) (by omega) (by omega)) dL_law_2242 ?_
  refine lv_to (y := xs (i + 2)) (congrArg xs (nI_clamp (by omega))) ?_
  refine lv_aload_n hx hb dL_law_2243 rfl (lv_at hl 5 rfl) ?_
  refine lv_iload hx hb dL_law_2244 (lv_at hl 0 rfl) ?_
  refine lv_iconst (v := 3) hx hb dL_law_2246 (by decide) ?_
  refine lv_iadd hx hb dL_law_2247 ?_
  refine lv_to (y := nI (i + 3)) (nI_add i 3) ?_
  refine va_sld hx hb hX0 hbl (Nat.not_le.mpr hbl) G.2.2 (i := nI (i + 3)) (vp_in_nI (n := i + 3) (N := L) (by omega) (by omega)) dL_law_2248 ?_
  refine lv_to (y := xs (i + 3)) (congrArg xs (nI_clamp (by omega))) ?_
  refine lv_aload_n hx hb dL_law_2249 rfl (lv_at hl 2 rfl) ?_
  obtain ⟨⟨k1, r1, T1⟩, hg, hc⟩ := cs_X11_setVelocity T 0 (xs (i + 1)) (xs (i + 2)) (xs (i + 3)) hV (by decide +kernel)
  have hV1 : IV aR0 1586 aK1 aK2 T1 := hc.1.1
  have hg1 := s_X11_setVelocity hg
  have hg2 := sg_le hg1
  have hg3 := hg1.1
  have hk := hV1.2.2.2.2.2.2
  have hrc1 := hg1.2.2 hrc
  have hr0 := a_room
  refine l_v (h0 := s.heap.size) (As := [.ref (ad 0), .int (xs (i + 1)), .int (xs (i + 2)), .int (xs (i + 3)), .ref aj]) (rest := []) E G hA hX hN (fun _ h => h) hTS hml (v_setVelocity l hst D s.heap.size ad T 0 (xs (i + 1)) (xs (i + 2)) (xs (i + 3)) aj f hg hrc h0T h0s) (vx_cwSW 5 hts (glA (L := [Cond.methodLink RL 382 yL_setVelocity, Cond.static yL_setVelocity, Cond.initialized RL]) (gl_in [(7, 152), (7, 153), (1, 0)] (by decide +kernel) (by decide +kernel)) ⟨(t_of [Cond.codeWith yL_setVelocity cL_setVelocity 6 (some .int) [(0, 12, 15, 21), (0, 12, 19, 13), (0, 12, 23, 15)]] [(7, 154)] (by decide +kernel) _ List.mem_cons_self), List.all_eq_true.mp (by decide +kernel : [Cond.codeWith yL_setVelocity cL_setVelocity 6 (some .int) [(0, 12, 15, 21), (0, 12, 19, 13), (0, 12, 23, 15)]].all goodWord = true) _ List.mem_cons_self⟩) rfl rfl rfl (by decide +kernel) ⟨Nat.le_of_ble_eq_true rfl, Nat.le_of_ble_eq_true rfl⟩) rfl hl.1 rfl (lv_room (Nat.le_of_ble_eq_true rfl)) dL_law_2250 ⟨by show _ ≤ 601024; omega, by show _ ≤ 7293034; omega⟩ ?_
  intro ad2 H locs had G
  rw [← had 0 h0T] at hl
  refine lv_istore (lv' := [(6, .int (vck 1 2 3 k1)), (5, .int (nI i)), (4, .ref ae), (3, .ref aj), (2, .ref (am 0)), (1, .ref (ad2 0)), (0, .ref b)]) hx hb dL_law_2253 hl (by decide) rfl (fun ls hl => ?_)
  refine lv_aload_n hx hb dL_law_2255 rfl (lv_at hl 4 rfl) ?_
  refine lv_aload_n hx hb dL_law_2256 rfl (lv_at hl 6 rfl) ?_
  refine lv_iload hx hb dL_law_2257 (lv_at hl 1 rfl) ?_
  refine lv_iconst (v := 1) hx hb dL_law_2259 (by decide) ?_
  refine lv_iadd hx hb dL_law_2260 ?_
  refine lv_to (y := nI (i + 1)) (nI_add i 1) ?_
  refine va_sld hx hb hX0 hbl (Nat.not_le.mpr hbl) G.2.2 (i := nI (i + 1)) (vp_in_nI (n := i + 1) (N := L) (by omega) (by omega)) dL_law_2261 ?_
  refine lv_to (y := xs (i + 1)) (congrArg xs (nI_clamp (by omega))) ?_
  refine lv_aload_n hx hb dL_law_2262 rfl (lv_at hl 6 rfl) ?_
  refine lv_iload hx hb dL_law_2263 (lv_at hl 1 rfl) ?_
  refine lv_iconst (v := 2) hx hb dL_law_2265 (by decide) ?_
  refine lv_iadd hx hb dL_law_2266 ?_
  refine lv_to (y := nI (i + 2)) (nI_add i 2) ?_
  refine va_sld hx hb hX0 hbl (Nat.not_le.mpr hbl) G.2.2 (i := nI (i + 2)) (vp_in_nI (n := i + 2) (N := L) (by omega) (by omega)) dL_law_2267 ?_
  refine lv_to (y := xs (i + 2)) (congrArg xs (nI_clamp (by omega))) ?_
  refine lv_aload_n hx hb dL_law_2268 rfl (lv_at hl 6 rfl) ?_
  refine lv_iload hx hb dL_law_2269 (lv_at hl 1 rfl) ?_
  refine lv_iconst (v := 3) hx hb dL_law_2271 (by decide) ?_
  refine lv_iadd hx hb dL_law_2272 ?_
  refine lv_to (y := nI (i + 3)) (nI_add i 3) ?_
  refine va_sld hx hb hX0 hbl (Nat.not_le.mpr hbl) G.2.2 (i := nI (i + 3)) (vp_in_nI (n := i + 3) (N := L) (by omega) (by omega)) dL_law_2273 ?_
  refine lv_to (y := xs (i + 3)) (congrArg xs (nI_clamp (by omega))) ?_
  obtain ⟨⟨r2, S1⟩, hf, hj⟩ := sj_setVelocity Sm (xs (i + 1)) (xs (i + 2)) (xs (i + 3)) hJ
  have hJ1 : JJ S1 := hj
  refine y_mi (As := [.int (xs (i + 1)), .int (xs (i + 2)), .int (xs (i + 3))]) (rest := []) E G hA hX.2.2.2.2 hml (tr_setVelocity l D cI cJ cZ am Sm (xs (i + 1)) (xs (i + 2)) (xs (i + 3)) hf) (cwV 3 hts (glM (L := [Cond.methodLink RL 384 yX12_setVelocity, Cond.instanceMethod yX12_setVelocity, Cond.selects RX12 yX12_setVelocity yX12_setVelocity, Cond.initialized RX12]) (gl_in [(10, 177), (10, 178), (10, 179), (1, 14)] (by decide +kernel) (by decide +kernel)) ⟨(t_of [Cond.code yX12_setVelocity cX12_setVelocity 4 (some .int)] [(10, 180)] (by decide +kernel) _ List.mem_cons_self), List.all_eq_true.mp (by decide +kernel : [Cond.code yX12_setVelocity cX12_setVelocity 4 (some .int)].all goodWord = true) _ List.mem_cons_self⟩) rfl rfl rfl (by decide +kernel) ⟨Nat.le_of_ble_eq_true rfl, Nat.le_of_ble_eq_true rfl⟩) rfl hl.1 rfl (lv_room (Nat.le_of_ble_eq_true rfl)) dL_law_2274 ⟨by show _ ≤ 601024; omega, by show _ ≤ 7293034; omega⟩ (fun H locs G => ?_)
  refine lv_istore (lv' := [(7, .int r2), (6, .int (vck 1 2 3 k1)), (5, .int (nI i)), (4, .ref ae), (3, .ref aj), (2, .ref (am 0)), (1, .ref (ad2 0)), (0, .ref b)]) hx hb dL_law_2277 hl (by decide) rfl (fun ls hl => ?_)
  refine lv_goto (tgt := 2411) hx hb dL_law_2279 (by decide) ?_
  have hl := lv_sub hl [2, 3, 4, 5, 6, 7] rfl
  refine W.widen (k := 19 + T1.1 + (j + 1)) (n := 38467 + sg T1 + 6 * (j + 1)) (by omega) (by omega) ?_
  exact kk ad2 (vfJ k1 f r1.toInt64) g H locs ls hg hf (had 0 h0T) hV1 hrc1 hJ1 G hl
set_option maxHeartbeats 4000000 in
set_option maxRecDepth 100000 in
theorem y_a58 {p : Program} {e : Env} {s : State} {m : MethodId} {below : List Frame} {meth : Method} {c : Code} (l : Launch) (hst : l.stackTraces = false) {b L : Nat} {xs : Nat → Int32} (hx : p.tables.exec = Jvm.exec) (hb : c.code = code) (hml : c.maxLocals = 9) (hown : s.vm.findClass RL = some m.cls) (hts : ∀ w ∈ lw_tbl, w.before #[Value.ref b] s = true) (hX0 : va_X b L xs s s.heap) (hbl : b < s.heap.size) (hX : xT (fun q => s.heap.size ≤ q) s) (hN : nC s) (hTS : sAll s.heap.size s) {D : va_G} {cI cJ cZ cMic cSrc cSt cAI cAJ cD : ClassId} (hK : va_K D vwCl (CT cI cJ cZ cMic cSrc cSt cAI cAJ ++ [(cD, .double)]) s) {Q : State → Prop} {i j : Nat} (hi : i + 6 ≤ L) (hL : L ≤ 3072) (hj : j < 512) {aj ae : Nat} {ad am : Nat → Nat} {T : AT} {Sm : MS} {f : Nat → Int64} {g : Nat → UInt64} {ls : Array Slot} {H : Heap} {locs : List Loc} (hV : IV aR0 1586 aK1 aK2 T) (hrc : RC T) (hJ : JJ Sm) (G : gL cI cJ cZ cMic cSrc cSt cAI cAJ D ad (fun q => s.heap.size ≤ q) s.heap H locs T (oJ aj cJ f :: oD ae cD g :: MW cI cJ cZ am Sm)) (hl : lv_has ls 9 [(5, .int (nI i)), (4, .ref ae), (3, .ref aj), (2, .ref (am 0)), (1, .ref (ad 0)), (0, .ref b)]) (kk : ∀ {k1 : Nat} {r1 : Int32} {T1 : AT} {r2 : Int32} {S1 : MS} (ad2 : Nat → Nat) (f1 : Nat → Int64) (g1 : Nat → UInt64) (H1 : Heap) (locs1 : List Loc) (ls1 : Array Slot), g_X11_clean T 0 (xs (i + 1)) = some (k1, r1, T1) → fr_clean Sm (xs (i + 1)) = some (r2, S1) → ad2 0 = ad 0 → IV aR0 1586 aK1 aK2 T1 → RC T1 → JJ S1 → gL cI cJ cZ cMic cSrc cSt cAI cAJ D ad2 (fun q => s.heap.size ≤ q) s.heap H1 locs1 T1 (oJ aj cJ f1 :: oD ae cD g1 :: MW cI cJ cZ am S1) → lv_has ls1 9 [(5, .int (nI i)), (4, .ref ae), (3, .ref aj), (2, .ref (am 0)), (1, .ref (ad2 0)), (0, .ref b)] → W p l e room_1 s m #[Value.ref b] below meth c H1 locs1 (19 + T1.1 + (j + 1)) (38467 + sg T1 + 6 * (j + 1)) Q (F0 m 2411 ls1 [])) : W p l e room_1 s m #[Value.ref b] below meth c H locs (19 + T.1 + j) (38467 + sg T + 6 * j) Q (F0 m 2282 ls []) := by
  have E : cE p c cL_law s m #[Value.ref b] lw_tbl D RL (CT cI cJ cZ cMic cSrc cSt cAI cAJ ++ [(cD, .double)]) := ⟨hx, hb, hts, hown, hK⟩
  have hA : ∀ q : Nat, s.heap.size ≤ q → s.heap.size ≤ q := fun _ h => h
  have h0T : 0 < T.1 := Nat.lt_of_lt_of_le (by decide) hV.1.2.2
  have h0s : T.2.1 0 = (11, 0) := hV.2.1 0 ⟨by decide, by decide +kernel, by decide +kernel⟩
  refine lv_aload_n hx hb dL_law_2282 rfl (lv_at hl 4 rfl) ?_
  refine lv_aload_n hx hb dL_law_2283 rfl (lv_at hl 5 rfl) ?_
  refine lv_iload hx hb dL_law_2284 (lv_at hl 0 rfl) ?_
  refine lv_iconst (v := 1) hx hb dL_law_2286 (by decide) ?_
  refine lv_iadd hx hb dL_law_2287 ?_
  refine lv_to (y := nI (i + 1)) (nI_add i 1) ?_
  refine va_sld hx hb hX0 hbl (Nat.not_le.mpr hbl) G.2.2 (i := nI (i + 1)) (vp_in_nI (n := i + 1) (N := L) (by omega) (by omega)) dL_law_2288 ?_
  refine lv_to (y := xs (i + 1)) (congrArg xs (nI_clamp (by omega))) ?_
  refine lv_aload_n hx hb dL_law_2289 rfl (lv_at hl 2 rfl) ?_
  obtain ⟨⟨k1, r1, T1⟩, hg, hc⟩ := cs_X11_clean T 0 (xs (i + 1)) hV (by decide +kernel)
  have hV1 : IV aR0 1586 aK1 aK2 T1 := hc.1.1
  have hg1 := s_X11_clean hg
  have hg2 := sg_le hg1
  have hg3 := hg1.1
  have hk := hV1.2.2.2.2.2.2
  have hrc1 := hg1.2.2 hrc
  have hr0 := a_room
  refine l_v (h0 := s.heap.size) (As := [.ref (ad 0), .int (xs (i + 1)), .ref aj]) (rest := []) E G hA hX hN (fun _ h => h) hTS hml (v_clean l hst D s.heap.size ad T 0 (xs (i + 1)) aj f hg hrc h0T h0s) (vx_cwSW 3 hts (glA (L := [Cond.methodLink RL 385 yL_clean, Cond.static yL_clean, Cond.initialized RL]) (gl_in [(7, 159), (7, 160), (1, 0)] (by decide +kernel) (by decide +kernel)) ⟨(t_of [Cond.codeWith yL_clean cL_clean 4 (some .int) [(0, 9, 12, 21), (0, 9, 15, 15)]] [(7, 161)] (by decide +kernel) _ List.mem_cons_self), List.all_eq_true.mp (by decide +kernel : [Cond.codeWith yL_clean cL_clean 4 (some .int) [(0, 9, 12, 21), (0, 9, 15, 15)]].all goodWord = true) _ List.mem_cons_self⟩) rfl rfl rfl (by decide +kernel) ⟨Nat.le_of_ble_eq_true rfl, Nat.le_of_ble_eq_true rfl⟩) rfl hl.1 rfl (lv_room (Nat.le_of_ble_eq_true rfl)) dL_law_2290 ⟨by show _ ≤ 601024; omega, by show _ ≤ 7293034; omega⟩ ?_
  intro ad2 H locs had G
  rw [← had 0 h0T] at hl
  refine lv_istore (lv' := [(6, .int (vck 1 0 2 k1)), (5, .int (nI i)), (4, .ref ae), (3, .ref aj), (2, .ref (am 0)), (1, .ref (ad2 0)), (0, .ref b)]) hx hb dL_law_2293 hl (by decide) rfl (fun ls hl => ?_)
  refine lv_aload_n hx hb dL_law_2295 rfl (lv_at hl 4 rfl) ?_
  refine lv_aload_n hx hb dL_law_2296 rfl (lv_at hl 6 rfl) ?_
  refine lv_iload hx hb dL_law_2297 (lv_at hl 1 rfl) ?_
  refine lv_iconst (v := 1) hx hb dL_law_2299 (by decide) ?_
  refine lv_iadd hx hb dL_law_2300 ?_
  refine lv_to (y := nI (i + 1)) (nI_add i 1) ?_
  refine va_sld hx hb hX0 hbl (Nat.not_le.mpr hbl) G.2.2 (i := nI (i + 1)) (vp_in_nI (n := i + 1) (N := L) (by omega) (by omega)) dL_law_2301 ?_
  refine lv_to (y := xs (i + 1)) (congrArg xs (nI_clamp (by omega))) ?_
  obtain ⟨⟨r2, S1⟩, hf, hj⟩ := sj_clean Sm (xs (i + 1)) hJ
  have hJ1 : JJ S1 := hj
  refine y_mi (As := [.int (xs (i + 1))]) (rest := []) E G hA hX.2.2.2.2 hml (tr_clean l D cI cJ cZ am Sm (xs (i + 1)) hf) (cwV 1 hts (glM (L := [Cond.methodLink RL 387 yX12_clean, Cond.instanceMethod yX12_clean, Cond.selects RX12 yX12_clean yX12_clean, Cond.initialized RX12]) (gl_in [(10, 181), (10, 182), (10, 183), (1, 14)] (by decide +kernel) (by decide +kernel)) ⟨(t_of [Cond.code yX12_clean cX12_clean 6 (some .int)] [(10, 184)] (by decide +kernel) _ List.mem_cons_self), List.all_eq_true.mp (by decide +kernel : [Cond.code yX12_clean cX12_clean 6 (some .int)].all goodWord = true) _ List.mem_cons_self⟩) rfl rfl rfl (by decide +kernel) ⟨Nat.le_of_ble_eq_true rfl, Nat.le_of_ble_eq_true rfl⟩) rfl hl.1 rfl (lv_room (Nat.le_of_ble_eq_true rfl)) dL_law_2302 ⟨by show _ ≤ 601024; omega, by show _ ≤ 7293034; omega⟩ (fun H locs G => ?_)
  refine lv_istore (lv' := [(7, .int r2), (6, .int (vck 1 0 2 k1)), (5, .int (nI i)), (4, .ref ae), (3, .ref aj), (2, .ref (am 0)), (1, .ref (ad2 0)), (0, .ref b)]) hx hb dL_law_2305 hl (by decide) rfl (fun ls hl => ?_)
  refine lv_goto (tgt := 2411) hx hb dL_law_2307 (by decide) ?_
  have hl := lv_sub hl [2, 3, 4, 5, 6, 7] rfl
  refine W.widen (k := 19 + T1.1 + (j + 1)) (n := 38467 + sg T1 + 6 * (j + 1)) (by omega) (by omega) ?_
  exact kk ad2 (vfJ k1 f r1.toInt64) g H locs ls hg hf (had 0 h0T) hV1 hrc1 hJ1 G hl
set_option maxHeartbeats 4000000 in
set_option maxRecDepth 100000 in
theorem y_a59 {p : Program} {e : Env} {s : State} {m : MethodId} {below : List Frame} {meth : Method} {c : Code} (l : Launch) (hst : l.stackTraces = false) {b L : Nat} {xs : Nat → Int32} (hx : p.tables.exec = Jvm.exec) (hb : c.code = code) (hml : c.maxLocals = 9) (hown : s.vm.findClass RL = some m.cls) (hts : ∀ w ∈ lw_tbl, w.before #[Value.ref b] s = true) (hX0 : va_X b L xs s s.heap) (hbl : b < s.heap.size) (hX : xT (fun q => s.heap.size ≤ q) s) (hN : nC s) (hTS : sAll s.heap.size s) {D : va_G} {cI cJ cZ cMic cSrc cSt cAI cAJ cD : ClassId} (hK : va_K D vwCl (CT cI cJ cZ cMic cSrc cSt cAI cAJ ++ [(cD, .double)]) s) {Q : State → Prop} {i j : Nat} (hi : i + 6 ≤ L) (hL : L ≤ 3072) (hj : j < 512) {aj ae : Nat} {ad am : Nat → Nat} {T : AT} {Sm : MS} {f : Nat → Int64} {g : Nat → UInt64} {ls : Array Slot} {H : Heap} {locs : List Loc} (hV : IV aR0 1586 aK1 aK2 T) (hrc : RC T) (hJ : JJ Sm) (G : gL cI cJ cZ cMic cSrc cSt cAI cAJ D ad (fun q => s.heap.size ≤ q) s.heap H locs T (oJ aj cJ f :: oD ae cD g :: MW cI cJ cZ am Sm)) (hl : lv_has ls 9 [(5, .int (nI i)), (4, .ref ae), (3, .ref aj), (2, .ref (am 0)), (1, .ref (ad 0)), (0, .ref b)]) (kk : ∀ {k1 : Nat} {r1 : Int32} {T1 : AT} {r2 : Int32} {S1 : MS} (ad2 : Nat → Nat) (f1 : Nat → Int64) (g1 : Nat → UInt64) (H1 : Heap) (locs1 : List Loc) (ls1 : Array Slot), g_X11_cleaned T 0 = some (k1, r1, T1) → fr_cleaned Sm = some (r2, S1) → ad2 0 = ad 0 → IV aR0 1586 aK1 aK2 T1 → RC T1 → JJ S1 → gL cI cJ cZ cMic cSrc cSt cAI cAJ D ad2 (fun q => s.heap.size ≤ q) s.heap H1 locs1 T1 (oJ aj cJ f1 :: oD ae cD g1 :: MW cI cJ cZ am S1) → lv_has ls1 9 [(5, .int (nI i)), (4, .ref ae), (3, .ref aj), (2, .ref (am 0)), (1, .ref (ad2 0)), (0, .ref b)] → W p l e room_1 s m #[Value.ref b] below meth c H1 locs1 (19 + T1.1 + (j + 1)) (38467 + sg T1 + 6 * (j + 1)) Q (F0 m 2411 ls1 [])) : W p l e room_1 s m #[Value.ref b] below meth c H locs (19 + T.1 + j) (38467 + sg T + 6 * j) Q (F0 m 2310 ls []) := by
  have E : cE p c cL_law s m #[Value.ref b] lw_tbl D RL (CT cI cJ cZ cMic cSrc cSt cAI cAJ ++ [(cD, .double)]) := ⟨hx, hb, hts, hown, hK⟩
  have hA : ∀ q : Nat, s.heap.size ≤ q → s.heap.size ≤ q := fun _ h => h
  have h0T : 0 < T.1 := Nat.lt_of_lt_of_le (by decide) hV.1.2.2
  have h0s : T.2.1 0 = (11, 0) := hV.2.1 0 ⟨by decide, by decide +kernel, by decide +kernel⟩
  refine lv_aload_n hx hb dL_law_2310 rfl (lv_at hl 4 rfl) ?_
  refine lv_aload_n hx hb dL_law_2311 rfl (lv_at hl 2 rfl) ?_
  obtain ⟨⟨k1, r1, T1⟩, hg, hc⟩ := cs_X11_cleaned T 0 hV (by decide +kernel)
  have hV1 : IV aR0 1586 aK1 aK2 T1 := by rw [show T1 = T from hc.1]; exact hV
  have hg1 := (gl_sp (s_X11_cleaned hg))
  have hg2 := sg_le hg1
  have hg3 := hg1.1
  have hk := hV1.2.2.2.2.2.2
  have hrc1 := hg1.2.2 hrc
  have hr0 := a_room
  refine l_v (h0 := s.heap.size) (As := [.ref (ad 0), .ref aj]) (rest := []) E G hA hX hN (fun _ h => h) hTS hml (v_cleaned l hst D s.heap.size ad T 0  aj f hg hrc h0T h0s) (vx_cwSW 2 hts (glA (L := [Cond.methodLink RL 388 yL_cleaned, Cond.static yL_cleaned, Cond.initialized RL]) (gl_in [(7, 180), (7, 181), (1, 0)] (by decide +kernel) (by decide +kernel)) ⟨(t_of [Cond.codeWith yL_cleaned cL_cleaned 3 (some .int) [(0, 8, 11, 21)]] [(7, 182)] (by decide +kernel) _ List.mem_cons_self), List.all_eq_true.mp (by decide +kernel : [Cond.codeWith yL_cleaned cL_cleaned 3 (some .int) [(0, 8, 11, 21)]].all goodWord = true) _ List.mem_cons_self⟩) rfl rfl rfl (by decide +kernel) ⟨Nat.le_of_ble_eq_true rfl, Nat.le_of_ble_eq_true rfl⟩) rfl hl.1 rfl (lv_room (Nat.le_of_ble_eq_true rfl)) dL_law_2312 ⟨by show _ ≤ 601024; omega, by show _ ≤ 7293034; omega⟩ ?_
  intro ad2 H locs had G
  rw [← had 0 h0T] at hl
  refine lv_istore (lv' := [(6, .int (vck 1 0 0 k1)), (5, .int (nI i)), (4, .ref ae), (3, .ref aj), (2, .ref (am 0)), (1, .ref (ad2 0)), (0, .ref b)]) hx hb dL_law_2315 hl (by decide) rfl (fun ls hl => ?_)
  refine lv_aload_n hx hb dL_law_2317 rfl (lv_at hl 4 rfl) ?_
  obtain ⟨⟨r2, S1⟩, hf, hj⟩ := sj_cleaned Sm hJ
  have hJ1 : JJ S1 := hj
  refine y_mi (As := []) (rest := []) E G hA hX.2.2.2.2 hml (tr_cleaned l D cI cJ cZ am Sm  hf) (cwV 0 hts (glM (L := [Cond.methodLink RL 390 yX12_cleaned, Cond.instanceMethod yX12_cleaned, Cond.selects RX12 yX12_cleaned yX12_cleaned, Cond.initialized RX12]) (gl_in [(10, 189), (10, 190), (10, 191), (1, 14)] (by decide +kernel) (by decide +kernel)) ⟨(t_of [Cond.code yX12_cleaned cX12_cleaned 1 (some .int)] [(10, 192)] (by decide +kernel) _ List.mem_cons_self), List.all_eq_true.mp (by decide +kernel : [Cond.code yX12_cleaned cX12_cleaned 1 (some .int)].all goodWord = true) _ List.mem_cons_self⟩) rfl rfl rfl (by decide +kernel) ⟨Nat.le_of_ble_eq_true rfl, Nat.le_of_ble_eq_true rfl⟩) rfl hl.1 rfl (lv_room (Nat.le_of_ble_eq_true rfl)) dL_law_2318 ⟨by show _ ≤ 601024; omega, by show _ ≤ 7293034; omega⟩ (fun H locs G => ?_)
  refine lv_istore (lv' := [(7, .int r2), (6, .int (vck 1 0 0 k1)), (5, .int (nI i)), (4, .ref ae), (3, .ref aj), (2, .ref (am 0)), (1, .ref (ad2 0)), (0, .ref b)]) hx hb dL_law_2321 hl (by decide) rfl (fun ls hl => ?_)
  refine lv_goto (tgt := 2411) hx hb dL_law_2323 (by decide) ?_
  have hl := lv_sub hl [2, 3, 4, 5, 6, 7] rfl
  refine W.widen (k := 19 + T1.1 + (j + 1)) (n := 38467 + sg T1 + 6 * (j + 1)) (by omega) (by omega) ?_
  exact kk ad2 (vfJ k1 f r1.toInt64) g H locs ls hg hf (had 0 h0T) hV1 hrc1 hJ1 G hl
set_option maxHeartbeats 4000000 in
set_option maxRecDepth 100000 in
theorem y_a60 {p : Program} {e : Env} {s : State} {m : MethodId} {below : List Frame} {meth : Method} {c : Code} (l : Launch) (hst : l.stackTraces = false) {b L : Nat} {xs : Nat → Int32} (hx : p.tables.exec = Jvm.exec) (hb : c.code = code) (hml : c.maxLocals = 9) (hown : s.vm.findClass RL = some m.cls) (hts : ∀ w ∈ lw_tbl, w.before #[Value.ref b] s = true) (hX0 : va_X b L xs s s.heap) (hbl : b < s.heap.size) (hX : xT (fun q => s.heap.size ≤ q) s) (hN : nC s) (hTS : sAll s.heap.size s) {D : va_G} {cI cJ cZ cMic cSrc cSt cAI cAJ cD : ClassId} (hK : va_K D vwCl (CT cI cJ cZ cMic cSrc cSt cAI cAJ ++ [(cD, .double)]) s) {Q : State → Prop} {i j : Nat} (hi : i + 6 ≤ L) (hL : L ≤ 3072) (hj : j < 512) {aj ae : Nat} {ad am : Nat → Nat} {T : AT} {Sm : MS} {f : Nat → Int64} {g : Nat → UInt64} {ls : Array Slot} {H : Heap} {locs : List Loc} (hV : IV aR0 1586 aK1 aK2 T) (hrc : RC T) (hJ : JJ Sm) (G : gL cI cJ cZ cMic cSrc cSt cAI cAJ D ad (fun q => s.heap.size ≤ q) s.heap H locs T (oJ aj cJ f :: oD ae cD g :: MW cI cJ cZ am Sm)) (hl : lv_has ls 9 [(5, .int (nI i)), (4, .ref ae), (3, .ref aj), (2, .ref (am 0)), (1, .ref (ad 0)), (0, .ref b)]) (kk : ∀ {k1 : Nat} {r1 : Int32} {T1 : AT} {r2 : Int32} {S1 : MS} (ad2 : Nat → Nat) (f1 : Nat → Int64) (g1 : Nat → UInt64) (H1 : Heap) (locs1 : List Loc) (ls1 : Array Slot), g_X11_undo T 0 = some (k1, r1, T1) → fr_undo Sm = some (r2, S1) → ad2 0 = ad 0 → IV aR0 1586 aK1 aK2 T1 → RC T1 → JJ S1 → gL cI cJ cZ cMic cSrc cSt cAI cAJ D ad2 (fun q => s.heap.size ≤ q) s.heap H1 locs1 T1 (oJ aj cJ f1 :: oD ae cD g1 :: MW cI cJ cZ am S1) → lv_has ls1 9 [(5, .int (nI i)), (4, .ref ae), (3, .ref aj), (2, .ref (am 0)), (1, .ref (ad2 0)), (0, .ref b)] → W p l e room_1 s m #[Value.ref b] below meth c H1 locs1 (19 + T1.1 + (j + 1)) (38467 + sg T1 + 6 * (j + 1)) Q (F0 m 2411 ls1 [])) : W p l e room_1 s m #[Value.ref b] below meth c H locs (19 + T.1 + j) (38467 + sg T + 6 * j) Q (F0 m 2326 ls []) := by
  have E : cE p c cL_law s m #[Value.ref b] lw_tbl D RL (CT cI cJ cZ cMic cSrc cSt cAI cAJ ++ [(cD, .double)]) := ⟨hx, hb, hts, hown, hK⟩
  have hA : ∀ q : Nat, s.heap.size ≤ q → s.heap.size ≤ q := fun _ h => h
  have h0T : 0 < T.1 := Nat.lt_of_lt_of_le (by decide) hV.1.2.2
  have h0s : T.2.1 0 = (11, 0) := hV.2.1 0 ⟨by decide, by decide +kernel, by decide +kernel⟩
  refine lv_aload_n hx hb dL_law_2326 rfl (lv_at hl 4 rfl) ?_
  refine lv_aload_n hx hb dL_law_2327 rfl (lv_at hl 2 rfl) ?_
  obtain ⟨⟨k1, r1, T1⟩, hg, hc⟩ := cs_X11_undo T 0 hV (by decide +kernel)
  have hV1 : IV aR0 1586 aK1 aK2 T1 := hc.1.1
  have hg1 := s_X11_undo hg
  have hg2 := sg_le hg1
  have hg3 := hg1.1
  have hk := hV1.2.2.2.2.2.2
  have hrc1 := hg1.2.2 hrc
  have hr0 := a_room
  refine l_v (h0 := s.heap.size) (As := [.ref (ad 0), .ref aj]) (rest := []) E G hA hX hN (fun _ h => h) hTS hml (v_undo l hst D s.heap.size ad T 0  aj f hg hrc h0T h0s) (vx_cwSW 2 hts (glA (L := [Cond.methodLink RL 391 yL_undo, Cond.static yL_undo, Cond.initialized RL]) (gl_in [(7, 187), (7, 188), (1, 0)] (by decide +kernel) (by decide +kernel)) ⟨(t_of [Cond.codeWith yL_undo cL_undo 3 (some .int) [(0, 8, 11, 21)]] [(7, 189)] (by decide +kernel) _ List.mem_cons_self), List.all_eq_true.mp (by decide +kernel : [Cond.codeWith yL_undo cL_undo 3 (some .int) [(0, 8, 11, 21)]].all goodWord = true) _ List.mem_cons_self⟩) rfl rfl rfl (by decide +kernel) ⟨Nat.le_of_ble_eq_true rfl, Nat.le_of_ble_eq_true rfl⟩) rfl hl.1 rfl (lv_room (Nat.le_of_ble_eq_true rfl)) dL_law_2328 ⟨by show _ ≤ 601024; omega, by show _ ≤ 7293034; omega⟩ ?_
  intro ad2 H locs had G
  rw [← had 0 h0T] at hl
  refine lv_istore (lv' := [(6, .int (vck 1 0 0 k1)), (5, .int (nI i)), (4, .ref ae), (3, .ref aj), (2, .ref (am 0)), (1, .ref (ad2 0)), (0, .ref b)]) hx hb dL_law_2331 hl (by decide) rfl (fun ls hl => ?_)
  refine lv_aload_n hx hb dL_law_2333 rfl (lv_at hl 4 rfl) ?_
  obtain ⟨⟨r2, S1⟩, hf, hj⟩ := sj_undo Sm hJ
  have hJ1 : JJ S1 := hj
  refine y_mi (As := []) (rest := []) E G hA hX.2.2.2.2 hml (tr_undo l D cI cJ cZ am Sm  hf) (cwV 0 hts (glM (L := [Cond.methodLink RL 393 yX12_undo, Cond.instanceMethod yX12_undo, Cond.selects RX12 yX12_undo yX12_undo, Cond.initialized RX12]) (gl_in [(10, 193), (10, 194), (10, 195), (1, 14)] (by decide +kernel) (by decide +kernel)) ⟨(t_of [Cond.code yX12_undo cX12_undo 1 (some .int)] [(10, 196)] (by decide +kernel) _ List.mem_cons_self), List.all_eq_true.mp (by decide +kernel : [Cond.code yX12_undo cX12_undo 1 (some .int)].all goodWord = true) _ List.mem_cons_self⟩) rfl rfl rfl (by decide +kernel) ⟨Nat.le_of_ble_eq_true rfl, Nat.le_of_ble_eq_true rfl⟩) rfl hl.1 rfl (lv_room (Nat.le_of_ble_eq_true rfl)) dL_law_2334 ⟨by show _ ≤ 601024; omega, by show _ ≤ 7293034; omega⟩ (fun H locs G => ?_)
  refine lv_istore (lv' := [(7, .int r2), (6, .int (vck 1 0 0 k1)), (5, .int (nI i)), (4, .ref ae), (3, .ref aj), (2, .ref (am 0)), (1, .ref (ad2 0)), (0, .ref b)]) hx hb dL_law_2337 hl (by decide) rfl (fun ls hl => ?_)
  refine lv_goto (tgt := 2411) hx hb dL_law_2339 (by decide) ?_
  have hl := lv_sub hl [2, 3, 4, 5, 6, 7] rfl
  refine W.widen (k := 19 + T1.1 + (j + 1)) (n := 38467 + sg T1 + 6 * (j + 1)) (by omega) (by omega) ?_
  exact kk ad2 (vfJ k1 f r1.toInt64) g H locs ls hg hf (had 0 h0T) hV1 hrc1 hJ1 G hl
set_option maxHeartbeats 4000000 in
set_option maxRecDepth 100000 in
theorem y_a61 {p : Program} {e : Env} {s : State} {m : MethodId} {below : List Frame} {meth : Method} {c : Code} (l : Launch) (hst : l.stackTraces = false) {b L : Nat} {xs : Nat → Int32} (hx : p.tables.exec = Jvm.exec) (hb : c.code = code) (hml : c.maxLocals = 9) (hown : s.vm.findClass RL = some m.cls) (hts : ∀ w ∈ lw_tbl, w.before #[Value.ref b] s = true) (hX0 : va_X b L xs s s.heap) (hbl : b < s.heap.size) (hX : xT (fun q => s.heap.size ≤ q) s) (hN : nC s) (hTS : sAll s.heap.size s) {D : va_G} {cI cJ cZ cMic cSrc cSt cAI cAJ cD : ClassId} (hK : va_K D vwCl (CT cI cJ cZ cMic cSrc cSt cAI cAJ ++ [(cD, .double)]) s) {Q : State → Prop} {i j : Nat} (hi : i + 6 ≤ L) (hL : L ≤ 3072) (hj : j < 512) {aj ae : Nat} {ad am : Nat → Nat} {T : AT} {Sm : MS} {f : Nat → Int64} {g : Nat → UInt64} {ls : Array Slot} {H : Heap} {locs : List Loc} (hV : IV aR0 1586 aK1 aK2 T) (hrc : RC T) (hJ : JJ Sm) (G : gL cI cJ cZ cMic cSrc cSt cAI cAJ D ad (fun q => s.heap.size ≤ q) s.heap H locs T (oJ aj cJ f :: oD ae cD g :: MW cI cJ cZ am Sm)) (hl : lv_has ls 9 [(5, .int (nI i)), (4, .ref ae), (3, .ref aj), (2, .ref (am 0)), (1, .ref (ad 0)), (0, .ref b)]) (kk : ∀ {r1 : Int32} {T1 : AT} {r2 : Int32} {S1 : MS} (ad2 : Nat → Nat) (f1 : Nat → Int64) (g1 : Nat → UInt64) (H1 : Heap) (locs1 : List Loc) (ls1 : Array Slot), g_X11_undoable T 0 = some (r1, T1) → fr_undoable Sm = some (r2, S1) → ad2 0 = ad 0 → IV aR0 1586 aK1 aK2 T1 → RC T1 → JJ S1 → gL cI cJ cZ cMic cSrc cSt cAI cAJ D ad2 (fun q => s.heap.size ≤ q) s.heap H1 locs1 T1 (oJ aj cJ f1 :: oD ae cD g1 :: MW cI cJ cZ am S1) → lv_has ls1 9 [(5, .int (nI i)), (4, .ref ae), (3, .ref aj), (2, .ref (am 0)), (1, .ref (ad2 0)), (0, .ref b)] → W p l e room_1 s m #[Value.ref b] below meth c H1 locs1 (19 + T1.1 + (j + 1)) (38467 + sg T1 + 6 * (j + 1)) Q (F0 m 2411 ls1 [])) : W p l e room_1 s m #[Value.ref b] below meth c H locs (19 + T.1 + j) (38467 + sg T + 6 * j) Q (F0 m 2342 ls []) := by
  have E : cE p c cL_law s m #[Value.ref b] lw_tbl D RL (CT cI cJ cZ cMic cSrc cSt cAI cAJ ++ [(cD, .double)]) := ⟨hx, hb, hts, hown, hK⟩
  have hA : ∀ q : Nat, s.heap.size ≤ q → s.heap.size ≤ q := fun _ h => h
  have h0T : 0 < T.1 := Nat.lt_of_lt_of_le (by decide) hV.1.2.2
  have h0s : T.2.1 0 = (11, 0) := hV.2.1 0 ⟨by decide, by decide +kernel, by decide +kernel⟩
  refine lv_aload_n hx hb dL_law_2342 rfl (lv_at hl 4 rfl) ?_
  obtain ⟨⟨r1, T1⟩, hg, hc⟩ := cs_X11_undoable T 0 hV (by decide +kernel)
  have hV1 : IV aR0 1586 aK1 aK2 T1 := by rw [show T1 = T from hc.1]; exact hV
  have hg1 := (gl_sp (s_X11_undoable hg))
  have hg2 := sg_le hg1
  have hg3 := hg1.1
  have hk := hV1.2.2.2.2.2.2
  have hrc1 := hg1.2.2 hrc
  have hr0 := a_room
  refine t_cvi (As := []) (rest := []) E G hA hX hX.2.2.2.1 hml (u_X11_undoable l hst D cI cJ cZ cMic cSrc cSt cAI cAJ ad T 0  hg) (cwV 0 hts (glA (L := [Cond.methodLink RL 394 yX11_undoable, Cond.instanceMethod yX11_undoable, Cond.selects RX11 yX11_undoable yX11_undoable, Cond.initialized RX11]) (gl_in [(3, 88), (3, 89), (3, 90), (1, 1)] (by decide +kernel) (by decide +kernel)) ⟨(t_of [Cond.code yX11_undoable cX11_undoable 1 (some .int)] [(3, 91)] (by decide +kernel) _ List.mem_cons_self), List.all_eq_true.mp (by decide +kernel : [Cond.code yX11_undoable cX11_undoable 1 (some .int)].all goodWord = true) _ List.mem_cons_self⟩) rfl rfl rfl (by decide +kernel) ⟨Nat.le_of_ble_eq_true rfl, Nat.le_of_ble_eq_true rfl⟩) h0T (cc_o11 h0s) rfl rfl hl.1 rfl (lv_room (Nat.le_of_ble_eq_true rfl)) dL_law_2343 ⟨by show _ ≤ 601024; omega, by show _ ≤ 7293034; omega⟩ ?_
  intro r9 T9 H locs hp G
  obtain ⟨hr9, hS1⟩ := hp
  rw [hS1] at G
  refine lv_to (y := r1) hr9 ?_
  refine lv_pop hx hb dL_law_2346 rfl ?_
  refine lv_aload_n hx hb dL_law_2347 rfl (lv_at hl 3 rfl) ?_
  obtain ⟨⟨r2, S1⟩, hf, hj⟩ := sj_undoable Sm hJ
  have hJ1 : JJ S1 := hj
  refine y_mi (As := []) (rest := []) E G hA hX.2.2.2.2 hml (tr_undoable l D cI cJ cZ am Sm  hf) (cwV 0 hts (glM (L := [Cond.methodLink RL 397 yX12_undoable, Cond.instanceMethod yX12_undoable, Cond.selects RX12 yX12_undoable yX12_undoable, Cond.initialized RX12]) (gl_in [(10, 197), (10, 198), (10, 199), (1, 14)] (by decide +kernel) (by decide +kernel)) ⟨(t_of [Cond.code yX12_undoable cX12_undoable 1 (some .int)] [(10, 200)] (by decide +kernel) _ List.mem_cons_self), List.all_eq_true.mp (by decide +kernel : [Cond.code yX12_undoable cX12_undoable 1 (some .int)].all goodWord = true) _ List.mem_cons_self⟩) rfl rfl rfl (by decide +kernel) ⟨Nat.le_of_ble_eq_true rfl, Nat.le_of_ble_eq_true rfl⟩) rfl hl.1 rfl (lv_room (Nat.le_of_ble_eq_true rfl)) dL_law_2348 ⟨by show _ ≤ 601024; omega, by show _ ≤ 7293034; omega⟩ (fun H locs G => ?_)
  refine lv_pop hx hb dL_law_2351 rfl ?_
  refine lv_goto (tgt := 2411) hx hb dL_law_2352 (by decide) ?_
  refine W.widen (k := 19 + T1.1 + (j + 1)) (n := 38467 + sg T1 + 6 * (j + 1)) (by omega) (by omega) ?_
  exact kk ad f g H locs ls hg hf rfl hV1 hrc1 hJ1 G hl
set_option maxHeartbeats 4000000 in
set_option maxRecDepth 100000 in
theorem y_a62 {p : Program} {e : Env} {s : State} {m : MethodId} {below : List Frame} {meth : Method} {c : Code} (l : Launch) (hst : l.stackTraces = false) {b L : Nat} {xs : Nat → Int32} (hx : p.tables.exec = Jvm.exec) (hb : c.code = code) (hml : c.maxLocals = 9) (hown : s.vm.findClass RL = some m.cls) (hts : ∀ w ∈ lw_tbl, w.before #[Value.ref b] s = true) (hX0 : va_X b L xs s s.heap) (hbl : b < s.heap.size) (hX : xT (fun q => s.heap.size ≤ q) s) (hN : nC s) (hTS : sAll s.heap.size s) {D : va_G} {cI cJ cZ cMic cSrc cSt cAI cAJ cD : ClassId} (hK : va_K D vwCl (CT cI cJ cZ cMic cSrc cSt cAI cAJ ++ [(cD, .double)]) s) {Q : State → Prop} {i j : Nat} (hi : i + 6 ≤ L) (hL : L ≤ 3072) (hj : j < 512) {aj ae : Nat} {ad am : Nat → Nat} {T : AT} {Sm : MS} {f : Nat → Int64} {g : Nat → UInt64} {ls : Array Slot} {H : Heap} {locs : List Loc} (hV : IV aR0 1586 aK1 aK2 T) (hrc : RC T) (hJ : JJ Sm) (G : gL cI cJ cZ cMic cSrc cSt cAI cAJ D ad (fun q => s.heap.size ≤ q) s.heap H locs T (oJ aj cJ f :: oD ae cD g :: MW cI cJ cZ am Sm)) (hl : lv_has ls 9 [(5, .int (nI i)), (4, .ref ae), (3, .ref aj), (2, .ref (am 0)), (1, .ref (ad 0)), (0, .ref b)]) (kk : ∀ {k1 : Nat} {r1 : Int32} {T1 : AT} {r2 : Int32} {S1 : MS} (ad2 : Nat → Nat) (f1 : Nat → Int64) (g1 : Nat → UInt64) (H1 : Heap) (locs1 : List Loc) (ls1 : Array Slot), g_X11_save T 0 (xs (i + 1)) = some (k1, r1, T1) → fr_save Sm (xs (i + 1)) = some (r2, S1) → ad2 0 = ad 0 → IV aR0 1586 aK1 aK2 T1 → RC T1 → JJ S1 → gL cI cJ cZ cMic cSrc cSt cAI cAJ D ad2 (fun q => s.heap.size ≤ q) s.heap H1 locs1 T1 (oJ aj cJ f1 :: oD ae cD g1 :: MW cI cJ cZ am S1) → lv_has ls1 9 [(5, .int (nI i)), (4, .ref ae), (3, .ref aj), (2, .ref (am 0)), (1, .ref (ad2 0)), (0, .ref b)] → W p l e room_1 s m #[Value.ref b] below meth c H1 locs1 (19 + T1.1 + (j + 1)) (38467 + sg T1 + 6 * (j + 1)) Q (F0 m 2411 ls1 [])) : W p l e room_1 s m #[Value.ref b] below meth c H locs (19 + T.1 + j) (38467 + sg T + 6 * j) Q (F0 m 2355 ls []) := by
  have E : cE p c cL_law s m #[Value.ref b] lw_tbl D RL (CT cI cJ cZ cMic cSrc cSt cAI cAJ ++ [(cD, .double)]) := ⟨hx, hb, hts, hown, hK⟩
  have hA : ∀ q : Nat, s.heap.size ≤ q → s.heap.size ≤ q := fun _ h => h
  have h0T : 0 < T.1 := Nat.lt_of_lt_of_le (by decide) hV.1.2.2
  have h0s : T.2.1 0 = (11, 0) := hV.2.1 0 ⟨by decide, by decide +kernel, by decide +kernel⟩
  refine lv_aload_n hx hb dL_law_2355 rfl (lv_at hl 4 rfl) ?_
  refine lv_aload_n hx hb dL_law_2356 rfl (lv_at hl 5 rfl) ?_
  refine lv_iload hx hb dL_law_2357 (lv_at hl 0 rfl) ?_
  refine lv_iconst (v := 1) hx hb dL_law_2359 (by decide) ?_
  refine lv_iadd hx hb dL_law_2360 ?_
  refine lv_to (y := nI (i + 1)) (nI_add i 1) ?_
  refine va_sld hx hb hX0 hbl (Nat.not_le.mpr hbl) G.2.2 (i := nI (i + 1)) (vp_in_nI (n := i + 1) (N := L) (by omega) (by omega)) dL_law_2361 ?_
  refine lv_to (y := xs (i + 1)) (congrArg xs (nI_clamp (by omega))) ?_
  refine lv_aload_n hx hb dL_law_2362 rfl (lv_at hl 2 rfl) ?_
  obtain ⟨⟨k1, r1, T1⟩, hg, hc⟩ := cs_X11_save T 0 (xs (i + 1)) hV (by decide +kernel)
  have hV1 : IV aR0 1586 aK1 aK2 T1 := hc.1.1
  have hg1 := s_X11_save hg
  have hg2 := sg_le hg1
  have hg3 := hg1.1
  have hk := hV1.2.2.2.2.2.2
  have hrc1 := hg1.2.2 hrc
  have hr0 := a_room
  refine l_v (h0 := s.heap.size) (As := [.ref (ad 0), .int (xs (i + 1)), .ref aj]) (rest := []) E G hA hX hN (fun _ h => h) hTS hml (v_save l hst D s.heap.size ad T 0 (xs (i + 1)) aj f hg hrc h0T h0s) (vx_cwSW 3 hts (glA (L := [Cond.methodLink RL 398 yL_save, Cond.static yL_save, Cond.initialized RL]) (gl_in [(7, 194), (7, 195), (1, 0)] (by decide +kernel) (by decide +kernel)) ⟨(t_of [Cond.codeWith yL_save cL_save 4 (some .int) [(0, 9, 12, 21), (0, 9, 15, 13)]] [(7, 196)] (by decide +kernel) _ List.mem_cons_self), List.all_eq_true.mp (by decide +kernel : [Cond.codeWith yL_save cL_save 4 (some .int) [(0, 9, 12, 21), (0, 9, 15, 13)]].all goodWord = true) _ List.mem_cons_self⟩) rfl rfl rfl (by decide +kernel) ⟨Nat.le_of_ble_eq_true rfl, Nat.le_of_ble_eq_true rfl⟩) rfl hl.1 rfl (lv_room (Nat.le_of_ble_eq_true rfl)) dL_law_2363 ⟨by show _ ≤ 601024; omega, by show _ ≤ 7293034; omega⟩ ?_
  intro ad2 H locs had G
  rw [← had 0 h0T] at hl
  refine lv_istore (lv' := [(6, .int (vck 1 2 0 k1)), (5, .int (nI i)), (4, .ref ae), (3, .ref aj), (2, .ref (am 0)), (1, .ref (ad2 0)), (0, .ref b)]) hx hb dL_law_2366 hl (by decide) rfl (fun ls hl => ?_)
  refine lv_aload_n hx hb dL_law_2368 rfl (lv_at hl 4 rfl) ?_
  refine lv_aload_n hx hb dL_law_2369 rfl (lv_at hl 6 rfl) ?_
  refine lv_iload hx hb dL_law_2370 (lv_at hl 1 rfl) ?_
  refine lv_iconst (v := 1) hx hb dL_law_2372 (by decide) ?_
  refine lv_iadd hx hb dL_law_2373 ?_
  refine lv_to (y := nI (i + 1)) (nI_add i 1) ?_
  refine va_sld hx hb hX0 hbl (Nat.not_le.mpr hbl) G.2.2 (i := nI (i + 1)) (vp_in_nI (n := i + 1) (N := L) (by omega) (by omega)) dL_law_2374 ?_
  refine lv_to (y := xs (i + 1)) (congrArg xs (nI_clamp (by omega))) ?_
  obtain ⟨⟨r2, S1⟩, hf, hj⟩ := sj_save Sm (xs (i + 1)) hJ
  have hJ1 : JJ S1 := hj
  refine y_mi (As := [.int (xs (i + 1))]) (rest := []) E G hA hX.2.2.2.2 hml (tr_save l D cI cJ cZ am Sm (xs (i + 1)) hf) (cwV 1 hts (glM (L := [Cond.methodLink RL 400 yX12_save, Cond.instanceMethod yX12_save, Cond.selects RX12 yX12_save yX12_save, Cond.initialized RX12]) (gl_in [(10, 201), (10, 202), (10, 203), (1, 14)] (by decide +kernel) (by decide +kernel)) ⟨(t_of [Cond.code yX12_save cX12_save 2 (some .int)] [(10, 204)] (by decide +kernel) _ List.mem_cons_self), List.all_eq_true.mp (by decide +kernel : [Cond.code yX12_save cX12_save 2 (some .int)].all goodWord = true) _ List.mem_cons_self⟩) rfl rfl rfl (by decide +kernel) ⟨Nat.le_of_ble_eq_true rfl, Nat.le_of_ble_eq_true rfl⟩) rfl hl.1 rfl (lv_room (Nat.le_of_ble_eq_true rfl)) dL_law_2375 ⟨by show _ ≤ 601024; omega, by show _ ≤ 7293034; omega⟩ (fun H locs G => ?_)
  refine lv_istore (lv' := [(7, .int r2), (6, .int (vck 1 2 0 k1)), (5, .int (nI i)), (4, .ref ae), (3, .ref aj), (2, .ref (am 0)), (1, .ref (ad2 0)), (0, .ref b)]) hx hb dL_law_2378 hl (by decide) rfl (fun ls hl => ?_)
  refine lv_goto (tgt := 2411) hx hb dL_law_2380 (by decide) ?_
  have hl := lv_sub hl [2, 3, 4, 5, 6, 7] rfl
  refine W.widen (k := 19 + T1.1 + (j + 1)) (n := 38467 + sg T1 + 6 * (j + 1)) (by omega) (by omega) ?_
  exact kk ad2 (vfJ k1 f r1.toInt64) g H locs ls hg hf (had 0 h0T) hV1 hrc1 hJ1 G hl
set_option maxHeartbeats 4000000 in
set_option maxRecDepth 100000 in
theorem y_a63 {p : Program} {e : Env} {s : State} {m : MethodId} {below : List Frame} {meth : Method} {c : Code} (l : Launch) (hst : l.stackTraces = false) {b L : Nat} {xs : Nat → Int32} (hx : p.tables.exec = Jvm.exec) (hb : c.code = code) (hml : c.maxLocals = 9) (hown : s.vm.findClass RL = some m.cls) (hts : ∀ w ∈ lw_tbl, w.before #[Value.ref b] s = true) (hX0 : va_X b L xs s s.heap) (hbl : b < s.heap.size) (hX : xT (fun q => s.heap.size ≤ q) s) (hN : nC s) (hTS : sAll s.heap.size s) {D : va_G} {cI cJ cZ cMic cSrc cSt cAI cAJ cD : ClassId} (hK : va_K D vwCl (CT cI cJ cZ cMic cSrc cSt cAI cAJ ++ [(cD, .double)]) s) {Q : State → Prop} {i j : Nat} (hi : i + 6 ≤ L) (hL : L ≤ 3072) (hj : j < 512) {aj ae : Nat} {ad am : Nat → Nat} {T : AT} {Sm : MS} {f : Nat → Int64} {g : Nat → UInt64} {ls : Array Slot} {H : Heap} {locs : List Loc} (hV : IV aR0 1586 aK1 aK2 T) (hrc : RC T) (hJ : JJ Sm) (G : gL cI cJ cZ cMic cSrc cSt cAI cAJ D ad (fun q => s.heap.size ≤ q) s.heap H locs T (oJ aj cJ f :: oD ae cD g :: MW cI cJ cZ am Sm)) (hl : lv_has ls 9 [(5, .int (nI i)), (4, .ref ae), (3, .ref aj), (2, .ref (am 0)), (1, .ref (ad 0)), (0, .ref b)]) (kk : ∀ {k1 : Nat} {r1 : Int32} {T1 : AT} {r2 : Int32} {S1 : MS} (ad2 : Nat → Nat) (f1 : Nat → Int64) (g1 : Nat → UInt64) (H1 : Heap) (locs1 : List Loc) (ls1 : Array Slot), g_X11_restore T 0 (xs (i + 1)) = some (k1, r1, T1) → fr_restore Sm (xs (i + 1)) = some (r2, S1) → ad2 0 = ad 0 → IV aR0 1586 aK1 aK2 T1 → RC T1 → JJ S1 → gL cI cJ cZ cMic cSrc cSt cAI cAJ D ad2 (fun q => s.heap.size ≤ q) s.heap H1 locs1 T1 (oJ aj cJ f1 :: oD ae cD g1 :: MW cI cJ cZ am S1) → lv_has ls1 9 [(5, .int (nI i)), (4, .ref ae), (3, .ref aj), (2, .ref (am 0)), (1, .ref (ad2 0)), (0, .ref b)] → W p l e room_1 s m #[Value.ref b] below meth c H1 locs1 (19 + T1.1 + (j + 1)) (38467 + sg T1 + 6 * (j + 1)) Q (F0 m 2411 ls1 [])) : W p l e room_1 s m #[Value.ref b] below meth c H locs (19 + T.1 + j) (38467 + sg T + 6 * j) Q (F0 m 2383 ls []) := by
  have E : cE p c cL_law s m #[Value.ref b] lw_tbl D RL (CT cI cJ cZ cMic cSrc cSt cAI cAJ ++ [(cD, .double)]) := ⟨hx, hb, hts, hown, hK⟩
  have hA : ∀ q : Nat, s.heap.size ≤ q → s.heap.size ≤ q := fun _ h => h
  have h0T : 0 < T.1 := Nat.lt_of_lt_of_le (by decide) hV.1.2.2
  have h0s : T.2.1 0 = (11, 0) := hV.2.1 0 ⟨by decide, by decide +kernel, by decide +kernel⟩
  refine lv_aload_n hx hb dL_law_2383 rfl (lv_at hl 4 rfl) ?_
  refine lv_aload_n hx hb dL_law_2384 rfl (lv_at hl 5 rfl) ?_
  refine lv_iload hx hb dL_law_2385 (lv_at hl 0 rfl) ?_
  refine lv_iconst (v := 1) hx hb dL_law_2387 (by decide) ?_
  refine lv_iadd hx hb dL_law_2388 ?_
  refine lv_to (y := nI (i + 1)) (nI_add i 1) ?_
  refine va_sld hx hb hX0 hbl (Nat.not_le.mpr hbl) G.2.2 (i := nI (i + 1)) (vp_in_nI (n := i + 1) (N := L) (by omega) (by omega)) dL_law_2389 ?_
  refine lv_to (y := xs (i + 1)) (congrArg xs (nI_clamp (by omega))) ?_
  refine lv_aload_n hx hb dL_law_2390 rfl (lv_at hl 2 rfl) ?_
  obtain ⟨⟨k1, r1, T1⟩, hg, hc⟩ := cs_X11_restore T 0 (xs (i + 1)) hV (by decide +kernel)
  have hV1 : IV aR0 1586 aK1 aK2 T1 := hc.1.1
  have hg1 := s_X11_restore hg
  have hg2 := sg_le hg1
  have hg3 := hg1.1
  have hk := hV1.2.2.2.2.2.2
  have hrc1 := hg1.2.2 hrc
  have hr0 := a_room
  refine l_v (h0 := s.heap.size) (As := [.ref (ad 0), .int (xs (i + 1)), .ref aj]) (rest := []) E G hA hX hN (fun _ h => h) hTS hml (v_restore l hst D s.heap.size ad T 0 (xs (i + 1)) aj f hg hrc h0T h0s) (vx_cwSW 3 hts (glA (L := [Cond.methodLink RL 401 yL_restore, Cond.static yL_restore, Cond.initialized RL]) (gl_in [(7, 201), (7, 202), (1, 0)] (by decide +kernel) (by decide +kernel)) ⟨(t_of [Cond.codeWith yL_restore cL_restore 4 (some .int) [(0, 9, 12, 13), (0, 9, 15, 21)]] [(7, 203)] (by decide +kernel) _ List.mem_cons_self), List.all_eq_true.mp (by decide +kernel : [Cond.codeWith yL_restore cL_restore 4 (some .int) [(0, 9, 12, 13), (0, 9, 15, 21)]].all goodWord = true) _ List.mem_cons_self⟩) rfl rfl rfl (by decide +kernel) ⟨Nat.le_of_ble_eq_true rfl, Nat.le_of_ble_eq_true rfl⟩) rfl hl.1 rfl (lv_room (Nat.le_of_ble_eq_true rfl)) dL_law_2391 ⟨by show _ ≤ 601024; omega, by show _ ≤ 7293034; omega⟩ ?_
  intro ad2 H locs had G
  rw [← had 0 h0T] at hl
  refine lv_istore (lv' := [(6, .int (vck 2 1 0 k1)), (5, .int (nI i)), (4, .ref ae), (3, .ref aj), (2, .ref (am 0)), (1, .ref (ad2 0)), (0, .ref b)]) hx hb dL_law_2394 hl (by decide) rfl (fun ls hl => ?_)
  refine lv_aload_n hx hb dL_law_2396 rfl (lv_at hl 4 rfl) ?_
  refine lv_aload_n hx hb dL_law_2397 rfl (lv_at hl 6 rfl) ?_
  refine lv_iload hx hb dL_law_2398 (lv_at hl 1 rfl) ?_
  refine lv_iconst (v := 1) hx hb dL_law_2400 (by decide) ?_
  refine lv_iadd hx hb dL_law_2401 ?_
  refine lv_to (y := nI (i + 1)) (nI_add i 1) ?_
  refine va_sld hx hb hX0 hbl (Nat.not_le.mpr hbl) G.2.2 (i := nI (i + 1)) (vp_in_nI (n := i + 1) (N := L) (by omega) (by omega)) dL_law_2402 ?_
  refine lv_to (y := xs (i + 1)) (congrArg xs (nI_clamp (by omega))) ?_
  obtain ⟨⟨r2, S1⟩, hf, hj⟩ := sj_restore Sm (xs (i + 1)) hJ
  have hJ1 : JJ S1 := hj
  refine y_mi (As := [.int (xs (i + 1))]) (rest := []) E G hA hX.2.2.2.2 hml (tr_restore l D cI cJ cZ am Sm (xs (i + 1)) hf) (cwV 1 hts (glM (L := [Cond.methodLink RL 403 yX12_restore, Cond.instanceMethod yX12_restore, Cond.selects RX12 yX12_restore yX12_restore, Cond.initialized RX12]) (gl_in [(10, 205), (10, 206), (10, 207), (1, 14)] (by decide +kernel) (by decide +kernel)) ⟨(t_of [Cond.code yX12_restore cX12_restore 2 (some .int)] [(10, 208)] (by decide +kernel) _ List.mem_cons_self), List.all_eq_true.mp (by decide +kernel : [Cond.code yX12_restore cX12_restore 2 (some .int)].all goodWord = true) _ List.mem_cons_self⟩) rfl rfl rfl (by decide +kernel) ⟨Nat.le_of_ble_eq_true rfl, Nat.le_of_ble_eq_true rfl⟩) rfl hl.1 rfl (lv_room (Nat.le_of_ble_eq_true rfl)) dL_law_2403 ⟨by show _ ≤ 601024; omega, by show _ ≤ 7293034; omega⟩ (fun H locs G => ?_)
  refine lv_istore (lv' := [(7, .int r2), (6, .int (vck 2 1 0 k1)), (5, .int (nI i)), (4, .ref ae), (3, .ref aj), (2, .ref (am 0)), (1, .ref (ad2 0)), (0, .ref b)]) hx hb dL_law_2406 hl (by decide) rfl (fun ls hl => ?_)
  refine lv_goto (tgt := 2411) hx hb dL_law_2408 (by decide) ?_
  have hl := lv_sub hl [2, 3, 4, 5, 6, 7] rfl
  refine W.widen (k := 19 + T1.1 + (j + 1)) (n := 38467 + sg T1 + 6 * (j + 1)) (by omega) (by omega) ?_
  exact kk ad2 (vfJ k1 f r1.toInt64) g H locs ls hg hf (had 0 h0T) hV1 hrc1 hJ1 G hl
