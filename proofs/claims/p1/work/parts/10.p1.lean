theorem dL_law_38 : decode cL_law 38 = .ok (.aload_n 0, 1) := by decide +kernel
theorem dL_law_39 : decode cL_law 39 = .ok (.iload 5, 2) := by decide +kernel
theorem dL_law_41 : decode cL_law 41 = .ok (.iaload, 1) := by decide +kernel
theorem dL_law_42 : decode cL_law 42 = .ok (.bipush 63, 2) := by decide +kernel
theorem dL_law_44 : decode cL_law 44 = .ok (.iand, 1) := by decide +kernel
theorem dL_law_45 : decode cL_law 45 = .ok (.tableswitch 3930 0 63 #[271, 344, 400, 413, 426, 439, 452, 520, 583, 596, 609, 677, 690, 770, 833, 901, 914, 982, 1062, 1118, 1174, 1242, 1310, 1365, 1432, 1476, 1519, 1562, 1606, 1662, 1725, 1780, 1836, 1902, 1982, 2069, 2137, 2216, 2284, 2340, 2395, 2463, 2542, 2622, 2701, 2781, 2836, 2892, 2936, 2992, 3060, 3139, 3195, 3251, 3342, 3410, 3501, 3581, 3661, 3717, 3761, 3805, 3818, 3874], 271) := by decide +kernel
theorem p_k (x : Int32) : ∃ k : Nat, k < 64 ∧ x &&& 63 = Int32.ofNat k := by
  refine ⟨(x &&& 63).toBitVec.toNat, ?_, ?_⟩
  · have h : (x &&& 63).toBitVec.toNat = x.toBitVec.toNat &&& 63 := by
      rw [Int32.toBitVec_and, BitVec.toNat_and]
      rfl
    rw [h]
    exact Nat.lt_of_le_of_lt Nat.and_le_right (by decide)
  · exact Int32.toBitVec_inj.mp (BitVec.eq_of_toNat_eq (by
      show _ = (BitVec.ofNat 32 (x &&& 63).toBitVec.toNat).toNat
      rw [BitVec.toNat_ofNat, Nat.mod_eq_of_lt (x &&& 63).toBitVec.isLt]))
set_option maxHeartbeats 8000000 in
set_option maxRecDepth 100000 in
theorem p_arms {p : Program} {e : Env} {s : State} {m : MethodId} {below : List Frame} {meth : Method} {c : Code} (l : Launch) (hst : l.stackTraces = false) {b : Nat} {xs : Nat → Int32} (hx : p.tables.exec = Jvm.exec) (hb : c.code = code) (hr : meth.sig.returnType = ret) (hml : c.maxLocals = 9) (hown : s.vm.findClass RL = some m.cls) (hts : ∀ w ∈ lw_tbl, w.before #[Value.ref b] s = true) (hlocks : meth.locks = false) (hX0 : va_X b 6 xs s s.heap) (hbl : b < s.heap.size) (hX : xT (fun q => s.heap.size ≤ q) s) (hN1 : va_Nc xIAE xIOB s) (hN2 : va_Nc xISE xIOB s) {D : va_G} {cI cJ cZ cMic cSrc cSt cAI cAJ cD : ClassId} {ad am : Nat → Nat} {N : Nat} {S : Nat → va_E} {ls : Array Slot} {H : Heap} {locs : List Loc} (hK : va_K D vwCl (CT cI cJ cZ cMic cSrc cSt cAI cAJ ++ [(cD, .double)]) s) (hN : 1586 ≤ N) (F : FR cI cJ cZ cMic cSrc cSt cAI cAJ ad S) (G : lG D ad N cI cJ cZ am (fun q => s.heap.size ≤ q) s.heap H locs S mS0) (hl : lv_has ls 9 [(5, .int 0), (4, .ref (am 99)), (3, .ref (am 98)), (2, .ref (am 0)), (1, .ref (ad 0)), (0, .ref b)]) : ∀ k : Nat, k < 64 → xs 0 &&& 63 = Int32.ofNat k → W p l e room_1 s m #[Value.ref b] below meth c H locs 1605 82603 (lw_Z below #[Value.ref b] s) (F0 m 45 ls [.int (xs 0 &&& 63)]) := by
  intro k hk e0
  rw [e0]
  clear e0
  match k, hk with
  | 0, _ => exact lv_tableIn (off := 271) (tgt := 316) hx hb dL_law_45 (by decide) (by decide) rfl (by decide) (p_a0 l hst hx hb hr hml hown hts hlocks hX0 hbl hX hN1 hN2 hK hN F G hl)
  | 1, _ => exact lv_tableIn (off := 344) (tgt := 389) hx hb dL_law_45 (by decide) (by decide) rfl (by decide) (if h : xs 1 = 0 then (fun h => p_a1_0 l hst hx hb hr hml hown hts hlocks hX0 hbl hX hN1 hN2 hK hN F G hl h) h else p_a1_x l hst hx hb hr hml hown hts hlocks hX0 hbl hX hN1 hN2 hK hN F G hl h)
  | 2, _ => exact lv_tableIn (off := 400) (tgt := 445) hx hb dL_law_45 (by decide) (by decide) rfl (by decide) (p_a2 l hst hx hb hr hml hown hts hlocks hX0 hbl hX hN1 hN2 hK hN F G hl)
  | 3, _ => exact lv_tableIn (off := 413) (tgt := 458) hx hb dL_law_45 (by decide) (by decide) rfl (by decide) (p_a3 l hst hx hb hr hml hown hts hlocks hX0 hbl hX hN1 hN2 hK hN F G hl)
  | 4, _ => exact lv_tableIn (off := 426) (tgt := 471) hx hb dL_law_45 (by decide) (by decide) rfl (by decide) (p_a4 l hst hx hb hr hml hown hts hlocks hX0 hbl hX hN1 hN2 hK hN F G hl)
  | 5, _ => exact lv_tableIn (off := 439) (tgt := 484) hx hb dL_law_45 (by decide) (by decide) rfl (by decide) (p_a5 l hst hx hb hr hml hown hts hlocks hX0 hbl hX hN1 hN2 hK hN F G hl)
  | 6, _ => exact lv_tableIn (off := 452) (tgt := 497) hx hb dL_law_45 (by decide) (by decide) rfl (by decide) (p_a6 l hst hx hb hr hml hown hts hlocks hX0 hbl hX hN1 hN2 hK hN F G hl)
  | 7, _ => exact lv_tableIn (off := 520) (tgt := 565) hx hb dL_law_45 (by decide) (by decide) rfl (by decide) (p_a7 l hst hx hb hr hml hown hts hlocks hX0 hbl hX hN1 hN2 hK hN F G hl)
  | 8, _ => exact lv_tableIn (off := 583) (tgt := 628) hx hb dL_law_45 (by decide) (by decide) rfl (by decide) (p_a8 l hst hx hb hr hml hown hts hlocks hX0 hbl hX hN1 hN2 hK hN F G hl)
  | 9, _ => exact lv_tableIn (off := 596) (tgt := 641) hx hb dL_law_45 (by decide) (by decide) rfl (by decide) (p_a9 l hst hx hb hr hml hown hts hlocks hX0 hbl hX hN1 hN2 hK hN F G hl)
  | 10, _ => exact lv_tableIn (off := 609) (tgt := 654) hx hb dL_law_45 (by decide) (by decide) rfl (by decide) (p_a10 l hst hx hb hr hml hown hts hlocks hX0 hbl hX hN1 hN2 hK hN F G hl)
  | 11, _ => exact lv_tableIn (off := 677) (tgt := 722) hx hb dL_law_45 (by decide) (by decide) rfl (by decide) (p_a11 l hst hx hb hr hml hown hts hlocks hX0 hbl hX hN1 hN2 hK hN F G hl)
  | 12, _ => exact lv_tableIn (off := 690) (tgt := 735) hx hb dL_law_45 (by decide) (by decide) rfl (by decide) (p_a12 l hst hx hb hr hml hown hts hlocks hX0 hbl hX hN1 hN2 hK hN F G hl)
  | 13, _ => exact lv_tableIn (off := 770) (tgt := 815) hx hb dL_law_45 (by decide) (by decide) rfl (by decide) (p_a13 l hst hx hb hr hml hown hts hlocks hX0 hbl hX hN1 hN2 hK hN F G hl)
  | 14, _ => exact lv_tableIn (off := 833) (tgt := 878) hx hb dL_law_45 (by decide) (by decide) rfl (by decide) (p_a14 l hst hx hb hr hml hown hts hlocks hX0 hbl hX hN1 hN2 hK hN F G hl)
  | 15, _ => exact lv_tableIn (off := 901) (tgt := 946) hx hb dL_law_45 (by decide) (by decide) rfl (by decide) (p_a15 l hst hx hb hr hml hown hts hlocks hX0 hbl hX hN1 hN2 hK hN F G hl)
  | 16, _ => exact lv_tableIn (off := 914) (tgt := 959) hx hb dL_law_45 (by decide) (by decide) rfl (by decide) (p_a16 l hst hx hb hr hml hown hts hlocks hX0 hbl hX hN1 hN2 hK hN F G hl)
  | 17, _ => exact lv_tableIn (off := 982) (tgt := 1027) hx hb dL_law_45 (by decide) (by decide) rfl (by decide) (p_a17 l hst hx hb hr hml hown hts hlocks hX0 hbl hX hN1 hN2 hK hN F G hl)
  | 18, _ => exact lv_tableIn (off := 1062) (tgt := 1107) hx hb dL_law_45 (by decide) (by decide) rfl (by decide) (p_a18 l hst hx hb hr hml hown hts hlocks hX0 hbl hX hN1 hN2 hK hN F G hl)
  | 19, _ => exact lv_tableIn (off := 1118) (tgt := 1163) hx hb dL_law_45 (by decide) (by decide) rfl (by decide) (p_a19 l hst hx hb hr hml hown hts hlocks hX0 hbl hX hN1 hN2 hK hN F G hl)
  | 20, _ => exact lv_tableIn (off := 1174) (tgt := 1219) hx hb dL_law_45 (by decide) (by decide) rfl (by decide) (p_a20 l hst hx hb hr hml hown hts hlocks hX0 hbl hX hN1 hN2 hK hN F G hl)
  | 21, _ => exact lv_tableIn (off := 1242) (tgt := 1287) hx hb dL_law_45 (by decide) (by decide) rfl (by decide) (p_a21 l hst hx hb hr hml hown hts hlocks hX0 hbl hX hN1 hN2 hK hN F G hl)
  | 22, _ => exact lv_tableIn (off := 1310) (tgt := 1355) hx hb dL_law_45 (by decide) (by decide) rfl (by decide) (p_a22 l hst hx hb hr hml hown hts hlocks hX0 hbl hX hN1 hN2 hK hN F G hl)
  | 23, _ => exact lv_tableIn (off := 1365) (tgt := 1410) hx hb dL_law_45 (by decide) (by decide) rfl (by decide) (p_a23 l hst hx hb hr hml hown hts hlocks hX0 hbl hX hN1 hN2 hK hN F G hl)
  | 24, _ => exact lv_tableIn (off := 1432) (tgt := 1477) hx hb dL_law_45 (by decide) (by decide) rfl (by decide) (p_a24 l hst hx hb hr hml hown hts hlocks hX0 hbl hX hN1 hN2 hK hN F G hl)
  | 25, _ => exact lv_tableIn (off := 1476) (tgt := 1521) hx hb dL_law_45 (by decide) (by decide) rfl (by decide) (p_a25 l hst hx hb hr hml hown hts hlocks hX0 hbl hX hN1 hN2 hK hN F G hl)
  | 26, _ => exact lv_tableIn (off := 1519) (tgt := 1564) hx hb dL_law_45 (by decide) (by decide) rfl (by decide) (p_a26 l hst hx hb hr hml hown hts hlocks hX0 hbl hX hN1 hN2 hK hN F G hl)
  | 27, _ => exact lv_tableIn (off := 1562) (tgt := 1607) hx hb dL_law_45 (by decide) (by decide) rfl (by decide) (p_a27 l hst hx hb hr hml hown hts hlocks hX0 hbl hX hN1 hN2 hK hN F G hl)
  | 28, _ => exact lv_tableIn (off := 1606) (tgt := 1651) hx hb dL_law_45 (by decide) (by decide) rfl (by decide) (p_a28 l hst hx hb hr hml hown hts hlocks hX0 hbl hX hN1 hN2 hK hN F G hl)
  | 29, _ => exact lv_tableIn (off := 1662) (tgt := 1707) hx hb dL_law_45 (by decide) (by decide) rfl (by decide) (p_a29 l hst hx hb hr hml hown hts hlocks hX0 hbl hX hN1 hN2 hK hN F G hl)
  | 30, _ => exact lv_tableIn (off := 1725) (tgt := 1770) hx hb dL_law_45 (by decide) (by decide) rfl (by decide) (p_a30 l hst hx hb hr hml hown hts hlocks hX0 hbl hX hN1 hN2 hK hN F G hl)
  | 31, _ => exact lv_tableIn (off := 1780) (tgt := 1825) hx hb dL_law_45 (by decide) (by decide) rfl (by decide) (p_a31 l hst hx hb hr hml hown hts hlocks hX0 hbl hX hN1 hN2 hK hN F G hl)
  | 32, _ => exact lv_tableIn (off := 1836) (tgt := 1881) hx hb dL_law_45 (by decide) (by decide) rfl (by decide) (p_a32 l hst hx hb hr hml hown hts hlocks hX0 hbl hX hN1 hN2 hK hN F G hl)
  | 33, _ => exact lv_tableIn (off := 1902) (tgt := 1947) hx hb dL_law_45 (by decide) (by decide) rfl (by decide) (p_a33 l hst hx hb hr hml hown hts hlocks hX0 hbl hX hN1 hN2 hK hN F G hl)
  | 34, _ => exact lv_tableIn (off := 1982) (tgt := 2027) hx hb dL_law_45 (by decide) (by decide) rfl (by decide) (p_a34 l hst hx hb hr hml hown hts hlocks hX0 hbl hX hN1 hN2 hK hN F G hl)
  | 35, _ => exact lv_tableIn (off := 2069) (tgt := 2114) hx hb dL_law_45 (by decide) (by decide) rfl (by decide) (p_a35 l hst hx hb hr hml hown hts hlocks hX0 hbl hX hN1 hN2 hK hN F G hl)
  | 36, _ => exact lv_tableIn (off := 2137) (tgt := 2182) hx hb dL_law_45 (by decide) (by decide) rfl (by decide) (p_a36 l hst hx hb hr hml hown hts hlocks hX0 hbl hX hN1 hN2 hK hN F G hl)
  | 37, _ => exact lv_tableIn (off := 2216) (tgt := 2261) hx hb dL_law_45 (by decide) (by decide) rfl (by decide) (p_a37 l hst hx hb hr hml hown hts hlocks hX0 hbl hX hN1 hN2 hK hN F G hl)
  | 38, _ => exact lv_tableIn (off := 2284) (tgt := 2329) hx hb dL_law_45 (by decide) (by decide) rfl (by decide) (p_a38 l hst hx hb hr hml hown hts hlocks hX0 hbl hX hN1 hN2 hK hN F G hl)
  | 39, _ => exact lv_tableIn (off := 2340) (tgt := 2385) hx hb dL_law_45 (by decide) (by decide) rfl (by decide) (p_a39 l hst hx hb hr hml hown hts hlocks hX0 hbl hX hN1 hN2 hK hN F G hl)
  | 40, _ => exact lv_tableIn (off := 2395) (tgt := 2440) hx hb dL_law_45 (by decide) (by decide) rfl (by decide) (p_a40 l hst hx hb hr hml hown hts hlocks hX0 hbl hX hN1 hN2 hK hN F G hl)
  | 41, _ => exact lv_tableIn (off := 2463) (tgt := 2508) hx hb dL_law_45 (by decide) (by decide) rfl (by decide) (p_a41 l hst hx hb hr hml hown hts hlocks hX0 hbl hX hN1 hN2 hK hN F G hl)
  | 42, _ => exact lv_tableIn (off := 2542) (tgt := 2587) hx hb dL_law_45 (by decide) (by decide) rfl (by decide) (p_a42 l hst hx hb hr hml hown hts hlocks hX0 hbl hX hN1 hN2 hK hN F G hl)
  | 43, _ => exact lv_tableIn (off := 2622) (tgt := 2667) hx hb dL_law_45 (by decide) (by decide) rfl (by decide) (p_a43 l hst hx hb hr hml hown hts hlocks hX0 hbl hX hN1 hN2 hK hN F G hl)
  | 44, _ => exact lv_tableIn (off := 2701) (tgt := 2746) hx hb dL_law_45 (by decide) (by decide) rfl (by decide) (p_a44 l hst hx hb hr hml hown hts hlocks hX0 hbl hX hN1 hN2 hK hN F G hl)
  | 45, _ => exact lv_tableIn (off := 2781) (tgt := 2826) hx hb dL_law_45 (by decide) (by decide) rfl (by decide) (p_a45 l hst hx hb hr hml hown hts hlocks hX0 hbl hX hN1 hN2 hK hN F G hl)
  | 46, _ => exact lv_tableIn (off := 2836) (tgt := 2881) hx hb dL_law_45 (by decide) (by decide) rfl (by decide) (p_a46 l hst hx hb hr hml hown hts hlocks hX0 hbl hX hN1 hN2 hK hN F G hl)
  | 47, _ => exact lv_tableIn (off := 2892) (tgt := 2937) hx hb dL_law_45 (by decide) (by decide) rfl (by decide) (p_a47 l hst hx hb hr hml hown hts hlocks hX0 hbl hX hN1 hN2 hK hN F G hl)
  | 48, _ => exact lv_tableIn (off := 2936) (tgt := 2981) hx hb dL_law_45 (by decide) (by decide) rfl (by decide) (p_a48 l hst hx hb hr hml hown hts hlocks hX0 hbl hX hN1 hN2 hK hN F G hl)
  | 49, _ => exact lv_tableIn (off := 2992) (tgt := 3037) hx hb dL_law_45 (by decide) (by decide) rfl (by decide) (p_a49 l hst hx hb hr hml hown hts hlocks hX0 hbl hX hN1 hN2 hK hN F G hl)
  | 50, _ => exact lv_tableIn (off := 3060) (tgt := 3105) hx hb dL_law_45 (by decide) (by decide) rfl (by decide) (p_a50 l hst hx hb hr hml hown hts hlocks hX0 hbl hX hN1 hN2 hK hN F G hl)
  | 51, _ => exact lv_tableIn (off := 3139) (tgt := 3184) hx hb dL_law_45 (by decide) (by decide) rfl (by decide) (p_a51 l hst hx hb hr hml hown hts hlocks hX0 hbl hX hN1 hN2 hK hN F G hl)
  | 52, _ => exact lv_tableIn (off := 3195) (tgt := 3240) hx hb dL_law_45 (by decide) (by decide) rfl (by decide) (p_a52 l hst hx hb hr hml hown hts hlocks hX0 hbl hX hN1 hN2 hK hN F G hl)
  | 53, _ => exact lv_tableIn (off := 3251) (tgt := 3296) hx hb dL_law_45 (by decide) (by decide) rfl (by decide) (p_a53 l hst hx hb hr hml hown hts hlocks hX0 hbl hX hN1 hN2 hK hN F G hl)
  | 54, _ => exact lv_tableIn (off := 3342) (tgt := 3387) hx hb dL_law_45 (by decide) (by decide) rfl (by decide) (p_a54 l hst hx hb hr hml hown hts hlocks hX0 hbl hX hN1 hN2 hK hN F G hl)
  | 55, _ => exact lv_tableIn (off := 3410) (tgt := 3455) hx hb dL_law_45 (by decide) (by decide) rfl (by decide) (p_a55 l hst hx hb hr hml hown hts hlocks hX0 hbl hX hN1 hN2 hK hN F G hl)
  | 56, _ => exact lv_tableIn (off := 3501) (tgt := 3546) hx hb dL_law_45 (by decide) (by decide) rfl (by decide) (p_a56 l hst hx hb hr hml hown hts hlocks hX0 hbl hX hN1 hN2 hK hN F G hl)
  | 57, _ => exact lv_tableIn (off := 3581) (tgt := 3626) hx hb dL_law_45 (by decide) (by decide) rfl (by decide) (p_a57 l hst hx hb hr hml hown hts hlocks hX0 hbl hX hN1 hN2 hK hN F G hl)
  | 58, _ => exact lv_tableIn (off := 3661) (tgt := 3706) hx hb dL_law_45 (by decide) (by decide) rfl (by decide) (p_a58 l hst hx hb hr hml hown hts hlocks hX0 hbl hX hN1 hN2 hK hN F G hl)
  | 59, _ => exact lv_tableIn (off := 3717) (tgt := 3762) hx hb dL_law_45 (by decide) (by decide) rfl (by decide) (p_a59 l hst hx hb hr hml hown hts hlocks hX0 hbl hX hN1 hN2 hK hN F G hl)
  | 60, _ => exact lv_tableIn (off := 3761) (tgt := 3806) hx hb dL_law_45 (by decide) (by decide) rfl (by decide) (p_a60 l hst hx hb hr hml hown hts hlocks hX0 hbl hX hN1 hN2 hK hN F G hl)
  | 61, _ => exact lv_tableIn (off := 3805) (tgt := 3850) hx hb dL_law_45 (by decide) (by decide) rfl (by decide) (p_a61 l hst hx hb hr hml hown hts hlocks hX0 hbl hX hN1 hN2 hK hN F G hl)
  | 62, _ => exact lv_tableIn (off := 3818) (tgt := 3863) hx hb dL_law_45 (by decide) (by decide) rfl (by decide) (p_a62 l hst hx hb hr hml hown hts hlocks hX0 hbl hX hN1 hN2 hK hN F G hl)
  | 63, _ => exact lv_tableIn (off := 3874) (tgt := 3919) hx hb dL_law_45 (by decide) (by decide) rfl (by decide) (if h : ¬ xs 1 < 0 ∧ xs 1 < 2 then p_a63_a l hst hx hb hr hml hown hts hlocks hX0 hbl hX hN1 hN2 hK hN F G hl h.1 h.2 else p_a63_b l hst hx hb hr hml hown hts hlocks hX0 hbl hX hN1 hN2 hK hN F G hl h)
  | (n + 64), h => exact absurd h (by omega)
set_option maxHeartbeats 8000000 in
set_option maxRecDepth 100000 in
theorem p_start {p : Program} {e : Env} {s : State} {m : MethodId} {below : List Frame} {meth : Method} {c : Code} (l : Launch) (hflags : l.flags = flags0) {b L : Nat} {xs : Nat → Int32} (hL : L ≤ 6) (C0 : lw_At p s m meth c b L xs) : W p l e room_1 s m #[Value.ref b] below meth c s.heap [] 0 0 (lw_Z below #[Value.ref b] s) (entryFrame m ([Value.ref b] : List Value).toArray 9) := by
  obtain ⟨hx, hb, hr, hml, hown, hts, hX0, hbl, hlocks, hg⟩ := C0
  obtain ⟨hX, hN1, hN2⟩ := l_X hts hg
  have hst : l.stackTraces = false := by
    unfold Launch.stackTraces
    rw [hflags]
    decide +kernel
  refine l_open l hx hb hml hown hts (fun D cI cJ cZ cMic cSrc cSt cAI cAJ cD ad am S ls H locs hK hT G hl => ?_)
  have F := fr_of (f := (fun n => bif Nat.beq n 0 then am 98 else am 99)) (g := (fun n => bif Nat.beq n 0 then .inl (cJ, 1, .inr (.inl (fun _ => 0))) else .inl (cD, 1, .inr (.inr (.inr (.inl (fun _ => 0))))))) hT
  have hl : lv_has ls 9 [(5, .int 0), (4, .ref (am 99)), (3, .ref (am 98)), (2, .ref (am 0)), (1, .ref (cat 1586 ad (fun n => bif Nat.beq n 0 then am 98 else am 99) 0)), (0, .ref b)] := hl
  generalize cat 1586 ad (fun n => bif Nat.beq n 0 then am 98 else am 99) = ad1 at G F hl
  generalize cat 1586 S (fun n => bif Nat.beq n 0 then .inl (cJ, 1, .inr (.inl (fun _ => 0))) else .inl (cD, 1, .inr (.inr (.inr (.inl (fun _ => 0)))))) = S1 at G F
  clear hT
  have hN : 1586 ≤ 1588 := Nat.le_of_ble_eq_true rfl
  refine lv_iload hx hb dL_law_28 (lv_at hl 0 rfl) ?_
  refine lv_aload_n hx hb dL_law_30 rfl (lv_at hl 5 rfl) ?_
  refine va_slen hx hb hX0 hbl (Nat.not_le.mpr hbl) G.2.2 dL_law_31 ?_
  refine lv_bipush (v := 6) hx hb dL_law_32 (by decide) ?_
  refine lv_isub hx hb dL_law_34 ?_
  by_cases h6 : L = 6
  · subst h6
    refine lv_to (y := 0) (by decide +kernel) ?_
    refine lv_icmp_gt (tgt := 3981) hx hb dL_law_35 (by decide) (fun c1 => absurd c1 (by decide +kernel)) (fun c1 => ?_)
    refine lv_aload_n hx hb dL_law_38 rfl (lv_at hl 5 rfl) ?_
    refine lv_iload hx hb dL_law_39 (lv_at hl 0 rfl) ?_
    refine va_sld hx hb hX0 hbl (Nat.not_le.mpr hbl) G.2.2 (i := 0) (vp_in_nI (n := 0) (N := 6) (by decide) (by decide)) dL_law_41 ?_
    refine lv_to (y := xs 0) (congrArg xs (by decide)) ?_
    refine lv_bipush (v := 63) hx hb dL_law_42 (by decide) ?_
    refine lv_iand hx hb dL_law_44 ?_
    obtain ⟨k, hk, ek⟩ := p_k (xs 0)
    exact p_arms l hst hx hb hr hml hown hts hlocks hX0 hbl hX hN1 hN2 hK hN F G hl k hk ek
  · have hc : Int32.ofNat L - 6 < 0 := by
      have h7 : L = 0 ∨ L = 1 ∨ L = 2 ∨ L = 3 ∨ L = 4 ∨ L = 5 := by omega
      rcases h7 with h | h | h | h | h | h <;> rw [h] <;> decide
    refine lv_icmp_gt (tgt := 3981) hx hb dL_law_35 (by decide) (fun c1 => ?_) (fun c1 => absurd hc c1)
    refine lv_iconst (v := 1) hx hb dL_law_3981 (by decide) ?_
    refine va_forget G.2.2.2.2 ?_
    refine W.widen (k := 600002) (n := 7302232) (Nat.le_of_ble_eq_true rfl) (Nat.le_of_ble_eq_true rfl) ?_
    exact lw_ret (d0 := s.drawn) (Drawn.sameBut.refl s.drawn lw_cs) hx hb hr hlocks dL_law_3982
