theorem dL_law_28 : decode cL_law 28 = .ok (.iload 5, 2) := de_21 (lb_1 (j := 12) (b := 21) rfl) (lb_1 (j := 13) (b := 5) rfl) rfl
theorem dL_law_30 : decode cL_law 30 = .ok (.aload_n 0, 1) := de_42 (lb_1 (j := 14) (b := 42) rfl)
theorem dL_law_31 : decode cL_law 31 = .ok (.arraylength, 1) := de_190 (lb_1 (j := 15) (b := 190) rfl)
theorem dL_law_32 : decode cL_law 32 = .ok (.bipush 6, 2) := by decide +kernel
theorem dL_law_34 : decode cL_law 34 = .ok (.isub, 1) := de_100 (lb_2 (j := 2) (b := 100) rfl)
theorem dL_law_35 : decode cL_law 35 = .ok (.if_icmp .gt 2410, 3) := de_163 (lb_2 (j := 3) (b := 163) rfl) (lb_2 (j := 4) (b := 9) rfl) (lb_2 (j := 5) (b := 106) rfl) (by decide +kernel)
theorem dL_law_38 : decode cL_law 38 = .ok (.aload_n 0, 1) := de_42 (lb_2 (j := 6) (b := 42) rfl)
theorem dL_law_39 : decode cL_law 39 = .ok (.iload 5, 2) := de_21 (lb_2 (j := 7) (b := 21) rfl) (lb_2 (j := 8) (b := 5) rfl) rfl
theorem dL_law_41 : decode cL_law 41 = .ok (.iaload, 1) := de_46 (lb_2 (j := 9) (b := 46) rfl)
theorem dL_law_42 : decode cL_law 42 = .ok (.bipush 63, 2) := by decide +kernel
theorem dL_law_44 : decode cL_law 44 = .ok (.iand, 1) := de_126 (lb_2 (j := 12) (b := 126) rfl)
theorem dL_law_45 : decode cL_law 45 = .ok (.tableswitch 2394 0 63 #[271, 344, 372, 385, 398, 411, 424, 464, 492, 505, 518, 558, 571, 623, 651, 691, 704, 744, 796, 824, 852, 892, 932, 960, 1000, 1016, 1032, 1048, 1064, 1092, 1120, 1148, 1176, 1193, 1245, 1297, 1337, 1389, 1429, 1457, 1485, 1525, 1577, 1629, 1681, 1733, 1761, 1789, 1805, 1833, 1873, 1925, 1953, 1981, 2037, 2077, 2133, 2185, 2265, 2293, 2309, 2325, 2338, 2366], 271) := by decide +kernel
theorem dL_law_2439 : decode cL_law 2439 = .ok (.iinc 5 6, 3) := by decide +kernel
theorem dL_law_2442 : decode cL_law 2442 = .ok (.goto (-2414), 3) := de_167 (lb_152 (j := 10) (b := 167) rfl) (lb_152 (j := 11) (b := 246) rfl) (lb_152 (j := 12) (b := 146) rfl) (by decide +kernel)
theorem dL_law_2445 : decode cL_law 2445 = .ok (.iconst 1, 1) := de_4 (lb_152 (j := 13) (b := 4) rfl)
theorem dL_law_2446 : decode cL_law 2446 = .ok (.ireturn, 1) := de_172 (lb_152 (j := 14) (b := 172) rfl)
theorem p_k (x : Int32) : ∃ k : Nat, k < 64 ∧ x &&& 63 = Int32.ofNat k := by
  refine ⟨(x &&& 63).toBitVec.toNat, ?_, ?_⟩
  · have h : (x &&& 63).toBitVec.toNat = x.toBitVec.toNat &&& 63 := by
      rw [Int32.toBitVec_and, BitVec.toNat_and]
      rfl
    rw [h]
    exact Nat.lt_of_le_of_lt Nat.and_le_right (by decide)
  · exact Int32.toBitVec_inj.mp (BitVec.eq_of_toNat_eq (by
      show _ = (BitVec.ofNat 32 (x &&& 63).toBitVec.toNat).toNat
      rw [BitVec.toNat_ofNat, Nat.mod_eq_of_lt (x &&& 63).toBitVec.isLt]))
theorem p_z65 : 0 ≤ (0 : Int32).toInt ∧ (0 : Int32).toInt ≤ 65535 := by decide
theorem p_z1 : 0 ≤ (0 : Int32).toInt ∧ (0 : Int32).toInt ≤ 1 := by decide
theorem p_nR0 (k : Nat) : nR k 0 := ⟨fun _ _ => by decide, fun _ _ => by decide, fun _ _ => by decide, fun _ _ => by decide, fun _ _ => by decide⟩
theorem p_JJ0 : JJ mS0 := .inr ⟨⟨⟨rfl, ⟨⟨by decide, by decide⟩, ⟨by decide, by decide⟩, .inl (by decide), ⟨by decide, by decide⟩, ⟨by decide, by decide⟩⟩, fun k => p_nR0 k, fun k => p_nR0 k, fun k => p_nR0 k, fun k => p_nR0 _, fun k => p_nR0 _, fun k => p_z65, fun k => p_z1, fun k => p_z65⟩, by decide, by decide⟩, by decide, by decide⟩
set_option maxRecDepth 100000 in
theorem p_sg0 : sg aT0 = 44136 := by decide +kernel
set_option maxRecDepth 100000 in
theorem p_fresh {cI cJ cZ cMic cSrc cSt cAI cAJ cD : ClassId} {D : va_G} {A : Nat → Prop} {H0 H : Heap} {locs : List Loc} {ad am : Nat → Nat} {S : Nat → va_E} (hT : S 0 = iX11_0 cI cJ cZ cMic cSrc cSt cAI cAJ ad ∧ S 6 = iX11_6 cI cJ cZ cMic cSrc cSt cAI cAJ ad ∧ S 430 = iX11_430 cI cJ cZ cMic cSrc cSt cAI cAJ ad ∧ S 431 = iX11_431 cI cJ cZ cMic cSrc cSt cAI cAJ ad ∧ ∃ bs, BL cI cJ cZ cMic cSrc cSt cAI cAJ 21 ad S bs) (G : lG D (cat 1586 ad (fun n => bif Nat.beq n 0 then am 98 else am 99)) 1588 cI cJ cZ am A H0 H locs (cat 1586 S (fun n => bif Nat.beq n 0 then .inl (cJ, 1, .inr (.inl (fun _ => 0))) else .inl (cD, 1, .inr (.inr (.inr (.inl (fun _ => 0))))))) mS0) : gL cI cJ cZ cMic cSrc cSt cAI cAJ D ad A H0 H locs aT0 (oJ (am 98) cJ (fun _ => 0) :: oD (am 99) cD (fun _ => 0) :: MW cI cJ cZ am mS0) := by
  unfold lG at G
  rw [show (1588 : Nat) = 1586 + 2 from rfl, ← cW_cat, cW_congr (a_cells hT), List.append_assoc] at G
  exact G
set_option maxHeartbeats 8000000 in
set_option maxRecDepth 100000 in
theorem y_arms {p : Program} {e : Env} {s : State} {m : MethodId} {below : List Frame} {meth : Method} {c : Code} (l : Launch) (hst : l.stackTraces = false) {b L : Nat} {xs : Nat → Int32} (hx : p.tables.exec = Jvm.exec) (hb : c.code = code) (hr : meth.sig.returnType = ret) (hml : c.maxLocals = 9) (hown : s.vm.findClass RL = some m.cls) (hts : ∀ w ∈ lw_tbl, w.before #[Value.ref b] s = true) (hlocks : meth.locks = false) (hX0 : va_X b L xs s s.heap) (hbl : b < s.heap.size) (hX : xT (fun q => s.heap.size ≤ q) s) (hN : nC s) (hTS : sAll s.heap.size s) {D : va_G} {cI cJ cZ cMic cSrc cSt cAI cAJ cD : ClassId} (hK : va_K D vwCl (CT cI cJ cZ cMic cSrc cSt cAI cAJ ++ [(cD, .double)]) s) (hL : L ≤ 3072) {am : Nat → Nat} {aj ae i j : Nat} (hi : i + 6 ≤ L) (hj : j < 512) (next : ∀ {ad : Nat → Nat} {T : AT} {Sm : MS} {f : Nat → Int64} {g : Nat → UInt64} {ls : Array Slot} {H : Heap} {locs : List Loc} (hV : IV aR0 1586 aK1 aK2 T) (hrc : RC T) (hJ : JJ Sm) (hrl : R3 T Sm) (G : gL cI cJ cZ cMic cSrc cSt cAI cAJ D ad (fun q => s.heap.size ≤ q) s.heap H locs T (oJ aj cJ f :: oD ae cD g :: MW cI cJ cZ am Sm)) (hl : lv_has ls 9 [(5, .int (nI i)), (4, .ref ae), (3, .ref aj), (2, .ref (am 0)), (1, .ref (ad 0)), (0, .ref b)]), W p l e room_1 s m #[Value.ref b] below meth c H locs (19 + T.1 + (j + 1)) (38467 + sg T + 6 * (j + 1)) (lw_Z below #[Value.ref b] s) (F0 m 2439 ls [])) {ad : Nat → Nat} {T : AT} {Sm : MS} {f : Nat → Int64} {g : Nat → UInt64} {ls : Array Slot} {H : Heap} {locs : List Loc} (hV : IV aR0 1586 aK1 aK2 T) (hrc : RC T) (hJ : JJ Sm) (hrl : R3 T Sm) (G : gL cI cJ cZ cMic cSrc cSt cAI cAJ D ad (fun q => s.heap.size ≤ q) s.heap H locs T (oJ aj cJ f :: oD ae cD g :: MW cI cJ cZ am Sm)) (hl : lv_has ls 9 [(5, .int (nI i)), (4, .ref ae), (3, .ref aj), (2, .ref (am 0)), (1, .ref (ad 0)), (0, .ref b)]) : ∀ k : Nat, k < 64 → xs i &&& 63 = Int32.ofNat k → W p l e room_1 s m #[Value.ref b] below meth c H locs (19 + T.1 + j) (38467 + sg T + 6 * j) (lw_Z below #[Value.ref b] s) (F0 m 45 ls [.int (xs i &&& 63)]) := by
  intro k hk e0
  rw [e0]
  clear e0
  match k, hk with
  | 0, _ => exact lv_tableIn (off := 271) (tgt := 316) hx hb dL_law_45 (by decide) (by decide) rfl (by decide) (y_a0 l hst hx hb hml hown hts hX0 hbl hX hN hTS hK hi hL hj hV hrc hJ G hl (fun ad2 f1 g1 H1 locs1 ls1 hg hf had hV1 hrc1 hJ1 G1 hl1 => next hV1 hrc1 hJ1 (r3_append hV hJ hrl hg hf) G1 hl1))
  | 1, _ => exact lv_tableIn (off := 344) (tgt := 389) hx hb dL_law_45 (by decide) (by decide) rfl (by decide) (y_a1 l hst hx hb hml hown hts hX0 hbl hX hN hTS hK hi hL hj hV hrc hJ G hl (fun ad2 f1 g1 H1 locs1 ls1 hg hf had hV1 hrc1 hJ1 G1 hl1 => next hV1 hrc1 hJ1 (r3_load hV hJ hrl hg hf) G1 hl1))
  | 2, _ => exact lv_tableIn (off := 372) (tgt := 417) hx hb dL_law_45 (by decide) (by decide) rfl (by decide) (y_a2 l hst hx hb hml hown hts hX0 hbl hX hN hTS hK hi hL hj hV hrc hJ G hl (fun ad2 f1 g1 H1 locs1 ls1 hg hf had hV1 hrc1 hJ1 G1 hl1 => next hV1 hrc1 hJ1 (r3_parseError hV hJ hrl hg hf) G1 hl1))
  | 3, _ => exact lv_tableIn (off := 385) (tgt := 430) hx hb dL_law_45 (by decide) (by decide) rfl (by decide) (y_a3 l hst hx hb hml hown hts hX0 hbl hX hN hTS hK hi hL hj hV hrc hJ G hl (fun ad2 f1 g1 H1 locs1 ls1 hg hf had hV1 hrc1 hJ1 G1 hl1 => next hV1 hrc1 hJ1 (r3_errorPosition hV hJ hrl hg hf) G1 hl1))
  | 4, _ => exact lv_tableIn (off := 398) (tgt := 443) hx hb dL_law_45 (by decide) (by decide) rfl (by decide) (y_a4 l hst hx hb hml hown hts hX0 hbl hX hN hTS hK hi hL hj hV hrc hJ G hl (fun ad2 f1 g1 H1 locs1 ls1 hg hf had hV1 hrc1 hJ1 G1 hl1 => next hV1 hrc1 hJ1 (r3_buffered hV hJ hrl hg hf) G1 hl1))
  | 5, _ => exact lv_tableIn (off := 411) (tgt := 456) hx hb dL_law_45 (by decide) (by decide) rfl (by decide) (y_a5 l hst hx hb hml hown hts hX0 hbl hX hN hTS hK hi hL hj hV hrc hJ G hl (fun ad2 f1 g1 H1 locs1 ls1 hg hf had hV1 hrc1 hJ1 G1 hl1 => next hV1 hrc1 hJ1 (r3_mics hV hJ hrl hg hf) G1 hl1))
  | 6, _ => exact lv_tableIn (off := 424) (tgt := 469) hx hb dL_law_45 (by decide) (by decide) rfl (by decide) (y_a6 l hst hx hb hml hown hts hX0 hbl hX hN hTS hK hi hL hj hV hrc hJ G hl (fun ad2 f1 g1 H1 locs1 ls1 hg hf had hV1 hrc1 hJ1 G1 hl1 => next hV1 hrc1 hJ1 (r3_micAt hV hJ hrl hg hf) G1 hl1))
  | 7, _ => exact lv_tableIn (off := 464) (tgt := 509) hx hb dL_law_45 (by decide) (by decide) rfl (by decide) (y_a7 l hst hx hb hml hown hts hX0 hbl hX hN hTS hK hi hL hj hV hrc hJ G hl (fun ad2 f1 g1 H1 locs1 ls1 hg hf had hV1 hrc1 hJ1 G1 hl1 => next hV1 hrc1 hJ1 (r3_isMuted hV hJ hrl hg hf) G1 hl1))
  | 8, _ => exact lv_tableIn (off := 492) (tgt := 537) hx hb dL_law_45 (by decide) (by decide) rfl (by decide) (y_a8 l hst hx hb hml hown hts hX0 hbl hX hN hTS hK hi hL hj hV hrc hJ G hl (fun ad2 f1 g1 H1 locs1 ls1 hg hf had hV1 hrc1 hJ1 G1 hl1 => next hV1 hrc1 hJ1 (r3_columns hV hJ hrl hg hf) G1 hl1))
  | 9, _ => exact lv_tableIn (off := 505) (tgt := 550) hx hb dL_law_45 (by decide) (by decide) rfl (by decide) (y_a9 l hst hx hb hml hown hts hX0 hbl hX hN hTS hK hi hL hj hV hrc hJ G hl (fun ad2 f1 g1 H1 locs1 ls1 hg hf had hV1 hrc1 hJ1 G1 hl1 => next hV1 hrc1 hJ1 (r3_rows hV hJ hrl hg hf) G1 hl1))
  | 10, _ => exact lv_tableIn (off := 518) (tgt := 563) hx hb dL_law_45 (by decide) (by decide) rfl (by decide) (y_a10 l hst hx hb hml hown hts hX0 hbl hX hN hTS hK hi hL hj hV hrc hJ G hl (fun ad2 f1 g1 H1 locs1 ls1 hg hf had hV1 hrc1 hJ1 G1 hl1 => next hV1 hrc1 hJ1 (r3_cellAt hV hJ hrl hg hf) G1 hl1))
  | 11, _ => exact lv_tableIn (off := 558) (tgt := 603) hx hb dL_law_45 (by decide) (by decide) rfl (by decide) (y_a11 l hst hx hb hml hown hts hX0 hbl hX hN hTS hK hi hL hj hV hrc hJ G hl (fun ad2 f1 g1 H1 locs1 ls1 hg hf had hV1 hrc1 hJ1 G1 hl1 => next hV1 hrc1 hJ1 (r3_sources hV hJ hrl hg hf) G1 hl1))
  | 12, _ => exact lv_tableIn (off := 571) (tgt := 616) hx hb dL_law_45 (by decide) (by decide) rfl (by decide) (y_a12 l hst hx hb hml hown hts hX0 hbl hX hN hTS hK hi hL hj hV hrc hJ G hl (fun ad2 f1 g1 H1 locs1 ls1 hg hf had hV1 hrc1 hJ1 G1 hl1 => next hV1 hrc1 hJ1 (r3_sourceAt hV hJ hrl hg hf) G1 hl1))
  | 13, _ => exact lv_tableIn (off := 623) (tgt := 668) hx hb dL_law_45 (by decide) (by decide) rfl (by decide) (y_a13 l hst hx hb hml hown hts hX0 hbl hX hN hTS hK hi hL hj hV hrc hJ G hl (fun ad2 f1 g1 H1 locs1 ls1 hg hf had hV1 hrc1 hJ1 G1 hl1 => next hV1 hrc1 hJ1 (r3_isOn hV hJ hrl hg hf) G1 hl1))
  | 14, _ => exact lv_tableIn (off := 651) (tgt := 696) hx hb dL_law_45 (by decide) (by decide) rfl (by decide) (y_a14 l hst hx hb hml hown hts hX0 hbl hX hN hTS hK hi hL hj hV hrc hJ G hl (fun ad2 f1 g1 H1 locs1 ls1 hg hf had hV1 hrc1 hJ1 G1 hl1 => next hV1 hrc1 hJ1 (r3_waveAt hV hJ hrl hg hf) G1 hl1))
  | 15, _ => exact lv_tableIn (off := 691) (tgt := 736) hx hb dL_law_45 (by decide) (by decide) rfl (by decide) (y_a15 l hst hx hb hml hown hts hX0 hbl hX hN hTS hK hi hL hj hV hrc hJ G hl (fun ad2 f1 g1 H1 locs1 ls1 hg hf had hV1 hrc1 hJ1 G1 hl1 => next hV1 hrc1 hJ1 (r3_samples hV hJ hrl hg hf) G1 hl1))
  | 16, _ => exact lv_tableIn (off := 704) (tgt := 749) hx hb dL_law_45 (by decide) (by decide) rfl (by decide) (y_a16 l hst hx hb hml hown hts hX0 hbl hX hN hTS hK hi hL hj hV hrc hJ G hl (fun ad2 f1 g1 H1 locs1 ls1 hg hf had hV1 hrc1 hJ1 G1 hl1 => next hV1 hrc1 hJ1 (r3_delay hV hJ hrl hg hf) G1 hl1))
  | 17, _ => exact lv_tableIn (off := 744) (tgt := 789) hx hb dL_law_45 (by decide) (by decide) rfl (by decide) (y_a17 l hst hx hb hml hown hts hX0 hbl hX hN hTS hK hi hL hj hV hrc hJ G hl (fun ad2 f1 g1 H1 locs1 ls1 hg hf had hV1 hrc1 hJ1 G1 hl1 => next hV1 hrc1 hJ1 (r3_delayTo hV hJ hrl hg hf) G1 hl1))
  | 18, _ => exact lv_tableIn (off := 796) (tgt := 841) hx hb dL_law_45 (by decide) (by decide) rfl (by decide) (y_a18 l hst hx hb hml hown hts hX0 hbl hX hN hTS hK hi hL hj hV hrc hJ G hl (fun ad2 f1 g1 H1 locs1 ls1 hg hf had hV1 hrc1 hJ1 G1 hl1 => next hV1 hrc1 hJ1 (r3_spread hV hJ hrl hg hf) G1 hl1))
  | 19, _ => exact lv_tableIn (off := 824) (tgt := 869) hx hb dL_law_45 (by decide) (by decide) rfl (by decide) (y_a19 l hst hx hb hml hown hts hX0 hbl hX hN hTS hK hi hL hj hV hrc hJ G hl (fun ad2 f1 g1 H1 locs1 ls1 hg hf had hV1 hrc1 hJ1 G1 hl1 => next hV1 hrc1 hJ1 (r3_window hV hJ hrl hg hf) G1 hl1))
  | 20, _ => exact lv_tableIn (off := 852) (tgt := 897) hx hb dL_law_45 (by decide) (by decide) rfl (by decide) (y_a20 l hst hx hb hml hown hts hX0 hbl hX hN hTS hK hi hL hj hV hrc hJ G hl (fun ad2 f1 g1 H1 locs1 ls1 hg hf had hV1 hrc1 hJ1 G1 hl1 => next hV1 hrc1 hJ1 (r3_sample hV hJ hrl hg hf) G1 hl1))
  | 21, _ => exact lv_tableIn (off := 892) (tgt := 937) hx hb dL_law_45 (by decide) (by decide) rfl (by decide) (y_a21 l hst hx hb hml hown hts hX0 hbl hX hN hTS hK hi hL hj hV hrc hJ G hl (fun ad2 f1 g1 H1 locs1 ls1 hg hf had hV1 hrc1 hJ1 G1 hl1 => next hV1 hrc1 hJ1 (r3_beam hV hJ hrl hg hf) G1 hl1))
  | 22, _ => exact lv_tableIn (off := 932) (tgt := 977) hx hb dL_law_45 (by decide) (by decide) rfl (by decide) (y_a22 l hst hx hb hml hown hts hX0 hbl hX hN hTS hK hi hL hj hV hrc hJ G hl (fun ad2 f1 g1 H1 locs1 ls1 hg hf had hV1 hrc1 hJ1 G1 hl1 => next hV1 hrc1 hJ1 (r3_power hV hJ hrl hg hf) G1 hl1))
  | 23, _ => exact lv_tableIn (off := 960) (tgt := 1005) hx hb dL_law_45 (by decide) (by decide) rfl (by decide) (y_a23 l hst hx hb hml hown hts hX0 hbl hX hN hTS hK hi hL hj hV hrc hJ G hl (fun ad2 f1 g1 H1 locs1 ls1 hg hf had hV1 hrc1 hJ1 G1 hl1 => next hV1 hrc1 hJ1 (r3_powerAt hV hJ hrl hg hf) G1 hl1))
  | 24, _ => exact lv_tableIn (off := 1000) (tgt := 1045) hx hb dL_law_45 (by decide) (by decide) rfl (by decide) (y_a24 l hst hx hb hml hown hts hX0 hbl hX hN hTS hK hi hL hj hV hrc hJ G hl (fun ad2 f1 g1 H1 locs1 ls1 hg hf had hV1 hrc1 hJ1 G1 hl1 => next hV1 hrc1 hJ1 (r3_best hV hJ hrl hg hf) G1 hl1))
  | 25, _ => exact lv_tableIn (off := 1016) (tgt := 1061) hx hb dL_law_45 (by decide) (by decide) rfl (by decide) (y_a25 l hst hx hb hml hown hts hX0 hbl hX hN hTS hK hi hL hj hV hrc hJ G hl (fun ad2 f1 g1 H1 locs1 ls1 hg hf had hV1 hrc1 hJ1 G1 hl1 => next hV1 hrc1 hJ1 (r3_bestPower hV hJ hrl hg hf) G1 hl1))
  | 26, _ => exact lv_tableIn (off := 1032) (tgt := 1077) hx hb dL_law_45 (by decide) (by decide) rfl (by decide) (y_a26 l hst hx hb hml hown hts hX0 hbl hX hN hTS hK hi hL hj hV hrc hJ G hl (fun ad2 f1 g1 H1 locs1 ls1 hg hf had hV1 hrc1 hJ1 G1 hl1 => next hV1 hrc1 hJ1 (r3_meanPower hV hJ hrl hg hf) G1 hl1))
  | 27, _ => exact lv_tableIn (off := 1048) (tgt := 1093) hx hb dL_law_45 (by decide) (by decide) rfl (by decide) (y_a27 l hst hx hb hml hown hts hX0 hbl hX hN hTS hK hi hL hj hV hrc hJ G hl (fun ad2 f1 g1 H1 locs1 ls1 hg hf had hV1 hrc1 hJ1 G1 hl1 => next hV1 hrc1 hJ1 (r3_peaks hV hJ hrl hg hf) G1 hl1))
  | 28, _ => exact lv_tableIn (off := 1064) (tgt := 1109) hx hb dL_law_45 (by decide) (by decide) rfl (by decide) (y_a28 l hst hx hb hml hown hts hX0 hbl hX hN hTS hK hi hL hj hV hrc hJ G hl (fun ad2 f1 g1 H1 locs1 ls1 hg hf had hV1 hrc1 hJ1 G1 hl1 => next hV1 hrc1 hJ1 (r3_peakAt hV hJ hrl hg hf) G1 hl1))
  | 29, _ => exact lv_tableIn (off := 1092) (tgt := 1137) hx hb dL_law_45 (by decide) (by decide) rfl (by decide) (y_a29 l hst hx hb hml hown hts hX0 hbl hX hN hTS hK hi hL hj hV hrc hJ G hl (fun ad2 f1 g1 H1 locs1 ls1 hg hf had hV1 hrc1 hJ1 G1 hl1 => next hV1 hrc1 hJ1 (r3_isPeak hV hJ hrl hg hf) G1 hl1))
  | 30, _ => exact lv_tableIn (off := 1120) (tgt := 1165) hx hb dL_law_45 (by decide) (by decide) rfl (by decide) (y_a30 l hst hx hb hml hown hts hX0 hbl hX hN hTS hK hi hL hj hV hrc hJ G hl (fun ad2 f1 g1 H1 locs1 ls1 hg hf had hV1 hrc1 hJ1 G1 hl1 => next hV1 hrc1 hJ1 (r3_zonePower hV hJ hrl hg hf) G1 hl1))
  | 31, _ => exact lv_tableIn (off := 1148) (tgt := 1193) hx hb dL_law_45 (by decide) (by decide) rfl (by decide) (y_a31 l hst hx hb hml hown hts hX0 hbl hX hN hTS hK hi hL hj hV hrc hJ G hl (fun ad2 f1 g1 H1 locs1 ls1 hg hf had hV1 hrc1 hJ1 G1 hl1 => next hV1 hrc1 hJ1 (r3_zoneBest hV hJ hrl hg hf) G1 hl1))
  | 32, _ => exact lv_tableIn (off := 1176) (tgt := 1221) hx hb dL_law_45 (by decide) (by decide) rfl (by decide) (y_a32 l hst hx hb hml hown hts hX0 hbl hX hN hTS hK hi hL hj hV hrc hJ G hl (fun ad2 f1 g1 H1 locs1 ls1 hg hf had hV1 hrc1 hJ1 G1 hl1 => next hV1 hrc1 hJ1 (r3_contrast hV hJ hrl hg hf) G1 hl1))
  | 33, _ => exact lv_tableIn (off := 1193) (tgt := 1238) hx hb dL_law_45 (by decide) (by decide) rfl (by decide) (y_a33 l hst hx hb hml hown hts hX0 hbl hX hN hTS hK hi hL hj hV hrc hJ G hl (fun ad2 f1 g1 H1 locs1 ls1 hg hf had hV1 hrc1 hJ1 G1 hl1 => next hV1 hrc1 hJ1 (r3_alias hV hJ hrl hg hf) G1 hl1))
  | 34, _ => exact lv_tableIn (off := 1245) (tgt := 1290) hx hb dL_law_45 (by decide) (by decide) rfl (by decide) (y_a34 l hst hx hb hml hown hts hX0 hbl hX hN hTS hK hi hL hj hV hrc hJ G hl (fun ad2 f1 g1 H1 locs1 ls1 hg hf had hV1 hrc1 hJ1 G1 hl1 => next hV1 hrc1 hJ1 (r3_isAlias hV hJ hrl hg hf) G1 hl1))
  | 35, _ => exact lv_tableIn (off := 1297) (tgt := 1342) hx hb dL_law_45 (by decide) (by decide) rfl (by decide) (y_a35 l hst hx hb hml hown hts hX0 hbl hX hN hTS hK hi hL hj hV hrc hJ G hl (fun ad2 f1 g1 H1 locs1 ls1 hg hf had hV1 hrc1 hJ1 G1 hl1 => next hV1 hrc1 hJ1 (r3_aliases hV hJ hrl hg hf) G1 hl1))
  | 36, _ => exact lv_tableIn (off := 1337) (tgt := 1382) hx hb dL_law_45 (by decide) (by decide) rfl (by decide) (y_a36 l hst hx hb hml hown hts hX0 hbl hX hN hTS hK hi hL hj hV hrc hJ G hl (fun ad2 f1 g1 H1 locs1 ls1 hg hf had hV1 hrc1 hJ1 G1 hl1 => next hV1 hrc1 hJ1 (r3_blockPower hV hJ hrl hg hf) G1 hl1))
  | 37, _ => exact lv_tableIn (off := 1389) (tgt := 1434) hx hb dL_law_45 (by decide) (by decide) rfl (by decide) (y_a37 l hst hx hb hml hown hts hX0 hbl hX hN hTS hK hi hL hj hV hrc hJ G hl (fun ad2 f1 g1 H1 locs1 ls1 hg hf had hV1 hrc1 hJ1 G1 hl1 => next hV1 hrc1 hJ1 (r3_blockBest hV hJ hrl hg hf) G1 hl1))
  | 38, _ => exact lv_tableIn (off := 1429) (tgt := 1474) hx hb dL_law_45 (by decide) (by decide) rfl (by decide) (y_a38 l hst hx hb hml hown hts hX0 hbl hX hN hTS hK hi hL hj hV hrc hJ G hl (fun ad2 f1 g1 H1 locs1 ls1 hg hf had hV1 hrc1 hJ1 G1 hl1 => next hV1 hrc1 hJ1 (r3_path hV hJ hrl hg hf) G1 hl1))
  | 39, _ => exact lv_tableIn (off := 1457) (tgt := 1502) hx hb dL_law_45 (by decide) (by decide) rfl (by decide) (y_a39 l hst hx hb hml hown hts hX0 hbl hX hN hTS hK hi hL hj hV hrc hJ G hl (fun ad2 f1 g1 H1 locs1 ls1 hg hf had hV1 hrc1 hJ1 G1 hl1 => next hV1 hrc1 hJ1 (r3_trackScore hV hJ hrl hg hf) G1 hl1))
  | 40, _ => exact lv_tableIn (off := 1485) (tgt := 1530) hx hb dL_law_45 (by decide) (by decide) rfl (by decide) (y_a40 l hst hx hb hml hown hts hX0 hbl hX hN hTS hK hi hL hj hV hrc hJ G hl (fun ad2 f1 g1 H1 locs1 ls1 hg hf had hV1 hrc1 hJ1 G1 hl1 => next hV1 hrc1 hJ1 (r3_trackCell hV hJ hrl hg hf) G1 hl1))
  | 41, _ => exact lv_tableIn (off := 1525) (tgt := 1570) hx hb dL_law_45 (by decide) (by decide) rfl (by decide) (y_a41 l hst hx hb hml hown hts hX0 hbl hX hN hTS hK hi hL hj hV hrc hJ G hl (fun ad2 f1 g1 H1 locs1 ls1 hg hf had hV1 hrc1 hJ1 G1 hl1 => next hV1 hrc1 hJ1 (r3_movingPower hV hJ hrl hg hf) G1 hl1))
  | 42, _ => exact lv_tableIn (off := 1577) (tgt := 1622) hx hb dL_law_45 (by decide) (by decide) rfl (by decide) (y_a42 l hst hx hb hml hown hts hX0 hbl hX hN hTS hK hi hL hj hV hrc hJ G hl (fun ad2 f1 g1 H1 locs1 ls1 hg hf had hV1 hrc1 hJ1 G1 hl1 => next hV1 hrc1 hJ1 (r3_bestVelocity hV hJ hrl hg hf) G1 hl1))
  | 43, _ => exact lv_tableIn (off := 1629) (tgt := 1674) hx hb dL_law_45 (by decide) (by decide) rfl (by decide) (y_a43 l hst hx hb hml hown hts hX0 hbl hX hN hTS hK hi hL hj hV hrc hJ G hl (fun ad2 f1 g1 H1 locs1 ls1 hg hf had hV1 hrc1 hJ1 G1 hl1 => next hV1 hrc1 hJ1 (r3_correlation hV hJ hrl hg hf) G1 hl1))
  | 44, _ => exact lv_tableIn (off := 1681) (tgt := 1726) hx hb dL_law_45 (by decide) (by decide) rfl (by decide) (y_a44 l hst hx hb hml hown hts hX0 hbl hX hN hTS hK hi hL hj hV hrc hJ G hl (fun ad2 f1 g1 H1 locs1 ls1 hg hf had hV1 hrc1 hJ1 G1 hl1 => next hV1 hrc1 hJ1 (r3_bestLag hV hJ hrl hg hf) G1 hl1))
  | 45, _ => exact lv_tableIn (off := 1733) (tgt := 1778) hx hb dL_law_45 (by decide) (by decide) rfl (by decide) (y_a45 l hst hx hb hml hown hts hX0 hbl hX hN hTS hK hi hL hj hV hrc hJ G hl (fun ad2 f1 g1 H1 locs1 ls1 hg hf had hV1 hrc1 hJ1 G1 hl1 => next hV1 hrc1 hJ1 (r3_level hV hJ hrl hg hf) G1 hl1))
  | 46, _ => exact lv_tableIn (off := 1761) (tgt := 1806) hx hb dL_law_45 (by decide) (by decide) rfl (by decide) (y_a46 l hst hx hb hml hown hts hX0 hbl hX hN hTS hK hi hL hj hV hrc hJ G hl (fun ad2 f1 g1 H1 locs1 ls1 hg hf had hV1 hrc1 hJ1 G1 hl1 => next hV1 hrc1 hJ1 (r3_loudest hV hJ hrl hg hf) G1 hl1))
  | 47, _ => exact lv_tableIn (off := 1789) (tgt := 1834) hx hb dL_law_45 (by decide) (by decide) rfl (by decide) (y_a47 l hst hx hb hml hown hts hX0 hbl hX hN hTS hK hi hL hj hV hrc hJ G hl (fun ad2 f1 g1 H1 locs1 ls1 hg hf had hV1 hrc1 hJ1 G1 hl1 => next hV1 hrc1 hJ1 (r3_writeMap hV hJ hrl hg hf) G1 hl1))
  | 48, _ => exact lv_tableIn (off := 1805) (tgt := 1850) hx hb dL_law_45 (by decide) (by decide) rfl (by decide) (y_a48 l hst hx hb hml hown hts hX0 hbl hX hN hTS hK hi hL hj hV hrc hJ G hl (fun ad2 f1 g1 H1 locs1 ls1 hg hf had hV1 hrc1 hJ1 G1 hl1 => next hV1 hrc1 hJ1 (r3_mapByte hV hJ hrl hg hf) G1 hl1))
  | 49, _ => exact lv_tableIn (off := 1833) (tgt := 1878) hx hb dL_law_45 (by decide) (by decide) rfl (by decide) (y_a49 l hst hx hb hml hown hts hX0 hbl hX hN hTS hK hi hL hj hV hrc hJ G hl (fun ad2 f1 g1 H1 locs1 ls1 hg hf had hV1 hrc1 hJ1 G1 hl1 => next hV1 hrc1 hJ1 (r3_pointBest hV hJ hrl hg hf) G1 hl1))
  | 50, _ => exact lv_tableIn (off := 1873) (tgt := 1918) hx hb dL_law_45 (by decide) (by decide) rfl (by decide) (y_a50 l hst hx hb hml hown hts hX0 hbl hX hN hTS hK hi hL hj hV hrc hJ G hl (fun ad2 f1 g1 H1 locs1 ls1 hg hf had hV1 hrc1 hJ1 G1 hl1 => next hV1 hrc1 hJ1 (r3_pointPower hV hJ hrl hg hf) G1 hl1))
  | 51, _ => exact lv_tableIn (off := 1925) (tgt := 1970) hx hb dL_law_45 (by decide) (by decide) rfl (by decide) (y_a51 l hst hx hb hml hown hts hX0 hbl hX hN hTS hK hi hL hj hV hrc hJ G hl (fun ad2 f1 g1 H1 locs1 ls1 hg hf had hV1 hrc1 hJ1 G1 hl1 => next hV1 hrc1 hJ1 (r3_bestWithout hV hJ hrl hg hf) G1 hl1))
  | 52, _ => exact lv_tableIn (off := 1953) (tgt := 1998) hx hb dL_law_45 (by decide) (by decide) rfl (by decide) (y_a52 l hst hx hb hml hown hts hX0 hbl hX hN hTS hK hi hL hj hV hrc hJ G hl (fun ad2 f1 g1 H1 locs1 ls1 hg hf had hV1 hrc1 hJ1 G1 hl1 => next hV1 hrc1 hJ1 (r3_bestIfOff hV hJ hrl hg hf) G1 hl1))
  | 53, _ => exact lv_tableIn (off := 1981) (tgt := 2026) hx hb dL_law_45 (by decide) (by decide) rfl (by decide) (y_a53 l hst hx hb hml hown hts hX0 hbl hX hN hTS hK hi hL hj hV hrc hJ G hl (fun ad2 f1 g1 H1 locs1 ls1 hg hf had hV1 hrc1 hJ1 G1 hl1 => next hV1 hrc1 hJ1 (r3_mute hV hJ (vnz_r _) hrl hg hf) G1 hl1))
  | 54, _ => exact lv_tableIn (off := 2037) (tgt := 2082) hx hb dL_law_45 (by decide) (by decide) rfl (by decide) (y_a54 l hst hx hb hml hown hts hX0 hbl hX hN hTS hK hi hL hj hV hrc hJ G hl (fun ad2 f1 g1 H1 locs1 ls1 hg hf had hV1 hrc1 hJ1 G1 hl1 => next hV1 hrc1 hJ1 (r3_setWeight hV hJ hrl hg hf) G1 hl1))
  | 55, _ => exact lv_tableIn (off := 2077) (tgt := 2122) hx hb dL_law_45 (by decide) (by decide) rfl (by decide) (y_a55 l hst hx hb hml hown hts hX0 hbl hX hN hTS hK hi hL hj hV hrc hJ G hl (fun ad2 f1 g1 H1 locs1 ls1 hg hf had hV1 hrc1 hJ1 G1 hl1 => next hV1 hrc1 hJ1 (r3_setOn hV hJ (vnz_r _) hrl hg hf) G1 hl1))
  | 56, _ => exact lv_tableIn (off := 2133) (tgt := 2178) hx hb dL_law_45 (by decide) (by decide) rfl (by decide) (y_a56 l hst hx hb hml hown hts hX0 hbl hX hN hTS hK hi hL hj hV hrc hJ G hl (fun ad2 f1 g1 H1 locs1 ls1 hg hf had hV1 hrc1 hJ1 G1 hl1 => next hV1 hrc1 hJ1 (r3_moveSource hV hJ hrl hg hf) G1 hl1))
  | 57, _ => exact lv_tableIn (off := 2185) (tgt := 2230) hx hb dL_law_45 (by decide) (by decide) rfl (by decide) (y_a57 l hst hx hb hml hown hts hX0 hbl hX hN hTS hK hi hL hj hV hrc hJ G hl (fun hg hf => r3h_setVelocity hV hJ hrl hg hf) (fun ad2 f1 g1 H1 locs1 ls1 hg hf had hV1 hrc1 hJ1 G1 hl1 => next hV1 hrc1 hJ1 (r3_setVelocity hV hJ hrl hg hf) G1 hl1))
  | 58, _ => exact lv_tableIn (off := 2265) (tgt := 2310) hx hb dL_law_45 (by decide) (by decide) rfl (by decide) (y_a58 l hst hx hb hml hown hts hX0 hbl hX hN hTS hK hi hL hj hV hrc hJ G hl (fun ad2 f1 g1 H1 locs1 ls1 hg hf had hV1 hrc1 hJ1 G1 hl1 => next hV1 hrc1 hJ1 (r3_clean hV hJ hrl hg hf) G1 hl1))
  | 59, _ => exact lv_tableIn (off := 2293) (tgt := 2338) hx hb dL_law_45 (by decide) (by decide) rfl (by decide) (y_a59 l hst hx hb hml hown hts hX0 hbl hX hN hTS hK hi hL hj hV hrc hJ G hl (fun ad2 f1 g1 H1 locs1 ls1 hg hf had hV1 hrc1 hJ1 G1 hl1 => next hV1 hrc1 hJ1 (r3_cleaned hV hJ hrl hg hf) G1 hl1))
  | 60, _ => exact lv_tableIn (off := 2309) (tgt := 2354) hx hb dL_law_45 (by decide) (by decide) rfl (by decide) (y_a60 l hst hx hb hml hown hts hX0 hbl hX hN hTS hK hi hL hj hV hrc hJ G hl (fun ad2 f1 g1 H1 locs1 ls1 hg hf had hV1 hrc1 hJ1 G1 hl1 => next hV1 hrc1 hJ1 (r3_undo hV hJ hrl hg hf) G1 hl1))
  | 61, _ => exact lv_tableIn (off := 2325) (tgt := 2370) hx hb dL_law_45 (by decide) (by decide) rfl (by decide) (y_a61 l hst hx hb hml hown hts hX0 hbl hX hN hTS hK hi hL hj hV hrc hJ G hl (fun ad2 f1 g1 H1 locs1 ls1 hg hf had hV1 hrc1 hJ1 G1 hl1 => next hV1 hrc1 hJ1 (r3_undoable hV hJ hrl hg hf) G1 hl1))
  | 62, _ => exact lv_tableIn (off := 2338) (tgt := 2383) hx hb dL_law_45 (by decide) (by decide) rfl (by decide) (y_a62 l hst hx hb hml hown hts hX0 hbl hX hN hTS hK hi hL hj hV hrc hJ G hl (fun ad2 f1 g1 H1 locs1 ls1 hg hf had hV1 hrc1 hJ1 G1 hl1 => next hV1 hrc1 hJ1 (r3_save hV hJ hrl hg hf) G1 hl1))
  | 63, _ => exact lv_tableIn (off := 2366) (tgt := 2411) hx hb dL_law_45 (by decide) (by decide) rfl (by decide) (y_a63 l hst hx hb hml hown hts hX0 hbl hX hN hTS hK hi hL hj hV hrc hJ G hl (fun ad2 f1 g1 H1 locs1 ls1 hg hf had hV1 hrc1 hJ1 G1 hl1 => next hV1 hrc1 hJ1 (r3_restore hV hJ hrl hg hf) G1 hl1))
  | (n + 64), h => exact absurd h (by omega)
set_option maxHeartbeats 8000000 in
set_option maxRecDepth 100000 in
theorem y_loop {p : Program} {e : Env} {s : State} {m : MethodId} {below : List Frame} {meth : Method} {c : Code} (l : Launch) (hst : l.stackTraces = false) {b L : Nat} {xs : Nat → Int32} (hx : p.tables.exec = Jvm.exec) (hb : c.code = code) (hr : meth.sig.returnType = ret) (hml : c.maxLocals = 9) (hown : s.vm.findClass RL = some m.cls) (hts : ∀ w ∈ lw_tbl, w.before #[Value.ref b] s = true) (hlocks : meth.locks = false) (hX0 : va_X b L xs s s.heap) (hbl : b < s.heap.size) (hX : xT (fun q => s.heap.size ≤ q) s) (hN : nC s) (hTS : sAll s.heap.size s) {D : va_G} {cI cJ cZ cMic cSrc cSt cAI cAJ cD : ClassId} (hK : va_K D vwCl (CT cI cJ cZ cMic cSrc cSt cAI cAJ ++ [(cD, .double)]) s) (hL : L ≤ 3072) {am : Nat → Nat} {aj ae : Nat} : ∀ (d j : Nat), j + d = 512 → ∀ {ad : Nat → Nat} {T : AT} {Sm : MS} {f : Nat → Int64} {g : Nat → UInt64} {ls : Array Slot} {H : Heap} {locs : List Loc} (hV : IV aR0 1586 aK1 aK2 T) (hrc : RC T) (hJ : JJ Sm) (hrl : R3 T Sm) (G : gL cI cJ cZ cMic cSrc cSt cAI cAJ D ad (fun q => s.heap.size ≤ q) s.heap H locs T (oJ aj cJ f :: oD ae cD g :: MW cI cJ cZ am Sm)) (hl : lv_has ls 9 [(5, .int (nI (6 * j))), (4, .ref ae), (3, .ref aj), (2, .ref (am 0)), (1, .ref (ad 0)), (0, .ref b)]), W p l e room_1 s m #[Value.ref b] below meth c H locs (19 + T.1 + j) (38467 + sg T + 6 * j) (lw_Z below #[Value.ref b] s) (F0 m 28 ls []) := by
  intro d
  induction d with
  | zero =>
    intro j hjd ad T Sm f g ls H locs hV hrc hJ hrl G hl
    refine lv_iload hx hb dL_law_28 (lv_at hl 0 rfl) ?_
    refine lv_aload_n hx hb dL_law_30 rfl (lv_at hl 5 rfl) ?_
    refine va_slen hx hb hX0 hbl (Nat.not_le.mpr hbl) G.2.2 dL_law_31 ?_
    refine lv_bipush (v := 6) hx hb dL_law_32 (by decide) ?_
    refine lv_isub hx hb dL_law_34 ?_
    have z6 : (6 : Int32).toInt = 6 := by decide
    have q1 : (nI (6 * j)).toInt = ((6 * j : Nat) : Int) := nI_toInt (by omega)
    have q2 : (Int32.ofNat L).toInt = (L : Int) := nI_toInt (by omega)
    have q3 : (Int32.ofNat L - 6).toInt = (Int32.ofNat L).toInt - (6 : Int32).toInt := i_sub rfl (by omega) (by omega)
    have hk := hV.2.2.2.2.2.2
    have hr0 := a_room
    refine lv_icmp_gt (tgt := 2445) hx hb dL_law_35 (by decide) (fun c1 => ?_) (fun c1 => absurd (Int32.lt_iff_toInt_lt.mpr (by omega)) c1)
    refine lv_iconst (v := 1) hx hb dL_law_2445 (by decide) ?_
    refine va_forget G.2.2.2.2 ?_
    refine W.widen (k := 601024) (n := 7293034) (by omega) (by omega) ?_
    exact lw_ret (d0 := s.drawn) (Drawn.sameBut.refl s.drawn lw_cs) hx hb hr hlocks dL_law_2446
  | succ d ih =>
    intro j hjd ad T Sm f g ls H locs hV hrc hJ hrl G hl
    refine lv_iload hx hb dL_law_28 (lv_at hl 0 rfl) ?_
    refine lv_aload_n hx hb dL_law_30 rfl (lv_at hl 5 rfl) ?_
    refine va_slen hx hb hX0 hbl (Nat.not_le.mpr hbl) G.2.2 dL_law_31 ?_
    refine lv_bipush (v := 6) hx hb dL_law_32 (by decide) ?_
    refine lv_isub hx hb dL_law_34 ?_
    have z6 : (6 : Int32).toInt = 6 := by decide
    have q1 : (nI (6 * j)).toInt = ((6 * j : Nat) : Int) := nI_toInt (by omega)
    have q2 : (Int32.ofNat L).toInt = (L : Int) := nI_toInt (by omega)
    have q3 : (Int32.ofNat L - 6).toInt = (Int32.ofNat L).toInt - (6 : Int32).toInt := i_sub rfl (by omega) (by omega)
    have hk := hV.2.2.2.2.2.2
    have hr0 := a_room
    refine lv_icmp_gt (tgt := 2445) hx hb dL_law_35 (by decide) (fun c1 => ?_) (fun c1 => ?_)
    · refine lv_iconst (v := 1) hx hb dL_law_2445 (by decide) ?_
      refine va_forget G.2.2.2.2 ?_
      refine W.widen (k := 601024) (n := 7293034) (by omega) (by omega) ?_
      exact lw_ret (d0 := s.drawn) (Drawn.sameBut.refl s.drawn lw_cs) hx hb hr hlocks dL_law_2446
    · have c1 := i_nlt c1
      have hi : 6 * j + 6 ≤ L := by omega
      refine lv_aload_n hx hb dL_law_38 rfl (lv_at hl 5 rfl) ?_
      refine lv_iload hx hb dL_law_39 (lv_at hl 0 rfl) ?_
      refine va_sld hx hb hX0 hbl (Nat.not_le.mpr hbl) G.2.2 (i := nI (6 * j)) (vp_in_nI (n := 6 * j) (N := L) (by omega) (by omega)) dL_law_41 ?_
      refine lv_to (y := xs (6 * j)) (congrArg xs (nI_clamp (by omega))) ?_
      refine lv_bipush (v := 63) hx hb dL_law_42 (by decide) ?_
      refine lv_iand hx hb dL_law_44 ?_
      obtain ⟨k, hk, ek⟩ := p_k (xs (6 * j))
      refine y_arms l hst hx hb hr hml hown hts hlocks hX0 hbl hX hN hTS hK hL hi (by omega) (fun hV hrc hJ hrl G hl => ?_) hV hrc hJ hrl G hl k hk ek
      refine lv_iinc (v := nI (6 * (j + 1))) (lv' := [(5, .int (nI (6 * (j + 1)))), (4, .ref ae), (3, .ref aj), (2, .ref (am 0)), (1, .ref _), (0, .ref b)]) hx hb dL_law_2439 hl (k := 0) rfl (nI_add (6 * j) 6) (by decide) rfl (fun ls hl => ?_)
      refine lv_goto (tgt := 28) hx hb dL_law_2442 (by decide) ?_
      exact ih (j + 1) (by omega) hV hrc hJ hrl G hl
set_option maxHeartbeats 8000000 in
set_option maxRecDepth 100000 in
theorem p_start {p : Program} {e : Env} {s : State} {m : MethodId} {below : List Frame} {meth : Method} {c : Code} (l : Launch) (hflags : l.flags = flags0) {b L : Nat} {xs : Nat → Int32} (hL : L ≤ 3072) (C0 : lw_At p s m meth c b L xs) : W p l e room_1 s m #[Value.ref b] below meth c s.heap [] 0 0 (lw_Z below #[Value.ref b] s) (entryFrame m ([Value.ref b] : List Value).toArray 9) := by
  obtain ⟨hx, hb, hr, hml, hown, hts, hX0, hbl, hlocks, hg⟩ := C0
  have hX := (l_X hts hg).1
  obtain ⟨hTS, hN⟩ := l_S hts hg
  have hst : l.stackTraces = false := by
    unfold Launch.stackTraces
    rw [hflags]
    decide +kernel
  refine l_open l hx hb hml hown hts (fun D cI cJ cZ cMic cSrc cSt cAI cAJ cD ad am S ls H locs hK hT G hl => ?_)
  have G := p_fresh hT G
  refine W.widen (k := 19 + aT0.1 + 0) (n := 38467 + sg aT0 + 6 * 0) (Nat.le_of_ble_eq_true rfl) (by rw [p_sg0]; exact Nat.le_of_ble_eq_true rfl) ?_
  exact y_loop l hst hx hb hr hml hown hts hlocks hX0 hbl hX hN hTS hK hL 512 0 (by decide) a_IV a_RC p_JJ0 r3_0 G hl
