section
/-! 11kg.cd6.lean.txt -/
def g_X3_parseMap_b13  (T : AT) (s0 : Int32) (s1 : Nat) (l0 : Nat) (l1 : Nat) : Option (Nat × Int32 × AT) := oif (oO T s1 3 = true) <| othr (g_X3_startLine T s1 s0 (3 : Int32)) 0 fun r5 T3 => oif (oO T3 l0 3 = true) <| othr (g_X3_signed T3 l0 ((-999) : Int32) (999 : Int32)) 0 fun r10 T8 => oif (oO T8 l1 1 = true) <| elet (uI T8 l1 0 r10) fun T13 => oif (oO T13 l0 3 = true) <| othr (g_X3_signed T13 l0 ((-999) : Int32) (999 : Int32)) 0 fun r17 T15 => oif (oO T15 l1 1 = true) <| elet (uI T15 l1 1 r17) fun T20 => oif (oO T20 l0 3 = true) <| othr (g_X3_number T20 l0 (1 : Int32) (99 : Int32)) 0 fun r24 T22 => oif (oO T22 l1 1 = true) <| elet (uI T22 l1 2 r24) fun T27 => oif (oO T27 l0 3 = true) <| othr (g_X3_number T27 l0 (1 : Int32) (12 : Int32)) 0 fun r31 T29 => oif (oO T29 l0 3 = true) <| othr (g_X3_number T29 l0 (1 : Int32) (12 : Int32)) 0 fun r36 T34 => oif (oO T34 l1 1 = true) <| obind (g_X1_open T34 l1 r31 r36) fun T39 => some (0, 0, T39)
set_option maxHeartbeats 4000000 in
set_option maxRecDepth 100000 in
theorem u_X3_parseMap_b13 {p : Program} {l : Launch} {e : Env} {s : State} {m : MethodId} {args : Array Value} {below : List Frame} {meth : Method} {c : Code} {Q : State → Prop} {D : va_G} {A : Nat → Prop} {cI cJ cZ cMic cSrc cSt cAI cAJ : ClassId} {ad : Nat → Nat} {r1 : Int32} {T1 : AT} (E : cE p c cX3_parseMap s m args (Cond.code yX3_parseMap cX3_parseMap 4 none :: wsA) D RX3 (CT cI cJ cZ cMic cSrc cSt cAI cAJ)) (hA : ∀ q : Nat, s.heap.size ≤ q → A q) (hX : xT A s) (hN : nX s) (hml : c.maxLocals = 4) (hst : l.stackTraces = false) (kr78 : ∀ (H : Heap) (locs : List Loc) (ls : Array Slot), gC cI cJ cZ cMic cSrc cSt cAI cAJ D ad A s.heap H locs T1 → W p l e { frames := 9, cells := 0, slots := 0, locals := 148 } s m args below meth c H locs 0 0 Q (F0 m 78 ls [])) : ∀ (T : AT) (H : Heap) (locs : List Loc) (ls : Array Slot) (s0 : Int32) (s1 : Nat) (l0 : Nat) (l1 : Nat), g_X3_parseMap_b13 T s0 s1 l0 l1 = some (0, r1, T1) → gC cI cJ cZ cMic cSrc cSt cAI cAJ D ad A s.heap H locs T → lv_has ls 4 [(0, .ref (ad l0)), (1, .ref (ad l1))] → W p l e { frames := 9, cells := 0, slots := 0, locals := 148 } s m args below meth c H locs 0 0 Q (F0 m 13 ls [.int s0, .ref (ad s1)]) := by
  have hx := E.1
  have hb := E.2.1
  have hts := E.2.2.1
  have hown := E.2.2.2.1
  have hK := E.2.2.2.2
  intro T H locs ls s0 s1 l0 l1 h G hl
  unfold g_X3_parseMap_b13 at h
  refine lv_iconst (v := 3) hx hb dX3_parseMap_13 (by decide) ?_
  obtain ⟨g2, h⟩ := oif_some h
  obtain ⟨r5, T3, eT3, h⟩ := othr_n h
  refine q_cvv (As := [.int s0, .int 3]) (rest := []) E G hA hX hN hml (u_X3_startLine l hst D cI cJ cZ cMic cSrc cSt cAI cAJ ad T s1 s0 (3 : Int32) eT3) (cwV 2 hts (gaV qA_321 qA_322 qA_323 qA_222 qA_324) rfl rfl rfl (by decide +kernel) ⟨Nat.le_of_ble_eq_true rfl, Nat.le_of_ble_eq_true rfl⟩) (oO_k g2).1 (cc_o3 (oO_k g2).2) rfl rfl hl.1 rfl (lv_room (Nat.le_of_ble_eq_true rfl)) dX3_parseMap_14 ⟨Nat.zero_le _, Nat.zero_le _⟩ (fun T4 H locs hq G => ?_)
  rw [hq] at G
  clear hq eT3
  refine lv_aload_n hx hb dX3_parseMap_17 rfl (lv_at hl 1 rfl) ?_
  refine lv_aload_n hx hb dX3_parseMap_18 rfl (lv_at hl 0 rfl) ?_
  refine lv_sipush (v := (-999)) hx hb dX3_parseMap_19 (by decide) ?_
  refine lv_sipush (v := 999) hx hb dX3_parseMap_22 (by decide) ?_
  obtain ⟨g7, h⟩ := oif_some h
  obtain ⟨r10, T8, eT8, h⟩ := othr_n h
  refine q_cvi (As := [.int (-999), .int 999]) (rest := [.ref (ad l1)]) E G hA hX hN hml (u_X3_signed l hst D cI cJ cZ cMic cSrc cSt cAI cAJ ad T3 l0 ((-999) : Int32) (999 : Int32) eT8) (cwV 2 hts (gaV qA_325 qA_326 qA_327 qA_222 qA_328) rfl rfl rfl (by decide +kernel) ⟨Nat.le_of_ble_eq_true rfl, Nat.le_of_ble_eq_true rfl⟩) (oO_k g7).1 (cc_o3 (oO_k g7).2) rfl rfl hl.1 rfl (lv_room (Nat.le_of_ble_eq_true rfl)) dX3_parseMap_25 ⟨Nat.zero_le _, Nat.zero_le _⟩ (fun q11 T9 H locs hq G => ?_)
  obtain ⟨hq1, hq2⟩ := hq
  rw [hq2] at G
  refine lv_to hq1 ?_
  clear hq1 hq2 eT8
  obtain ⟨g12, h⟩ := oif_some h
  refine c_put E G l1 0 (v := .int r10) (oO_k g12).1 (cc_o1 (oO_k g12).2) rfl (fun w h => .tail _ (iA_15 h)) tyX1 tyX1_ok nmX1 (by decide) (.tail _ qA_333) ⟨rfl, rfl, rfl⟩ rfl rfl (Nat.le_of_ble_eq_true rfl) dX3_parseMap_28 (fun H locs G => ?_)
  have G := gC_up_i (f := upd (T8.2.2.1 l1) 0 r10) (by rw [(oO_k g12).2]; rfl) G
  obtain ⟨T13, eT13, h⟩ := elet_some h
  have G : gC cI cJ cZ cMic cSrc cSt cAI cAJ D ad A s.heap H locs T13 := by rw [eT13]; exact G
  clear eT13
  refine lv_aload_n hx hb dX3_parseMap_31 rfl (lv_at hl 1 rfl) ?_
  refine lv_aload_n hx hb dX3_parseMap_32 rfl (lv_at hl 0 rfl) ?_
  refine lv_sipush (v := (-999)) hx hb dX3_parseMap_33 (by decide) ?_
  refine lv_sipush (v := 999) hx hb dX3_parseMap_36 (by decide) ?_
  obtain ⟨g14, h⟩ := oif_some h
  obtain ⟨r17, T15, eT15, h⟩ := othr_n h
  refine q_cvi (As := [.int (-999), .int 999]) (rest := [.ref (ad l1)]) E G hA hX hN hml (u_X3_signed l hst D cI cJ cZ cMic cSrc cSt cAI cAJ ad T13 l0 ((-999) : Int32) (999 : Int32) eT15) (cwV 2 hts (gaV qA_325 qA_326 qA_327 qA_222 qA_328) rfl rfl rfl (by decide +kernel) ⟨Nat.le_of_ble_eq_true rfl, Nat.le_of_ble_eq_true rfl⟩) (oO_k g14).1 (cc_o3 (oO_k g14).2) rfl rfl hl.1 rfl (lv_room (Nat.le_of_ble_eq_true rfl)) dX3_parseMap_39 ⟨Nat.zero_le _, Nat.zero_le _⟩ (fun q18 T16 H locs hq G => ?_)
  obtain ⟨hq1, hq2⟩ := hq
  rw [hq2] at G
  refine lv_to hq1 ?_
  clear hq1 hq2 eT15
  obtain ⟨g19, h⟩ := oif_some h
  refine c_put E G l1 1 (v := .int r17) (oO_k g19).1 (cc_o1 (oO_k g19).2) rfl (fun w h => .tail _ (iA_15 h)) tyX1 tyX1_ok nmX1 (by decide) (.tail _ qA_334) ⟨rfl, rfl, rfl⟩ rfl rfl (Nat.le_of_ble_eq_true rfl) dX3_parseMap_42 (fun H locs G => ?_)
  have G := gC_up_i (f := upd (T15.2.2.1 l1) 1 r17) (by rw [(oO_k g19).2]; rfl) G
  obtain ⟨T20, eT20, h⟩ := elet_some h
  have G : gC cI cJ cZ cMic cSrc cSt cAI cAJ D ad A s.heap H locs T20 := by rw [eT20]; exact G
  clear eT20
  refine lv_aload_n hx hb dX3_parseMap_45 rfl (lv_at hl 1 rfl) ?_
  refine lv_aload_n hx hb dX3_parseMap_46 rfl (lv_at hl 0 rfl) ?_
  refine lv_iconst (v := 1) hx hb dX3_parseMap_47 (by decide) ?_
  refine lv_bipush (v := 99) hx hb dX3_parseMap_48 (by decide) ?_
  obtain ⟨g21, h⟩ := oif_some h
  obtain ⟨r24, T22, eT22, h⟩ := othr_n h
  refine q_cvi (As := [.int 1, .int 99]) (rest := [.ref (ad l1)]) E G hA hX hN hml (u_X3_number l hst D cI cJ cZ cMic cSrc cSt cAI cAJ ad T20 l0 (1 : Int32) (99 : Int32) eT22) (cwV 2 hts (gaV qA_299 qA_300 qA_301 qA_222 qA_302) rfl rfl rfl (by decide +kernel) ⟨Nat.le_of_ble_eq_true rfl, Nat.le_of_ble_eq_true rfl⟩) (oO_k g21).1 (cc_o3 (oO_k g21).2) rfl rfl hl.1 rfl (lv_room (Nat.le_of_ble_eq_true rfl)) dX3_parseMap_50 ⟨Nat.zero_le _, Nat.zero_le _⟩ (fun q25 T23 H locs hq G => ?_)
  obtain ⟨hq1, hq2⟩ := hq
  rw [hq2] at G
  refine lv_to hq1 ?_
  clear hq1 hq2 eT22
  obtain ⟨g26, h⟩ := oif_some h
  refine c_put E G l1 2 (v := .int r24) (oO_k g26).1 (cc_o1 (oO_k g26).2) rfl (fun w h => .tail _ (iA_15 h)) tyX1 tyX1_ok nmX1 (by decide) (.tail _ qA_335) ⟨rfl, rfl, rfl⟩ rfl rfl (Nat.le_of_ble_eq_true rfl) dX3_parseMap_53 (fun H locs G => ?_)
  have G := gC_up_i (f := upd (T22.2.2.1 l1) 2 r24) (by rw [(oO_k g26).2]; rfl) G
  obtain ⟨T27, eT27, h⟩ := elet_some h
  have G : gC cI cJ cZ cMic cSrc cSt cAI cAJ D ad A s.heap H locs T27 := by rw [eT27]; exact G
  clear eT27
  refine lv_aload_n hx hb dX3_parseMap_56 rfl (lv_at hl 0 rfl) ?_
  refine lv_iconst (v := 1) hx hb dX3_parseMap_57 (by decide) ?_
  refine lv_bipush (v := 12) hx hb dX3_parseMap_58 (by decide) ?_
  obtain ⟨g28, h⟩ := oif_some h
  obtain ⟨r31, T29, eT29, h⟩ := othr_n h
  refine q_cvi (As := [.int 1, .int 12]) (rest := []) E G hA hX hN hml (u_X3_number l hst D cI cJ cZ cMic cSrc cSt cAI cAJ ad T27 l0 (1 : Int32) (12 : Int32) eT29) (cwV 2 hts (gaV qA_299 qA_300 qA_301 qA_222 qA_302) rfl rfl rfl (by decide +kernel) ⟨Nat.le_of_ble_eq_true rfl, Nat.le_of_ble_eq_true rfl⟩) (oO_k g28).1 (cc_o3 (oO_k g28).2) rfl rfl hl.1 rfl (lv_room (Nat.le_of_ble_eq_true rfl)) dX3_parseMap_60 ⟨Nat.zero_le _, Nat.zero_le _⟩ (fun q32 T30 H locs hq G => ?_)
  obtain ⟨hq1, hq2⟩ := hq
  rw [hq2] at G
  refine lv_to hq1 ?_
  clear hq1 hq2 eT29
  refine lv_istore_n (lv' := [(2, .int r31), (0, .ref (ad l0)), (1, .ref (ad l1))]) hx hb dX3_parseMap_63 rfl hl (by decide) rfl (fun ls hl => ?_)
  refine lv_aload_n hx hb dX3_parseMap_64 rfl (lv_at hl 1 rfl) ?_
  refine lv_iconst (v := 1) hx hb dX3_parseMap_65 (by decide) ?_
  refine lv_bipush (v := 12) hx hb dX3_parseMap_66 (by decide) ?_
  obtain ⟨g33, h⟩ := oif_some h
  obtain ⟨r36, T34, eT34, h⟩ := othr_n h
  refine q_cvi (As := [.int 1, .int 12]) (rest := []) E G hA hX hN hml (u_X3_number l hst D cI cJ cZ cMic cSrc cSt cAI cAJ ad T29 l0 (1 : Int32) (12 : Int32) eT34) (cwV 2 hts (gaV qA_299 qA_300 qA_301 qA_222 qA_302) rfl rfl rfl (by decide +kernel) ⟨Nat.le_of_ble_eq_true rfl, Nat.le_of_ble_eq_true rfl⟩) (oO_k g33).1 (cc_o3 (oO_k g33).2) rfl rfl hl.1 rfl (lv_room (Nat.le_of_ble_eq_true rfl)) dX3_parseMap_68 ⟨Nat.zero_le _, Nat.zero_le _⟩ (fun q37 T35 H locs hq G => ?_)
  obtain ⟨hq1, hq2⟩ := hq
  rw [hq2] at G
  refine lv_to hq1 ?_
  clear hq1 hq2 eT34
  refine lv_istore_n (lv' := [(3, .int r36), (2, .int r31), (0, .ref (ad l0)), (1, .ref (ad l1))]) hx hb dX3_parseMap_71 rfl hl (by decide) rfl (fun ls hl => ?_)
  refine lv_aload_n hx hb dX3_parseMap_72 rfl (lv_at hl 3 rfl) ?_
  refine lv_iload_n hx hb dX3_parseMap_73 rfl (lv_at hl 1 rfl) ?_
  refine lv_iload_n hx hb dX3_parseMap_74 rfl (lv_at hl 0 rfl) ?_
  obtain ⟨g38, h⟩ := oif_some h
  obtain ⟨T39, eT39, h⟩ := obind_some h
  refine q_cvv (As := [.int r31, .int r36]) (rest := []) E G hA hX hN hml (u_X1_open l hst D cI cJ cZ cMic cSrc cSt cAI cAJ ad T34 l1 r31 r36 eT39) (cwV 2 hts (gaV qA_336 qA_337 qA_338 qA_37 qA_163) rfl rfl rfl (by decide +kernel) ⟨Nat.le_of_ble_eq_true rfl, Nat.le_of_ble_eq_true rfl⟩) (oO_k g38).1 (cc_o1 (oO_k g38).2) rfl rfl hl.1 rfl (lv_room (Nat.le_of_ble_eq_true rfl)) dX3_parseMap_75 ⟨Nat.zero_le _, Nat.zero_le _⟩ (fun T40 H locs hq G => ?_)
  rw [hq] at G
  clear hq eT39
  rw [(osome3 h).2.2] at G
  exact kr78 _ _ _ G
def g_X3_parseMap (T : AT) (o : Nat) (a0 : Nat) : Option (Nat × Int32 × AT) := oif (oO T a0 1 = true) <| elet (T.2.2.1 a0 3) fun v3 => if v3 ≤ 0 then (g_X3_parseMap_b13 T 0 o o a0) else (g_X3_parseMap_b13 T 1 o o a0)
set_option maxHeartbeats 4000000 in
set_option maxRecDepth 100000 in
theorem u_X3_parseMap (l : Launch) (hst : l.stackTraces = false) (D : va_G) (cI cJ cZ cMic cSrc cSt cAI cAJ : ClassId) (ad : Nat → Nat) (T : AT) (o : Nat) (a0 : Nat) {r1 : Int32} {T1 : AT} (h : g_X3_parseMap T o a0 = some (0, r1, T1)) : kCv l yX3_parseMap (Cond.code yX3_parseMap cX3_parseMap 4 none :: wsA) 9 148 cI cJ cZ cMic cSrc cSt cAI cAJ D ad T [.ref (ad o), .ref (ad a0)] (fun T9 => T9 = T1) := by
  intro sz
  refine Met.ofW (cc := cX3_parseMap) (maxL := 4) (ret := none) (by decide) rfl ?_
  intro p e s m args below meth c s₁ B hml hv
  obtain ⟨rfl, hsz, hP, hK, hD0, hX, hN⟩ := hv
  have hx := B.exec
  have hb := B.bytes
  have hr := B.returns
  have hts := atoms_spec (ws := (Cond.code yX3_parseMap cX3_parseMap 4 none :: wsA)) B.pre
  have hown : s.vm.findClass RX3 = some m.cls := findClass_of_methodNamed B.named
  have hlocks := B.notSynchronized
  subst hsz
  have hD := hD0.self (sz := s.heap.size)
  generalize hAe : va_A (cW ad T.1 (cc cI cJ cZ cMic cSrc cSt cAI cAJ ad T)) s.heap.size = A at hD hX ⊢
  have hA : ∀ q : Nat, s.heap.size ≤ q → A q := fun q h => by rw [← hAe]; exact Or.inr h
  have G : gC cI cJ cZ cMic cSrc cSt cAI cAJ D ad A s.heap s.heap [] T := ⟨hP, hD, va_S.rf⟩
  have E : cE p c cX3_parseMap s m ([.ref (ad o), .ref (ad a0)] : List Value).toArray (Cond.code yX3_parseMap cX3_parseMap 4 none :: wsA) D RX3 (CT cI cJ cZ cMic cSrc cSt cAI cAJ) := ⟨hx, hb, hts, hown, hK⟩
  have hl := lv_entry ([.ref (ad o), .ref (ad a0)]) (n := 4) (Nat.le_of_ble_eq_true rfl)
  rw [lg_entry_eq]
  generalize (lg_sl ([.ref (ad o), .ref (ad a0)]) ++ List.replicate (4 - (lg_sl ([.ref (ad o), .ref (ad a0)])).length) Slot.unset).toArray = ls at hl ⊢
  have hl : lv_has ls 4 [(0, .ref (ad o)), (1, .ref (ad a0))] := hl
  unfold g_X3_parseMap at h
  refine lv_aload_n hx hb dX3_parseMap_0 rfl (lv_at hl 0 rfl) ?_
  refine lv_aload_n hx hb dX3_parseMap_1 rfl (lv_at hl 1 rfl) ?_
  obtain ⟨g2, h⟩ := oif_some h
  refine c_get E G a0 3 (oO_k g2).1 (cc_o1 (oO_k g2).2) rfl (fun w h => .tail _ (iA_15 h)) (by decide) (.tail _ qA_180) rfl rfl dX3_parseMap_2 ?_
  refine lv_topi (fun v3 ev3 => ?_)
  have h := elet_at ev3 h
  clear ev3
  refine lv_if_le (tgt := 12) hx hb dX3_parseMap_5 (by decide) (fun c4 => ?_) (fun c4 => ?_)
  · have h := oif_pos c4 h
    refine lv_iconst (v := 0) hx hb dX3_parseMap_12 (by decide) ?_
    have hl := lv_sub hl [0, 1] rfl
    exact u_X3_parseMap_b13 E hA hX hN hml hst (fun H locs ls G => W.vret hx hb hr (fun t ht hW => ⟨⟨T1, rfl, rfl, ⟨by rw [ht]; exact G.1, va_K.moved hW.alike hK, G.2.1⟩⟩, G.2.2.F ht⟩) G.2.2.2.2 dX3_parseMap_78) _ _ _ _ _ _ _ _ h G hl
  · have h := oif_neg c4 h
    refine lv_iconst (v := 1) hx hb dX3_parseMap_8 (by decide) ?_
    refine lv_goto (tgt := 13) hx hb dX3_parseMap_9 (by decide) ?_
    have hl := lv_sub hl [0, 1] rfl
    exact u_X3_parseMap_b13 E hA hX hN hml hst (fun H locs ls G => W.vret hx hb hr (fun t ht hW => ⟨⟨T1, rfl, rfl, ⟨by rw [ht]; exact G.1, va_K.moved hW.alike hK, G.2.1⟩⟩, G.2.2.F ht⟩) G.2.2.2.2 dX3_parseMap_78) _ _ _ _ _ _ _ _ h G hl
set_option maxHeartbeats 4000000 in
set_option maxRecDepth 100000 in
theorem s_X3_parseMap_b13 {e1 : Nat} {r1 : Int32} {T1 : AT} : ∀ (T : AT) (s0 : Int32) (s1 : Nat) (l0 : Nat) (l1 : Nat), g_X3_parseMap_b13 T s0 s1 l0 l1 = some (e1, r1, T1) → SP T T1 := by
  intro T s0 s1 l0 l1 h
  have p0 := SP.rf T
  unfold g_X3_parseMap_b13 at h
  obtain ⟨g2, h⟩ := oif_some h
  rcases othr_s h with ⟨k9, r9, e9, -⟩ | ⟨r4, T3, eT3, h⟩
  · exact SP.tr p0 (s_X3_startLine e9)
  have p1 : SP T T3 := SP.tr p0 (s_X3_startLine eT3)
  obtain ⟨g5, h⟩ := oif_some h
  rcases othr_s h with ⟨k9, r9, e9, -⟩ | ⟨r7, T6, eT6, h⟩
  · exact SP.tr p1 (s_X3_signed e9)
  have p2 : SP T T6 := SP.tr p1 (s_X3_signed eT6)
  obtain ⟨g8, h⟩ := oif_some h
  obtain ⟨T9, eT9, h⟩ := elet_some h
  have p3 : SP T T9 := SP.tr p2 (by rw [eT9]; exact sp_uI)
  obtain ⟨g10, h⟩ := oif_some h
  rcases othr_s h with ⟨k9, r9, e9, -⟩ | ⟨r12, T11, eT11, h⟩
  · exact SP.tr p3 (s_X3_signed e9)
  have p4 : SP T T11 := SP.tr p3 (s_X3_signed eT11)
  obtain ⟨g13, h⟩ := oif_some h
  obtain ⟨T14, eT14, h⟩ := elet_some h
  have p5 : SP T T14 := SP.tr p4 (by rw [eT14]; exact sp_uI)
  obtain ⟨g15, h⟩ := oif_some h
  rcases othr_s h with ⟨k9, r9, e9, -⟩ | ⟨r17, T16, eT16, h⟩
  · exact SP.tr p5 (s_X3_number e9)
  have p6 : SP T T16 := SP.tr p5 (s_X3_number eT16)
  obtain ⟨g18, h⟩ := oif_some h
  obtain ⟨T19, eT19, h⟩ := elet_some h
  have p7 : SP T T19 := SP.tr p6 (by rw [eT19]; exact sp_uI)
  obtain ⟨g20, h⟩ := oif_some h
  rcases othr_s h with ⟨k9, r9, e9, -⟩ | ⟨r22, T21, eT21, h⟩
  · exact SP.tr p7 (s_X3_number e9)
  have p8 : SP T T21 := SP.tr p7 (s_X3_number eT21)
  obtain ⟨g23, h⟩ := oif_some h
  rcases othr_s h with ⟨k9, r9, e9, -⟩ | ⟨r25, T24, eT24, h⟩
  · exact SP.tr p8 (s_X3_number e9)
  have p9 : SP T T24 := SP.tr p8 (s_X3_number eT24)
  obtain ⟨g26, h⟩ := oif_some h
  obtain ⟨T27, eT27, h⟩ := obind_some h
  have p10 : SP T T27 := SP.tr p9 (s_X1_open eT27)
  rw [← (osome3 h).2.2]
  exact p10
set_option maxHeartbeats 4000000 in
set_option maxRecDepth 100000 in
theorem s_X3_parseMap {T : AT} {o : Nat} {a0 : Nat} {e1 : Nat} {r1 : Int32} {T1 : AT} (h : g_X3_parseMap T o a0 = some (e1, r1, T1)) : SP T T1 := by
  have p0 := SP.rf T
  unfold g_X3_parseMap at h
  obtain ⟨g2, h⟩ := oif_some h
  obtain ⟨v3, -, h⟩ := elet_some h
  rcases oif_or h with ⟨c4, h⟩ | ⟨c4, h⟩
  · have h := h
    exact SP.tr p0 (s_X3_parseMap_b13 _ _ _ _ _ h)
  · have h := h
    exact SP.tr p0 (s_X3_parseMap_b13 _ _ _ _ _ h)
set_option maxHeartbeats 4000000 in
set_option maxRecDepth 100000 in
theorem x_X3_parseMap_b13 {p : Program} {l : Launch} {e : Env} {s : State} {m : MethodId} {args : Array Value} {below : List Frame} {meth : Method} {c : Code} {Qc : Array Value → State → Outcome → State → Prop} {XC : String → State → State → Prop} {D : va_G} {A : Nat → Prop} {cI cJ cZ cMic cSrc cSt cAI cAJ : ClassId} {ad : Nat → Nat} {e1 : Nat} {r1 : Int32} {T1 : AT} (E : cE p c cX3_parseMap s m args (Cond.code yX3_parseMap cX3_parseMap 4 none :: wsA) D RX3 (CT cI cJ cZ cMic cSrc cSt cAI cAJ)) (hA : ∀ q : Nat, s.heap.size ≤ q → A q) (hX : xT A s) (hN : nX s) (hml : c.maxLocals = 4) (hz9 : True) (hst : l.stackTraces = false) (htab : ∀ x ∈ c.exceptionTable.toList, False) (hlocks : meth.locks = false) (kx : ∀ (H : Heap) (locs : List Loc) (t : State), gC cI cJ cZ cMic cSrc cSt cAI cAJ D ad A s.heap H locs T1 → s.vm.Alike t.vm → H.size ≤ t.heap.size → (∀ q, q < H.size → t.heap[q]? = H[q]?) → XC (exn e1) s t) : ∀ (T : AT) (H : Heap) (locs : List Loc) (ls : Array Slot) (s0 : Int32) (s1 : Nat) (l0 : Nat) (l1 : Nat), g_X3_parseMap_b13 T s0 s1 l0 l1 = some (e1 + 1, r1, T1) → gC cI cJ cZ cMic cSrc cSt cAI cAJ D ad A s.heap H locs T → lv_has ls 4 [(0, .ref (ad l0)), (1, .ref (ad l1))] → W p l e { frames := 9, cells := 1, slots := 6, locals := 148 } s m args below meth c H locs 0 0 (vx_MQ below Qc XC args s 1 6 A) (F0 m 13 ls [.int s0, .ref (ad s1)]) := by
  have hx := E.1
  have hb := E.2.1
  have hts := E.2.2.1
  have hown := E.2.2.2.1
  have hK := E.2.2.2.2
  intro T H locs ls s0 s1 l0 l1 h G hl
  unfold g_X3_parseMap_b13 at h
  refine lv_iconst (v := 3) hx hb dX3_parseMap_13 (by decide) ?_
  obtain ⟨g2, h⟩ := oif_some h
  rcases othr_t h with ⟨r0, eT3⟩ | ⟨r5, T3, eT3, h⟩
  · refine q_xvv (As := [.int s0, .int 3]) (rest := []) E G hA hX hN hml (x_X3_startLine l hst D cI cJ cZ cMic cSrc cSt cAI cAJ ad T s1 s0 (3 : Int32) eT3) (cwV 2 hts (gaV qA_321 qA_322 qA_323 qA_222 qA_324) rfl rfl rfl (by decide +kernel) ⟨Nat.le_of_ble_eq_true rfl, Nat.le_of_ble_eq_true rfl⟩) (oO_k g2).1 (cc_o3 (oO_k g2).2) rfl rfl hl.1 rfl (lv_room (Nat.le_of_ble_eq_true rfl)) dX3_parseMap_14 ⟨Nat.le_of_ble_eq_true rfl, Nat.le_of_ble_eq_true rfl⟩ (fun E9 ce q9 T9 H locs hp G hce hcv hcl => ?_)
    obtain ⟨hE, hT⟩ := hp
    subst hE
    rw [hT] at G
    exact vx_out (fun x hx => (htab x hx).elim) hlocks hce hcv hcl (fun t ht hvm => kx _ _ _ G hvm (by rw [ht]; exact Nat.le_refl _) (fun q hq => by rw [ht])) G.2.2.2.2 (Nat.le_refl _) (Nat.le_refl _)
  refine q_cvv (As := [.int s0, .int 3]) (rest := []) E G hA hX hN hml (u_X3_startLine l hst D cI cJ cZ cMic cSrc cSt cAI cAJ ad T s1 s0 (3 : Int32) eT3) (cwV 2 hts (gaV qA_321 qA_322 qA_323 qA_222 qA_324) rfl rfl rfl (by decide +kernel) ⟨Nat.le_of_ble_eq_true rfl, Nat.le_of_ble_eq_true rfl⟩) (oO_k g2).1 (cc_o3 (oO_k g2).2) rfl rfl hl.1 rfl (lv_room (Nat.le_of_ble_eq_true rfl)) dX3_parseMap_14 ⟨Nat.zero_le _, Nat.zero_le _⟩ (fun T4 H locs hq G => ?_)
  rw [hq] at G
  clear hq eT3
  refine lv_aload_n hx hb dX3_parseMap_17 rfl (lv_at hl 1 rfl) ?_
  refine lv_aload_n hx hb dX3_parseMap_18 rfl (lv_at hl 0 rfl) ?_
  refine lv_sipush (v := (-999)) hx hb dX3_parseMap_19 (by decide) ?_
  refine lv_sipush (v := 999) hx hb dX3_parseMap_22 (by decide) ?_
  obtain ⟨g7, h⟩ := oif_some h
  rcases othr_t h with ⟨r0, eT8⟩ | ⟨r10, T8, eT8, h⟩
  · refine q_xvi (As := [.int (-999), .int 999]) (rest := [.ref (ad l1)]) E G hA hX hN hml (x_X3_signed l hst D cI cJ cZ cMic cSrc cSt cAI cAJ ad T3 l0 ((-999) : Int32) (999 : Int32) eT8) (cwV 2 hts (gaV qA_325 qA_326 qA_327 qA_222 qA_328) rfl rfl rfl (by decide +kernel) ⟨Nat.le_of_ble_eq_true rfl, Nat.le_of_ble_eq_true rfl⟩) (oO_k g7).1 (cc_o3 (oO_k g7).2) rfl rfl hl.1 rfl (lv_room (Nat.le_of_ble_eq_true rfl)) dX3_parseMap_25 ⟨Nat.le_of_ble_eq_true rfl, Nat.le_of_ble_eq_true rfl⟩ (fun E9 ce q9 T9 H locs hp G hce hcv hcl => ?_)
    obtain ⟨hE, hT⟩ := hp
    subst hE
    rw [hT] at G
    exact vx_out (fun x hx => (htab x hx).elim) hlocks hce hcv hcl (fun t ht hvm => kx _ _ _ G hvm (by rw [ht]; exact Nat.le_refl _) (fun q hq => by rw [ht])) G.2.2.2.2 (Nat.le_refl _) (Nat.le_refl _)
  refine q_cvi (As := [.int (-999), .int 999]) (rest := [.ref (ad l1)]) E G hA hX hN hml (u_X3_signed l hst D cI cJ cZ cMic cSrc cSt cAI cAJ ad T3 l0 ((-999) : Int32) (999 : Int32) eT8) (cwV 2 hts (gaV qA_325 qA_326 qA_327 qA_222 qA_328) rfl rfl rfl (by decide +kernel) ⟨Nat.le_of_ble_eq_true rfl, Nat.le_of_ble_eq_true rfl⟩) (oO_k g7).1 (cc_o3 (oO_k g7).2) rfl rfl hl.1 rfl (lv_room (Nat.le_of_ble_eq_true rfl)) dX3_parseMap_25 ⟨Nat.zero_le _, Nat.zero_le _⟩ (fun q11 T9 H locs hq G => ?_)
  obtain ⟨hq1, hq2⟩ := hq
  rw [hq2] at G
  refine lv_to hq1 ?_
  clear hq1 hq2 eT8
  obtain ⟨g12, h⟩ := oif_some h
  refine c_put E G l1 0 (v := .int r10) (oO_k g12).1 (cc_o1 (oO_k g12).2) rfl (fun w h => .tail _ (iA_15 h)) tyX1 tyX1_ok nmX1 (by decide) (.tail _ qA_333) ⟨rfl, rfl, rfl⟩ rfl rfl (Nat.le_of_ble_eq_true rfl) dX3_parseMap_28 (fun H locs G => ?_)
  have G := gC_up_i (f := upd (T8.2.2.1 l1) 0 r10) (by rw [(oO_k g12).2]; rfl) G
  obtain ⟨T13, eT13, h⟩ := elet_some h
  have G : gC cI cJ cZ cMic cSrc cSt cAI cAJ D ad A s.heap H locs T13 := by rw [eT13]; exact G
  clear eT13
  refine lv_aload_n hx hb dX3_parseMap_31 rfl (lv_at hl 1 rfl) ?_
  refine lv_aload_n hx hb dX3_parseMap_32 rfl (lv_at hl 0 rfl) ?_
  refine lv_sipush (v := (-999)) hx hb dX3_parseMap_33 (by decide) ?_
  refine lv_sipush (v := 999) hx hb dX3_parseMap_36 (by decide) ?_
  obtain ⟨g14, h⟩ := oif_some h
  rcases othr_t h with ⟨r0, eT15⟩ | ⟨r17, T15, eT15, h⟩
  · refine q_xvi (As := [.int (-999), .int 999]) (rest := [.ref (ad l1)]) E G hA hX hN hml (x_X3_signed l hst D cI cJ cZ cMic cSrc cSt cAI cAJ ad T13 l0 ((-999) : Int32) (999 : Int32) eT15) (cwV 2 hts (gaV qA_325 qA_326 qA_327 qA_222 qA_328) rfl rfl rfl (by decide +kernel) ⟨Nat.le_of_ble_eq_true rfl, Nat.le_of_ble_eq_true rfl⟩) (oO_k g14).1 (cc_o3 (oO_k g14).2) rfl rfl hl.1 rfl (lv_room (Nat.le_of_ble_eq_true rfl)) dX3_parseMap_39 ⟨Nat.le_of_ble_eq_true rfl, Nat.le_of_ble_eq_true rfl⟩ (fun E9 ce q9 T9 H locs hp G hce hcv hcl => ?_)
    obtain ⟨hE, hT⟩ := hp
    subst hE
    rw [hT] at G
    exact vx_out (fun x hx => (htab x hx).elim) hlocks hce hcv hcl (fun t ht hvm => kx _ _ _ G hvm (by rw [ht]; exact Nat.le_refl _) (fun q hq => by rw [ht])) G.2.2.2.2 (Nat.le_refl _) (Nat.le_refl _)
  refine q_cvi (As := [.int (-999), .int 999]) (rest := [.ref (ad l1)]) E G hA hX hN hml (u_X3_signed l hst D cI cJ cZ cMic cSrc cSt cAI cAJ ad T13 l0 ((-999) : Int32) (999 : Int32) eT15) (cwV 2 hts (gaV qA_325 qA_326 qA_327 qA_222 qA_328) rfl rfl rfl (by decide +kernel) ⟨Nat.le_of_ble_eq_true rfl, Nat.le_of_ble_eq_true rfl⟩) (oO_k g14).1 (cc_o3 (oO_k g14).2) rfl rfl hl.1 rfl (lv_room (Nat.le_of_ble_eq_true rfl)) dX3_parseMap_39 ⟨Nat.zero_le _, Nat.zero_le _⟩ (fun q18 T16 H locs hq G => ?_)
  obtain ⟨hq1, hq2⟩ := hq
  rw [hq2] at G
  refine lv_to hq1 ?_
  clear hq1 hq2 eT15
  obtain ⟨g19, h⟩ := oif_some h
  refine c_put E G l1 1 (v := .int r17) (oO_k g19).1 (cc_o1 (oO_k g19).2) rfl (fun w h => .tail _ (iA_15 h)) tyX1 tyX1_ok nmX1 (by decide) (.tail _ qA_334) ⟨rfl, rfl, rfl⟩ rfl rfl (Nat.le_of_ble_eq_true rfl) dX3_parseMap_42 (fun H locs G => ?_)
  have G := gC_up_i (f := upd (T15.2.2.1 l1) 1 r17) (by rw [(oO_k g19).2]; rfl) G
  obtain ⟨T20, eT20, h⟩ := elet_some h
  have G : gC cI cJ cZ cMic cSrc cSt cAI cAJ D ad A s.heap H locs T20 := by rw [eT20]; exact G
  clear eT20
  refine lv_aload_n hx hb dX3_parseMap_45 rfl (lv_at hl 1 rfl) ?_
  refine lv_aload_n hx hb dX3_parseMap_46 rfl (lv_at hl 0 rfl) ?_
  refine lv_iconst (v := 1) hx hb dX3_parseMap_47 (by decide) ?_
  refine lv_bipush (v := 99) hx hb dX3_parseMap_48 (by decide) ?_
  obtain ⟨g21, h⟩ := oif_some h
  rcases othr_t h with ⟨r0, eT22⟩ | ⟨r24, T22, eT22, h⟩
  · refine q_xvi (As := [.int 1, .int 99]) (rest := [.ref (ad l1)]) E G hA hX hN hml (x_X3_number l hst D cI cJ cZ cMic cSrc cSt cAI cAJ ad T20 l0 (1 : Int32) (99 : Int32) eT22) (cwV 2 hts (gaV qA_299 qA_300 qA_301 qA_222 qA_302) rfl rfl rfl (by decide +kernel) ⟨Nat.le_of_ble_eq_true rfl, Nat.le_of_ble_eq_true rfl⟩) (oO_k g21).1 (cc_o3 (oO_k g21).2) rfl rfl hl.1 rfl (lv_room (Nat.le_of_ble_eq_true rfl)) dX3_parseMap_50 ⟨Nat.le_of_ble_eq_true rfl, Nat.le_of_ble_eq_true rfl⟩ (fun E9 ce q9 T9 H locs hp G hce hcv hcl => ?_)
    obtain ⟨hE, hT⟩ := hp
    subst hE
    rw [hT] at G
    exact vx_out (fun x hx => (htab x hx).elim) hlocks hce hcv hcl (fun t ht hvm => kx _ _ _ G hvm (by rw [ht]; exact Nat.le_refl _) (fun q hq => by rw [ht])) G.2.2.2.2 (Nat.le_refl _) (Nat.le_refl _)
  refine q_cvi (As := [.int 1, .int 99]) (rest := [.ref (ad l1)]) E G hA hX hN hml (u_X3_number l hst D cI cJ cZ cMic cSrc cSt cAI cAJ ad T20 l0 (1 : Int32) (99 : Int32) eT22) (cwV 2 hts (gaV qA_299 qA_300 qA_301 qA_222 qA_302) rfl rfl rfl (by decide +kernel) ⟨Nat.le_of_ble_eq_true rfl, Nat.le_of_ble_eq_true rfl⟩) (oO_k g21).1 (cc_o3 (oO_k g21).2) rfl rfl hl.1 rfl (lv_room (Nat.le_of_ble_eq_true rfl)) dX3_parseMap_50 ⟨Nat.zero_le _, Nat.zero_le _⟩ (fun q25 T23 H locs hq G => ?_)
  obtain ⟨hq1, hq2⟩ := hq
  rw [hq2] at G
  refine lv_to hq1 ?_
  clear hq1 hq2 eT22
  obtain ⟨g26, h⟩ := oif_some h
  refine c_put E G l1 2 (v := .int r24) (oO_k g26).1 (cc_o1 (oO_k g26).2) rfl (fun w h => .tail _ (iA_15 h)) tyX1 tyX1_ok nmX1 (by decide) (.tail _ qA_335) ⟨rfl, rfl, rfl⟩ rfl rfl (Nat.le_of_ble_eq_true rfl) dX3_parseMap_53 (fun H locs G => ?_)
  have G := gC_up_i (f := upd (T22.2.2.1 l1) 2 r24) (by rw [(oO_k g26).2]; rfl) G
  obtain ⟨T27, eT27, h⟩ := elet_some h
  have G : gC cI cJ cZ cMic cSrc cSt cAI cAJ D ad A s.heap H locs T27 := by rw [eT27]; exact G
  clear eT27
  refine lv_aload_n hx hb dX3_parseMap_56 rfl (lv_at hl 0 rfl) ?_
  refine lv_iconst (v := 1) hx hb dX3_parseMap_57 (by decide) ?_
  refine lv_bipush (v := 12) hx hb dX3_parseMap_58 (by decide) ?_
  obtain ⟨g28, h⟩ := oif_some h
  rcases othr_t h with ⟨r0, eT29⟩ | ⟨r31, T29, eT29, h⟩
  · refine q_xvi (As := [.int 1, .int 12]) (rest := []) E G hA hX hN hml (x_X3_number l hst D cI cJ cZ cMic cSrc cSt cAI cAJ ad T27 l0 (1 : Int32) (12 : Int32) eT29) (cwV 2 hts (gaV qA_299 qA_300 qA_301 qA_222 qA_302) rfl rfl rfl (by decide +kernel) ⟨Nat.le_of_ble_eq_true rfl, Nat.le_of_ble_eq_true rfl⟩) (oO_k g28).1 (cc_o3 (oO_k g28).2) rfl rfl hl.1 rfl (lv_room (Nat.le_of_ble_eq_true rfl)) dX3_parseMap_60 ⟨Nat.le_of_ble_eq_true rfl, Nat.le_of_ble_eq_true rfl⟩ (fun E9 ce q9 T9 H locs hp G hce hcv hcl => ?_)
    obtain ⟨hE, hT⟩ := hp
    subst hE
    rw [hT] at G
    exact vx_out (fun x hx => (htab x hx).elim) hlocks hce hcv hcl (fun t ht hvm => kx _ _ _ G hvm (by rw [ht]; exact Nat.le_refl _) (fun q hq => by rw [ht])) G.2.2.2.2 (Nat.le_refl _) (Nat.le_refl _)
  refine q_cvi (As := [.int 1, .int 12]) (rest := []) E G hA hX hN hml (u_X3_number l hst D cI cJ cZ cMic cSrc cSt cAI cAJ ad T27 l0 (1 : Int32) (12 : Int32) eT29) (cwV 2 hts (gaV qA_299 qA_300 qA_301 qA_222 qA_302) rfl rfl rfl (by decide +kernel) ⟨Nat.le_of_ble_eq_true rfl, Nat.le_of_ble_eq_true rfl⟩) (oO_k g28).1 (cc_o3 (oO_k g28).2) rfl rfl hl.1 rfl (lv_room (Nat.le_of_ble_eq_true rfl)) dX3_parseMap_60 ⟨Nat.zero_le _, Nat.zero_le _⟩ (fun q32 T30 H locs hq G => ?_)
  obtain ⟨hq1, hq2⟩ := hq
  rw [hq2] at G
  refine lv_to hq1 ?_
  clear hq1 hq2 eT29
  refine lv_istore_n (lv' := [(2, .int r31), (0, .ref (ad l0)), (1, .ref (ad l1))]) hx hb dX3_parseMap_63 rfl hl (by decide) rfl (fun ls hl => ?_)
  refine lv_aload_n hx hb dX3_parseMap_64 rfl (lv_at hl 1 rfl) ?_
  refine lv_iconst (v := 1) hx hb dX3_parseMap_65 (by decide) ?_
  refine lv_bipush (v := 12) hx hb dX3_parseMap_66 (by decide) ?_
  obtain ⟨g33, h⟩ := oif_some h
  rcases othr_t h with ⟨r0, eT34⟩ | ⟨r36, T34, eT34, h⟩
  · refine q_xvi (As := [.int 1, .int 12]) (rest := []) E G hA hX hN hml (x_X3_number l hst D cI cJ cZ cMic cSrc cSt cAI cAJ ad T29 l0 (1 : Int32) (12 : Int32) eT34) (cwV 2 hts (gaV qA_299 qA_300 qA_301 qA_222 qA_302) rfl rfl rfl (by decide +kernel) ⟨Nat.le_of_ble_eq_true rfl, Nat.le_of_ble_eq_true rfl⟩) (oO_k g33).1 (cc_o3 (oO_k g33).2) rfl rfl hl.1 rfl (lv_room (Nat.le_of_ble_eq_true rfl)) dX3_parseMap_68 ⟨Nat.le_of_ble_eq_true rfl, Nat.le_of_ble_eq_true rfl⟩ (fun E9 ce q9 T9 H locs hp G hce hcv hcl => ?_)
    obtain ⟨hE, hT⟩ := hp
    subst hE
    rw [hT] at G
    exact vx_out (fun x hx => (htab x hx).elim) hlocks hce hcv hcl (fun t ht hvm => kx _ _ _ G hvm (by rw [ht]; exact Nat.le_refl _) (fun q hq => by rw [ht])) G.2.2.2.2 (Nat.le_refl _) (Nat.le_refl _)
  refine q_cvi (As := [.int 1, .int 12]) (rest := []) E G hA hX hN hml (u_X3_number l hst D cI cJ cZ cMic cSrc cSt cAI cAJ ad T29 l0 (1 : Int32) (12 : Int32) eT34) (cwV 2 hts (gaV qA_299 qA_300 qA_301 qA_222 qA_302) rfl rfl rfl (by decide +kernel) ⟨Nat.le_of_ble_eq_true rfl, Nat.le_of_ble_eq_true rfl⟩) (oO_k g33).1 (cc_o3 (oO_k g33).2) rfl rfl hl.1 rfl (lv_room (Nat.le_of_ble_eq_true rfl)) dX3_parseMap_68 ⟨Nat.zero_le _, Nat.zero_le _⟩ (fun q37 T35 H locs hq G => ?_)
  obtain ⟨hq1, hq2⟩ := hq
  rw [hq2] at G
  refine lv_to hq1 ?_
  clear hq1 hq2 eT34
  refine lv_istore_n (lv' := [(3, .int r36), (2, .int r31), (0, .ref (ad l0)), (1, .ref (ad l1))]) hx hb dX3_parseMap_71 rfl hl (by decide) rfl (fun ls hl => ?_)
  refine lv_aload_n hx hb dX3_parseMap_72 rfl (lv_at hl 3 rfl) ?_
  refine lv_iload_n hx hb dX3_parseMap_73 rfl (lv_at hl 1 rfl) ?_
  refine lv_iload_n hx hb dX3_parseMap_74 rfl (lv_at hl 0 rfl) ?_
  obtain ⟨g38, h⟩ := oif_some h
  obtain ⟨T39, eT39, h⟩ := obind_some h
  refine q_cvv (As := [.int r31, .int r36]) (rest := []) E G hA hX hN hml (u_X1_open l hst D cI cJ cZ cMic cSrc cSt cAI cAJ ad T34 l1 r31 r36 eT39) (cwV 2 hts (gaV qA_336 qA_337 qA_338 qA_37 qA_163) rfl rfl rfl (by decide +kernel) ⟨Nat.le_of_ble_eq_true rfl, Nat.le_of_ble_eq_true rfl⟩) (oO_k g38).1 (cc_o1 (oO_k g38).2) rfl rfl hl.1 rfl (lv_room (Nat.le_of_ble_eq_true rfl)) dX3_parseMap_75 ⟨Nat.zero_le _, Nat.zero_le _⟩ (fun T40 H locs hq G => ?_)
  rw [hq] at G
  clear hq eT39
  exact (Nat.succ_ne_zero _ (congrArg Prod.fst (Option.some.inj h)).symm).elim
set_option maxHeartbeats 4000000 in
set_option maxRecDepth 100000 in
theorem x_X3_parseMap (l : Launch) (hst : l.stackTraces = false) (D : va_G) (cI cJ cZ cMic cSrc cSt cAI cAJ : ClassId) (ad : Nat → Nat) (T : AT) (o : Nat) (a0 : Nat) {e1 : Nat} {r1 : Int32} {T1 : AT} (h : g_X3_parseMap T o a0 = some (e1 + 1, r1, T1)) : kXv l yX3_parseMap (Cond.code yX3_parseMap cX3_parseMap 4 none :: wsA) 9 148 cI cJ cZ cMic cSrc cSt cAI cAJ D ad T [.ref (ad o), .ref (ad a0)] e1 T1 := by
  intro sz
  refine vx_ofW (cc := cX3_parseMap) (maxL := 4) (ret := none) (by decide) rfl ?_
  intro p e s m args below meth c s₁ B hml htab hv
  obtain ⟨rfl, hsz, hP, hK, hD0, hX, hN⟩ := hv
  have hx := B.exec
  have hb := B.bytes
  have hr := B.returns
  have hts := atoms_spec (ws := (Cond.code yX3_parseMap cX3_parseMap 4 none :: wsA)) B.pre
  have hown : s.vm.findClass RX3 = some m.cls := findClass_of_methodNamed B.named
  have hlocks := B.notSynchronized
  subst hsz
  have hD := hD0.self (sz := s.heap.size)
  generalize hAe : va_A (cW ad T.1 (cc cI cJ cZ cMic cSrc cSt cAI cAJ ad T)) s.heap.size = A at hD hX ⊢
  have hA : ∀ q : Nat, s.heap.size ≤ q → A q := fun q h => by rw [← hAe]; exact Or.inr h
  have G : gC cI cJ cZ cMic cSrc cSt cAI cAJ D ad A s.heap s.heap [] T := ⟨hP, hD, va_S.rf⟩
  have E : cE p c cX3_parseMap s m ([.ref (ad o), .ref (ad a0)] : List Value).toArray (Cond.code yX3_parseMap cX3_parseMap 4 none :: wsA) D RX3 (CT cI cJ cZ cMic cSrc cSt cAI cAJ) := ⟨hx, hb, hts, hown, hK⟩
  have htab : ∀ x ∈ c.exceptionTable.toList, False := fun x hx => htab x hx
  have hl := lv_entry ([.ref (ad o), .ref (ad a0)]) (n := 4) (Nat.le_of_ble_eq_true rfl)
  rw [lg_entry_eq]
  generalize (lg_sl ([.ref (ad o), .ref (ad a0)]) ++ List.replicate (4 - (lg_sl ([.ref (ad o), .ref (ad a0)])).length) Slot.unset).toArray = ls at hl ⊢
  have hl : lv_has ls 4 [(0, .ref (ad o)), (1, .ref (ad a0))] := hl
  unfold g_X3_parseMap at h
  refine lv_aload_n hx hb dX3_parseMap_0 rfl (lv_at hl 0 rfl) ?_
  refine lv_aload_n hx hb dX3_parseMap_1 rfl (lv_at hl 1 rfl) ?_
  obtain ⟨g2, h⟩ := oif_some h
  refine c_get E G a0 3 (oO_k g2).1 (cc_o1 (oO_k g2).2) rfl (fun w h => .tail _ (iA_15 h)) (by decide) (.tail _ qA_180) rfl rfl dX3_parseMap_2 ?_
  refine lv_topi (fun v3 ev3 => ?_)
  have h := elet_at ev3 h
  clear ev3
  refine lv_if_le (tgt := 12) hx hb dX3_parseMap_5 (by decide) (fun c4 => ?_) (fun c4 => ?_)
  · have h := oif_pos c4 h
    refine lv_iconst (v := 0) hx hb dX3_parseMap_12 (by decide) ?_
    have hl := lv_sub hl [0, 1] rfl
    exact x_X3_parseMap_b13 E hA hX hN hml trivial hst htab hlocks (fun H locs t G hvm h1 h2 => ⟨T1, trivial, ⟨⟨rfl, rfl⟩, (c_thrown G hK hvm h1 h2).1⟩, (c_thrown G hK hvm h1 h2).2⟩) _ _ _ _ _ _ _ _ h G hl
  · have h := oif_neg c4 h
    refine lv_iconst (v := 1) hx hb dX3_parseMap_8 (by decide) ?_
    refine lv_goto (tgt := 13) hx hb dX3_parseMap_9 (by decide) ?_
    have hl := lv_sub hl [0, 1] rfl
    exact x_X3_parseMap_b13 E hA hX hN hml trivial hst htab hlocks (fun H locs t G hvm h1 h2 => ⟨T1, trivial, ⟨⟨rfl, rfl⟩, (c_thrown G hK hvm h1 h2).1⟩, (c_thrown G hK hvm h1 h2).2⟩) _ _ _ _ _ _ _ _ h G hl
def g_X3_parseMic_b15  (T : AT) (s0 : Int32) (s1 : Nat) (l0 : Nat) (l1 : Nat) : Option (Nat × Int32 × AT) := oif (oO T s1 3 = true) <| othr (g_X3_startLine T s1 s0 (4 : Int32)) 0 fun r5 T3 => oif (oO T3 l1 6 = true) <| obind (T3.2.2.2.2 l1 4) fun n8 => oif (oO T3 l1 6 = true) <| elet (T3.2.2.1 l1 5) fun v10 => oif (aA T3 n8 103 = true) <| oif (inb v10 (T3.2.1 n8).2 = true) <| obind (T3.2.2.2.2 n8 v10.toNatClampNeg) fun n13 => oif (oO T3 l0 3 = true) <| othr (g_X3_signed T3 l0 ((-500) : Int32) (500 : Int32)) 0 fun r17 T15 => oif (oO T15 n13 2 = true) <| elet (uI T15 n13 0 r17) fun T20 => oif (oO T20 l0 3 = true) <| othr (g_X3_signed T20 l0 ((-500) : Int32) (500 : Int32)) 0 fun r24 T22 => oif (oO T22 n13 2 = true) <| elet (uI T22 n13 1 r24) fun T27 => oif (oO T27 l0 3 = true) <| othr (g_X3_number T27 l0 (1 : Int32) (9 : Int32)) 0 fun r31 T29 => oif (oO T29 n13 2 = true) <| elet (uI T29 n13 2 r31) fun T34 => oif (oO T34 n13 2 = true) <| elet (uI T34 n13 3 0) fun T36 => oif (oO T36 l1 6 = true) <| elet (T36.2.2.1 l1 5) fun v38 => elet (v38 + 1) fun v39 => oif (oO T36 l1 6 = true) <| elet (uI T36 l1 5 v39) fun T41 => some (0, 0, T41)
set_option maxHeartbeats 4000000 in
set_option maxRecDepth 100000 in
theorem u_X3_parseMic_b15 {p : Program} {l : Launch} {e : Env} {s : State} {m : MethodId} {args : Array Value} {below : List Frame} {meth : Method} {c : Code} {Q : State → Prop} {D : va_G} {A : Nat → Prop} {cI cJ cZ cMic cSrc cSt cAI cAJ : ClassId} {ad : Nat → Nat} {r1 : Int32} {T1 : AT} (E : cE p c cX3_parseMic s m args (Cond.code yX3_parseMic cX3_parseMic 3 none :: wsA) D RX3 (CT cI cJ cZ cMic cSrc cSt cAI cAJ)) (hA : ∀ q : Nat, s.heap.size ≤ q → A q) (hX : xT A s) (hN : nX s) (hml : c.maxLocals = 3) (hst : l.stackTraces = false) (kr83 : ∀ (H : Heap) (locs : List Loc) (ls : Array Slot), gC cI cJ cZ cMic cSrc cSt cAI cAJ D ad A s.heap H locs T1 → W p l e { frames := 9, cells := 0, slots := 0, locals := 148 } s m args below meth c H locs 0 0 Q (F0 m 83 ls [])) : ∀ (T : AT) (H : Heap) (locs : List Loc) (ls : Array Slot) (s0 : Int32) (s1 : Nat) (l0 : Nat) (l1 : Nat), g_X3_parseMic_b15 T s0 s1 l0 l1 = some (0, r1, T1) → gC cI cJ cZ cMic cSrc cSt cAI cAJ D ad A s.heap H locs T → lv_has ls 3 [(0, .ref (ad l0)), (1, .ref (ad l1))] → W p l e { frames := 9, cells := 0, slots := 0, locals := 148 } s m args below meth c H locs 0 0 Q (F0 m 15 ls [.int s0, .ref (ad s1)]) := by
  have hx := E.1
  have hb := E.2.1
  have hts := E.2.2.1
  have hown := E.2.2.2.1
  have hK := E.2.2.2.2
  intro T H locs ls s0 s1 l0 l1 h G hl
  unfold g_X3_parseMic_b15 at h
  refine lv_iconst (v := 4) hx hb dX3_parseMic_15 (by decide) ?_
  obtain ⟨g2, h⟩ := oif_some h
  obtain ⟨r5, T3, eT3, h⟩ := othr_n h
  refine q_cvv (As := [.int s0, .int 4]) (rest := []) E G hA hX hN hml (u_X3_startLine l hst D cI cJ cZ cMic cSrc cSt cAI cAJ ad T s1 s0 (4 : Int32) eT3) (cwV 2 hts (gaV qA_321 qA_322 qA_323 qA_222 qA_324) rfl rfl rfl (by decide +kernel) ⟨Nat.le_of_ble_eq_true rfl, Nat.le_of_ble_eq_true rfl⟩) (oO_k g2).1 (cc_o3 (oO_k g2).2) rfl rfl hl.1 rfl (lv_room (Nat.le_of_ble_eq_true rfl)) dX3_parseMic_16 ⟨Nat.zero_le _, Nat.zero_le _⟩ (fun T4 H locs hq G => ?_)
  rw [hq] at G
  clear hq eT3
  refine lv_aload_n hx hb dX3_parseMic_19 rfl (lv_at hl 1 rfl) ?_
  obtain ⟨g7, h⟩ := oif_some h
  obtain ⟨n8, en8, h⟩ := obind_some h
  refine c_get E G l1 4 (v := .ref (ad n8)) (oO_k g7).1 (cc_o6 (oO_k g7).2) rfl (fun w h => .tail _ (iA_14 h)) (by decide) (.tail _ qA_316) rfl (by rw [en8]; rfl) dX3_parseMic_20 ?_
  clear en8
  refine lv_aload_n hx hb dX3_parseMic_23 rfl (lv_at hl 1 rfl) ?_
  obtain ⟨g9, h⟩ := oif_some h
  refine c_get E G l1 5 (oO_k g9).1 (cc_o6 (oO_k g9).2) rfl (fun w h => .tail _ (iA_14 h)) (by decide) (.tail _ qA_178) rfl rfl dX3_parseMic_24 ?_
  refine lv_topi (fun v10 ev10 => ?_)
  have h := elet_at ev10 h
  clear ev10
  obtain ⟨g11, h⟩ := oif_some h
  obtain ⟨g12, h⟩ := oif_some h
  obtain ⟨n13, en13, h⟩ := obind_some h
  refine c_aldq E G n8 3 (k := v10.toNatClampNeg) (v := .ref (ad n13)) (aA_k g11).1 (cc_a103 (aA_k g11).2.1) rfl (inb_k g12).1 (inb_k g12).2 (aA_k g11).2.2 (by show va_rf ((T3.2.2.2.2 n8 v10.toNatClampNeg).map ad) = _; rw [en13]; rfl) dX3_parseMic_27 ?_
  clear en13
  refine lv_astore_n (lv' := [(2, .ref (ad n13)), (0, .ref (ad l0)), (1, .ref (ad l1))]) hx hb dX3_parseMic_28 rfl hl (by decide) rfl (fun ls hl => ?_)
  refine lv_aload_n hx hb dX3_parseMic_29 rfl (lv_at hl 0 rfl) ?_
  refine lv_aload_n hx hb dX3_parseMic_30 rfl (lv_at hl 1 rfl) ?_
  refine lv_sipush (v := (-500)) hx hb dX3_parseMic_31 (by decide) ?_
  refine lv_sipush (v := 500) hx hb dX3_parseMic_34 (by decide) ?_
  obtain ⟨g14, h⟩ := oif_some h
  obtain ⟨r17, T15, eT15, h⟩ := othr_n h
  refine q_cvi (As := [.int (-500), .int 500]) (rest := [.ref (ad n13)]) E G hA hX hN hml (u_X3_signed l hst D cI cJ cZ cMic cSrc cSt cAI cAJ ad T3 l0 ((-500) : Int32) (500 : Int32) eT15) (cwV 2 hts (gaV qA_325 qA_326 qA_327 qA_222 qA_328) rfl rfl rfl (by decide +kernel) ⟨Nat.le_of_ble_eq_true rfl, Nat.le_of_ble_eq_true rfl⟩) (oO_k g14).1 (cc_o3 (oO_k g14).2) rfl rfl hl.1 rfl (lv_room (Nat.le_of_ble_eq_true rfl)) dX3_parseMic_37 ⟨Nat.zero_le _, Nat.zero_le _⟩ (fun q18 T16 H locs hq G => ?_)
  obtain ⟨hq1, hq2⟩ := hq
  rw [hq2] at G
  refine lv_to hq1 ?_
  clear hq1 hq2 eT15
  obtain ⟨g19, h⟩ := oif_some h
  refine c_put E G n13 0 (v := .int r17) (oO_k g19).1 (cc_o2 (oO_k g19).2) rfl (fun w h => .tail _ (iA_19 h)) tyX2 tyX2_ok nmX2 (by decide) (.tail _ qA_317) ⟨rfl, rfl, rfl⟩ rfl rfl (Nat.le_of_ble_eq_true rfl) dX3_parseMic_40 (fun H locs G => ?_)
  have G := gC_up_i (f := upd (T15.2.2.1 n13) 0 r17) (by rw [(oO_k g19).2]; rfl) G
  obtain ⟨T20, eT20, h⟩ := elet_some h
  have G : gC cI cJ cZ cMic cSrc cSt cAI cAJ D ad A s.heap H locs T20 := by rw [eT20]; exact G
  clear eT20
  refine lv_aload_n hx hb dX3_parseMic_43 rfl (lv_at hl 0 rfl) ?_
  refine lv_aload_n hx hb dX3_parseMic_44 rfl (lv_at hl 1 rfl) ?_
  refine lv_sipush (v := (-500)) hx hb dX3_parseMic_45 (by decide) ?_
  refine lv_sipush (v := 500) hx hb dX3_parseMic_48 (by decide) ?_
  obtain ⟨g21, h⟩ := oif_some h
  obtain ⟨r24, T22, eT22, h⟩ := othr_n h
  refine q_cvi (As := [.int (-500), .int 500]) (rest := [.ref (ad n13)]) E G hA hX hN hml (u_X3_signed l hst D cI cJ cZ cMic cSrc cSt cAI cAJ ad T20 l0 ((-500) : Int32) (500 : Int32) eT22) (cwV 2 hts (gaV qA_325 qA_326 qA_327 qA_222 qA_328) rfl rfl rfl (by decide +kernel) ⟨Nat.le_of_ble_eq_true rfl, Nat.le_of_ble_eq_true rfl⟩) (oO_k g21).1 (cc_o3 (oO_k g21).2) rfl rfl hl.1 rfl (lv_room (Nat.le_of_ble_eq_true rfl)) dX3_parseMic_51 ⟨Nat.zero_le _, Nat.zero_le _⟩ (fun q25 T23 H locs hq G => ?_)
  obtain ⟨hq1, hq2⟩ := hq
  rw [hq2] at G
  refine lv_to hq1 ?_
  clear hq1 hq2 eT22
  obtain ⟨g26, h⟩ := oif_some h
  refine c_put E G n13 1 (v := .int r24) (oO_k g26).1 (cc_o2 (oO_k g26).2) rfl (fun w h => .tail _ (iA_19 h)) tyX2 tyX2_ok nmX2 (by decide) (.tail _ qA_318) ⟨rfl, rfl, rfl⟩ rfl rfl (Nat.le_of_ble_eq_true rfl) dX3_parseMic_54 (fun H locs G => ?_)
  have G := gC_up_i (f := upd (T22.2.2.1 n13) 1 r24) (by rw [(oO_k g26).2]; rfl) G
  obtain ⟨T27, eT27, h⟩ := elet_some h
  have G : gC cI cJ cZ cMic cSrc cSt cAI cAJ D ad A s.heap H locs T27 := by rw [eT27]; exact G
  clear eT27
  refine lv_aload_n hx hb dX3_parseMic_57 rfl (lv_at hl 0 rfl) ?_
  refine lv_aload_n hx hb dX3_parseMic_58 rfl (lv_at hl 1 rfl) ?_
  refine lv_iconst (v := 1) hx hb dX3_parseMic_59 (by decide) ?_
  refine lv_bipush (v := 9) hx hb dX3_parseMic_60 (by decide) ?_
  obtain ⟨g28, h⟩ := oif_some h
  obtain ⟨r31, T29, eT29, h⟩ := othr_n h
  refine q_cvi (As := [.int 1, .int 9]) (rest := [.ref (ad n13)]) E G hA hX hN hml (u_X3_number l hst D cI cJ cZ cMic cSrc cSt cAI cAJ ad T27 l0 (1 : Int32) (9 : Int32) eT29) (cwV 2 hts (gaV qA_299 qA_300 qA_301 qA_222 qA_302) rfl rfl rfl (by decide +kernel) ⟨Nat.le_of_ble_eq_true rfl, Nat.le_of_ble_eq_true rfl⟩) (oO_k g28).1 (cc_o3 (oO_k g28).2) rfl rfl hl.1 rfl (lv_room (Nat.le_of_ble_eq_true rfl)) dX3_parseMic_62 ⟨Nat.zero_le _, Nat.zero_le _⟩ (fun q32 T30 H locs hq G => ?_)
  obtain ⟨hq1, hq2⟩ := hq
  rw [hq2] at G
  refine lv_to hq1 ?_
  clear hq1 hq2 eT29
  obtain ⟨g33, h⟩ := oif_some h
  refine c_put E G n13 2 (v := .int r31) (oO_k g33).1 (cc_o2 (oO_k g33).2) rfl (fun w h => .tail _ (iA_19 h)) tyX2 tyX2_ok nmX2 (by decide) (.tail _ qA_319) ⟨rfl, rfl, rfl⟩ rfl rfl (Nat.le_of_ble_eq_true rfl) dX3_parseMic_65 (fun H locs G => ?_)
  have G := gC_up_i (f := upd (T29.2.2.1 n13) 2 r31) (by rw [(oO_k g33).2]; rfl) G
  obtain ⟨T34, eT34, h⟩ := elet_some h
  have G : gC cI cJ cZ cMic cSrc cSt cAI cAJ D ad A s.heap H locs T34 := by rw [eT34]; exact G
  clear eT34
  refine lv_aload_n hx hb dX3_parseMic_68 rfl (lv_at hl 0 rfl) ?_
  refine lv_iconst (v := 0) hx hb dX3_parseMic_69 (by decide) ?_
  obtain ⟨g35, h⟩ := oif_some h
  refine c_put E G n13 3 (v := .int 0) (oO_k g35).1 (cc_o2 (oO_k g35).2) rfl (fun w h => .tail _ (iA_19 h)) tyX2 tyX2_ok nmX2 (by decide) (.tail _ qA_320) ⟨rfl, rfl, rfl⟩ rfl rfl (Nat.le_of_ble_eq_true rfl) dX3_parseMic_70 (fun H locs G => ?_)
  have G := gC_up_i (f := upd (T34.2.2.1 n13) 3 0) (by rw [(oO_k g35).2]; rfl) G
  obtain ⟨T36, eT36, h⟩ := elet_some h
  have G : gC cI cJ cZ cMic cSrc cSt cAI cAJ D ad A s.heap H locs T36 := by rw [eT36]; exact G
  clear eT36
  refine lv_aload_n hx hb dX3_parseMic_73 rfl (lv_at hl 2 rfl) ?_
  refine lv_dup hx hb dX3_parseMic_74 rfl ?_
  obtain ⟨g37, h⟩ := oif_some h
  refine c_get E G l1 5 (oO_k g37).1 (cc_o6 (oO_k g37).2) rfl (fun w h => .tail _ (iA_14 h)) (by decide) (.tail _ qA_178) rfl rfl dX3_parseMic_75 ?_
  refine lv_topi (fun v38 ev38 => ?_)
  have h := elet_at ev38 h
  clear ev38
  refine lv_iconst (v := 1) hx hb dX3_parseMic_78 (by decide) ?_
  refine lv_iadd hx hb dX3_parseMic_79 ?_
  refine lv_topi (fun v39 ev39 => ?_)
  have h := elet_at ev39 h
  clear ev39
  obtain ⟨g40, h⟩ := oif_some h
  refine c_put E G l1 5 (v := .int v39) (oO_k g40).1 (cc_o6 (oO_k g40).2) rfl (fun w h => .tail _ (iA_14 h)) tyX6 tyX6_ok nmX6 (by decide) (.tail _ qA_178) ⟨rfl, rfl, rfl⟩ rfl rfl (Nat.le_of_ble_eq_true rfl) dX3_parseMic_80 (fun H locs G => ?_)
  have G := gC_up_i (f := upd (T36.2.2.1 l1) 5 v39) (by rw [(oO_k g40).2]; rfl) G
  obtain ⟨T41, eT41, h⟩ := elet_some h
  have G : gC cI cJ cZ cMic cSrc cSt cAI cAJ D ad A s.heap H locs T41 := by rw [eT41]; exact G
  clear eT41
  rw [(osome3 h).2.2] at G
  exact kr83 _ _ _ G
def g_X3_parseMic (T : AT) (o : Nat) (a0 : Nat) : Option (Nat × Int32 × AT) := oif (oO T a0 6 = true) <| elet (T.2.2.1 a0 5) fun v3 => if v3 < 12 then (g_X3_parseMic_b15 T 0 o o a0) else (g_X3_parseMic_b15 T 1 o o a0)
set_option maxHeartbeats 4000000 in
set_option maxRecDepth 100000 in
theorem u_X3_parseMic (l : Launch) (hst : l.stackTraces = false) (D : va_G) (cI cJ cZ cMic cSrc cSt cAI cAJ : ClassId) (ad : Nat → Nat) (T : AT) (o : Nat) (a0 : Nat) {r1 : Int32} {T1 : AT} (h : g_X3_parseMic T o a0 = some (0, r1, T1)) : kCv l yX3_parseMic (Cond.code yX3_parseMic cX3_parseMic 3 none :: wsA) 9 148 cI cJ cZ cMic cSrc cSt cAI cAJ D ad T [.ref (ad o), .ref (ad a0)] (fun T9 => T9 = T1) := by
  intro sz
  refine Met.ofW (cc := cX3_parseMic) (maxL := 3) (ret := none) (by decide) rfl ?_
  intro p e s m args below meth c s₁ B hml hv
  obtain ⟨rfl, hsz, hP, hK, hD0, hX, hN⟩ := hv
  have hx := B.exec
  have hb := B.bytes
  have hr := B.returns
  have hts := atoms_spec (ws := (Cond.code yX3_parseMic cX3_parseMic 3 none :: wsA)) B.pre
  have hown : s.vm.findClass RX3 = some m.cls := findClass_of_methodNamed B.named
  have hlocks := B.notSynchronized
  subst hsz
  have hD := hD0.self (sz := s.heap.size)
  generalize hAe : va_A (cW ad T.1 (cc cI cJ cZ cMic cSrc cSt cAI cAJ ad T)) s.heap.size = A at hD hX ⊢
  have hA : ∀ q : Nat, s.heap.size ≤ q → A q := fun q h => by rw [← hAe]; exact Or.inr h
  have G : gC cI cJ cZ cMic cSrc cSt cAI cAJ D ad A s.heap s.heap [] T := ⟨hP, hD, va_S.rf⟩
  have E : cE p c cX3_parseMic s m ([.ref (ad o), .ref (ad a0)] : List Value).toArray (Cond.code yX3_parseMic cX3_parseMic 3 none :: wsA) D RX3 (CT cI cJ cZ cMic cSrc cSt cAI cAJ) := ⟨hx, hb, hts, hown, hK⟩
  have hl := lv_entry ([.ref (ad o), .ref (ad a0)]) (n := 3) (Nat.le_of_ble_eq_true rfl)
  rw [lg_entry_eq]
  generalize (lg_sl ([.ref (ad o), .ref (ad a0)]) ++ List.replicate (3 - (lg_sl ([.ref (ad o), .ref (ad a0)])).length) Slot.unset).toArray = ls at hl ⊢
  have hl : lv_has ls 3 [(0, .ref (ad o)), (1, .ref (ad a0))] := hl
  unfold g_X3_parseMic at h
  refine lv_aload_n hx hb dX3_parseMic_0 rfl (lv_at hl 0 rfl) ?_
  refine lv_aload_n hx hb dX3_parseMic_1 rfl (lv_at hl 1 rfl) ?_
  obtain ⟨g2, h⟩ := oif_some h
  refine c_get E G a0 5 (oO_k g2).1 (cc_o6 (oO_k g2).2) rfl (fun w h => .tail _ (iA_14 h)) (by decide) (.tail _ qA_178) rfl rfl dX3_parseMic_2 ?_
  refine lv_topi (fun v3 ev3 => ?_)
  have h := elet_at ev3 h
  clear ev3
  refine lv_bipush (v := 12) hx hb dX3_parseMic_5 (by decide) ?_
  refine lv_icmp_lt (tgt := 14) hx hb dX3_parseMic_7 (by decide) (fun c4 => ?_) (fun c4 => ?_)
  · have h := oif_pos c4 h
    refine lv_iconst (v := 0) hx hb dX3_parseMic_14 (by decide) ?_
    have hl := lv_sub hl [0, 1] rfl
    exact u_X3_parseMic_b15 E hA hX hN hml hst (fun H locs ls G => W.vret hx hb hr (fun t ht hW => ⟨⟨T1, rfl, rfl, ⟨by rw [ht]; exact G.1, va_K.moved hW.alike hK, G.2.1⟩⟩, G.2.2.F ht⟩) G.2.2.2.2 dX3_parseMic_83) _ _ _ _ _ _ _ _ h G hl
  · have h := oif_neg c4 h
    refine lv_iconst (v := 1) hx hb dX3_parseMic_10 (by decide) ?_
    refine lv_goto (tgt := 15) hx hb dX3_parseMic_11 (by decide) ?_
    have hl := lv_sub hl [0, 1] rfl
    exact u_X3_parseMic_b15 E hA hX hN hml hst (fun H locs ls G => W.vret hx hb hr (fun t ht hW => ⟨⟨T1, rfl, rfl, ⟨by rw [ht]; exact G.1, va_K.moved hW.alike hK, G.2.1⟩⟩, G.2.2.F ht⟩) G.2.2.2.2 dX3_parseMic_83) _ _ _ _ _ _ _ _ h G hl
set_option maxHeartbeats 4000000 in
set_option maxRecDepth 100000 in
theorem s_X3_parseMic_b15 {e1 : Nat} {r1 : Int32} {T1 : AT} : ∀ (T : AT) (s0 : Int32) (s1 : Nat) (l0 : Nat) (l1 : Nat), g_X3_parseMic_b15 T s0 s1 l0 l1 = some (e1, r1, T1) → SP T T1 := by
  intro T s0 s1 l0 l1 h
  have p0 := SP.rf T
  unfold g_X3_parseMic_b15 at h
  obtain ⟨g2, h⟩ := oif_some h
  rcases othr_s h with ⟨k9, r9, e9, -⟩ | ⟨r4, T3, eT3, h⟩
  · exact SP.tr p0 (s_X3_startLine e9)
  have p1 : SP T T3 := SP.tr p0 (s_X3_startLine eT3)
  obtain ⟨g5, h⟩ := oif_some h
  obtain ⟨n6, en6, h⟩ := obind_some h
  obtain ⟨g7, h⟩ := oif_some h
  obtain ⟨v8, -, h⟩ := elet_some h
  obtain ⟨g9, h⟩ := oif_some h
  obtain ⟨g10, h⟩ := oif_some h
  obtain ⟨n11, en11, h⟩ := obind_some h
  obtain ⟨g12, h⟩ := oif_some h
  rcases othr_s h with ⟨k9, r9, e9, -⟩ | ⟨r14, T13, eT13, h⟩
  · exact SP.tr p1 (s_X3_signed e9)
  have p2 : SP T T13 := SP.tr p1 (s_X3_signed eT13)
  obtain ⟨g15, h⟩ := oif_some h
  obtain ⟨T16, eT16, h⟩ := elet_some h
  have p3 : SP T T16 := SP.tr p2 (by rw [eT16]; exact sp_uI)
  obtain ⟨g17, h⟩ := oif_some h
  rcases othr_s h with ⟨k9, r9, e9, -⟩ | ⟨r19, T18, eT18, h⟩
  · exact SP.tr p3 (s_X3_signed e9)
  have p4 : SP T T18 := SP.tr p3 (s_X3_signed eT18)
  obtain ⟨g20, h⟩ := oif_some h
  obtain ⟨T21, eT21, h⟩ := elet_some h
  have p5 : SP T T21 := SP.tr p4 (by rw [eT21]; exact sp_uI)
  obtain ⟨g22, h⟩ := oif_some h
  rcases othr_s h with ⟨k9, r9, e9, -⟩ | ⟨r24, T23, eT23, h⟩
  · exact SP.tr p5 (s_X3_number e9)
  have p6 : SP T T23 := SP.tr p5 (s_X3_number eT23)
  obtain ⟨g25, h⟩ := oif_some h
  obtain ⟨T26, eT26, h⟩ := elet_some h
  have p7 : SP T T26 := SP.tr p6 (by rw [eT26]; exact sp_uI)
  obtain ⟨g27, h⟩ := oif_some h
  obtain ⟨T28, eT28, h⟩ := elet_some h
  have p8 : SP T T28 := SP.tr p7 (by rw [eT28]; exact sp_uI)
  obtain ⟨g29, h⟩ := oif_some h
  obtain ⟨v30, -, h⟩ := elet_some h
  obtain ⟨v31, -, h⟩ := elet_some h
  obtain ⟨g32, h⟩ := oif_some h
  obtain ⟨T33, eT33, h⟩ := elet_some h
  have p9 : SP T T33 := SP.tr p8 (by rw [eT33]; exact sp_uI)
  rw [← (osome3 h).2.2]
  exact p9
set_option maxHeartbeats 4000000 in
set_option maxRecDepth 100000 in
theorem s_X3_parseMic {T : AT} {o : Nat} {a0 : Nat} {e1 : Nat} {r1 : Int32} {T1 : AT} (h : g_X3_parseMic T o a0 = some (e1, r1, T1)) : SP T T1 := by
  have p0 := SP.rf T
  unfold g_X3_parseMic at h
  obtain ⟨g2, h⟩ := oif_some h
  obtain ⟨v3, -, h⟩ := elet_some h
  rcases oif_or h with ⟨c4, h⟩ | ⟨c4, h⟩
  · have h := h
    exact SP.tr p0 (s_X3_parseMic_b15 _ _ _ _ _ h)
  · have h := h
    exact SP.tr p0 (s_X3_parseMic_b15 _ _ _ _ _ h)
set_option maxHeartbeats 4000000 in
set_option maxRecDepth 100000 in
theorem x_X3_parseMic_b15 {p : Program} {l : Launch} {e : Env} {s : State} {m : MethodId} {args : Array Value} {below : List Frame} {meth : Method} {c : Code} {Qc : Array Value → State → Outcome → State → Prop} {XC : String → State → State → Prop} {D : va_G} {A : Nat → Prop} {cI cJ cZ cMic cSrc cSt cAI cAJ : ClassId} {ad : Nat → Nat} {e1 : Nat} {r1 : Int32} {T1 : AT} (E : cE p c cX3_parseMic s m args (Cond.code yX3_parseMic cX3_parseMic 3 none :: wsA) D RX3 (CT cI cJ cZ cMic cSrc cSt cAI cAJ)) (hA : ∀ q : Nat, s.heap.size ≤ q → A q) (hX : xT A s) (hN : nX s) (hml : c.maxLocals = 3) (hz9 : True) (hst : l.stackTraces = false) (htab : ∀ x ∈ c.exceptionTable.toList, False) (hlocks : meth.locks = false) (kx : ∀ (H : Heap) (locs : List Loc) (t : State), gC cI cJ cZ cMic cSrc cSt cAI cAJ D ad A s.heap H locs T1 → s.vm.Alike t.vm → H.size ≤ t.heap.size → (∀ q, q < H.size → t.heap[q]? = H[q]?) → XC (exn e1) s t) : ∀ (T : AT) (H : Heap) (locs : List Loc) (ls : Array Slot) (s0 : Int32) (s1 : Nat) (l0 : Nat) (l1 : Nat), g_X3_parseMic_b15 T s0 s1 l0 l1 = some (e1 + 1, r1, T1) → gC cI cJ cZ cMic cSrc cSt cAI cAJ D ad A s.heap H locs T → lv_has ls 3 [(0, .ref (ad l0)), (1, .ref (ad l1))] → W p l e { frames := 9, cells := 1, slots := 6, locals := 148 } s m args below meth c H locs 0 0 (vx_MQ below Qc XC args s 1 6 A) (F0 m 15 ls [.int s0, .ref (ad s1)]) := by
  have hx := E.1
  have hb := E.2.1
  have hts := E.2.2.1
  have hown := E.2.2.2.1
  have hK := E.2.2.2.2
  intro T H locs ls s0 s1 l0 l1 h G hl
  unfold g_X3_parseMic_b15 at h
  refine lv_iconst (v := 4) hx hb dX3_parseMic_15 (by decide) ?_
  obtain ⟨g2, h⟩ := oif_some h
  rcases othr_t h with ⟨r0, eT3⟩ | ⟨r5, T3, eT3, h⟩
  · refine q_xvv (As := [.int s0, .int 4]) (rest := []) E G hA hX hN hml (x_X3_startLine l hst D cI cJ cZ cMic cSrc cSt cAI cAJ ad T s1 s0 (4 : Int32) eT3) (cwV 2 hts (gaV qA_321 qA_322 qA_323 qA_222 qA_324) rfl rfl rfl (by decide +kernel) ⟨Nat.le_of_ble_eq_true rfl, Nat.le_of_ble_eq_true rfl⟩) (oO_k g2).1 (cc_o3 (oO_k g2).2) rfl rfl hl.1 rfl (lv_room (Nat.le_of_ble_eq_true rfl)) dX3_parseMic_16 ⟨Nat.le_of_ble_eq_true rfl, Nat.le_of_ble_eq_true rfl⟩ (fun E9 ce q9 T9 H locs hp G hce hcv hcl => ?_)
    obtain ⟨hE, hT⟩ := hp
    subst hE
    rw [hT] at G
    exact vx_out (fun x hx => (htab x hx).elim) hlocks hce hcv hcl (fun t ht hvm => kx _ _ _ G hvm (by rw [ht]; exact Nat.le_refl _) (fun q hq => by rw [ht])) G.2.2.2.2 (Nat.le_refl _) (Nat.le_refl _)
  refine q_cvv (As := [.int s0, .int 4]) (rest := []) E G hA hX hN hml (u_X3_startLine l hst D cI cJ cZ cMic cSrc cSt cAI cAJ ad T s1 s0 (4 : Int32) eT3) (cwV 2 hts (gaV qA_321 qA_322 qA_323 qA_222 qA_324) rfl rfl rfl (by decide +kernel) ⟨Nat.le_of_ble_eq_true rfl, Nat.le_of_ble_eq_true rfl⟩) (oO_k g2).1 (cc_o3 (oO_k g2).2) rfl rfl hl.1 rfl (lv_room (Nat.le_of_ble_eq_true rfl)) dX3_parseMic_16 ⟨Nat.zero_le _, Nat.zero_le _⟩ (fun T4 H locs hq G => ?_)
  rw [hq] at G
  clear hq eT3
  refine lv_aload_n hx hb dX3_parseMic_19 rfl (lv_at hl 1 rfl) ?_
  obtain ⟨g7, h⟩ := oif_some h
  obtain ⟨n8, en8, h⟩ := obind_some h
  refine c_get E G l1 4 (v := .ref (ad n8)) (oO_k g7).1 (cc_o6 (oO_k g7).2) rfl (fun w h => .tail _ (iA_14 h)) (by decide) (.tail _ qA_316) rfl (by rw [en8]; rfl) dX3_parseMic_20 ?_
  clear en8
  refine lv_aload_n hx hb dX3_parseMic_23 rfl (lv_at hl 1 rfl) ?_
  obtain ⟨g9, h⟩ := oif_some h
  refine c_get E G l1 5 (oO_k g9).1 (cc_o6 (oO_k g9).2) rfl (fun w h => .tail _ (iA_14 h)) (by decide) (.tail _ qA_178) rfl rfl dX3_parseMic_24 ?_
  refine lv_topi (fun v10 ev10 => ?_)
  have h := elet_at ev10 h
  clear ev10
  obtain ⟨g11, h⟩ := oif_some h
  obtain ⟨g12, h⟩ := oif_some h
  obtain ⟨n13, en13, h⟩ := obind_some h
  refine c_aldq E G n8 3 (k := v10.toNatClampNeg) (v := .ref (ad n13)) (aA_k g11).1 (cc_a103 (aA_k g11).2.1) rfl (inb_k g12).1 (inb_k g12).2 (aA_k g11).2.2 (by show va_rf ((T3.2.2.2.2 n8 v10.toNatClampNeg).map ad) = _; rw [en13]; rfl) dX3_parseMic_27 ?_
  clear en13
  refine lv_astore_n (lv' := [(2, .ref (ad n13)), (0, .ref (ad l0)), (1, .ref (ad l1))]) hx hb dX3_parseMic_28 rfl hl (by decide) rfl (fun ls hl => ?_)
  refine lv_aload_n hx hb dX3_parseMic_29 rfl (lv_at hl 0 rfl) ?_
  refine lv_aload_n hx hb dX3_parseMic_30 rfl (lv_at hl 1 rfl) ?_
  refine lv_sipush (v := (-500)) hx hb dX3_parseMic_31 (by decide) ?_
  refine lv_sipush (v := 500) hx hb dX3_parseMic_34 (by decide) ?_
  obtain ⟨g14, h⟩ := oif_some h
  rcases othr_t h with ⟨r0, eT15⟩ | ⟨r17, T15, eT15, h⟩
  · refine q_xvi (As := [.int (-500), .int 500]) (rest := [.ref (ad n13)]) E G hA hX hN hml (x_X3_signed l hst D cI cJ cZ cMic cSrc cSt cAI cAJ ad T3 l0 ((-500) : Int32) (500 : Int32) eT15) (cwV 2 hts (gaV qA_325 qA_326 qA_327 qA_222 qA_328) rfl rfl rfl (by decide +kernel) ⟨Nat.le_of_ble_eq_true rfl, Nat.le_of_ble_eq_true rfl⟩) (oO_k g14).1 (cc_o3 (oO_k g14).2) rfl rfl hl.1 rfl (lv_room (Nat.le_of_ble_eq_true rfl)) dX3_parseMic_37 ⟨Nat.le_of_ble_eq_true rfl, Nat.le_of_ble_eq_true rfl⟩ (fun E9 ce q9 T9 H locs hp G hce hcv hcl => ?_)
    obtain ⟨hE, hT⟩ := hp
    subst hE
    rw [hT] at G
    exact vx_out (fun x hx => (htab x hx).elim) hlocks hce hcv hcl (fun t ht hvm => kx _ _ _ G hvm (by rw [ht]; exact Nat.le_refl _) (fun q hq => by rw [ht])) G.2.2.2.2 (Nat.le_refl _) (Nat.le_refl _)
  refine q_cvi (As := [.int (-500), .int 500]) (rest := [.ref (ad n13)]) E G hA hX hN hml (u_X3_signed l hst D cI cJ cZ cMic cSrc cSt cAI cAJ ad T3 l0 ((-500) : Int32) (500 : Int32) eT15) (cwV 2 hts (gaV qA_325 qA_326 qA_327 qA_222 qA_328) rfl rfl rfl (by decide +kernel) ⟨Nat.le_of_ble_eq_true rfl, Nat.le_of_ble_eq_true rfl⟩) (oO_k g14).1 (cc_o3 (oO_k g14).2) rfl rfl hl.1 rfl (lv_room (Nat.le_of_ble_eq_true rfl)) dX3_parseMic_37 ⟨Nat.zero_le _, Nat.zero_le _⟩ (fun q18 T16 H locs hq G => ?_)
  obtain ⟨hq1, hq2⟩ := hq
  rw [hq2] at G
  refine lv_to hq1 ?_
  clear hq1 hq2 eT15
  obtain ⟨g19, h⟩ := oif_some h
  refine c_put E G n13 0 (v := .int r17) (oO_k g19).1 (cc_o2 (oO_k g19).2) rfl (fun w h => .tail _ (iA_19 h)) tyX2 tyX2_ok nmX2 (by decide) (.tail _ qA_317) ⟨rfl, rfl, rfl⟩ rfl rfl (Nat.le_of_ble_eq_true rfl) dX3_parseMic_40 (fun H locs G => ?_)
  have G := gC_up_i (f := upd (T15.2.2.1 n13) 0 r17) (by rw [(oO_k g19).2]; rfl) G
  obtain ⟨T20, eT20, h⟩ := elet_some h
  have G : gC cI cJ cZ cMic cSrc cSt cAI cAJ D ad A s.heap H locs T20 := by rw [eT20]; exact G
  clear eT20
  refine lv_aload_n hx hb dX3_parseMic_43 rfl (lv_at hl 0 rfl) ?_
  refine lv_aload_n hx hb dX3_parseMic_44 rfl (lv_at hl 1 rfl) ?_
  refine lv_sipush (v := (-500)) hx hb dX3_parseMic_45 (by decide) ?_
  refine lv_sipush (v := 500) hx hb dX3_parseMic_48 (by decide) ?_
  obtain ⟨g21, h⟩ := oif_some h
  rcases othr_t h with ⟨r0, eT22⟩ | ⟨r24, T22, eT22, h⟩
  · refine q_xvi (As := [.int (-500), .int 500]) (rest := [.ref (ad n13)]) E G hA hX hN hml (x_X3_signed l hst D cI cJ cZ cMic cSrc cSt cAI cAJ ad T20 l0 ((-500) : Int32) (500 : Int32) eT22) (cwV 2 hts (gaV qA_325 qA_326 qA_327 qA_222 qA_328) rfl rfl rfl (by decide +kernel) ⟨Nat.le_of_ble_eq_true rfl, Nat.le_of_ble_eq_true rfl⟩) (oO_k g21).1 (cc_o3 (oO_k g21).2) rfl rfl hl.1 rfl (lv_room (Nat.le_of_ble_eq_true rfl)) dX3_parseMic_51 ⟨Nat.le_of_ble_eq_true rfl, Nat.le_of_ble_eq_true rfl⟩ (fun E9 ce q9 T9 H locs hp G hce hcv hcl => ?_)
    obtain ⟨hE, hT⟩ := hp
    subst hE
    rw [hT] at G
    exact vx_out (fun x hx => (htab x hx).elim) hlocks hce hcv hcl (fun t ht hvm => kx _ _ _ G hvm (by rw [ht]; exact Nat.le_refl _) (fun q hq => by rw [ht])) G.2.2.2.2 (Nat.le_refl _) (Nat.le_refl _)
  refine q_cvi (As := [.int (-500), .int 500]) (rest := [.ref (ad n13)]) E G hA hX hN hml (u_X3_signed l hst D cI cJ cZ cMic cSrc cSt cAI cAJ ad T20 l0 ((-500) : Int32) (500 : Int32) eT22) (cwV 2 hts (gaV qA_325 qA_326 qA_327 qA_222 qA_328) rfl rfl rfl (by decide +kernel) ⟨Nat.le_of_ble_eq_true rfl, Nat.le_of_ble_eq_true rfl⟩) (oO_k g21).1 (cc_o3 (oO_k g21).2) rfl rfl hl.1 rfl (lv_room (Nat.le_of_ble_eq_true rfl)) dX3_parseMic_51 ⟨Nat.zero_le _, Nat.zero_le _⟩ (fun q25 T23 H locs hq G => ?_)
  obtain ⟨hq1, hq2⟩ := hq
  rw [hq2] at G
  refine lv_to hq1 ?_
  clear hq1 hq2 eT22
  obtain ⟨g26, h⟩ := oif_some h
  refine c_put E G n13 1 (v := .int r24) (oO_k g26).1 (cc_o2 (oO_k g26).2) rfl (fun w h => .tail _ (iA_19 h)) tyX2 tyX2_ok nmX2 (by decide) (.tail _ qA_318) ⟨rfl, rfl, rfl⟩ rfl rfl (Nat.le_of_ble_eq_true rfl) dX3_parseMic_54 (fun H locs G => ?_)
  have G := gC_up_i (f := upd (T22.2.2.1 n13) 1 r24) (by rw [(oO_k g26).2]; rfl) G
  obtain ⟨T27, eT27, h⟩ := elet_some h
  have G : gC cI cJ cZ cMic cSrc cSt cAI cAJ D ad A s.heap H locs T27 := by rw [eT27]; exact G
  clear eT27
  refine lv_aload_n hx hb dX3_parseMic_57 rfl (lv_at hl 0 rfl) ?_
  refine lv_aload_n hx hb dX3_parseMic_58 rfl (lv_at hl 1 rfl) ?_
  refine lv_iconst (v := 1) hx hb dX3_parseMic_59 (by decide) ?_
  refine lv_bipush (v := 9) hx hb dX3_parseMic_60 (by decide) ?_
  obtain ⟨g28, h⟩ := oif_some h
  rcases othr_t h with ⟨r0, eT29⟩ | ⟨r31, T29, eT29, h⟩
  · refine q_xvi (As := [.int 1, .int 9]) (rest := [.ref (ad n13)]) E G hA hX hN hml (x_X3_number l hst D cI cJ cZ cMic cSrc cSt cAI cAJ ad T27 l0 (1 : Int32) (9 : Int32) eT29) (cwV 2 hts (gaV qA_299 qA_300 qA_301 qA_222 qA_302) rfl rfl rfl (by decide +kernel) ⟨Nat.le_of_ble_eq_true rfl, Nat.le_of_ble_eq_true rfl⟩) (oO_k g28).1 (cc_o3 (oO_k g28).2) rfl rfl hl.1 rfl (lv_room (Nat.le_of_ble_eq_true rfl)) dX3_parseMic_62 ⟨Nat.le_of_ble_eq_true rfl, Nat.le_of_ble_eq_true rfl⟩ (fun E9 ce q9 T9 H locs hp G hce hcv hcl => ?_)
    obtain ⟨hE, hT⟩ := hp
    subst hE
    rw [hT] at G
    exact vx_out (fun x hx => (htab x hx).elim) hlocks hce hcv hcl (fun t ht hvm => kx _ _ _ G hvm (by rw [ht]; exact Nat.le_refl _) (fun q hq => by rw [ht])) G.2.2.2.2 (Nat.le_refl _) (Nat.le_refl _)
  refine q_cvi (As := [.int 1, .int 9]) (rest := [.ref (ad n13)]) E G hA hX hN hml (u_X3_number l hst D cI cJ cZ cMic cSrc cSt cAI cAJ ad T27 l0 (1 : Int32) (9 : Int32) eT29) (cwV 2 hts (gaV qA_299 qA_300 qA_301 qA_222 qA_302) rfl rfl rfl (by decide +kernel) ⟨Nat.le_of_ble_eq_true rfl, Nat.le_of_ble_eq_true rfl⟩) (oO_k g28).1 (cc_o3 (oO_k g28).2) rfl rfl hl.1 rfl (lv_room (Nat.le_of_ble_eq_true rfl)) dX3_parseMic_62 ⟨Nat.zero_le _, Nat.zero_le _⟩ (fun q32 T30 H locs hq G => ?_)
  obtain ⟨hq1, hq2⟩ := hq
  rw [hq2] at G
  refine lv_to hq1 ?_
  clear hq1 hq2 eT29
  obtain ⟨g33, h⟩ := oif_some h
  refine c_put E G n13 2 (v := .int r31) (oO_k g33).1 (cc_o2 (oO_k g33).2) rfl (fun w h => .tail _ (iA_19 h)) tyX2 tyX2_ok nmX2 (by decide) (.tail _ qA_319) ⟨rfl, rfl, rfl⟩ rfl rfl (Nat.le_of_ble_eq_true rfl) dX3_parseMic_65 (fun H locs G => ?_)
  have G := gC_up_i (f := upd (T29.2.2.1 n13) 2 r31) (by rw [(oO_k g33).2]; rfl) G
  obtain ⟨T34, eT34, h⟩ := elet_some h
  have G : gC cI cJ cZ cMic cSrc cSt cAI cAJ D ad A s.heap H locs T34 := by rw [eT34]; exact G
  clear eT34
  refine lv_aload_n hx hb dX3_parseMic_68 rfl (lv_at hl 0 rfl) ?_
  refine lv_iconst (v := 0) hx hb dX3_parseMic_69 (by decide) ?_
  obtain ⟨g35, h⟩ := oif_some h
  refine c_put E G n13 3 (v := .int 0) (oO_k g35).1 (cc_o2 (oO_k g35).2) rfl (fun w h => .tail _ (iA_19 h)) tyX2 tyX2_ok nmX2 (by decide) (.tail _ qA_320) ⟨rfl, rfl, rfl⟩ rfl rfl (Nat.le_of_ble_eq_true rfl) dX3_parseMic_70 (fun H locs G => ?_)
  have G := gC_up_i (f := upd (T34.2.2.1 n13) 3 0) (by rw [(oO_k g35).2]; rfl) G
  obtain ⟨T36, eT36, h⟩ := elet_some h
  have G : gC cI cJ cZ cMic cSrc cSt cAI cAJ D ad A s.heap H locs T36 := by rw [eT36]; exact G
  clear eT36
  refine lv_aload_n hx hb dX3_parseMic_73 rfl (lv_at hl 2 rfl) ?_
  refine lv_dup hx hb dX3_parseMic_74 rfl ?_
  obtain ⟨g37, h⟩ := oif_some h
  refine c_get E G l1 5 (oO_k g37).1 (cc_o6 (oO_k g37).2) rfl (fun w h => .tail _ (iA_14 h)) (by decide) (.tail _ qA_178) rfl rfl dX3_parseMic_75 ?_
  refine lv_topi (fun v38 ev38 => ?_)
  have h := elet_at ev38 h
  clear ev38
  refine lv_iconst (v := 1) hx hb dX3_parseMic_78 (by decide) ?_
  refine lv_iadd hx hb dX3_parseMic_79 ?_
  refine lv_topi (fun v39 ev39 => ?_)
  have h := elet_at ev39 h
  clear ev39
  obtain ⟨g40, h⟩ := oif_some h
  refine c_put E G l1 5 (v := .int v39) (oO_k g40).1 (cc_o6 (oO_k g40).2) rfl (fun w h => .tail _ (iA_14 h)) tyX6 tyX6_ok nmX6 (by decide) (.tail _ qA_178) ⟨rfl, rfl, rfl⟩ rfl rfl (Nat.le_of_ble_eq_true rfl) dX3_parseMic_80 (fun H locs G => ?_)
  have G := gC_up_i (f := upd (T36.2.2.1 l1) 5 v39) (by rw [(oO_k g40).2]; rfl) G
  obtain ⟨T41, eT41, h⟩ := elet_some h
  have G : gC cI cJ cZ cMic cSrc cSt cAI cAJ D ad A s.heap H locs T41 := by rw [eT41]; exact G
  clear eT41
  exact (Nat.succ_ne_zero _ (congrArg Prod.fst (Option.some.inj h)).symm).elim
set_option maxHeartbeats 4000000 in
set_option maxRecDepth 100000 in
theorem x_X3_parseMic (l : Launch) (hst : l.stackTraces = false) (D : va_G) (cI cJ cZ cMic cSrc cSt cAI cAJ : ClassId) (ad : Nat → Nat) (T : AT) (o : Nat) (a0 : Nat) {e1 : Nat} {r1 : Int32} {T1 : AT} (h : g_X3_parseMic T o a0 = some (e1 + 1, r1, T1)) : kXv l yX3_parseMic (Cond.code yX3_parseMic cX3_parseMic 3 none :: wsA) 9 148 cI cJ cZ cMic cSrc cSt cAI cAJ D ad T [.ref (ad o), .ref (ad a0)] e1 T1 := by
  intro sz
  refine vx_ofW (cc := cX3_parseMic) (maxL := 3) (ret := none) (by decide) rfl ?_
  intro p e s m args below meth c s₁ B hml htab hv
  obtain ⟨rfl, hsz, hP, hK, hD0, hX, hN⟩ := hv
  have hx := B.exec
  have hb := B.bytes
  have hr := B.returns
  have hts := atoms_spec (ws := (Cond.code yX3_parseMic cX3_parseMic 3 none :: wsA)) B.pre
  have hown : s.vm.findClass RX3 = some m.cls := findClass_of_methodNamed B.named
  have hlocks := B.notSynchronized
  subst hsz
  have hD := hD0.self (sz := s.heap.size)
  generalize hAe : va_A (cW ad T.1 (cc cI cJ cZ cMic cSrc cSt cAI cAJ ad T)) s.heap.size = A at hD hX ⊢
  have hA : ∀ q : Nat, s.heap.size ≤ q → A q := fun q h => by rw [← hAe]; exact Or.inr h
  have G : gC cI cJ cZ cMic cSrc cSt cAI cAJ D ad A s.heap s.heap [] T := ⟨hP, hD, va_S.rf⟩
  have E : cE p c cX3_parseMic s m ([.ref (ad o), .ref (ad a0)] : List Value).toArray (Cond.code yX3_parseMic cX3_parseMic 3 none :: wsA) D RX3 (CT cI cJ cZ cMic cSrc cSt cAI cAJ) := ⟨hx, hb, hts, hown, hK⟩
  have htab : ∀ x ∈ c.exceptionTable.toList, False := fun x hx => htab x hx
  have hl := lv_entry ([.ref (ad o), .ref (ad a0)]) (n := 3) (Nat.le_of_ble_eq_true rfl)
  rw [lg_entry_eq]
  generalize (lg_sl ([.ref (ad o), .ref (ad a0)]) ++ List.replicate (3 - (lg_sl ([.ref (ad o), .ref (ad a0)])).length) Slot.unset).toArray = ls at hl ⊢
  have hl : lv_has ls 3 [(0, .ref (ad o)), (1, .ref (ad a0))] := hl
  unfold g_X3_parseMic at h
  refine lv_aload_n hx hb dX3_parseMic_0 rfl (lv_at hl 0 rfl) ?_
  refine lv_aload_n hx hb dX3_parseMic_1 rfl (lv_at hl 1 rfl) ?_
  obtain ⟨g2, h⟩ := oif_some h
  refine c_get E G a0 5 (oO_k g2).1 (cc_o6 (oO_k g2).2) rfl (fun w h => .tail _ (iA_14 h)) (by decide) (.tail _ qA_178) rfl rfl dX3_parseMic_2 ?_
  refine lv_topi (fun v3 ev3 => ?_)
  have h := elet_at ev3 h
  clear ev3
  refine lv_bipush (v := 12) hx hb dX3_parseMic_5 (by decide) ?_
  refine lv_icmp_lt (tgt := 14) hx hb dX3_parseMic_7 (by decide) (fun c4 => ?_) (fun c4 => ?_)
  · have h := oif_pos c4 h
    refine lv_iconst (v := 0) hx hb dX3_parseMic_14 (by decide) ?_
    have hl := lv_sub hl [0, 1] rfl
    exact x_X3_parseMic_b15 E hA hX hN hml trivial hst htab hlocks (fun H locs t G hvm h1 h2 => ⟨T1, trivial, ⟨⟨rfl, rfl⟩, (c_thrown G hK hvm h1 h2).1⟩, (c_thrown G hK hvm h1 h2).2⟩) _ _ _ _ _ _ _ _ h G hl
  · have h := oif_neg c4 h
    refine lv_iconst (v := 1) hx hb dX3_parseMic_10 (by decide) ?_
    refine lv_goto (tgt := 15) hx hb dX3_parseMic_11 (by decide) ?_
    have hl := lv_sub hl [0, 1] rfl
    exact x_X3_parseMic_b15 E hA hX hN hml trivial hst htab hlocks (fun H locs t G hvm h1 h2 => ⟨T1, trivial, ⟨⟨rfl, rfl⟩, (c_thrown G hK hvm h1 h2).1⟩, (c_thrown G hK hvm h1 h2).2⟩) _ _ _ _ _ _ _ _ h G hl
def g_X3_parseLine_b209  (T : AT)  : Option (Nat × Int32 × AT) := some (0, 0, T)
set_option maxHeartbeats 4000000 in
set_option maxRecDepth 100000 in
theorem u_X3_parseLine_b209 {p : Program} {l : Launch} {e : Env} {s : State} {m : MethodId} {args : Array Value} {below : List Frame} {meth : Method} {c : Code} {Q : State → Prop} {D : va_G} {A : Nat → Prop} {cI cJ cZ cMic cSrc cSt cAI cAJ : ClassId} {ad : Nat → Nat} {r1 : Int32} {T1 : AT} (E : cE p c cX3_parseLine s m args (Cond.code yX3_parseLine cX3_parseLine 2 none :: wsA) D RX3 (CT cI cJ cZ cMic cSrc cSt cAI cAJ)) (hA : ∀ q : Nat, s.heap.size ≤ q → A q) (hX : xT A s) (hN : nX s) (hml : c.maxLocals = 2) (hst : l.stackTraces = false) {h0 : Nat} (hA0 : ∀ a : Nat, A a → h0 ≤ a) (hT : sAll h0 s) (kr209 : ∀ (H : Heap) (locs : List Loc) (ls : Array Slot), gC cI cJ cZ cMic cSrc cSt cAI cAJ D ad A s.heap H locs T1 → W p l e { frames := 10, cells := 0, slots := 0, locals := 171 } s m args below meth c H locs 0 0 Q (F0 m 209 ls [])) : ∀ (T : AT) (H : Heap) (locs : List Loc) (ls : Array Slot), g_X3_parseLine_b209 T = some (0, r1, T1) → gC cI cJ cZ cMic cSrc cSt cAI cAJ D ad A s.heap H locs T → lv_has ls 2 [] → W p l e { frames := 10, cells := 0, slots := 0, locals := 171 } s m args below meth c H locs 0 0 Q (F0 m 209 ls []) := by
  have hx := E.1
  have hb := E.2.1
  have hts := E.2.2.1
  have hown := E.2.2.2.1
  have hK := E.2.2.2.2
  intro T H locs ls h G hl
  unfold g_X3_parseLine_b209 at h
  rw [(osome3 h).2.2] at G
  exact kr209 _ _ _ G
def g_X3_parseLine_b93  (T : AT) (s0 : Int32) (s1 : Nat) (l0 : Nat) (l1 : Nat) : Option (Nat × Int32 × AT) := oif (oO T s1 3 = true) <| othr (g_X3_startLine T s1 s0 (3 : Int32)) 0 fun r5 T3 => oif (oO T3 l0 3 = true) <| othr (g_X3_number T3 l0 (1 : Int32) (999 : Int32)) 0 fun r10 T8 => oif (oO T8 l1 6 = true) <| elet (uI T8 l1 12 r10) fun T13 => g_X3_parseLine_b209 T13
set_option maxHeartbeats 4000000 in
set_option maxRecDepth 100000 in
theorem u_X3_parseLine_b93 {p : Program} {l : Launch} {e : Env} {s : State} {m : MethodId} {args : Array Value} {below : List Frame} {meth : Method} {c : Code} {Q : State → Prop} {D : va_G} {A : Nat → Prop} {cI cJ cZ cMic cSrc cSt cAI cAJ : ClassId} {ad : Nat → Nat} {r1 : Int32} {T1 : AT} (E : cE p c cX3_parseLine s m args (Cond.code yX3_parseLine cX3_parseLine 2 none :: wsA) D RX3 (CT cI cJ cZ cMic cSrc cSt cAI cAJ)) (hA : ∀ q : Nat, s.heap.size ≤ q → A q) (hX : xT A s) (hN : nX s) (hml : c.maxLocals = 2) (hst : l.stackTraces = false) {h0 : Nat} (hA0 : ∀ a : Nat, A a → h0 ≤ a) (hT : sAll h0 s) (kr209 : ∀ (H : Heap) (locs : List Loc) (ls : Array Slot), gC cI cJ cZ cMic cSrc cSt cAI cAJ D ad A s.heap H locs T1 → W p l e { frames := 10, cells := 0, slots := 0, locals := 171 } s m args below meth c H locs 0 0 Q (F0 m 209 ls [])) : ∀ (T : AT) (H : Heap) (locs : List Loc) (ls : Array Slot) (s0 : Int32) (s1 : Nat) (l0 : Nat) (l1 : Nat), g_X3_parseLine_b93 T s0 s1 l0 l1 = some (0, r1, T1) → gC cI cJ cZ cMic cSrc cSt cAI cAJ D ad A s.heap H locs T → lv_has ls 2 [(0, .ref (ad l0)), (1, .ref (ad l1))] → W p l e { frames := 10, cells := 0, slots := 0, locals := 171 } s m args below meth c H locs 0 0 Q (F0 m 93 ls [.int s0, .ref (ad s1)]) := by
  have hx := E.1
  have hb := E.2.1
  have hts := E.2.2.1
  have hown := E.2.2.2.1
  have hK := E.2.2.2.2
  intro T H locs ls s0 s1 l0 l1 h G hl
  unfold g_X3_parseLine_b93 at h
  refine lv_iconst (v := 3) hx hb dX3_parseLine_93 (by decide) ?_
  obtain ⟨g2, h⟩ := oif_some h
  obtain ⟨r5, T3, eT3, h⟩ := othr_n h
  refine q_cvv (As := [.int s0, .int 3]) (rest := []) E G hA hX hN hml (u_X3_startLine l hst D cI cJ cZ cMic cSrc cSt cAI cAJ ad T s1 s0 (3 : Int32) eT3) (cwV 2 hts (gaV qA_321 qA_322 qA_323 qA_222 qA_324) rfl rfl rfl (by decide +kernel) ⟨Nat.le_of_ble_eq_true rfl, Nat.le_of_ble_eq_true rfl⟩) (oO_k g2).1 (cc_o3 (oO_k g2).2) rfl rfl hl.1 rfl (lv_room (Nat.le_of_ble_eq_true rfl)) dX3_parseLine_94 ⟨Nat.zero_le _, Nat.zero_le _⟩ (fun T4 H locs hq G => ?_)
  rw [hq] at G
  clear hq eT3
  refine lv_aload_n hx hb dX3_parseLine_97 rfl (lv_at hl 1 rfl) ?_
  refine lv_aload_n hx hb dX3_parseLine_98 rfl (lv_at hl 0 rfl) ?_
  refine lv_iconst (v := 1) hx hb dX3_parseLine_99 (by decide) ?_
  refine lv_sipush (v := 999) hx hb dX3_parseLine_100 (by decide) ?_
  obtain ⟨g7, h⟩ := oif_some h
  obtain ⟨r10, T8, eT8, h⟩ := othr_n h
  refine q_cvi (As := [.int 1, .int 999]) (rest := [.ref (ad l1)]) E G hA hX hN hml (u_X3_number l hst D cI cJ cZ cMic cSrc cSt cAI cAJ ad T3 l0 (1 : Int32) (999 : Int32) eT8) (cwV 2 hts (gaV qA_299 qA_300 qA_301 qA_222 qA_302) rfl rfl rfl (by decide +kernel) ⟨Nat.le_of_ble_eq_true rfl, Nat.le_of_ble_eq_true rfl⟩) (oO_k g7).1 (cc_o3 (oO_k g7).2) rfl rfl hl.1 rfl (lv_room (Nat.le_of_ble_eq_true rfl)) dX3_parseLine_103 ⟨Nat.zero_le _, Nat.zero_le _⟩ (fun q11 T9 H locs hq G => ?_)
  obtain ⟨hq1, hq2⟩ := hq
  rw [hq2] at G
  refine lv_to hq1 ?_
  clear hq1 hq2 eT8
  obtain ⟨g12, h⟩ := oif_some h
  refine c_put E G l1 12 (v := .int r10) (oO_k g12).1 (cc_o6 (oO_k g12).2) rfl (fun w h => .tail _ (iA_14 h)) tyX6 tyX6_ok nmX6 (by decide) (.tail _ qA_311) ⟨rfl, rfl, rfl⟩ rfl rfl (Nat.le_of_ble_eq_true rfl) dX3_parseLine_106 (fun H locs G => ?_)
  have G := gC_up_i (f := upd (T8.2.2.1 l1) 12 r10) (by rw [(oO_k g12).2]; rfl) G
  obtain ⟨T13, eT13, h⟩ := elet_some h
  have G : gC cI cJ cZ cMic cSrc cSt cAI cAJ D ad A s.heap H locs T13 := by rw [eT13]; exact G
  clear eT13
  refine lv_goto (tgt := 209) hx hb dX3_parseLine_109 (by decide) ?_
  have hl := lv_sub hl [] rfl
  exact u_X3_parseLine_b209 E hA hX hN hml hst hA0 hT kr209 _ _ _ _ h G hl
def g_X3_parseLine (T : AT) (o : Nat) (a0 : Nat) : Option (Nat × Int32 × AT) := oif (oO T o 3 = true) <| obind2 (g_X3_isWord T (sTx "mic") o) fun r6 T4 => if r6 = 0 then (oif (oO T4 o 3 = true) <| obind2 (g_X3_isWord T4 (sTx "map") o) fun r13 T11 => if r13 = 0 then (oif (oO T11 o 3 = true) <| obind2 (g_X3_isWord T11 (sTx "source") o) fun r20 T18 => if r20 = 0 then (oif (oO T18 o 3 = true) <| obind2 (g_X3_isWord T18 (sTx "wall") o) fun r27 T25 => if r27 = 0 then (oif (oO T25 o 3 = true) <| obind2 (g_X3_isWord T25 (sTx "fade") o) fun r34 T32 => if r34 = 0 then (oif (oO T32 o 3 = true) <| obind2 (g_X3_isWord T32 (sTx "filter") o) fun r41 T39 => if r41 = 0 then (oif (oO T39 o 3 = true) <| obind2 (g_X3_isWord T39 (sTx "clock") o) fun r48 T46 => if r48 = 0 then (oif (oO T46 o 3 = true) <| obind2 (g_X3_isWord T46 (sTx "zone") o) fun r55 T53 => if r55 = 0 then (oif (oO T53 o 3 = true) <| obind2 (g_X3_isWord T53 (sTx "shade") o) fun r62 T60 => if r62 = 0 then (oif (oO T60 o 3 = true) <| obind2 (g_X3_isWord T60 (sTx "off") o) fun r69 T67 => if r69 = 0 then (oif (oO T67 o 3 = true) <| elet (T67.2.2.1 o 1) fun v73 => oif (oO T67 o 3 = true) <| othr (g_X3_failAt T67 o v73 (1 : Int32)) 0 fun r77 T75 => g_X3_parseLine_b209 T75) else (oif (oO T67 o 3 = true) <| othr (g_X3_parseOff T67 o a0) 0 fun r82 T80 => g_X3_parseLine_b209 T80)) else (oif (oO T60 o 3 = true) <| othr (g_X3_parseShade T60 o a0) 0 fun r87 T85 => g_X3_parseLine_b209 T85)) else (oif (oO T53 a0 6 = true) <| obind (T53.2.2.2.2 a0 6) fun n90 => oif (oO T53 o 3 = true) <| othr (g_X3_parseZone T53 o n90) 0 fun r94 T92 => g_X3_parseLine_b209 T92)) else (oif (oO T46 o 3 = true) <| othr (g_X3_parseClock T46 o a0) 0 fun r99 T97 => g_X3_parseLine_b209 T97)) else (oif (oO T39 o 3 = true) <| othr (g_X3_parseFilter T39 o a0) 0 fun r104 T102 => g_X3_parseLine_b209 T102)) else (oif (oO T32 a0 6 = true) <| elet (T32.2.2.1 a0 12) fun v107 => if v107 ≤ 0 then (g_X3_parseLine_b93 T32 0 o o a0) else (g_X3_parseLine_b93 T32 1 o o a0))) else (oif (oO T25 o 3 = true) <| othr (g_X3_parseWall T25 o a0) 0 fun r112 T110 => g_X3_parseLine_b209 T110)) else (oif (oO T18 o 3 = true) <| othr (g_X3_parseSource T18 o a0) 0 fun r117 T115 => g_X3_parseLine_b209 T115)) else (oif (oO T11 a0 6 = true) <| obind (T11.2.2.2.2 a0 6) fun n120 => oif (oO T11 o 3 = true) <| othr (g_X3_parseMap T11 o n120) 0 fun r124 T122 => g_X3_parseLine_b209 T122)) else (oif (oO T4 o 3 = true) <| othr (g_X3_parseMic T4 o a0) 0 fun r129 T127 => g_X3_parseLine_b209 T127)
set_option maxHeartbeats 4000000 in
set_option maxRecDepth 100000 in
theorem u_X3_parseLine (l : Launch) (hst : l.stackTraces = false) (D : va_G) (cI cJ cZ cMic cSrc cSt cAI cAJ : ClassId) (ad : Nat → Nat) (T : AT) (h0 : Nat) (o : Nat) (a0 : Nat) {r1 : Int32} {T1 : AT} (h : g_X3_parseLine T o a0 = some (0, r1, T1)) : kCvX l yX3_parseLine (Cond.code yX3_parseLine cX3_parseLine 2 none :: wsA) 10 171 cI cJ cZ cMic cSrc cSt cAI cAJ D ad T [.ref (ad o), .ref (ad a0)] (yT0 cI cJ cZ cMic cSrc cSt cAI cAJ h0 ad T) (fun T9 => T9 = T1) := by
  intro sz
  refine Met.ofW (cc := cX3_parseLine) (maxL := 2) (ret := none) (by decide) rfl ?_
  intro p e s m args below meth c s₁ B hml hv
  obtain ⟨rfl, ⟨hsz, hP, hK, hD0, hX, hN⟩, hA1, hT⟩ := hv
  have hx := B.exec
  have hb := B.bytes
  have hr := B.returns
  have hts := atoms_spec (ws := (Cond.code yX3_parseLine cX3_parseLine 2 none :: wsA)) B.pre
  have hown : s.vm.findClass RX3 = some m.cls := findClass_of_methodNamed B.named
  have hlocks := B.notSynchronized
  subst hsz
  have hD := hD0.self (sz := s.heap.size)
  generalize hAe : va_A (cW ad T.1 (cc cI cJ cZ cMic cSrc cSt cAI cAJ ad T)) s.heap.size = A at hD hX hA1 ⊢
  have hA : ∀ q : Nat, s.heap.size ≤ q → A q := fun q h => by rw [← hAe]; exact Or.inr h
  have G : gC cI cJ cZ cMic cSrc cSt cAI cAJ D ad A s.heap s.heap [] T := ⟨hP, hD, va_S.rf⟩
  have E : cE p c cX3_parseLine s m ([.ref (ad o), .ref (ad a0)] : List Value).toArray (Cond.code yX3_parseLine cX3_parseLine 2 none :: wsA) D RX3 (CT cI cJ cZ cMic cSrc cSt cAI cAJ) := ⟨hx, hb, hts, hown, hK⟩
  have hA0 : ∀ a : Nat, A a → h0 ≤ a := hA1
  have hl := lv_entry ([.ref (ad o), .ref (ad a0)]) (n := 2) (Nat.le_of_ble_eq_true rfl)
  rw [lg_entry_eq]
  generalize (lg_sl ([.ref (ad o), .ref (ad a0)]) ++ List.replicate (2 - (lg_sl ([.ref (ad o), .ref (ad a0)])).length) Slot.unset).toArray = ls at hl ⊢
  have hl : lv_has ls 2 [(0, .ref (ad o)), (1, .ref (ad a0))] := hl
  unfold g_X3_parseLine at h
  refine lv_aload_n hx hb dX3_parseLine_0 rfl (lv_at hl 0 rfl) ?_
  obtain ⟨w2, hw2, ow2⟩ := hT.1 ("AcousticCamera$Parser", 92, "mic") (List.mem_of_getElem? (i := 5) rfl)
  refine va_ldcS hx hb hown hw2 dX3_parseLine_1 ?_
  obtain ⟨g3, h⟩ := oif_some h
  obtain ⟨r6, T4, eT4, h⟩ := obind2_some h
  refine q_cviX (As := [.ref w2]) (rest := []) E G hA hX hN hml (u_X3_isWord l hst D cI cJ cZ cMic cSrc cSt cAI cAJ ad T h0 (q := w2) (sTx_ok (by decide +kernel)) o eT4) (cwV 1 hts (gaV qA_232 qA_233 qA_234 qA_222 qA_235) rfl rfl rfl (by decide +kernel) ⟨Nat.le_of_ble_eq_true rfl, Nat.le_of_ble_eq_true rfl⟩) (oO_k g3).1 (cc_o3 (oO_k g3).2) rfl rfl hl.1 rfl (lv_room (Nat.le_of_ble_eq_true rfl)) dX3_parseLine_3 ⟨Nat.zero_le _, Nat.zero_le _⟩ (yT1.blind) (yT1.go hT hA0 hA G ow2) (fun q7 T5 H locs hq G => ?_)
  obtain ⟨hq1, hq2⟩ := hq
  rw [hq2] at G
  refine lv_to hq1 ?_
  clear hq1 hq2 eT4
  refine lv_if_eq (tgt := 17) hx hb dX3_parseLine_6 (by decide) (fun c8 => ?_) (fun c8 => ?_)
  · have h := oif_pos c8 h
    refine lv_aload_n hx hb dX3_parseLine_17 rfl (lv_at hl 0 rfl) ?_
    obtain ⟨w9, hw9, ow9⟩ := hT.1 ("AcousticCamera$Parser", 101, "map") (List.mem_of_getElem? (i := 6) rfl)
    refine va_ldcS hx hb hown hw9 dX3_parseLine_18 ?_
    obtain ⟨g10, h⟩ := oif_some h
    obtain ⟨r13, T11, eT11, h⟩ := obind2_some h
    refine q_cviX (As := [.ref w9]) (rest := []) E G hA hX hN hml (u_X3_isWord l hst D cI cJ cZ cMic cSrc cSt cAI cAJ ad T4 h0 (q := w9) (sTx_ok (by decide +kernel)) o eT11) (cwV 1 hts (gaV qA_232 qA_233 qA_234 qA_222 qA_235) rfl rfl rfl (by decide +kernel) ⟨Nat.le_of_ble_eq_true rfl, Nat.le_of_ble_eq_true rfl⟩) (oO_k g10).1 (cc_o3 (oO_k g10).2) rfl rfl hl.1 rfl (lv_room (Nat.le_of_ble_eq_true rfl)) dX3_parseLine_20 ⟨Nat.zero_le _, Nat.zero_le _⟩ (yT1.blind) (yT1.go hT hA0 hA G ow9) (fun q14 T12 H locs hq G => ?_)
    obtain ⟨hq1, hq2⟩ := hq
    rw [hq2] at G
    refine lv_to hq1 ?_
    clear hq1 hq2 eT11
    refine lv_if_eq (tgt := 37) hx hb dX3_parseLine_23 (by decide) (fun c15 => ?_) (fun c15 => ?_)
    · have h := oif_pos c15 h
      refine lv_aload_n hx hb dX3_parseLine_37 rfl (lv_at hl 0 rfl) ?_
      obtain ⟨w16, hw16, ow16⟩ := hT.1 ("AcousticCamera$Parser", 107, "source") (List.mem_of_getElem? (i := 7) rfl)
      refine va_ldcS hx hb hown hw16 dX3_parseLine_38 ?_
      obtain ⟨g17, h⟩ := oif_some h
      obtain ⟨r20, T18, eT18, h⟩ := obind2_some h
      refine q_cviX (As := [.ref w16]) (rest := []) E G hA hX hN hml (u_X3_isWord l hst D cI cJ cZ cMic cSrc cSt cAI cAJ ad T11 h0 (q := w16) (sTx_ok (by decide +kernel)) o eT18) (cwV 1 hts (gaV qA_232 qA_233 qA_234 qA_222 qA_235) rfl rfl rfl (by decide +kernel) ⟨Nat.le_of_ble_eq_true rfl, Nat.le_of_ble_eq_true rfl⟩) (oO_k g17).1 (cc_o3 (oO_k g17).2) rfl rfl hl.1 rfl (lv_room (Nat.le_of_ble_eq_true rfl)) dX3_parseLine_40 ⟨Nat.zero_le _, Nat.zero_le _⟩ (yT1.blind) (yT1.go hT hA0 hA G ow16) (fun q21 T19 H locs hq G => ?_)
      obtain ⟨hq1, hq2⟩ := hq
      rw [hq2] at G
      refine lv_to hq1 ?_
      clear hq1 hq2 eT18
      refine lv_if_eq (tgt := 54) hx hb dX3_parseLine_43 (by decide) (fun c22 => ?_) (fun c22 => ?_)
      · have h := oif_pos c22 h
        refine lv_aload_n hx hb dX3_parseLine_54 rfl (lv_at hl 0 rfl) ?_
        obtain ⟨w23, hw23, ow23⟩ := hT.1 ("AcousticCamera$Parser", 112, "wall") (List.mem_of_getElem? (i := 13) rfl)
        refine va_ldcS hx hb hown hw23 dX3_parseLine_55 ?_
        obtain ⟨g24, h⟩ := oif_some h
        obtain ⟨r27, T25, eT25, h⟩ := obind2_some h
        refine q_cviX (As := [.ref w23]) (rest := []) E G hA hX hN hml (u_X3_isWord l hst D cI cJ cZ cMic cSrc cSt cAI cAJ ad T18 h0 (q := w23) (sTx_ok (by decide +kernel)) o eT25) (cwV 1 hts (gaV qA_232 qA_233 qA_234 qA_222 qA_235) rfl rfl rfl (by decide +kernel) ⟨Nat.le_of_ble_eq_true rfl, Nat.le_of_ble_eq_true rfl⟩) (oO_k g24).1 (cc_o3 (oO_k g24).2) rfl rfl hl.1 rfl (lv_room (Nat.le_of_ble_eq_true rfl)) dX3_parseLine_57 ⟨Nat.zero_le _, Nat.zero_le _⟩ (yT1.blind) (yT1.go hT hA0 hA G ow23) (fun q28 T26 H locs hq G => ?_)
        obtain ⟨hq1, hq2⟩ := hq
        rw [hq2] at G
        refine lv_to hq1 ?_
        clear hq1 hq2 eT25
        refine lv_if_eq (tgt := 71) hx hb dX3_parseLine_60 (by decide) (fun c29 => ?_) (fun c29 => ?_)
        · have h := oif_pos c29 h
          refine lv_aload_n hx hb dX3_parseLine_71 rfl (lv_at hl 0 rfl) ?_
          obtain ⟨w30, hw30, ow30⟩ := hT.1 ("AcousticCamera$Parser", 117, "fade") (List.mem_of_getElem? (i := 14) rfl)
          refine va_ldcS hx hb hown hw30 dX3_parseLine_72 ?_
          obtain ⟨g31, h⟩ := oif_some h
          obtain ⟨r34, T32, eT32, h⟩ := obind2_some h
          refine q_cviX (As := [.ref w30]) (rest := []) E G hA hX hN hml (u_X3_isWord l hst D cI cJ cZ cMic cSrc cSt cAI cAJ ad T25 h0 (q := w30) (sTx_ok (by decide +kernel)) o eT32) (cwV 1 hts (gaV qA_232 qA_233 qA_234 qA_222 qA_235) rfl rfl rfl (by decide +kernel) ⟨Nat.le_of_ble_eq_true rfl, Nat.le_of_ble_eq_true rfl⟩) (oO_k g31).1 (cc_o3 (oO_k g31).2) rfl rfl hl.1 rfl (lv_room (Nat.le_of_ble_eq_true rfl)) dX3_parseLine_74 ⟨Nat.zero_le _, Nat.zero_le _⟩ (yT1.blind) (yT1.go hT hA0 hA G ow30) (fun q35 T33 H locs hq G => ?_)
          obtain ⟨hq1, hq2⟩ := hq
          rw [hq2] at G
          refine lv_to hq1 ?_
          clear hq1 hq2 eT32
          refine lv_if_eq (tgt := 112) hx hb dX3_parseLine_77 (by decide) (fun c36 => ?_) (fun c36 => ?_)
          · have h := oif_pos c36 h
            refine lv_aload_n hx hb dX3_parseLine_112 rfl (lv_at hl 0 rfl) ?_
            obtain ⟨w37, hw37, ow37⟩ := hT.1 ("AcousticCamera$Parser", 125, "filter") (List.mem_of_getElem? (i := 15) rfl)
            refine va_ldcS hx hb hown hw37 dX3_parseLine_113 ?_
            obtain ⟨g38, h⟩ := oif_some h
            obtain ⟨r41, T39, eT39, h⟩ := obind2_some h
            refine q_cviX (As := [.ref w37]) (rest := []) E G hA hX hN hml (u_X3_isWord l hst D cI cJ cZ cMic cSrc cSt cAI cAJ ad T32 h0 (q := w37) (sTx_ok (by decide +kernel)) o eT39) (cwV 1 hts (gaV qA_232 qA_233 qA_234 qA_222 qA_235) rfl rfl rfl (by decide +kernel) ⟨Nat.le_of_ble_eq_true rfl, Nat.le_of_ble_eq_true rfl⟩) (oO_k g38).1 (cc_o3 (oO_k g38).2) rfl rfl hl.1 rfl (lv_room (Nat.le_of_ble_eq_true rfl)) dX3_parseLine_115 ⟨Nat.zero_le _, Nat.zero_le _⟩ (yT1.blind) (yT1.go hT hA0 hA G ow37) (fun q42 T40 H locs hq G => ?_)
            obtain ⟨hq1, hq2⟩ := hq
            rw [hq2] at G
            refine lv_to hq1 ?_
            clear hq1 hq2 eT39
            refine lv_if_eq (tgt := 129) hx hb dX3_parseLine_118 (by decide) (fun c43 => ?_) (fun c43 => ?_)
            · have h := oif_pos c43 h
              refine lv_aload_n hx hb dX3_parseLine_129 rfl (lv_at hl 0 rfl) ?_
              obtain ⟨w44, hw44, ow44⟩ := hT.1 ("AcousticCamera$Parser", 130, "clock") (List.mem_of_getElem? (i := 16) rfl)
              refine va_ldcS hx hb hown hw44 dX3_parseLine_130 ?_
              obtain ⟨g45, h⟩ := oif_some h
              obtain ⟨r48, T46, eT46, h⟩ := obind2_some h
              refine q_cviX (As := [.ref w44]) (rest := []) E G hA hX hN hml (u_X3_isWord l hst D cI cJ cZ cMic cSrc cSt cAI cAJ ad T39 h0 (q := w44) (sTx_ok (by decide +kernel)) o eT46) (cwV 1 hts (gaV qA_232 qA_233 qA_234 qA_222 qA_235) rfl rfl rfl (by decide +kernel) ⟨Nat.le_of_ble_eq_true rfl, Nat.le_of_ble_eq_true rfl⟩) (oO_k g45).1 (cc_o3 (oO_k g45).2) rfl rfl hl.1 rfl (lv_room (Nat.le_of_ble_eq_true rfl)) dX3_parseLine_132 ⟨Nat.zero_le _, Nat.zero_le _⟩ (yT1.blind) (yT1.go hT hA0 hA G ow44) (fun q49 T47 H locs hq G => ?_)
              obtain ⟨hq1, hq2⟩ := hq
              rw [hq2] at G
              refine lv_to hq1 ?_
              clear hq1 hq2 eT46
              refine lv_if_eq (tgt := 146) hx hb dX3_parseLine_135 (by decide) (fun c50 => ?_) (fun c50 => ?_)
              · have h := oif_pos c50 h
                refine lv_aload_n hx hb dX3_parseLine_146 rfl (lv_at hl 0 rfl) ?_
                obtain ⟨w51, hw51, ow51⟩ := hT.1 ("AcousticCamera$Parser", 135, "zone") (List.mem_of_getElem? (i := 17) rfl)
                refine va_ldcS hx hb hown hw51 dX3_parseLine_147 ?_
                obtain ⟨g52, h⟩ := oif_some h
                obtain ⟨r55, T53, eT53, h⟩ := obind2_some h
                refine q_cviX (As := [.ref w51]) (rest := []) E G hA hX hN hml (u_X3_isWord l hst D cI cJ cZ cMic cSrc cSt cAI cAJ ad T46 h0 (q := w51) (sTx_ok (by decide +kernel)) o eT53) (cwV 1 hts (gaV qA_232 qA_233 qA_234 qA_222 qA_235) rfl rfl rfl (by decide +kernel) ⟨Nat.le_of_ble_eq_true rfl, Nat.le_of_ble_eq_true rfl⟩) (oO_k g52).1 (cc_o3 (oO_k g52).2) rfl rfl hl.1 rfl (lv_room (Nat.le_of_ble_eq_true rfl)) dX3_parseLine_149 ⟨Nat.zero_le _, Nat.zero_le _⟩ (yT1.blind) (yT1.go hT hA0 hA G ow51) (fun q56 T54 H locs hq G => ?_)
                obtain ⟨hq1, hq2⟩ := hq
                rw [hq2] at G
                refine lv_to hq1 ?_
                clear hq1 hq2 eT53
                refine lv_if_eq (tgt := 166) hx hb dX3_parseLine_152 (by decide) (fun c57 => ?_) (fun c57 => ?_)
                · have h := oif_pos c57 h
                  refine lv_aload_n hx hb dX3_parseLine_166 rfl (lv_at hl 0 rfl) ?_
                  obtain ⟨w58, hw58, ow58⟩ := hT.1 ("AcousticCamera$Parser", 140, "shade") (List.mem_of_getElem? (i := 18) rfl)
                  refine va_ldcS hx hb hown hw58 dX3_parseLine_167 ?_
                  obtain ⟨g59, h⟩ := oif_some h
                  obtain ⟨r62, T60, eT60, h⟩ := obind2_some h
                  refine q_cviX (As := [.ref w58]) (rest := []) E G hA hX hN hml (u_X3_isWord l hst D cI cJ cZ cMic cSrc cSt cAI cAJ ad T53 h0 (q := w58) (sTx_ok (by decide +kernel)) o eT60) (cwV 1 hts (gaV qA_232 qA_233 qA_234 qA_222 qA_235) rfl rfl rfl (by decide +kernel) ⟨Nat.le_of_ble_eq_true rfl, Nat.le_of_ble_eq_true rfl⟩) (oO_k g59).1 (cc_o3 (oO_k g59).2) rfl rfl hl.1 rfl (lv_room (Nat.le_of_ble_eq_true rfl)) dX3_parseLine_169 ⟨Nat.zero_le _, Nat.zero_le _⟩ (yT1.blind) (yT1.go hT hA0 hA G ow58) (fun q63 T61 H locs hq G => ?_)
                  obtain ⟨hq1, hq2⟩ := hq
                  rw [hq2] at G
                  refine lv_to hq1 ?_
                  clear hq1 hq2 eT60
                  refine lv_if_eq (tgt := 183) hx hb dX3_parseLine_172 (by decide) (fun c64 => ?_) (fun c64 => ?_)
                  · have h := oif_pos c64 h
                    refine lv_aload_n hx hb dX3_parseLine_183 rfl (lv_at hl 0 rfl) ?_
                    obtain ⟨w65, hw65, ow65⟩ := hT.1 ("AcousticCamera$Parser", 145, "off") (List.mem_of_getElem? (i := 19) rfl)
                    refine va_ldcS hx hb hown hw65 dX3_parseLine_184 ?_
                    obtain ⟨g66, h⟩ := oif_some h
                    obtain ⟨r69, T67, eT67, h⟩ := obind2_some h
                    refine q_cviX (As := [.ref w65]) (rest := []) E G hA hX hN hml (u_X3_isWord l hst D cI cJ cZ cMic cSrc cSt cAI cAJ ad T60 h0 (q := w65) (sTx_ok (by decide +kernel)) o eT67) (cwV 1 hts (gaV qA_232 qA_233 qA_234 qA_222 qA_235) rfl rfl rfl (by decide +kernel) ⟨Nat.le_of_ble_eq_true rfl, Nat.le_of_ble_eq_true rfl⟩) (oO_k g66).1 (cc_o3 (oO_k g66).2) rfl rfl hl.1 rfl (lv_room (Nat.le_of_ble_eq_true rfl)) dX3_parseLine_186 ⟨Nat.zero_le _, Nat.zero_le _⟩ (yT1.blind) (yT1.go hT hA0 hA G ow65) (fun q70 T68 H locs hq G => ?_)
                    obtain ⟨hq1, hq2⟩ := hq
                    rw [hq2] at G
                    refine lv_to hq1 ?_
                    clear hq1 hq2 eT67
                    refine lv_if_eq (tgt := 200) hx hb dX3_parseLine_189 (by decide) (fun c71 => ?_) (fun c71 => ?_)
                    · have h := oif_pos c71 h
                      refine lv_aload_n hx hb dX3_parseLine_200 rfl (lv_at hl 0 rfl) ?_
                      refine lv_aload_n hx hb dX3_parseLine_201 rfl (lv_at hl 0 rfl) ?_
                      obtain ⟨g72, h⟩ := oif_some h
                      refine c_get E G o 1 (oO_k g72).1 (cc_o3 (oO_k g72).2) rfl (fun w h => .tail _ (iA_17 h)) (by decide) (.tail _ qA_176) rfl rfl dX3_parseLine_202 ?_
                      refine lv_topi (fun v73 ev73 => ?_)
                      have h := elet_at ev73 h
                      clear ev73
                      refine lv_iconst (v := 1) hx hb dX3_parseLine_205 (by decide) ?_
                      obtain ⟨g74, h⟩ := oif_some h
                      obtain ⟨r77, T75, eT75, h⟩ := othr_n h
                      refine q_cvv (As := [.int v73, .int 1]) (rest := []) E G hA hX hN hml (u_X3_failAt l hst D cI cJ cZ cMic cSrc cSt cAI cAJ ad T67 o v73 (1 : Int32) eT75) (cwV 2 hts (gaV qA_293 qA_294 qA_295 qA_222 qA_296) rfl rfl rfl (by decide +kernel) ⟨Nat.le_of_ble_eq_true rfl, Nat.le_of_ble_eq_true rfl⟩) (oO_k g74).1 (cc_o3 (oO_k g74).2) rfl rfl hl.1 rfl (lv_room (Nat.le_of_ble_eq_true rfl)) dX3_parseLine_206 ⟨Nat.zero_le _, Nat.zero_le _⟩ (fun T76 H locs hq G => ?_)
                      rw [hq] at G
                      clear hq eT75
                      have hl := lv_sub hl [] rfl
                      exact u_X3_parseLine_b209 E hA hX hN hml hst hA0 hT (fun H locs ls G => W.vret hx hb hr (fun t ht hW => ⟨⟨T1, rfl, rfl, ⟨by rw [ht]; exact G.1, va_K.moved hW.alike hK, G.2.1⟩⟩, G.2.2.F ht⟩) G.2.2.2.2 dX3_parseLine_209) _ _ _ _ h G hl
                    · have h := oif_neg c71 h
                      refine lv_aload_n hx hb dX3_parseLine_192 rfl (lv_at hl 0 rfl) ?_
                      refine lv_aload_n hx hb dX3_parseLine_193 rfl (lv_at hl 1 rfl) ?_
                      obtain ⟨g79, h⟩ := oif_some h
                      obtain ⟨r82, T80, eT80, h⟩ := othr_n h
                      refine q_cvv (As := [.ref (ad a0)]) (rest := []) E G hA hX hN hml (u_X3_parseOff l hst D cI cJ cZ cMic cSrc cSt cAI cAJ ad T67 o a0 eT80) (cwV 1 hts (gaV qA_401 qA_402 qA_403 qA_222 qA_404) rfl rfl rfl (by decide +kernel) ⟨Nat.le_of_ble_eq_true rfl, Nat.le_of_ble_eq_true rfl⟩) (oO_k g79).1 (cc_o3 (oO_k g79).2) rfl rfl hl.1 rfl (lv_room (Nat.le_of_ble_eq_true rfl)) dX3_parseLine_194 ⟨Nat.zero_le _, Nat.zero_le _⟩ (fun T81 H locs hq G => ?_)
                      rw [hq] at G
                      clear hq eT80
                      refine lv_goto (tgt := 209) hx hb dX3_parseLine_197 (by decide) ?_
                      have hl := lv_sub hl [] rfl
                      exact u_X3_parseLine_b209 E hA hX hN hml hst hA0 hT (fun H locs ls G => W.vret hx hb hr (fun t ht hW => ⟨⟨T1, rfl, rfl, ⟨by rw [ht]; exact G.1, va_K.moved hW.alike hK, G.2.1⟩⟩, G.2.2.F ht⟩) G.2.2.2.2 dX3_parseLine_209) _ _ _ _ h G hl
                  · have h := oif_neg c64 h
                    refine lv_aload_n hx hb dX3_parseLine_175 rfl (lv_at hl 0 rfl) ?_
                    refine lv_aload_n hx hb dX3_parseLine_176 rfl (lv_at hl 1 rfl) ?_
                    obtain ⟨g84, h⟩ := oif_some h
                    obtain ⟨r87, T85, eT85, h⟩ := othr_n h
                    refine q_cvv (As := [.ref (ad a0)]) (rest := []) E G hA hX hN hml (u_X3_parseShade l hst D cI cJ cZ cMic cSrc cSt cAI cAJ ad T60 o a0 eT85) (cwV 1 hts (gaV qA_391 qA_392 qA_393 qA_222 qA_394) rfl rfl rfl (by decide +kernel) ⟨Nat.le_of_ble_eq_true rfl, Nat.le_of_ble_eq_true rfl⟩) (oO_k g84).1 (cc_o3 (oO_k g84).2) rfl rfl hl.1 rfl (lv_room (Nat.le_of_ble_eq_true rfl)) dX3_parseLine_177 ⟨Nat.zero_le _, Nat.zero_le _⟩ (fun T86 H locs hq G => ?_)
                    rw [hq] at G
                    clear hq eT85
                    refine lv_goto (tgt := 209) hx hb dX3_parseLine_180 (by decide) ?_
                    have hl := lv_sub hl [] rfl
                    exact u_X3_parseLine_b209 E hA hX hN hml hst hA0 hT (fun H locs ls G => W.vret hx hb hr (fun t ht hW => ⟨⟨T1, rfl, rfl, ⟨by rw [ht]; exact G.1, va_K.moved hW.alike hK, G.2.1⟩⟩, G.2.2.F ht⟩) G.2.2.2.2 dX3_parseLine_209) _ _ _ _ h G hl
                · have h := oif_neg c57 h
                  refine lv_aload_n hx hb dX3_parseLine_155 rfl (lv_at hl 0 rfl) ?_
                  refine lv_aload_n hx hb dX3_parseLine_156 rfl (lv_at hl 1 rfl) ?_
                  obtain ⟨g89, h⟩ := oif_some h
                  obtain ⟨n90, en90, h⟩ := obind_some h
                  refine c_get E G a0 6 (v := .ref (ad n90)) (oO_k g89).1 (cc_o6 (oO_k g89).2) rfl (fun w h => .tail _ (iA_14 h)) (by decide) (.tail _ qA_179) rfl (by rw [en90]; rfl) dX3_parseLine_157 ?_
                  clear en90
                  obtain ⟨g91, h⟩ := oif_some h
                  obtain ⟨r94, T92, eT92, h⟩ := othr_n h
                  refine q_cvv (As := [.ref (ad n90)]) (rest := []) E G hA hX hN hml (u_X3_parseZone l hst D cI cJ cZ cMic cSrc cSt cAI cAJ ad T53 o n90 eT92) (cwV 1 hts (gaV qA_384 qA_385 qA_386 qA_222 qA_387) rfl rfl rfl (by decide +kernel) ⟨Nat.le_of_ble_eq_true rfl, Nat.le_of_ble_eq_true rfl⟩) (oO_k g91).1 (cc_o3 (oO_k g91).2) rfl rfl hl.1 rfl (lv_room (Nat.le_of_ble_eq_true rfl)) dX3_parseLine_160 ⟨Nat.zero_le _, Nat.zero_le _⟩ (fun T93 H locs hq G => ?_)
                  rw [hq] at G
                  clear hq eT92
                  refine lv_goto (tgt := 209) hx hb dX3_parseLine_163 (by decide) ?_
                  have hl := lv_sub hl [] rfl
                  exact u_X3_parseLine_b209 E hA hX hN hml hst hA0 hT (fun H locs ls G => W.vret hx hb hr (fun t ht hW => ⟨⟨T1, rfl, rfl, ⟨by rw [ht]; exact G.1, va_K.moved hW.alike hK, G.2.1⟩⟩, G.2.2.F ht⟩) G.2.2.2.2 dX3_parseLine_209) _ _ _ _ h G hl
              · have h := oif_neg c50 h
                refine lv_aload_n hx hb dX3_parseLine_138 rfl (lv_at hl 0 rfl) ?_
                refine lv_aload_n hx hb dX3_parseLine_139 rfl (lv_at hl 1 rfl) ?_
                obtain ⟨g96, h⟩ := oif_some h
                obtain ⟨r99, T97, eT97, h⟩ := othr_n h
                refine q_cvv (As := [.ref (ad a0)]) (rest := []) E G hA hX hN hml (u_X3_parseClock l hst D cI cJ cZ cMic cSrc cSt cAI cAJ ad T46 o a0 eT97) (cwV 1 hts (gaV qA_380 qA_381 qA_382 qA_222 qA_383) rfl rfl rfl (by decide +kernel) ⟨Nat.le_of_ble_eq_true rfl, Nat.le_of_ble_eq_true rfl⟩) (oO_k g96).1 (cc_o3 (oO_k g96).2) rfl rfl hl.1 rfl (lv_room (Nat.le_of_ble_eq_true rfl)) dX3_parseLine_140 ⟨Nat.zero_le _, Nat.zero_le _⟩ (fun T98 H locs hq G => ?_)
                rw [hq] at G
                clear hq eT97
                refine lv_goto (tgt := 209) hx hb dX3_parseLine_143 (by decide) ?_
                have hl := lv_sub hl [] rfl
                exact u_X3_parseLine_b209 E hA hX hN hml hst hA0 hT (fun H locs ls G => W.vret hx hb hr (fun t ht hW => ⟨⟨T1, rfl, rfl, ⟨by rw [ht]; exact G.1, va_K.moved hW.alike hK, G.2.1⟩⟩, G.2.2.F ht⟩) G.2.2.2.2 dX3_parseLine_209) _ _ _ _ h G hl
            · have h := oif_neg c43 h
              refine lv_aload_n hx hb dX3_parseLine_121 rfl (lv_at hl 0 rfl) ?_
              refine lv_aload_n hx hb dX3_parseLine_122 rfl (lv_at hl 1 rfl) ?_
              obtain ⟨g101, h⟩ := oif_some h
              obtain ⟨r104, T102, eT102, h⟩ := othr_n h
              refine q_cvv (As := [.ref (ad a0)]) (rest := []) E G hA hX hN hml (u_X3_parseFilter l hst D cI cJ cZ cMic cSrc cSt cAI cAJ ad T39 o a0 eT102) (cwV 1 hts (gaV qA_366 qA_367 qA_368 qA_222 qA_369) rfl rfl rfl (by decide +kernel) ⟨Nat.le_of_ble_eq_true rfl, Nat.le_of_ble_eq_true rfl⟩) (oO_k g101).1 (cc_o3 (oO_k g101).2) rfl rfl hl.1 rfl (lv_room (Nat.le_of_ble_eq_true rfl)) dX3_parseLine_123 ⟨Nat.zero_le _, Nat.zero_le _⟩ (fun T103 H locs hq G => ?_)
              rw [hq] at G
              clear hq eT102
              refine lv_goto (tgt := 209) hx hb dX3_parseLine_126 (by decide) ?_
              have hl := lv_sub hl [] rfl
              exact u_X3_parseLine_b209 E hA hX hN hml hst hA0 hT (fun H locs ls G => W.vret hx hb hr (fun t ht hW => ⟨⟨T1, rfl, rfl, ⟨by rw [ht]; exact G.1, va_K.moved hW.alike hK, G.2.1⟩⟩, G.2.2.F ht⟩) G.2.2.2.2 dX3_parseLine_209) _ _ _ _ h G hl
          · have h := oif_neg c36 h
            refine lv_aload_n hx hb dX3_parseLine_80 rfl (lv_at hl 0 rfl) ?_
            refine lv_aload_n hx hb dX3_parseLine_81 rfl (lv_at hl 1 rfl) ?_
            obtain ⟨g106, h⟩ := oif_some h
            refine c_get E G a0 12 (oO_k g106).1 (cc_o6 (oO_k g106).2) rfl (fun w h => .tail _ (iA_14 h)) (by decide) (.tail _ qA_311) rfl rfl dX3_parseLine_82 ?_
            refine lv_topi (fun v107 ev107 => ?_)
            have h := elet_at ev107 h
            clear ev107
            refine lv_if_le (tgt := 92) hx hb dX3_parseLine_85 (by decide) (fun c108 => ?_) (fun c108 => ?_)
            · have h := oif_pos c108 h
              refine lv_iconst (v := 0) hx hb dX3_parseLine_92 (by decide) ?_
              have hl := lv_sub hl [0, 1] rfl
              exact u_X3_parseLine_b93 E hA hX hN hml hst hA0 hT (fun H locs ls G => W.vret hx hb hr (fun t ht hW => ⟨⟨T1, rfl, rfl, ⟨by rw [ht]; exact G.1, va_K.moved hW.alike hK, G.2.1⟩⟩, G.2.2.F ht⟩) G.2.2.2.2 dX3_parseLine_209) _ _ _ _ _ _ _ _ h G hl
            · have h := oif_neg c108 h
              refine lv_iconst (v := 1) hx hb dX3_parseLine_88 (by decide) ?_
              refine lv_goto (tgt := 93) hx hb dX3_parseLine_89 (by decide) ?_
              have hl := lv_sub hl [0, 1] rfl
              exact u_X3_parseLine_b93 E hA hX hN hml hst hA0 hT (fun H locs ls G => W.vret hx hb hr (fun t ht hW => ⟨⟨T1, rfl, rfl, ⟨by rw [ht]; exact G.1, va_K.moved hW.alike hK, G.2.1⟩⟩, G.2.2.F ht⟩) G.2.2.2.2 dX3_parseLine_209) _ _ _ _ _ _ _ _ h G hl
        · have h := oif_neg c29 h
          refine lv_aload_n hx hb dX3_parseLine_63 rfl (lv_at hl 0 rfl) ?_
          refine lv_aload_n hx hb dX3_parseLine_64 rfl (lv_at hl 1 rfl) ?_
          obtain ⟨g109, h⟩ := oif_some h
          obtain ⟨r112, T110, eT110, h⟩ := othr_n h
          refine q_cvv (As := [.ref (ad a0)]) (rest := []) E G hA hX hN hml (u_X3_parseWall l hst D cI cJ cZ cMic cSrc cSt cAI cAJ ad T25 o a0 eT110) (cwV 1 hts (gaV qA_359 qA_360 qA_361 qA_222 qA_362) rfl rfl rfl (by decide +kernel) ⟨Nat.le_of_ble_eq_true rfl, Nat.le_of_ble_eq_true rfl⟩) (oO_k g109).1 (cc_o3 (oO_k g109).2) rfl rfl hl.1 rfl (lv_room (Nat.le_of_ble_eq_true rfl)) dX3_parseLine_65 ⟨Nat.zero_le _, Nat.zero_le _⟩ (fun T111 H locs hq G => ?_)
          rw [hq] at G
          clear hq eT110
          refine lv_goto (tgt := 209) hx hb dX3_parseLine_68 (by decide) ?_
          have hl := lv_sub hl [] rfl
          exact u_X3_parseLine_b209 E hA hX hN hml hst hA0 hT (fun H locs ls G => W.vret hx hb hr (fun t ht hW => ⟨⟨T1, rfl, rfl, ⟨by rw [ht]; exact G.1, va_K.moved hW.alike hK, G.2.1⟩⟩, G.2.2.F ht⟩) G.2.2.2.2 dX3_parseLine_209) _ _ _ _ h G hl
      · have h := oif_neg c22 h
        refine lv_aload_n hx hb dX3_parseLine_46 rfl (lv_at hl 0 rfl) ?_
        refine lv_aload_n hx hb dX3_parseLine_47 rfl (lv_at hl 1 rfl) ?_
        obtain ⟨g114, h⟩ := oif_some h
        obtain ⟨r117, T115, eT115, h⟩ := othr_n h
        refine q_cvvX (As := [.ref (ad a0)]) (rest := []) E G hA hX hN hml (u_X3_parseSource l hst D cI cJ cZ cMic cSrc cSt cAI cAJ ad T18 h0 o a0 eT115) (cwV 1 hts (gaV qA_339 qA_340 qA_341 qA_222 qA_342) rfl rfl rfl (by decide +kernel) ⟨Nat.le_of_ble_eq_true rfl, Nat.le_of_ble_eq_true rfl⟩) (oO_k g114).1 (cc_o3 (oO_k g114).2) rfl rfl hl.1 rfl (lv_room (Nat.le_of_ble_eq_true rfl)) dX3_parseLine_48 ⟨Nat.zero_le _, Nat.zero_le _⟩ (yT0.blind) (yT0.go hT hA0 hA G) (fun T116 H locs hq G => ?_)
        rw [hq] at G
        clear hq eT115
        refine lv_goto (tgt := 209) hx hb dX3_parseLine_51 (by decide) ?_
        have hl := lv_sub hl [] rfl
        exact u_X3_parseLine_b209 E hA hX hN hml hst hA0 hT (fun H locs ls G => W.vret hx hb hr (fun t ht hW => ⟨⟨T1, rfl, rfl, ⟨by rw [ht]; exact G.1, va_K.moved hW.alike hK, G.2.1⟩⟩, G.2.2.F ht⟩) G.2.2.2.2 dX3_parseLine_209) _ _ _ _ h G hl
    · have h := oif_neg c15 h
      refine lv_aload_n hx hb dX3_parseLine_26 rfl (lv_at hl 0 rfl) ?_
      refine lv_aload_n hx hb dX3_parseLine_27 rfl (lv_at hl 1 rfl) ?_
      obtain ⟨g119, h⟩ := oif_some h
      obtain ⟨n120, en120, h⟩ := obind_some h
      refine c_get E G a0 6 (v := .ref (ad n120)) (oO_k g119).1 (cc_o6 (oO_k g119).2) rfl (fun w h => .tail _ (iA_14 h)) (by decide) (.tail _ qA_179) rfl (by rw [en120]; rfl) dX3_parseLine_28 ?_
      clear en120
      obtain ⟨g121, h⟩ := oif_some h
      obtain ⟨r124, T122, eT122, h⟩ := othr_n h
      refine q_cvv (As := [.ref (ad n120)]) (rest := []) E G hA hX hN hml (u_X3_parseMap l hst D cI cJ cZ cMic cSrc cSt cAI cAJ ad T11 o n120 eT122) (cwV 1 hts (gaV qA_329 qA_330 qA_331 qA_222 qA_332) rfl rfl rfl (by decide +kernel) ⟨Nat.le_of_ble_eq_true rfl, Nat.le_of_ble_eq_true rfl⟩) (oO_k g121).1 (cc_o3 (oO_k g121).2) rfl rfl hl.1 rfl (lv_room (Nat.le_of_ble_eq_true rfl)) dX3_parseLine_31 ⟨Nat.zero_le _, Nat.zero_le _⟩ (fun T123 H locs hq G => ?_)
      rw [hq] at G
      clear hq eT122
      refine lv_goto (tgt := 209) hx hb dX3_parseLine_34 (by decide) ?_
      have hl := lv_sub hl [] rfl
      exact u_X3_parseLine_b209 E hA hX hN hml hst hA0 hT (fun H locs ls G => W.vret hx hb hr (fun t ht hW => ⟨⟨T1, rfl, rfl, ⟨by rw [ht]; exact G.1, va_K.moved hW.alike hK, G.2.1⟩⟩, G.2.2.F ht⟩) G.2.2.2.2 dX3_parseLine_209) _ _ _ _ h G hl
  · have h := oif_neg c8 h
    refine lv_aload_n hx hb dX3_parseLine_9 rfl (lv_at hl 0 rfl) ?_
    refine lv_aload_n hx hb dX3_parseLine_10 rfl (lv_at hl 1 rfl) ?_
    obtain ⟨g126, h⟩ := oif_some h
    obtain ⟨r129, T127, eT127, h⟩ := othr_n h
    refine q_cvv (As := [.ref (ad a0)]) (rest := []) E G hA hX hN hml (u_X3_parseMic l hst D cI cJ cZ cMic cSrc cSt cAI cAJ ad T4 o a0 eT127) (cwV 1 hts (gaV qA_312 qA_313 qA_314 qA_222 qA_315) rfl rfl rfl (by decide +kernel) ⟨Nat.le_of_ble_eq_true rfl, Nat.le_of_ble_eq_true rfl⟩) (oO_k g126).1 (cc_o3 (oO_k g126).2) rfl rfl hl.1 rfl (lv_room (Nat.le_of_ble_eq_true rfl)) dX3_parseLine_11 ⟨Nat.zero_le _, Nat.zero_le _⟩ (fun T128 H locs hq G => ?_)
    rw [hq] at G
    clear hq eT127
    refine lv_goto (tgt := 209) hx hb dX3_parseLine_14 (by decide) ?_
    have hl := lv_sub hl [] rfl
    exact u_X3_parseLine_b209 E hA hX hN hml hst hA0 hT (fun H locs ls G => W.vret hx hb hr (fun t ht hW => ⟨⟨T1, rfl, rfl, ⟨by rw [ht]; exact G.1, va_K.moved hW.alike hK, G.2.1⟩⟩, G.2.2.F ht⟩) G.2.2.2.2 dX3_parseLine_209) _ _ _ _ h G hl
set_option maxHeartbeats 4000000 in
set_option maxRecDepth 100000 in
theorem s_X3_parseLine_b209 {e1 : Nat} {r1 : Int32} {T1 : AT} : ∀ (T : AT), g_X3_parseLine_b209 T = some (e1, r1, T1) → SP T T1 := by
  intro T h
  have p0 := SP.rf T
  unfold g_X3_parseLine_b209 at h
  rw [← (osome3 h).2.2]
  exact p0
set_option maxHeartbeats 4000000 in
set_option maxRecDepth 100000 in
theorem s_X3_parseLine_b93 {e1 : Nat} {r1 : Int32} {T1 : AT} : ∀ (T : AT) (s0 : Int32) (s1 : Nat) (l0 : Nat) (l1 : Nat), g_X3_parseLine_b93 T s0 s1 l0 l1 = some (e1, r1, T1) → SP T T1 := by
  intro T s0 s1 l0 l1 h
  have p0 := SP.rf T
  unfold g_X3_parseLine_b93 at h
  obtain ⟨g2, h⟩ := oif_some h
  rcases othr_s h with ⟨k9, r9, e9, -⟩ | ⟨r4, T3, eT3, h⟩
  · exact SP.tr p0 (s_X3_startLine e9)
  have p1 : SP T T3 := SP.tr p0 (s_X3_startLine eT3)
  obtain ⟨g5, h⟩ := oif_some h
  rcases othr_s h with ⟨k9, r9, e9, -⟩ | ⟨r7, T6, eT6, h⟩
  · exact SP.tr p1 (s_X3_number e9)
  have p2 : SP T T6 := SP.tr p1 (s_X3_number eT6)
  obtain ⟨g8, h⟩ := oif_some h
  obtain ⟨T9, eT9, h⟩ := elet_some h
  have p3 : SP T T9 := SP.tr p2 (by rw [eT9]; exact sp_uI)
  exact SP.tr p3 (s_X3_parseLine_b209 _ h)
set_option maxHeartbeats 4000000 in
set_option maxRecDepth 100000 in
theorem s_X3_parseLine {T : AT} {o : Nat} {a0 : Nat} {e1 : Nat} {r1 : Int32} {T1 : AT} (h : g_X3_parseLine T o a0 = some (e1, r1, T1)) : SP T T1 := by
  have p0 := SP.rf T
  unfold g_X3_parseLine at h
  obtain ⟨g3, h⟩ := oif_some h
  obtain ⟨r5, T4, eT4, h⟩ := obind2_some h
  have p1 : SP T T4 := SP.tr p0 (s_X3_isWord eT4)
  rcases oif_or h with ⟨c6, h⟩ | ⟨c6, h⟩
  · have h := h
    obtain ⟨g8, h⟩ := oif_some h
    obtain ⟨r10, T9, eT9, h⟩ := obind2_some h
    have p2 : SP T T9 := SP.tr p1 (s_X3_isWord eT9)
    rcases oif_or h with ⟨c11, h⟩ | ⟨c11, h⟩
    · have h := h
      obtain ⟨g13, h⟩ := oif_some h
      obtain ⟨r15, T14, eT14, h⟩ := obind2_some h
      have p3 : SP T T14 := SP.tr p2 (s_X3_isWord eT14)
      rcases oif_or h with ⟨c16, h⟩ | ⟨c16, h⟩
      · have h := h
        obtain ⟨g18, h⟩ := oif_some h
        obtain ⟨r20, T19, eT19, h⟩ := obind2_some h
        have p4 : SP T T19 := SP.tr p3 (s_X3_isWord eT19)
        rcases oif_or h with ⟨c21, h⟩ | ⟨c21, h⟩
        · have h := h
          obtain ⟨g23, h⟩ := oif_some h
          obtain ⟨r25, T24, eT24, h⟩ := obind2_some h
          have p5 : SP T T24 := SP.tr p4 (s_X3_isWord eT24)
          rcases oif_or h with ⟨c26, h⟩ | ⟨c26, h⟩
          · have h := h
            obtain ⟨g28, h⟩ := oif_some h
            obtain ⟨r30, T29, eT29, h⟩ := obind2_some h
            have p6 : SP T T29 := SP.tr p5 (s_X3_isWord eT29)
            rcases oif_or h with ⟨c31, h⟩ | ⟨c31, h⟩
            · have h := h
              obtain ⟨g33, h⟩ := oif_some h
              obtain ⟨r35, T34, eT34, h⟩ := obind2_some h
              have p7 : SP T T34 := SP.tr p6 (s_X3_isWord eT34)
              rcases oif_or h with ⟨c36, h⟩ | ⟨c36, h⟩
              · have h := h
                obtain ⟨g38, h⟩ := oif_some h
                obtain ⟨r40, T39, eT39, h⟩ := obind2_some h
                have p8 : SP T T39 := SP.tr p7 (s_X3_isWord eT39)
                rcases oif_or h with ⟨c41, h⟩ | ⟨c41, h⟩
                · have h := h
                  obtain ⟨g43, h⟩ := oif_some h
                  obtain ⟨r45, T44, eT44, h⟩ := obind2_some h
                  have p9 : SP T T44 := SP.tr p8 (s_X3_isWord eT44)
                  rcases oif_or h with ⟨c46, h⟩ | ⟨c46, h⟩
                  · have h := h
                    obtain ⟨g48, h⟩ := oif_some h
                    obtain ⟨r50, T49, eT49, h⟩ := obind2_some h
                    have p10 : SP T T49 := SP.tr p9 (s_X3_isWord eT49)
                    rcases oif_or h with ⟨c51, h⟩ | ⟨c51, h⟩
                    · have h := h
                      obtain ⟨g52, h⟩ := oif_some h
                      obtain ⟨v53, -, h⟩ := elet_some h
                      obtain ⟨g54, h⟩ := oif_some h
                      rcases othr_s h with ⟨k9, r9, e9, -⟩ | ⟨r56, T55, eT55, h⟩
                      · exact SP.tr p10 (s_X3_failAt e9)
                      have p11 : SP T T55 := SP.tr p10 (s_X3_failAt eT55)
                      exact SP.tr p11 (s_X3_parseLine_b209 _ h)
                    · have h := h
                      obtain ⟨g57, h⟩ := oif_some h
                      rcases othr_s h with ⟨k9, r9, e9, -⟩ | ⟨r59, T58, eT58, h⟩
                      · exact SP.tr p10 (s_X3_parseOff e9)
                      have p11 : SP T T58 := SP.tr p10 (s_X3_parseOff eT58)
                      exact SP.tr p11 (s_X3_parseLine_b209 _ h)
                  · have h := h
                    obtain ⟨g60, h⟩ := oif_some h
                    rcases othr_s h with ⟨k9, r9, e9, -⟩ | ⟨r62, T61, eT61, h⟩
                    · exact SP.tr p9 (s_X3_parseShade e9)
                    have p10 : SP T T61 := SP.tr p9 (s_X3_parseShade eT61)
                    exact SP.tr p10 (s_X3_parseLine_b209 _ h)
                · have h := h
                  obtain ⟨g63, h⟩ := oif_some h
                  obtain ⟨n64, en64, h⟩ := obind_some h
                  obtain ⟨g65, h⟩ := oif_some h
                  rcases othr_s h with ⟨k9, r9, e9, -⟩ | ⟨r67, T66, eT66, h⟩
                  · exact SP.tr p8 (s_X3_parseZone e9)
                  have p9 : SP T T66 := SP.tr p8 (s_X3_parseZone eT66)
                  exact SP.tr p9 (s_X3_parseLine_b209 _ h)
              · have h := h
                obtain ⟨g68, h⟩ := oif_some h
                rcases othr_s h with ⟨k9, r9, e9, -⟩ | ⟨r70, T69, eT69, h⟩
                · exact SP.tr p7 (s_X3_parseClock e9)
                have p8 : SP T T69 := SP.tr p7 (s_X3_parseClock eT69)
                exact SP.tr p8 (s_X3_parseLine_b209 _ h)
            · have h := h
              obtain ⟨g71, h⟩ := oif_some h
              rcases othr_s h with ⟨k9, r9, e9, -⟩ | ⟨r73, T72, eT72, h⟩
              · exact SP.tr p6 (s_X3_parseFilter e9)
              have p7 : SP T T72 := SP.tr p6 (s_X3_parseFilter eT72)
              exact SP.tr p7 (s_X3_parseLine_b209 _ h)
          · have h := h
            obtain ⟨g74, h⟩ := oif_some h
            obtain ⟨v75, -, h⟩ := elet_some h
            rcases oif_or h with ⟨c76, h⟩ | ⟨c76, h⟩
            · have h := h
              exact SP.tr p5 (s_X3_parseLine_b93 _ _ _ _ _ h)
            · have h := h
              exact SP.tr p5 (s_X3_parseLine_b93 _ _ _ _ _ h)
        · have h := h
          obtain ⟨g77, h⟩ := oif_some h
          rcases othr_s h with ⟨k9, r9, e9, -⟩ | ⟨r79, T78, eT78, h⟩
          · exact SP.tr p4 (s_X3_parseWall e9)
          have p5 : SP T T78 := SP.tr p4 (s_X3_parseWall eT78)
          exact SP.tr p5 (s_X3_parseLine_b209 _ h)
      · have h := h
        obtain ⟨g80, h⟩ := oif_some h
        rcases othr_s h with ⟨k9, r9, e9, -⟩ | ⟨r82, T81, eT81, h⟩
        · exact SP.tr p3 (s_X3_parseSource e9)
        have p4 : SP T T81 := SP.tr p3 (s_X3_parseSource eT81)
        exact SP.tr p4 (s_X3_parseLine_b209 _ h)
    · have h := h
      obtain ⟨g83, h⟩ := oif_some h
      obtain ⟨n84, en84, h⟩ := obind_some h
      obtain ⟨g85, h⟩ := oif_some h
      rcases othr_s h with ⟨k9, r9, e9, -⟩ | ⟨r87, T86, eT86, h⟩
      · exact SP.tr p2 (s_X3_parseMap e9)
      have p3 : SP T T86 := SP.tr p2 (s_X3_parseMap eT86)
      exact SP.tr p3 (s_X3_parseLine_b209 _ h)
  · have h := h
    obtain ⟨g88, h⟩ := oif_some h
    rcases othr_s h with ⟨k9, r9, e9, -⟩ | ⟨r90, T89, eT89, h⟩
    · exact SP.tr p1 (s_X3_parseMic e9)
    have p2 : SP T T89 := SP.tr p1 (s_X3_parseMic eT89)
    exact SP.tr p2 (s_X3_parseLine_b209 _ h)
set_option maxHeartbeats 4000000 in
set_option maxRecDepth 100000 in
theorem x_X3_parseLine_b209 {p : Program} {l : Launch} {e : Env} {s : State} {m : MethodId} {args : Array Value} {below : List Frame} {meth : Method} {c : Code} {Qc : Array Value → State → Outcome → State → Prop} {XC : String → State → State → Prop} {D : va_G} {A : Nat → Prop} {cI cJ cZ cMic cSrc cSt cAI cAJ : ClassId} {ad : Nat → Nat} {e1 : Nat} {r1 : Int32} {T1 : AT} (E : cE p c cX3_parseLine s m args (Cond.code yX3_parseLine cX3_parseLine 2 none :: wsA) D RX3 (CT cI cJ cZ cMic cSrc cSt cAI cAJ)) (hA : ∀ q : Nat, s.heap.size ≤ q → A q) (hX : xT A s) (hN : nX s) (hml : c.maxLocals = 2) {h0 : Nat} (hA0 : ∀ a : Nat, A a → h0 ≤ a) (hT : sAll h0 s) (hz9 : True) (hst : l.stackTraces = false) (htab : ∀ x ∈ c.exceptionTable.toList, False) (hlocks : meth.locks = false) (kx : ∀ (H : Heap) (locs : List Loc) (t : State), gC cI cJ cZ cMic cSrc cSt cAI cAJ D ad A s.heap H locs T1 → s.vm.Alike t.vm → H.size ≤ t.heap.size → (∀ q, q < H.size → t.heap[q]? = H[q]?) → XC (exn e1) s t) : ∀ (T : AT) (H : Heap) (locs : List Loc) (ls : Array Slot), g_X3_parseLine_b209 T = some (e1 + 1, r1, T1) → gC cI cJ cZ cMic cSrc cSt cAI cAJ D ad A s.heap H locs T → lv_has ls 2 [] → W p l e { frames := 10, cells := 1, slots := 6, locals := 171 } s m args below meth c H locs 0 0 (vx_MQ below Qc XC args s 1 6 A) (F0 m 209 ls []) := by
  have hx := E.1
  have hb := E.2.1
  have hts := E.2.2.1
  have hown := E.2.2.2.1
  have hK := E.2.2.2.2
  intro T H locs ls h G hl
  unfold g_X3_parseLine_b209 at h
  exact (Nat.succ_ne_zero _ (congrArg Prod.fst (Option.some.inj h)).symm).elim
set_option maxHeartbeats 4000000 in
set_option maxRecDepth 100000 in
theorem x_X3_parseLine_b93 {p : Program} {l : Launch} {e : Env} {s : State} {m : MethodId} {args : Array Value} {below : List Frame} {meth : Method} {c : Code} {Qc : Array Value → State → Outcome → State → Prop} {XC : String → State → State → Prop} {D : va_G} {A : Nat → Prop} {cI cJ cZ cMic cSrc cSt cAI cAJ : ClassId} {ad : Nat → Nat} {e1 : Nat} {r1 : Int32} {T1 : AT} (E : cE p c cX3_parseLine s m args (Cond.code yX3_parseLine cX3_parseLine 2 none :: wsA) D RX3 (CT cI cJ cZ cMic cSrc cSt cAI cAJ)) (hA : ∀ q : Nat, s.heap.size ≤ q → A q) (hX : xT A s) (hN : nX s) (hml : c.maxLocals = 2) {h0 : Nat} (hA0 : ∀ a : Nat, A a → h0 ≤ a) (hT : sAll h0 s) (hz9 : True) (hst : l.stackTraces = false) (htab : ∀ x ∈ c.exceptionTable.toList, False) (hlocks : meth.locks = false) (kx : ∀ (H : Heap) (locs : List Loc) (t : State), gC cI cJ cZ cMic cSrc cSt cAI cAJ D ad A s.heap H locs T1 → s.vm.Alike t.vm → H.size ≤ t.heap.size → (∀ q, q < H.size → t.heap[q]? = H[q]?) → XC (exn e1) s t) : ∀ (T : AT) (H : Heap) (locs : List Loc) (ls : Array Slot) (s0 : Int32) (s1 : Nat) (l0 : Nat) (l1 : Nat), g_X3_parseLine_b93 T s0 s1 l0 l1 = some (e1 + 1, r1, T1) → gC cI cJ cZ cMic cSrc cSt cAI cAJ D ad A s.heap H locs T → lv_has ls 2 [(0, .ref (ad l0)), (1, .ref (ad l1))] → W p l e { frames := 10, cells := 1, slots := 6, locals := 171 } s m args below meth c H locs 0 0 (vx_MQ below Qc XC args s 1 6 A) (F0 m 93 ls [.int s0, .ref (ad s1)]) := by
  have hx := E.1
  have hb := E.2.1
  have hts := E.2.2.1
  have hown := E.2.2.2.1
  have hK := E.2.2.2.2
  intro T H locs ls s0 s1 l0 l1 h G hl
  unfold g_X3_parseLine_b93 at h
  refine lv_iconst (v := 3) hx hb dX3_parseLine_93 (by decide) ?_
  obtain ⟨g2, h⟩ := oif_some h
  rcases othr_t h with ⟨r0, eT3⟩ | ⟨r5, T3, eT3, h⟩
  · refine q_xvv (As := [.int s0, .int 3]) (rest := []) E G hA hX hN hml (x_X3_startLine l hst D cI cJ cZ cMic cSrc cSt cAI cAJ ad T s1 s0 (3 : Int32) eT3) (cwV 2 hts (gaV qA_321 qA_322 qA_323 qA_222 qA_324) rfl rfl rfl (by decide +kernel) ⟨Nat.le_of_ble_eq_true rfl, Nat.le_of_ble_eq_true rfl⟩) (oO_k g2).1 (cc_o3 (oO_k g2).2) rfl rfl hl.1 rfl (lv_room (Nat.le_of_ble_eq_true rfl)) dX3_parseLine_94 ⟨Nat.le_of_ble_eq_true rfl, Nat.le_of_ble_eq_true rfl⟩ (fun E9 ce q9 T9 H locs hp G hce hcv hcl => ?_)
    obtain ⟨hE, hT⟩ := hp
    subst hE
    rw [hT] at G
    exact vx_out (fun x hx => (htab x hx).elim) hlocks hce hcv hcl (fun t ht hvm => kx _ _ _ G hvm (by rw [ht]; exact Nat.le_refl _) (fun q hq => by rw [ht])) G.2.2.2.2 (Nat.le_refl _) (Nat.le_refl _)
  refine q_cvv (As := [.int s0, .int 3]) (rest := []) E G hA hX hN hml (u_X3_startLine l hst D cI cJ cZ cMic cSrc cSt cAI cAJ ad T s1 s0 (3 : Int32) eT3) (cwV 2 hts (gaV qA_321 qA_322 qA_323 qA_222 qA_324) rfl rfl rfl (by decide +kernel) ⟨Nat.le_of_ble_eq_true rfl, Nat.le_of_ble_eq_true rfl⟩) (oO_k g2).1 (cc_o3 (oO_k g2).2) rfl rfl hl.1 rfl (lv_room (Nat.le_of_ble_eq_true rfl)) dX3_parseLine_94 ⟨Nat.zero_le _, Nat.zero_le _⟩ (fun T4 H locs hq G => ?_)
  rw [hq] at G
  clear hq eT3
  refine lv_aload_n hx hb dX3_parseLine_97 rfl (lv_at hl 1 rfl) ?_
  refine lv_aload_n hx hb dX3_parseLine_98 rfl (lv_at hl 0 rfl) ?_
  refine lv_iconst (v := 1) hx hb dX3_parseLine_99 (by decide) ?_
  refine lv_sipush (v := 999) hx hb dX3_parseLine_100 (by decide) ?_
  obtain ⟨g7, h⟩ := oif_some h
  rcases othr_t h with ⟨r0, eT8⟩ | ⟨r10, T8, eT8, h⟩
  · refine q_xvi (As := [.int 1, .int 999]) (rest := [.ref (ad l1)]) E G hA hX hN hml (x_X3_number l hst D cI cJ cZ cMic cSrc cSt cAI cAJ ad T3 l0 (1 : Int32) (999 : Int32) eT8) (cwV 2 hts (gaV qA_299 qA_300 qA_301 qA_222 qA_302) rfl rfl rfl (by decide +kernel) ⟨Nat.le_of_ble_eq_true rfl, Nat.le_of_ble_eq_true rfl⟩) (oO_k g7).1 (cc_o3 (oO_k g7).2) rfl rfl hl.1 rfl (lv_room (Nat.le_of_ble_eq_true rfl)) dX3_parseLine_103 ⟨Nat.le_of_ble_eq_true rfl, Nat.le_of_ble_eq_true rfl⟩ (fun E9 ce q9 T9 H locs hp G hce hcv hcl => ?_)
    obtain ⟨hE, hT⟩ := hp
    subst hE
    rw [hT] at G
    exact vx_out (fun x hx => (htab x hx).elim) hlocks hce hcv hcl (fun t ht hvm => kx _ _ _ G hvm (by rw [ht]; exact Nat.le_refl _) (fun q hq => by rw [ht])) G.2.2.2.2 (Nat.le_refl _) (Nat.le_refl _)
  refine q_cvi (As := [.int 1, .int 999]) (rest := [.ref (ad l1)]) E G hA hX hN hml (u_X3_number l hst D cI cJ cZ cMic cSrc cSt cAI cAJ ad T3 l0 (1 : Int32) (999 : Int32) eT8) (cwV 2 hts (gaV qA_299 qA_300 qA_301 qA_222 qA_302) rfl rfl rfl (by decide +kernel) ⟨Nat.le_of_ble_eq_true rfl, Nat.le_of_ble_eq_true rfl⟩) (oO_k g7).1 (cc_o3 (oO_k g7).2) rfl rfl hl.1 rfl (lv_room (Nat.le_of_ble_eq_true rfl)) dX3_parseLine_103 ⟨Nat.zero_le _, Nat.zero_le _⟩ (fun q11 T9 H locs hq G => ?_)
  obtain ⟨hq1, hq2⟩ := hq
  rw [hq2] at G
  refine lv_to hq1 ?_
  clear hq1 hq2 eT8
  obtain ⟨g12, h⟩ := oif_some h
  refine c_put E G l1 12 (v := .int r10) (oO_k g12).1 (cc_o6 (oO_k g12).2) rfl (fun w h => .tail _ (iA_14 h)) tyX6 tyX6_ok nmX6 (by decide) (.tail _ qA_311) ⟨rfl, rfl, rfl⟩ rfl rfl (Nat.le_of_ble_eq_true rfl) dX3_parseLine_106 (fun H locs G => ?_)
  have G := gC_up_i (f := upd (T8.2.2.1 l1) 12 r10) (by rw [(oO_k g12).2]; rfl) G
  obtain ⟨T13, eT13, h⟩ := elet_some h
  have G : gC cI cJ cZ cMic cSrc cSt cAI cAJ D ad A s.heap H locs T13 := by rw [eT13]; exact G
  clear eT13
  refine lv_goto (tgt := 209) hx hb dX3_parseLine_109 (by decide) ?_
  have hl := lv_sub hl [] rfl
  exact x_X3_parseLine_b209 E hA hX hN hml hA0 hT trivial hst htab hlocks kx _ _ _ _ h G hl
set_option maxHeartbeats 4000000 in
set_option maxRecDepth 100000 in
theorem x_X3_parseLine (l : Launch) (hst : l.stackTraces = false) (D : va_G) (cI cJ cZ cMic cSrc cSt cAI cAJ : ClassId) (ad : Nat → Nat) (T : AT) (h0 : Nat) (o : Nat) (a0 : Nat) {e1 : Nat} {r1 : Int32} {T1 : AT} (h : g_X3_parseLine T o a0 = some (e1 + 1, r1, T1)) : kXvX l yX3_parseLine (Cond.code yX3_parseLine cX3_parseLine 2 none :: wsA) 10 171 cI cJ cZ cMic cSrc cSt cAI cAJ D ad T [.ref (ad o), .ref (ad a0)] (yT0 cI cJ cZ cMic cSrc cSt cAI cAJ h0 ad T) e1 T1 := by
  intro sz
  refine vx_ofW (cc := cX3_parseLine) (maxL := 2) (ret := none) (by decide) rfl ?_
  intro p e s m args below meth c s₁ B hml htab hv
  obtain ⟨rfl, ⟨hsz, hP, hK, hD0, hX, hN⟩, hA1, hT⟩ := hv
  have hx := B.exec
  have hb := B.bytes
  have hr := B.returns
  have hts := atoms_spec (ws := (Cond.code yX3_parseLine cX3_parseLine 2 none :: wsA)) B.pre
  have hown : s.vm.findClass RX3 = some m.cls := findClass_of_methodNamed B.named
  have hlocks := B.notSynchronized
  subst hsz
  have hD := hD0.self (sz := s.heap.size)
  generalize hAe : va_A (cW ad T.1 (cc cI cJ cZ cMic cSrc cSt cAI cAJ ad T)) s.heap.size = A at hD hX hA1 ⊢
  have hA : ∀ q : Nat, s.heap.size ≤ q → A q := fun q h => by rw [← hAe]; exact Or.inr h
  have G : gC cI cJ cZ cMic cSrc cSt cAI cAJ D ad A s.heap s.heap [] T := ⟨hP, hD, va_S.rf⟩
  have E : cE p c cX3_parseLine s m ([.ref (ad o), .ref (ad a0)] : List Value).toArray (Cond.code yX3_parseLine cX3_parseLine 2 none :: wsA) D RX3 (CT cI cJ cZ cMic cSrc cSt cAI cAJ) := ⟨hx, hb, hts, hown, hK⟩
  have htab : ∀ x ∈ c.exceptionTable.toList, False := fun x hx => htab x hx
  have hA0 : ∀ a : Nat, A a → h0 ≤ a := hA1
  have hl := lv_entry ([.ref (ad o), .ref (ad a0)]) (n := 2) (Nat.le_of_ble_eq_true rfl)
  rw [lg_entry_eq]
  generalize (lg_sl ([.ref (ad o), .ref (ad a0)]) ++ List.replicate (2 - (lg_sl ([.ref (ad o), .ref (ad a0)])).length) Slot.unset).toArray = ls at hl ⊢
  have hl : lv_has ls 2 [(0, .ref (ad o)), (1, .ref (ad a0))] := hl
  unfold g_X3_parseLine at h
  refine lv_aload_n hx hb dX3_parseLine_0 rfl (lv_at hl 0 rfl) ?_
  obtain ⟨w2, hw2, ow2⟩ := hT.1 ("AcousticCamera$Parser", 92, "mic") (List.mem_of_getElem? (i := 5) rfl)
  refine va_ldcS hx hb hown hw2 dX3_parseLine_1 ?_
  obtain ⟨g3, h⟩ := oif_some h
  obtain ⟨r6, T4, eT4, h⟩ := obind2_some h
  refine q_cviX (As := [.ref w2]) (rest := []) E G hA hX hN hml (u_X3_isWord l hst D cI cJ cZ cMic cSrc cSt cAI cAJ ad T h0 (q := w2) (sTx_ok (by decide +kernel)) o eT4) (cwV 1 hts (gaV qA_232 qA_233 qA_234 qA_222 qA_235) rfl rfl rfl (by decide +kernel) ⟨Nat.le_of_ble_eq_true rfl, Nat.le_of_ble_eq_true rfl⟩) (oO_k g3).1 (cc_o3 (oO_k g3).2) rfl rfl hl.1 rfl (lv_room (Nat.le_of_ble_eq_true rfl)) dX3_parseLine_3 ⟨Nat.zero_le _, Nat.zero_le _⟩ (yT1.blind) (yT1.go hT hA0 hA G ow2) (fun q7 T5 H locs hq G => ?_)
  obtain ⟨hq1, hq2⟩ := hq
  rw [hq2] at G
  refine lv_to hq1 ?_
  clear hq1 hq2 eT4
  refine lv_if_eq (tgt := 17) hx hb dX3_parseLine_6 (by decide) (fun c8 => ?_) (fun c8 => ?_)
  · have h := oif_pos c8 h
    refine lv_aload_n hx hb dX3_parseLine_17 rfl (lv_at hl 0 rfl) ?_
    obtain ⟨w9, hw9, ow9⟩ := hT.1 ("AcousticCamera$Parser", 101, "map") (List.mem_of_getElem? (i := 6) rfl)
    refine va_ldcS hx hb hown hw9 dX3_parseLine_18 ?_
    obtain ⟨g10, h⟩ := oif_some h
    obtain ⟨r13, T11, eT11, h⟩ := obind2_some h
    refine q_cviX (As := [.ref w9]) (rest := []) E G hA hX hN hml (u_X3_isWord l hst D cI cJ cZ cMic cSrc cSt cAI cAJ ad T4 h0 (q := w9) (sTx_ok (by decide +kernel)) o eT11) (cwV 1 hts (gaV qA_232 qA_233 qA_234 qA_222 qA_235) rfl rfl rfl (by decide +kernel) ⟨Nat.le_of_ble_eq_true rfl, Nat.le_of_ble_eq_true rfl⟩) (oO_k g10).1 (cc_o3 (oO_k g10).2) rfl rfl hl.1 rfl (lv_room (Nat.le_of_ble_eq_true rfl)) dX3_parseLine_20 ⟨Nat.zero_le _, Nat.zero_le _⟩ (yT1.blind) (yT1.go hT hA0 hA G ow9) (fun q14 T12 H locs hq G => ?_)
    obtain ⟨hq1, hq2⟩ := hq
    rw [hq2] at G
    refine lv_to hq1 ?_
    clear hq1 hq2 eT11
    refine lv_if_eq (tgt := 37) hx hb dX3_parseLine_23 (by decide) (fun c15 => ?_) (fun c15 => ?_)
    · have h := oif_pos c15 h
      refine lv_aload_n hx hb dX3_parseLine_37 rfl (lv_at hl 0 rfl) ?_
      obtain ⟨w16, hw16, ow16⟩ := hT.1 ("AcousticCamera$Parser", 107, "source") (List.mem_of_getElem? (i := 7) rfl)
      refine va_ldcS hx hb hown hw16 dX3_parseLine_38 ?_
      obtain ⟨g17, h⟩ := oif_some h
      obtain ⟨r20, T18, eT18, h⟩ := obind2_some h
      refine q_cviX (As := [.ref w16]) (rest := []) E G hA hX hN hml (u_X3_isWord l hst D cI cJ cZ cMic cSrc cSt cAI cAJ ad T11 h0 (q := w16) (sTx_ok (by decide +kernel)) o eT18) (cwV 1 hts (gaV qA_232 qA_233 qA_234 qA_222 qA_235) rfl rfl rfl (by decide +kernel) ⟨Nat.le_of_ble_eq_true rfl, Nat.le_of_ble_eq_true rfl⟩) (oO_k g17).1 (cc_o3 (oO_k g17).2) rfl rfl hl.1 rfl (lv_room (Nat.le_of_ble_eq_true rfl)) dX3_parseLine_40 ⟨Nat.zero_le _, Nat.zero_le _⟩ (yT1.blind) (yT1.go hT hA0 hA G ow16) (fun q21 T19 H locs hq G => ?_)
      obtain ⟨hq1, hq2⟩ := hq
      rw [hq2] at G
      refine lv_to hq1 ?_
      clear hq1 hq2 eT18
      refine lv_if_eq (tgt := 54) hx hb dX3_parseLine_43 (by decide) (fun c22 => ?_) (fun c22 => ?_)
      · have h := oif_pos c22 h
        refine lv_aload_n hx hb dX3_parseLine_54 rfl (lv_at hl 0 rfl) ?_
        obtain ⟨w23, hw23, ow23⟩ := hT.1 ("AcousticCamera$Parser", 112, "wall") (List.mem_of_getElem? (i := 13) rfl)
        refine va_ldcS hx hb hown hw23 dX3_parseLine_55 ?_
        obtain ⟨g24, h⟩ := oif_some h
        obtain ⟨r27, T25, eT25, h⟩ := obind2_some h
        refine q_cviX (As := [.ref w23]) (rest := []) E G hA hX hN hml (u_X3_isWord l hst D cI cJ cZ cMic cSrc cSt cAI cAJ ad T18 h0 (q := w23) (sTx_ok (by decide +kernel)) o eT25) (cwV 1 hts (gaV qA_232 qA_233 qA_234 qA_222 qA_235) rfl rfl rfl (by decide +kernel) ⟨Nat.le_of_ble_eq_true rfl, Nat.le_of_ble_eq_true rfl⟩) (oO_k g24).1 (cc_o3 (oO_k g24).2) rfl rfl hl.1 rfl (lv_room (Nat.le_of_ble_eq_true rfl)) dX3_parseLine_57 ⟨Nat.zero_le _, Nat.zero_le _⟩ (yT1.blind) (yT1.go hT hA0 hA G ow23) (fun q28 T26 H locs hq G => ?_)
        obtain ⟨hq1, hq2⟩ := hq
        rw [hq2] at G
        refine lv_to hq1 ?_
        clear hq1 hq2 eT25
        refine lv_if_eq (tgt := 71) hx hb dX3_parseLine_60 (by decide) (fun c29 => ?_) (fun c29 => ?_)
        · have h := oif_pos c29 h
          refine lv_aload_n hx hb dX3_parseLine_71 rfl (lv_at hl 0 rfl) ?_
          obtain ⟨w30, hw30, ow30⟩ := hT.1 ("AcousticCamera$Parser", 117, "fade") (List.mem_of_getElem? (i := 14) rfl)
          refine va_ldcS hx hb hown hw30 dX3_parseLine_72 ?_
          obtain ⟨g31, h⟩ := oif_some h
          obtain ⟨r34, T32, eT32, h⟩ := obind2_some h
          refine q_cviX (As := [.ref w30]) (rest := []) E G hA hX hN hml (u_X3_isWord l hst D cI cJ cZ cMic cSrc cSt cAI cAJ ad T25 h0 (q := w30) (sTx_ok (by decide +kernel)) o eT32) (cwV 1 hts (gaV qA_232 qA_233 qA_234 qA_222 qA_235) rfl rfl rfl (by decide +kernel) ⟨Nat.le_of_ble_eq_true rfl, Nat.le_of_ble_eq_true rfl⟩) (oO_k g31).1 (cc_o3 (oO_k g31).2) rfl rfl hl.1 rfl (lv_room (Nat.le_of_ble_eq_true rfl)) dX3_parseLine_74 ⟨Nat.zero_le _, Nat.zero_le _⟩ (yT1.blind) (yT1.go hT hA0 hA G ow30) (fun q35 T33 H locs hq G => ?_)
          obtain ⟨hq1, hq2⟩ := hq
          rw [hq2] at G
          refine lv_to hq1 ?_
          clear hq1 hq2 eT32
          refine lv_if_eq (tgt := 112) hx hb dX3_parseLine_77 (by decide) (fun c36 => ?_) (fun c36 => ?_)
          · have h := oif_pos c36 h
            refine lv_aload_n hx hb dX3_parseLine_112 rfl (lv_at hl 0 rfl) ?_
            obtain ⟨w37, hw37, ow37⟩ := hT.1 ("AcousticCamera$Parser", 125, "filter") (List.mem_of_getElem? (i := 15) rfl)
            refine va_ldcS hx hb hown hw37 dX3_parseLine_113 ?_
            obtain ⟨g38, h⟩ := oif_some h
            obtain ⟨r41, T39, eT39, h⟩ := obind2_some h
            refine q_cviX (As := [.ref w37]) (rest := []) E G hA hX hN hml (u_X3_isWord l hst D cI cJ cZ cMic cSrc cSt cAI cAJ ad T32 h0 (q := w37) (sTx_ok (by decide +kernel)) o eT39) (cwV 1 hts (gaV qA_232 qA_233 qA_234 qA_222 qA_235) rfl rfl rfl (by decide +kernel) ⟨Nat.le_of_ble_eq_true rfl, Nat.le_of_ble_eq_true rfl⟩) (oO_k g38).1 (cc_o3 (oO_k g38).2) rfl rfl hl.1 rfl (lv_room (Nat.le_of_ble_eq_true rfl)) dX3_parseLine_115 ⟨Nat.zero_le _, Nat.zero_le _⟩ (yT1.blind) (yT1.go hT hA0 hA G ow37) (fun q42 T40 H locs hq G => ?_)
            obtain ⟨hq1, hq2⟩ := hq
            rw [hq2] at G
            refine lv_to hq1 ?_
            clear hq1 hq2 eT39
            refine lv_if_eq (tgt := 129) hx hb dX3_parseLine_118 (by decide) (fun c43 => ?_) (fun c43 => ?_)
            · have h := oif_pos c43 h
              refine lv_aload_n hx hb dX3_parseLine_129 rfl (lv_at hl 0 rfl) ?_
              obtain ⟨w44, hw44, ow44⟩ := hT.1 ("AcousticCamera$Parser", 130, "clock") (List.mem_of_getElem? (i := 16) rfl)
              refine va_ldcS hx hb hown hw44 dX3_parseLine_130 ?_
              obtain ⟨g45, h⟩ := oif_some h
              obtain ⟨r48, T46, eT46, h⟩ := obind2_some h
              refine q_cviX (As := [.ref w44]) (rest := []) E G hA hX hN hml (u_X3_isWord l hst D cI cJ cZ cMic cSrc cSt cAI cAJ ad T39 h0 (q := w44) (sTx_ok (by decide +kernel)) o eT46) (cwV 1 hts (gaV qA_232 qA_233 qA_234 qA_222 qA_235) rfl rfl rfl (by decide +kernel) ⟨Nat.le_of_ble_eq_true rfl, Nat.le_of_ble_eq_true rfl⟩) (oO_k g45).1 (cc_o3 (oO_k g45).2) rfl rfl hl.1 rfl (lv_room (Nat.le_of_ble_eq_true rfl)) dX3_parseLine_132 ⟨Nat.zero_le _, Nat.zero_le _⟩ (yT1.blind) (yT1.go hT hA0 hA G ow44) (fun q49 T47 H locs hq G => ?_)
              obtain ⟨hq1, hq2⟩ := hq
              rw [hq2] at G
              refine lv_to hq1 ?_
              clear hq1 hq2 eT46
              refine lv_if_eq (tgt := 146) hx hb dX3_parseLine_135 (by decide) (fun c50 => ?_) (fun c50 => ?_)
              · have h := oif_pos c50 h
                refine lv_aload_n hx hb dX3_parseLine_146 rfl (lv_at hl 0 rfl) ?_
                obtain ⟨w51, hw51, ow51⟩ := hT.1 ("AcousticCamera$Parser", 135, "zone") (List.mem_of_getElem? (i := 17) rfl)
                refine va_ldcS hx hb hown hw51 dX3_parseLine_147 ?_
                obtain ⟨g52, h⟩ := oif_some h
                obtain ⟨r55, T53, eT53, h⟩ := obind2_some h
                refine q_cviX (As := [.ref w51]) (rest := []) E G hA hX hN hml (u_X3_isWord l hst D cI cJ cZ cMic cSrc cSt cAI cAJ ad T46 h0 (q := w51) (sTx_ok (by decide +kernel)) o eT53) (cwV 1 hts (gaV qA_232 qA_233 qA_234 qA_222 qA_235) rfl rfl rfl (by decide +kernel) ⟨Nat.le_of_ble_eq_true rfl, Nat.le_of_ble_eq_true rfl⟩) (oO_k g52).1 (cc_o3 (oO_k g52).2) rfl rfl hl.1 rfl (lv_room (Nat.le_of_ble_eq_true rfl)) dX3_parseLine_149 ⟨Nat.zero_le _, Nat.zero_le _⟩ (yT1.blind) (yT1.go hT hA0 hA G ow51) (fun q56 T54 H locs hq G => ?_)
                obtain ⟨hq1, hq2⟩ := hq
                rw [hq2] at G
                refine lv_to hq1 ?_
                clear hq1 hq2 eT53
                refine lv_if_eq (tgt := 166) hx hb dX3_parseLine_152 (by decide) (fun c57 => ?_) (fun c57 => ?_)
                · have h := oif_pos c57 h
                  refine lv_aload_n hx hb dX3_parseLine_166 rfl (lv_at hl 0 rfl) ?_
                  obtain ⟨w58, hw58, ow58⟩ := hT.1 ("AcousticCamera$Parser", 140, "shade") (List.mem_of_getElem? (i := 18) rfl)
                  refine va_ldcS hx hb hown hw58 dX3_parseLine_167 ?_
                  obtain ⟨g59, h⟩ := oif_some h
                  obtain ⟨r62, T60, eT60, h⟩ := obind2_some h
                  refine q_cviX (As := [.ref w58]) (rest := []) E G hA hX hN hml (u_X3_isWord l hst D cI cJ cZ cMic cSrc cSt cAI cAJ ad T53 h0 (q := w58) (sTx_ok (by decide +kernel)) o eT60) (cwV 1 hts (gaV qA_232 qA_233 qA_234 qA_222 qA_235) rfl rfl rfl (by decide +kernel) ⟨Nat.le_of_ble_eq_true rfl, Nat.le_of_ble_eq_true rfl⟩) (oO_k g59).1 (cc_o3 (oO_k g59).2) rfl rfl hl.1 rfl (lv_room (Nat.le_of_ble_eq_true rfl)) dX3_parseLine_169 ⟨Nat.zero_le _, Nat.zero_le _⟩ (yT1.blind) (yT1.go hT hA0 hA G ow58) (fun q63 T61 H locs hq G => ?_)
                  obtain ⟨hq1, hq2⟩ := hq
                  rw [hq2] at G
                  refine lv_to hq1 ?_
                  clear hq1 hq2 eT60
                  refine lv_if_eq (tgt := 183) hx hb dX3_parseLine_172 (by decide) (fun c64 => ?_) (fun c64 => ?_)
                  · have h := oif_pos c64 h
                    refine lv_aload_n hx hb dX3_parseLine_183 rfl (lv_at hl 0 rfl) ?_
                    obtain ⟨w65, hw65, ow65⟩ := hT.1 ("AcousticCamera$Parser", 145, "off") (List.mem_of_getElem? (i := 19) rfl)
                    refine va_ldcS hx hb hown hw65 dX3_parseLine_184 ?_
                    obtain ⟨g66, h⟩ := oif_some h
                    obtain ⟨r69, T67, eT67, h⟩ := obind2_some h
                    refine q_cviX (As := [.ref w65]) (rest := []) E G hA hX hN hml (u_X3_isWord l hst D cI cJ cZ cMic cSrc cSt cAI cAJ ad T60 h0 (q := w65) (sTx_ok (by decide +kernel)) o eT67) (cwV 1 hts (gaV qA_232 qA_233 qA_234 qA_222 qA_235) rfl rfl rfl (by decide +kernel) ⟨Nat.le_of_ble_eq_true rfl, Nat.le_of_ble_eq_true rfl⟩) (oO_k g66).1 (cc_o3 (oO_k g66).2) rfl rfl hl.1 rfl (lv_room (Nat.le_of_ble_eq_true rfl)) dX3_parseLine_186 ⟨Nat.zero_le _, Nat.zero_le _⟩ (yT1.blind) (yT1.go hT hA0 hA G ow65) (fun q70 T68 H locs hq G => ?_)
                    obtain ⟨hq1, hq2⟩ := hq
                    rw [hq2] at G
                    refine lv_to hq1 ?_
                    clear hq1 hq2 eT67
                    refine lv_if_eq (tgt := 200) hx hb dX3_parseLine_189 (by decide) (fun c71 => ?_) (fun c71 => ?_)
                    · have h := oif_pos c71 h
                      refine lv_aload_n hx hb dX3_parseLine_200 rfl (lv_at hl 0 rfl) ?_
                      refine lv_aload_n hx hb dX3_parseLine_201 rfl (lv_at hl 0 rfl) ?_
                      obtain ⟨g72, h⟩ := oif_some h
                      refine c_get E G o 1 (oO_k g72).1 (cc_o3 (oO_k g72).2) rfl (fun w h => .tail _ (iA_17 h)) (by decide) (.tail _ qA_176) rfl rfl dX3_parseLine_202 ?_
                      refine lv_topi (fun v73 ev73 => ?_)
                      have h := elet_at ev73 h
                      clear ev73
                      refine lv_iconst (v := 1) hx hb dX3_parseLine_205 (by decide) ?_
                      obtain ⟨g74, h⟩ := oif_some h
                      rcases othr_t h with ⟨r0, eT75⟩ | ⟨r77, T75, eT75, h⟩
                      · refine q_xvv (As := [.int v73, .int 1]) (rest := []) E G hA hX hN hml (x_X3_failAt l hst D cI cJ cZ cMic cSrc cSt cAI cAJ ad T67 o v73 (1 : Int32) eT75) (cwV 2 hts (gaV qA_293 qA_294 qA_295 qA_222 qA_296) rfl rfl rfl (by decide +kernel) ⟨Nat.le_of_ble_eq_true rfl, Nat.le_of_ble_eq_true rfl⟩) (oO_k g74).1 (cc_o3 (oO_k g74).2) rfl rfl hl.1 rfl (lv_room (Nat.le_of_ble_eq_true rfl)) dX3_parseLine_206 ⟨Nat.le_of_ble_eq_true rfl, Nat.le_of_ble_eq_true rfl⟩ (fun E9 ce q9 T9 H locs hp G hce hcv hcl => ?_)
                        obtain ⟨hE, hT⟩ := hp
                        subst hE
                        rw [hT] at G
                        exact vx_out (fun x hx => (htab x hx).elim) hlocks hce hcv hcl (fun t ht hvm => ⟨T1, trivial, ⟨⟨rfl, rfl⟩, by rw [ht]; exact G.1, va_K.moved hvm hK, G.2.1⟩, G.2.2.F ht⟩) G.2.2.2.2 (Nat.le_refl _) (Nat.le_refl _)
                      refine q_cvv (As := [.int v73, .int 1]) (rest := []) E G hA hX hN hml (u_X3_failAt l hst D cI cJ cZ cMic cSrc cSt cAI cAJ ad T67 o v73 (1 : Int32) eT75) (cwV 2 hts (gaV qA_293 qA_294 qA_295 qA_222 qA_296) rfl rfl rfl (by decide +kernel) ⟨Nat.le_of_ble_eq_true rfl, Nat.le_of_ble_eq_true rfl⟩) (oO_k g74).1 (cc_o3 (oO_k g74).2) rfl rfl hl.1 rfl (lv_room (Nat.le_of_ble_eq_true rfl)) dX3_parseLine_206 ⟨Nat.zero_le _, Nat.zero_le _⟩ (fun T76 H locs hq G => ?_)
                      rw [hq] at G
                      clear hq eT75
                      have hl := lv_sub hl [] rfl
                      exact x_X3_parseLine_b209 E hA hX hN hml hA0 hT trivial hst htab hlocks (fun H locs t G hvm h1 h2 => ⟨T1, trivial, ⟨⟨rfl, rfl⟩, (c_thrown G hK hvm h1 h2).1⟩, (c_thrown G hK hvm h1 h2).2⟩) _ _ _ _ h G hl
                    · have h := oif_neg c71 h
                      refine lv_aload_n hx hb dX3_parseLine_192 rfl (lv_at hl 0 rfl) ?_
                      refine lv_aload_n hx hb dX3_parseLine_193 rfl (lv_at hl 1 rfl) ?_
                      obtain ⟨g79, h⟩ := oif_some h
                      rcases othr_t h with ⟨r0, eT80⟩ | ⟨r82, T80, eT80, h⟩
                      · refine q_xvv (As := [.ref (ad a0)]) (rest := []) E G hA hX hN hml (x_X3_parseOff l hst D cI cJ cZ cMic cSrc cSt cAI cAJ ad T67 o a0 eT80) (cwV 1 hts (gaV qA_401 qA_402 qA_403 qA_222 qA_404) rfl rfl rfl (by decide +kernel) ⟨Nat.le_of_ble_eq_true rfl, Nat.le_of_ble_eq_true rfl⟩) (oO_k g79).1 (cc_o3 (oO_k g79).2) rfl rfl hl.1 rfl (lv_room (Nat.le_of_ble_eq_true rfl)) dX3_parseLine_194 ⟨Nat.le_of_ble_eq_true rfl, Nat.le_of_ble_eq_true rfl⟩ (fun E9 ce q9 T9 H locs hp G hce hcv hcl => ?_)
                        obtain ⟨hE, hT⟩ := hp
                        subst hE
                        rw [hT] at G
                        exact vx_out (fun x hx => (htab x hx).elim) hlocks hce hcv hcl (fun t ht hvm => ⟨T1, trivial, ⟨⟨rfl, rfl⟩, by rw [ht]; exact G.1, va_K.moved hvm hK, G.2.1⟩, G.2.2.F ht⟩) G.2.2.2.2 (Nat.le_refl _) (Nat.le_refl _)
                      refine q_cvv (As := [.ref (ad a0)]) (rest := []) E G hA hX hN hml (u_X3_parseOff l hst D cI cJ cZ cMic cSrc cSt cAI cAJ ad T67 o a0 eT80) (cwV 1 hts (gaV qA_401 qA_402 qA_403 qA_222 qA_404) rfl rfl rfl (by decide +kernel) ⟨Nat.le_of_ble_eq_true rfl, Nat.le_of_ble_eq_true rfl⟩) (oO_k g79).1 (cc_o3 (oO_k g79).2) rfl rfl hl.1 rfl (lv_room (Nat.le_of_ble_eq_true rfl)) dX3_parseLine_194 ⟨Nat.zero_le _, Nat.zero_le _⟩ (fun T81 H locs hq G => ?_)
                      rw [hq] at G
                      clear hq eT80
                      refine lv_goto (tgt := 209) hx hb dX3_parseLine_197 (by decide) ?_
                      have hl := lv_sub hl [] rfl
                      exact x_X3_parseLine_b209 E hA hX hN hml hA0 hT trivial hst htab hlocks (fun H locs t G hvm h1 h2 => ⟨T1, trivial, ⟨⟨rfl, rfl⟩, (c_thrown G hK hvm h1 h2).1⟩, (c_thrown G hK hvm h1 h2).2⟩) _ _ _ _ h G hl
                  · have h := oif_neg c64 h
                    refine lv_aload_n hx hb dX3_parseLine_175 rfl (lv_at hl 0 rfl) ?_
                    refine lv_aload_n hx hb dX3_parseLine_176 rfl (lv_at hl 1 rfl) ?_
                    obtain ⟨g84, h⟩ := oif_some h
                    rcases othr_t h with ⟨r0, eT85⟩ | ⟨r87, T85, eT85, h⟩
                    · refine q_xvv (As := [.ref (ad a0)]) (rest := []) E G hA hX hN hml (x_X3_parseShade l hst D cI cJ cZ cMic cSrc cSt cAI cAJ ad T60 o a0 eT85) (cwV 1 hts (gaV qA_391 qA_392 qA_393 qA_222 qA_394) rfl rfl rfl (by decide +kernel) ⟨Nat.le_of_ble_eq_true rfl, Nat.le_of_ble_eq_true rfl⟩) (oO_k g84).1 (cc_o3 (oO_k g84).2) rfl rfl hl.1 rfl (lv_room (Nat.le_of_ble_eq_true rfl)) dX3_parseLine_177 ⟨Nat.le_of_ble_eq_true rfl, Nat.le_of_ble_eq_true rfl⟩ (fun E9 ce q9 T9 H locs hp G hce hcv hcl => ?_)
                      obtain ⟨hE, hT⟩ := hp
                      subst hE
                      rw [hT] at G
                      exact vx_out (fun x hx => (htab x hx).elim) hlocks hce hcv hcl (fun t ht hvm => ⟨T1, trivial, ⟨⟨rfl, rfl⟩, by rw [ht]; exact G.1, va_K.moved hvm hK, G.2.1⟩, G.2.2.F ht⟩) G.2.2.2.2 (Nat.le_refl _) (Nat.le_refl _)
                    refine q_cvv (As := [.ref (ad a0)]) (rest := []) E G hA hX hN hml (u_X3_parseShade l hst D cI cJ cZ cMic cSrc cSt cAI cAJ ad T60 o a0 eT85) (cwV 1 hts (gaV qA_391 qA_392 qA_393 qA_222 qA_394) rfl rfl rfl (by decide +kernel) ⟨Nat.le_of_ble_eq_true rfl, Nat.le_of_ble_eq_true rfl⟩) (oO_k g84).1 (cc_o3 (oO_k g84).2) rfl rfl hl.1 rfl (lv_room (Nat.le_of_ble_eq_true rfl)) dX3_parseLine_177 ⟨Nat.zero_le _, Nat.zero_le _⟩ (fun T86 H locs hq G => ?_)
                    rw [hq] at G
                    clear hq eT85
                    refine lv_goto (tgt := 209) hx hb dX3_parseLine_180 (by decide) ?_
                    have hl := lv_sub hl [] rfl
                    exact x_X3_parseLine_b209 E hA hX hN hml hA0 hT trivial hst htab hlocks (fun H locs t G hvm h1 h2 => ⟨T1, trivial, ⟨⟨rfl, rfl⟩, (c_thrown G hK hvm h1 h2).1⟩, (c_thrown G hK hvm h1 h2).2⟩) _ _ _ _ h G hl
                · have h := oif_neg c57 h
                  refine lv_aload_n hx hb dX3_parseLine_155 rfl (lv_at hl 0 rfl) ?_
                  refine lv_aload_n hx hb dX3_parseLine_156 rfl (lv_at hl 1 rfl) ?_
                  obtain ⟨g89, h⟩ := oif_some h
                  obtain ⟨n90, en90, h⟩ := obind_some h
                  refine c_get E G a0 6 (v := .ref (ad n90)) (oO_k g89).1 (cc_o6 (oO_k g89).2) rfl (fun w h => .tail _ (iA_14 h)) (by decide) (.tail _ qA_179) rfl (by rw [en90]; rfl) dX3_parseLine_157 ?_
                  clear en90
                  obtain ⟨g91, h⟩ := oif_some h
                  rcases othr_t h with ⟨r0, eT92⟩ | ⟨r94, T92, eT92, h⟩
                  · refine q_xvv (As := [.ref (ad n90)]) (rest := []) E G hA hX hN hml (x_X3_parseZone l hst D cI cJ cZ cMic cSrc cSt cAI cAJ ad T53 o n90 eT92) (cwV 1 hts (gaV qA_384 qA_385 qA_386 qA_222 qA_387) rfl rfl rfl (by decide +kernel) ⟨Nat.le_of_ble_eq_true rfl, Nat.le_of_ble_eq_true rfl⟩) (oO_k g91).1 (cc_o3 (oO_k g91).2) rfl rfl hl.1 rfl (lv_room (Nat.le_of_ble_eq_true rfl)) dX3_parseLine_160 ⟨Nat.le_of_ble_eq_true rfl, Nat.le_of_ble_eq_true rfl⟩ (fun E9 ce q9 T9 H locs hp G hce hcv hcl => ?_)
                    obtain ⟨hE, hT⟩ := hp
                    subst hE
                    rw [hT] at G
                    exact vx_out (fun x hx => (htab x hx).elim) hlocks hce hcv hcl (fun t ht hvm => ⟨T1, trivial, ⟨⟨rfl, rfl⟩, by rw [ht]; exact G.1, va_K.moved hvm hK, G.2.1⟩, G.2.2.F ht⟩) G.2.2.2.2 (Nat.le_refl _) (Nat.le_refl _)
                  refine q_cvv (As := [.ref (ad n90)]) (rest := []) E G hA hX hN hml (u_X3_parseZone l hst D cI cJ cZ cMic cSrc cSt cAI cAJ ad T53 o n90 eT92) (cwV 1 hts (gaV qA_384 qA_385 qA_386 qA_222 qA_387) rfl rfl rfl (by decide +kernel) ⟨Nat.le_of_ble_eq_true rfl, Nat.le_of_ble_eq_true rfl⟩) (oO_k g91).1 (cc_o3 (oO_k g91).2) rfl rfl hl.1 rfl (lv_room (Nat.le_of_ble_eq_true rfl)) dX3_parseLine_160 ⟨Nat.zero_le _, Nat.zero_le _⟩ (fun T93 H locs hq G => ?_)
                  rw [hq] at G
                  clear hq eT92
                  refine lv_goto (tgt := 209) hx hb dX3_parseLine_163 (by decide) ?_
                  have hl := lv_sub hl [] rfl
                  exact x_X3_parseLine_b209 E hA hX hN hml hA0 hT trivial hst htab hlocks (fun H locs t G hvm h1 h2 => ⟨T1, trivial, ⟨⟨rfl, rfl⟩, (c_thrown G hK hvm h1 h2).1⟩, (c_thrown G hK hvm h1 h2).2⟩) _ _ _ _ h G hl
              · have h := oif_neg c50 h
                refine lv_aload_n hx hb dX3_parseLine_138 rfl (lv_at hl 0 rfl) ?_
                refine lv_aload_n hx hb dX3_parseLine_139 rfl (lv_at hl 1 rfl) ?_
                obtain ⟨g96, h⟩ := oif_some h
                rcases othr_t h with ⟨r0, eT97⟩ | ⟨r99, T97, eT97, h⟩
                · refine q_xvv (As := [.ref (ad a0)]) (rest := []) E G hA hX hN hml (x_X3_parseClock l hst D cI cJ cZ cMic cSrc cSt cAI cAJ ad T46 o a0 eT97) (cwV 1 hts (gaV qA_380 qA_381 qA_382 qA_222 qA_383) rfl rfl rfl (by decide +kernel) ⟨Nat.le_of_ble_eq_true rfl, Nat.le_of_ble_eq_true rfl⟩) (oO_k g96).1 (cc_o3 (oO_k g96).2) rfl rfl hl.1 rfl (lv_room (Nat.le_of_ble_eq_true rfl)) dX3_parseLine_140 ⟨Nat.le_of_ble_eq_true rfl, Nat.le_of_ble_eq_true rfl⟩ (fun E9 ce q9 T9 H locs hp G hce hcv hcl => ?_)
                  obtain ⟨hE, hT⟩ := hp
                  subst hE
                  rw [hT] at G
                  exact vx_out (fun x hx => (htab x hx).elim) hlocks hce hcv hcl (fun t ht hvm => ⟨T1, trivial, ⟨⟨rfl, rfl⟩, by rw [ht]; exact G.1, va_K.moved hvm hK, G.2.1⟩, G.2.2.F ht⟩) G.2.2.2.2 (Nat.le_refl _) (Nat.le_refl _)
                refine q_cvv (As := [.ref (ad a0)]) (rest := []) E G hA hX hN hml (u_X3_parseClock l hst D cI cJ cZ cMic cSrc cSt cAI cAJ ad T46 o a0 eT97) (cwV 1 hts (gaV qA_380 qA_381 qA_382 qA_222 qA_383) rfl rfl rfl (by decide +kernel) ⟨Nat.le_of_ble_eq_true rfl, Nat.le_of_ble_eq_true rfl⟩) (oO_k g96).1 (cc_o3 (oO_k g96).2) rfl rfl hl.1 rfl (lv_room (Nat.le_of_ble_eq_true rfl)) dX3_parseLine_140 ⟨Nat.zero_le _, Nat.zero_le _⟩ (fun T98 H locs hq G => ?_)
                rw [hq] at G
                clear hq eT97
                refine lv_goto (tgt := 209) hx hb dX3_parseLine_143 (by decide) ?_
                have hl := lv_sub hl [] rfl
                exact x_X3_parseLine_b209 E hA hX hN hml hA0 hT trivial hst htab hlocks (fun H locs t G hvm h1 h2 => ⟨T1, trivial, ⟨⟨rfl, rfl⟩, (c_thrown G hK hvm h1 h2).1⟩, (c_thrown G hK hvm h1 h2).2⟩) _ _ _ _ h G hl
            · have h := oif_neg c43 h
              refine lv_aload_n hx hb dX3_parseLine_121 rfl (lv_at hl 0 rfl) ?_
              refine lv_aload_n hx hb dX3_parseLine_122 rfl (lv_at hl 1 rfl) ?_
              obtain ⟨g101, h⟩ := oif_some h
              rcases othr_t h with ⟨r0, eT102⟩ | ⟨r104, T102, eT102, h⟩
              · refine q_xvv (As := [.ref (ad a0)]) (rest := []) E G hA hX hN hml (x_X3_parseFilter l hst D cI cJ cZ cMic cSrc cSt cAI cAJ ad T39 o a0 eT102) (cwV 1 hts (gaV qA_366 qA_367 qA_368 qA_222 qA_369) rfl rfl rfl (by decide +kernel) ⟨Nat.le_of_ble_eq_true rfl, Nat.le_of_ble_eq_true rfl⟩) (oO_k g101).1 (cc_o3 (oO_k g101).2) rfl rfl hl.1 rfl (lv_room (Nat.le_of_ble_eq_true rfl)) dX3_parseLine_123 ⟨Nat.le_of_ble_eq_true rfl, Nat.le_of_ble_eq_true rfl⟩ (fun E9 ce q9 T9 H locs hp G hce hcv hcl => ?_)
                obtain ⟨hE, hT⟩ := hp
                subst hE
                rw [hT] at G
                exact vx_out (fun x hx => (htab x hx).elim) hlocks hce hcv hcl (fun t ht hvm => ⟨T1, trivial, ⟨⟨rfl, rfl⟩, by rw [ht]; exact G.1, va_K.moved hvm hK, G.2.1⟩, G.2.2.F ht⟩) G.2.2.2.2 (Nat.le_refl _) (Nat.le_refl _)
              refine q_cvv (As := [.ref (ad a0)]) (rest := []) E G hA hX hN hml (u_X3_parseFilter l hst D cI cJ cZ cMic cSrc cSt cAI cAJ ad T39 o a0 eT102) (cwV 1 hts (gaV qA_366 qA_367 qA_368 qA_222 qA_369) rfl rfl rfl (by decide +kernel) ⟨Nat.le_of_ble_eq_true rfl, Nat.le_of_ble_eq_true rfl⟩) (oO_k g101).1 (cc_o3 (oO_k g101).2) rfl rfl hl.1 rfl (lv_room (Nat.le_of_ble_eq_true rfl)) dX3_parseLine_123 ⟨Nat.zero_le _, Nat.zero_le _⟩ (fun T103 H locs hq G => ?_)
              rw [hq] at G
              clear hq eT102
              refine lv_goto (tgt := 209) hx hb dX3_parseLine_126 (by decide) ?_
              have hl := lv_sub hl [] rfl
              exact x_X3_parseLine_b209 E hA hX hN hml hA0 hT trivial hst htab hlocks (fun H locs t G hvm h1 h2 => ⟨T1, trivial, ⟨⟨rfl, rfl⟩, (c_thrown G hK hvm h1 h2).1⟩, (c_thrown G hK hvm h1 h2).2⟩) _ _ _ _ h G hl
          · have h := oif_neg c36 h
            refine lv_aload_n hx hb dX3_parseLine_80 rfl (lv_at hl 0 rfl) ?_
            refine lv_aload_n hx hb dX3_parseLine_81 rfl (lv_at hl 1 rfl) ?_
            obtain ⟨g106, h⟩ := oif_some h
            refine c_get E G a0 12 (oO_k g106).1 (cc_o6 (oO_k g106).2) rfl (fun w h => .tail _ (iA_14 h)) (by decide) (.tail _ qA_311) rfl rfl dX3_parseLine_82 ?_
            refine lv_topi (fun v107 ev107 => ?_)
            have h := elet_at ev107 h
            clear ev107
            refine lv_if_le (tgt := 92) hx hb dX3_parseLine_85 (by decide) (fun c108 => ?_) (fun c108 => ?_)
            · have h := oif_pos c108 h
              refine lv_iconst (v := 0) hx hb dX3_parseLine_92 (by decide) ?_
              have hl := lv_sub hl [0, 1] rfl
              exact x_X3_parseLine_b93 E hA hX hN hml hA0 hT trivial hst htab hlocks (fun H locs t G hvm h1 h2 => ⟨T1, trivial, ⟨⟨rfl, rfl⟩, (c_thrown G hK hvm h1 h2).1⟩, (c_thrown G hK hvm h1 h2).2⟩) _ _ _ _ _ _ _ _ h G hl
            · have h := oif_neg c108 h
              refine lv_iconst (v := 1) hx hb dX3_parseLine_88 (by decide) ?_
              refine lv_goto (tgt := 93) hx hb dX3_parseLine_89 (by decide) ?_
              have hl := lv_sub hl [0, 1] rfl
              exact x_X3_parseLine_b93 E hA hX hN hml hA0 hT trivial hst htab hlocks (fun H locs t G hvm h1 h2 => ⟨T1, trivial, ⟨⟨rfl, rfl⟩, (c_thrown G hK hvm h1 h2).1⟩, (c_thrown G hK hvm h1 h2).2⟩) _ _ _ _ _ _ _ _ h G hl
        · have h := oif_neg c29 h
          refine lv_aload_n hx hb dX3_parseLine_63 rfl (lv_at hl 0 rfl) ?_
          refine lv_aload_n hx hb dX3_parseLine_64 rfl (lv_at hl 1 rfl) ?_
          obtain ⟨g109, h⟩ := oif_some h
          rcases othr_t h with ⟨r0, eT110⟩ | ⟨r112, T110, eT110, h⟩
          · refine q_xvv (As := [.ref (ad a0)]) (rest := []) E G hA hX hN hml (x_X3_parseWall l hst D cI cJ cZ cMic cSrc cSt cAI cAJ ad T25 o a0 eT110) (cwV 1 hts (gaV qA_359 qA_360 qA_361 qA_222 qA_362) rfl rfl rfl (by decide +kernel) ⟨Nat.le_of_ble_eq_true rfl, Nat.le_of_ble_eq_true rfl⟩) (oO_k g109).1 (cc_o3 (oO_k g109).2) rfl rfl hl.1 rfl (lv_room (Nat.le_of_ble_eq_true rfl)) dX3_parseLine_65 ⟨Nat.le_of_ble_eq_true rfl, Nat.le_of_ble_eq_true rfl⟩ (fun E9 ce q9 T9 H locs hp G hce hcv hcl => ?_)
            obtain ⟨hE, hT⟩ := hp
            subst hE
            rw [hT] at G
            exact vx_out (fun x hx => (htab x hx).elim) hlocks hce hcv hcl (fun t ht hvm => ⟨T1, trivial, ⟨⟨rfl, rfl⟩, by rw [ht]; exact G.1, va_K.moved hvm hK, G.2.1⟩, G.2.2.F ht⟩) G.2.2.2.2 (Nat.le_refl _) (Nat.le_refl _)
          refine q_cvv (As := [.ref (ad a0)]) (rest := []) E G hA hX hN hml (u_X3_parseWall l hst D cI cJ cZ cMic cSrc cSt cAI cAJ ad T25 o a0 eT110) (cwV 1 hts (gaV qA_359 qA_360 qA_361 qA_222 qA_362) rfl rfl rfl (by decide +kernel) ⟨Nat.le_of_ble_eq_true rfl, Nat.le_of_ble_eq_true rfl⟩) (oO_k g109).1 (cc_o3 (oO_k g109).2) rfl rfl hl.1 rfl (lv_room (Nat.le_of_ble_eq_true rfl)) dX3_parseLine_65 ⟨Nat.zero_le _, Nat.zero_le _⟩ (fun T111 H locs hq G => ?_)
          rw [hq] at G
          clear hq eT110
          refine lv_goto (tgt := 209) hx hb dX3_parseLine_68 (by decide) ?_
          have hl := lv_sub hl [] rfl
          exact x_X3_parseLine_b209 E hA hX hN hml hA0 hT trivial hst htab hlocks (fun H locs t G hvm h1 h2 => ⟨T1, trivial, ⟨⟨rfl, rfl⟩, (c_thrown G hK hvm h1 h2).1⟩, (c_thrown G hK hvm h1 h2).2⟩) _ _ _ _ h G hl
      · have h := oif_neg c22 h
        refine lv_aload_n hx hb dX3_parseLine_46 rfl (lv_at hl 0 rfl) ?_
        refine lv_aload_n hx hb dX3_parseLine_47 rfl (lv_at hl 1 rfl) ?_
        obtain ⟨g114, h⟩ := oif_some h
        rcases othr_t h with ⟨r0, eT115⟩ | ⟨r117, T115, eT115, h⟩
        · refine q_xvvX (As := [.ref (ad a0)]) (rest := []) E G hA hX hN hml (x_X3_parseSource l hst D cI cJ cZ cMic cSrc cSt cAI cAJ ad T18 h0 o a0 eT115) (cwV 1 hts (gaV qA_339 qA_340 qA_341 qA_222 qA_342) rfl rfl rfl (by decide +kernel) ⟨Nat.le_of_ble_eq_true rfl, Nat.le_of_ble_eq_true rfl⟩) (oO_k g114).1 (cc_o3 (oO_k g114).2) rfl rfl hl.1 rfl (lv_room (Nat.le_of_ble_eq_true rfl)) dX3_parseLine_48 ⟨Nat.le_of_ble_eq_true rfl, Nat.le_of_ble_eq_true rfl⟩ (yT0.blind) (yT0.go hT hA0 hA G) (fun E9 ce q9 T9 H locs hp G hce hcv hcl => ?_)
          obtain ⟨hE, hT⟩ := hp
          subst hE
          rw [hT] at G
          exact vx_out (fun x hx => (htab x hx).elim) hlocks hce hcv hcl (fun t ht hvm => ⟨T1, trivial, ⟨⟨rfl, rfl⟩, by rw [ht]; exact G.1, va_K.moved hvm hK, G.2.1⟩, G.2.2.F ht⟩) G.2.2.2.2 (Nat.le_refl _) (Nat.le_refl _)
        refine q_cvvX (As := [.ref (ad a0)]) (rest := []) E G hA hX hN hml (u_X3_parseSource l hst D cI cJ cZ cMic cSrc cSt cAI cAJ ad T18 h0 o a0 eT115) (cwV 1 hts (gaV qA_339 qA_340 qA_341 qA_222 qA_342) rfl rfl rfl (by decide +kernel) ⟨Nat.le_of_ble_eq_true rfl, Nat.le_of_ble_eq_true rfl⟩) (oO_k g114).1 (cc_o3 (oO_k g114).2) rfl rfl hl.1 rfl (lv_room (Nat.le_of_ble_eq_true rfl)) dX3_parseLine_48 ⟨Nat.zero_le _, Nat.zero_le _⟩ (yT0.blind) (yT0.go hT hA0 hA G) (fun T116 H locs hq G => ?_)
        rw [hq] at G
        clear hq eT115
        refine lv_goto (tgt := 209) hx hb dX3_parseLine_51 (by decide) ?_
        have hl := lv_sub hl [] rfl
        exact x_X3_parseLine_b209 E hA hX hN hml hA0 hT trivial hst htab hlocks (fun H locs t G hvm h1 h2 => ⟨T1, trivial, ⟨⟨rfl, rfl⟩, (c_thrown G hK hvm h1 h2).1⟩, (c_thrown G hK hvm h1 h2).2⟩) _ _ _ _ h G hl
    · have h := oif_neg c15 h
      refine lv_aload_n hx hb dX3_parseLine_26 rfl (lv_at hl 0 rfl) ?_
      refine lv_aload_n hx hb dX3_parseLine_27 rfl (lv_at hl 1 rfl) ?_
      obtain ⟨g119, h⟩ := oif_some h
      obtain ⟨n120, en120, h⟩ := obind_some h
      refine c_get E G a0 6 (v := .ref (ad n120)) (oO_k g119).1 (cc_o6 (oO_k g119).2) rfl (fun w h => .tail _ (iA_14 h)) (by decide) (.tail _ qA_179) rfl (by rw [en120]; rfl) dX3_parseLine_28 ?_
      clear en120
      obtain ⟨g121, h⟩ := oif_some h
      rcases othr_t h with ⟨r0, eT122⟩ | ⟨r124, T122, eT122, h⟩
      · refine q_xvv (As := [.ref (ad n120)]) (rest := []) E G hA hX hN hml (x_X3_parseMap l hst D cI cJ cZ cMic cSrc cSt cAI cAJ ad T11 o n120 eT122) (cwV 1 hts (gaV qA_329 qA_330 qA_331 qA_222 qA_332) rfl rfl rfl (by decide +kernel) ⟨Nat.le_of_ble_eq_true rfl, Nat.le_of_ble_eq_true rfl⟩) (oO_k g121).1 (cc_o3 (oO_k g121).2) rfl rfl hl.1 rfl (lv_room (Nat.le_of_ble_eq_true rfl)) dX3_parseLine_31 ⟨Nat.le_of_ble_eq_true rfl, Nat.le_of_ble_eq_true rfl⟩ (fun E9 ce q9 T9 H locs hp G hce hcv hcl => ?_)
        obtain ⟨hE, hT⟩ := hp
        subst hE
        rw [hT] at G
        exact vx_out (fun x hx => (htab x hx).elim) hlocks hce hcv hcl (fun t ht hvm => ⟨T1, trivial, ⟨⟨rfl, rfl⟩, by rw [ht]; exact G.1, va_K.moved hvm hK, G.2.1⟩, G.2.2.F ht⟩) G.2.2.2.2 (Nat.le_refl _) (Nat.le_refl _)
      refine q_cvv (As := [.ref (ad n120)]) (rest := []) E G hA hX hN hml (u_X3_parseMap l hst D cI cJ cZ cMic cSrc cSt cAI cAJ ad T11 o n120 eT122) (cwV 1 hts (gaV qA_329 qA_330 qA_331 qA_222 qA_332) rfl rfl rfl (by decide +kernel) ⟨Nat.le_of_ble_eq_true rfl, Nat.le_of_ble_eq_true rfl⟩) (oO_k g121).1 (cc_o3 (oO_k g121).2) rfl rfl hl.1 rfl (lv_room (Nat.le_of_ble_eq_true rfl)) dX3_parseLine_31 ⟨Nat.zero_le _, Nat.zero_le _⟩ (fun T123 H locs hq G => ?_)
      rw [hq] at G
      clear hq eT122
      refine lv_goto (tgt := 209) hx hb dX3_parseLine_34 (by decide) ?_
      have hl := lv_sub hl [] rfl
      exact x_X3_parseLine_b209 E hA hX hN hml hA0 hT trivial hst htab hlocks (fun H locs t G hvm h1 h2 => ⟨T1, trivial, ⟨⟨rfl, rfl⟩, (c_thrown G hK hvm h1 h2).1⟩, (c_thrown G hK hvm h1 h2).2⟩) _ _ _ _ h G hl
  · have h := oif_neg c8 h
    refine lv_aload_n hx hb dX3_parseLine_9 rfl (lv_at hl 0 rfl) ?_
    refine lv_aload_n hx hb dX3_parseLine_10 rfl (lv_at hl 1 rfl) ?_
    obtain ⟨g126, h⟩ := oif_some h
    rcases othr_t h with ⟨r0, eT127⟩ | ⟨r129, T127, eT127, h⟩
    · refine q_xvv (As := [.ref (ad a0)]) (rest := []) E G hA hX hN hml (x_X3_parseMic l hst D cI cJ cZ cMic cSrc cSt cAI cAJ ad T4 o a0 eT127) (cwV 1 hts (gaV qA_312 qA_313 qA_314 qA_222 qA_315) rfl rfl rfl (by decide +kernel) ⟨Nat.le_of_ble_eq_true rfl, Nat.le_of_ble_eq_true rfl⟩) (oO_k g126).1 (cc_o3 (oO_k g126).2) rfl rfl hl.1 rfl (lv_room (Nat.le_of_ble_eq_true rfl)) dX3_parseLine_11 ⟨Nat.le_of_ble_eq_true rfl, Nat.le_of_ble_eq_true rfl⟩ (fun E9 ce q9 T9 H locs hp G hce hcv hcl => ?_)
      obtain ⟨hE, hT⟩ := hp
      subst hE
      rw [hT] at G
      exact vx_out (fun x hx => (htab x hx).elim) hlocks hce hcv hcl (fun t ht hvm => ⟨T1, trivial, ⟨⟨rfl, rfl⟩, by rw [ht]; exact G.1, va_K.moved hvm hK, G.2.1⟩, G.2.2.F ht⟩) G.2.2.2.2 (Nat.le_refl _) (Nat.le_refl _)
    refine q_cvv (As := [.ref (ad a0)]) (rest := []) E G hA hX hN hml (u_X3_parseMic l hst D cI cJ cZ cMic cSrc cSt cAI cAJ ad T4 o a0 eT127) (cwV 1 hts (gaV qA_312 qA_313 qA_314 qA_222 qA_315) rfl rfl rfl (by decide +kernel) ⟨Nat.le_of_ble_eq_true rfl, Nat.le_of_ble_eq_true rfl⟩) (oO_k g126).1 (cc_o3 (oO_k g126).2) rfl rfl hl.1 rfl (lv_room (Nat.le_of_ble_eq_true rfl)) dX3_parseLine_11 ⟨Nat.zero_le _, Nat.zero_le _⟩ (fun T128 H locs hq G => ?_)
    rw [hq] at G
    clear hq eT127
    refine lv_goto (tgt := 209) hx hb dX3_parseLine_14 (by decide) ?_
    have hl := lv_sub hl [] rfl
    exact x_X3_parseLine_b209 E hA hX hN hml hA0 hT trivial hst htab hlocks (fun H locs t G hvm h1 h2 => ⟨T1, trivial, ⟨⟨rfl, rfl⟩, (c_thrown G hK hvm h1 h2).1⟩, (c_thrown G hK hvm h1 h2).2⟩) _ _ _ _ h G hl
def g_X3_parse_b107  (T : AT) (l0 : Nat) : Option (Nat × Int32 × AT) := oif (oO T l0 3 = true) <| elet (uI T l0 2 0) fun T3 => oif (oO T3 l0 3 = true) <| elet (uI T3 l0 3 (-1)) fun T5 => some (0, 0, T5)
set_option maxHeartbeats 4000000 in
set_option maxRecDepth 100000 in
theorem u_X3_parse_b107 {p : Program} {l : Launch} {e : Env} {s : State} {m : MethodId} {args : Array Value} {below : List Frame} {meth : Method} {c : Code} {Q : State → Prop} {D : va_G} {A : Nat → Prop} {cI cJ cZ cMic cSrc cSt cAI cAJ : ClassId} {ad : Nat → Nat} {r1 : Int32} {T1 : AT} (E : cE p c cX3_parse s m args (Cond.code yX3_parse cX3_parse 4 none :: wsA) D RX3 (CT cI cJ cZ cMic cSrc cSt cAI cAJ)) (hA : ∀ q : Nat, s.heap.size ≤ q → A q) (hX : xT A s) (hN : nX s) (hml : c.maxLocals = 4) (hst : l.stackTraces = false) {h0 : Nat} (hA0 : ∀ a : Nat, A a → h0 ≤ a) (hT : sAll h0 s) (kr117 : ∀ (H : Heap) (locs : List Loc) (ls : Array Slot), gC cI cJ cZ cMic cSrc cSt cAI cAJ D ad A s.heap H locs T1 → W p l e { frames := 11, cells := 0, slots := 0, locals := 192 } s m args below meth c H locs 0 0 Q (F0 m 117 ls [])) : ∀ (T : AT) (H : Heap) (locs : List Loc) (ls : Array Slot) (l0 : Nat), g_X3_parse_b107 T l0 = some (0, r1, T1) → gC cI cJ cZ cMic cSrc cSt cAI cAJ D ad A s.heap H locs T → lv_has ls 4 [(0, .ref (ad l0))] → W p l e { frames := 11, cells := 0, slots := 0, locals := 192 } s m args below meth c H locs 0 0 Q (F0 m 107 ls []) := by
  have hx := E.1
  have hb := E.2.1
  have hts := E.2.2.1
  have hown := E.2.2.2.1
  have hK := E.2.2.2.2
  intro T H locs ls l0 h G hl
  unfold g_X3_parse_b107 at h
  refine lv_aload_n hx hb dX3_parse_107 rfl (lv_at hl 0 rfl) ?_
  refine lv_iconst (v := 0) hx hb dX3_parse_108 (by decide) ?_
  obtain ⟨g2, h⟩ := oif_some h
  refine c_put E G l0 2 (v := .int 0) (oO_k g2).1 (cc_o3 (oO_k g2).2) rfl (fun w h => .tail _ (iA_17 h)) tyX3 tyX3_ok nmX3 (by decide) (.tail _ qA_181) ⟨rfl, rfl, rfl⟩ rfl rfl (Nat.le_of_ble_eq_true rfl) dX3_parse_109 (fun H locs G => ?_)
  have G := gC_up_i (f := upd (T.2.2.1 l0) 2 0) (by rw [(oO_k g2).2]; rfl) G
  obtain ⟨T3, eT3, h⟩ := elet_some h
  have G : gC cI cJ cZ cMic cSrc cSt cAI cAJ D ad A s.heap H locs T3 := by rw [eT3]; exact G
  clear eT3
  refine lv_aload_n hx hb dX3_parse_112 rfl (lv_at hl 0 rfl) ?_
  refine lv_iconst (v := (-1)) hx hb dX3_parse_113 (by decide) ?_
  obtain ⟨g4, h⟩ := oif_some h
  refine c_put E G l0 3 (v := .int (-1)) (oO_k g4).1 (cc_o3 (oO_k g4).2) rfl (fun w h => .tail _ (iA_17 h)) tyX3 tyX3_ok nmX3 (by decide) (.tail _ qA_173) ⟨rfl, rfl, rfl⟩ rfl rfl (Nat.le_of_ble_eq_true rfl) dX3_parse_114 (fun H locs G => ?_)
  have G := gC_up_i (f := upd (T3.2.2.1 l0) 3 (-1)) (by rw [(oO_k g4).2]; rfl) G
  obtain ⟨T5, eT5, h⟩ := elet_some h
  have G : gC cI cJ cZ cMic cSrc cSt cAI cAJ D ad A s.heap H locs T5 := by rw [eT5]; exact G
  clear eT5
  rw [(osome3 h).2.2] at G
  exact kr117 _ _ _ G
def g_X3_parse_b98  (T : AT) (l0 : Nat) : Option (Nat × Int32 × AT) := oif (oO T l0 3 = true) <| elet (T.2.2.1 l0 1) fun v3 => oif (oO T l0 3 = true) <| othr (g_X3_failAt T l0 v3 (5 : Int32)) 0 fun r7 T5 => g_X3_parse_b107 T5 l0
set_option maxHeartbeats 4000000 in
set_option maxRecDepth 100000 in
theorem u_X3_parse_b98 {p : Program} {l : Launch} {e : Env} {s : State} {m : MethodId} {args : Array Value} {below : List Frame} {meth : Method} {c : Code} {Q : State → Prop} {D : va_G} {A : Nat → Prop} {cI cJ cZ cMic cSrc cSt cAI cAJ : ClassId} {ad : Nat → Nat} {r1 : Int32} {T1 : AT} (E : cE p c cX3_parse s m args (Cond.code yX3_parse cX3_parse 4 none :: wsA) D RX3 (CT cI cJ cZ cMic cSrc cSt cAI cAJ)) (hA : ∀ q : Nat, s.heap.size ≤ q → A q) (hX : xT A s) (hN : nX s) (hml : c.maxLocals = 4) (hst : l.stackTraces = false) {h0 : Nat} (hA0 : ∀ a : Nat, A a → h0 ≤ a) (hT : sAll h0 s) (kr117 : ∀ (H : Heap) (locs : List Loc) (ls : Array Slot), gC cI cJ cZ cMic cSrc cSt cAI cAJ D ad A s.heap H locs T1 → W p l e { frames := 11, cells := 0, slots := 0, locals := 192 } s m args below meth c H locs 0 0 Q (F0 m 117 ls [])) : ∀ (T : AT) (H : Heap) (locs : List Loc) (ls : Array Slot) (l0 : Nat), g_X3_parse_b98 T l0 = some (0, r1, T1) → gC cI cJ cZ cMic cSrc cSt cAI cAJ D ad A s.heap H locs T → lv_has ls 4 [(0, .ref (ad l0))] → W p l e { frames := 11, cells := 0, slots := 0, locals := 192 } s m args below meth c H locs 0 0 Q (F0 m 98 ls []) := by
  have hx := E.1
  have hb := E.2.1
  have hts := E.2.2.1
  have hown := E.2.2.2.1
  have hK := E.2.2.2.2
  intro T H locs ls l0 h G hl
  unfold g_X3_parse_b98 at h
  refine lv_aload_n hx hb dX3_parse_98 rfl (lv_at hl 0 rfl) ?_
  refine lv_aload_n hx hb dX3_parse_99 rfl (lv_at hl 0 rfl) ?_
  obtain ⟨g2, h⟩ := oif_some h
  refine c_get E G l0 1 (oO_k g2).1 (cc_o3 (oO_k g2).2) rfl (fun w h => .tail _ (iA_17 h)) (by decide) (.tail _ qA_176) rfl rfl dX3_parse_100 ?_
  refine lv_topi (fun v3 ev3 => ?_)
  have h := elet_at ev3 h
  clear ev3
  refine lv_iconst (v := 5) hx hb dX3_parse_103 (by decide) ?_
  obtain ⟨g4, h⟩ := oif_some h
  obtain ⟨r7, T5, eT5, h⟩ := othr_n h
  refine q_cvv (As := [.int v3, .int 5]) (rest := []) E G hA hX hN hml (u_X3_failAt l hst D cI cJ cZ cMic cSrc cSt cAI cAJ ad T l0 v3 (5 : Int32) eT5) (cwV 2 hts (gaV qA_293 qA_294 qA_295 qA_222 qA_296) rfl rfl rfl (by decide +kernel) ⟨Nat.le_of_ble_eq_true rfl, Nat.le_of_ble_eq_true rfl⟩) (oO_k g4).1 (cc_o3 (oO_k g4).2) rfl rfl hl.1 rfl (lv_room (Nat.le_of_ble_eq_true rfl)) dX3_parse_104 ⟨Nat.zero_le _, Nat.zero_le _⟩ (fun T6 H locs hq G => ?_)
  rw [hq] at G
  clear hq eT5
  have hl := lv_sub hl [0] rfl
  exact u_X3_parse_b107 E hA hX hN hml hst hA0 hT kr117 _ _ _ _ _ h G hl
def g_X3_parse_b81  (T : AT) (l0 : Nat) (l2 : Nat) : Option (Nat × Int32 × AT) := oif (oO T l2 6 = true) <| elet (T.2.2.1 l2 5) fun v3 => if v3 = 0 then (g_X3_parse_b98 T l0) else (oif (oO T l2 6 = true) <| obind (T.2.2.2.2 l2 6) fun n6 => oif (oO T n6 1 = true) <| elet (T.2.2.1 n6 3) fun v8 => if v8 = 0 then (g_X3_parse_b98 T l0) else (g_X3_parse_b107 T l0))
set_option maxHeartbeats 4000000 in
set_option maxRecDepth 100000 in
theorem u_X3_parse_b81 {p : Program} {l : Launch} {e : Env} {s : State} {m : MethodId} {args : Array Value} {below : List Frame} {meth : Method} {c : Code} {Q : State → Prop} {D : va_G} {A : Nat → Prop} {cI cJ cZ cMic cSrc cSt cAI cAJ : ClassId} {ad : Nat → Nat} {r1 : Int32} {T1 : AT} (E : cE p c cX3_parse s m args (Cond.code yX3_parse cX3_parse 4 none :: wsA) D RX3 (CT cI cJ cZ cMic cSrc cSt cAI cAJ)) (hA : ∀ q : Nat, s.heap.size ≤ q → A q) (hX : xT A s) (hN : nX s) (hml : c.maxLocals = 4) (hst : l.stackTraces = false) {h0 : Nat} (hA0 : ∀ a : Nat, A a → h0 ≤ a) (hT : sAll h0 s) (kr117 : ∀ (H : Heap) (locs : List Loc) (ls : Array Slot), gC cI cJ cZ cMic cSrc cSt cAI cAJ D ad A s.heap H locs T1 → W p l e { frames := 11, cells := 0, slots := 0, locals := 192 } s m args below meth c H locs 0 0 Q (F0 m 117 ls [])) : ∀ (T : AT) (H : Heap) (locs : List Loc) (ls : Array Slot) (l0 : Nat) (l2 : Nat), g_X3_parse_b81 T l0 l2 = some (0, r1, T1) → gC cI cJ cZ cMic cSrc cSt cAI cAJ D ad A s.heap H locs T → lv_has ls 4 [(0, .ref (ad l0)), (2, .ref (ad l2))] → W p l e { frames := 11, cells := 0, slots := 0, locals := 192 } s m args below meth c H locs 0 0 Q (F0 m 81 ls []) := by
  have hx := E.1
  have hb := E.2.1
  have hts := E.2.2.1
  have hown := E.2.2.2.1
  have hK := E.2.2.2.2
  intro T H locs ls l0 l2 h G hl
  unfold g_X3_parse_b81 at h
  refine lv_aload_n hx hb dX3_parse_81 rfl (lv_at hl 1 rfl) ?_
  obtain ⟨g2, h⟩ := oif_some h
  refine c_get E G l2 5 (oO_k g2).1 (cc_o6 (oO_k g2).2) rfl (fun w h => .tail _ (iA_14 h)) (by decide) (.tail _ qA_178) rfl rfl dX3_parse_82 ?_
  refine lv_topi (fun v3 ev3 => ?_)
  have h := elet_at ev3 h
  clear ev3
  refine lv_if_eq (tgt := 98) hx hb dX3_parse_85 (by decide) (fun c4 => ?_) (fun c4 => ?_)
  · have h := oif_pos c4 h
    have hl := lv_sub hl [0] rfl
    exact u_X3_parse_b98 E hA hX hN hml hst hA0 hT kr117 _ _ _ _ _ h G hl
  · have h := oif_neg c4 h
    refine lv_aload_n hx hb dX3_parse_88 rfl (lv_at hl 1 rfl) ?_
    obtain ⟨g5, h⟩ := oif_some h
    obtain ⟨n6, en6, h⟩ := obind_some h
    refine c_get E G l2 6 (v := .ref (ad n6)) (oO_k g5).1 (cc_o6 (oO_k g5).2) rfl (fun w h => .tail _ (iA_14 h)) (by decide) (.tail _ qA_179) rfl (by rw [en6]; rfl) dX3_parse_89 ?_
    clear en6
    obtain ⟨g7, h⟩ := oif_some h
    refine c_get E G n6 3 (oO_k g7).1 (cc_o1 (oO_k g7).2) rfl (fun w h => .tail _ (iA_15 h)) (by decide) (.tail _ qA_180) rfl rfl dX3_parse_92 ?_
    refine lv_topi (fun v8 ev8 => ?_)
    have h := elet_at ev8 h
    clear ev8
    refine lv_if_ne (tgt := 107) hx hb dX3_parse_95 (by decide) (fun c9 => ?_) (fun c9 => ?_)
    · have h := oif_neg c9 h
      have hl := lv_sub hl [0] rfl
      exact u_X3_parse_b107 E hA hX hN hml hst hA0 hT kr117 _ _ _ _ _ h G hl
    · have h := oif_pos c9 h
      have hl := lv_sub hl [0] rfl
      exact u_X3_parse_b98 E hA hX hN hml hst hA0 hT kr117 _ _ _ _ _ h G hl
def g_X3_parse_b60 (k24 : AT → Nat → Nat → Int32 → Option (Nat × Int32 × AT)) (T : AT) (l0 : Nat) (l2 : Nat) (l3 : Int32) : Option (Nat × Int32 × AT) := oif (oO T l0 3 = true) <| elet (T.2.2.1 l0 1) fun v3 => elet (v3 + 1) fun v4 => oif (oO T l0 3 = true) <| elet (uI T l0 1 v4) fun T6 => oif (oO T6 l0 3 = true) <| othr (g_X3_parseLine T6 l0 l2) 0 fun r10 T8 => elet (l3 + Int32.ofInt (1)) fun v12 => k24 T8 l0 l2 v12
set_option maxHeartbeats 4000000 in
set_option maxRecDepth 100000 in
theorem u_X3_parse_b60 {p : Program} {l : Launch} {e : Env} {s : State} {m : MethodId} {args : Array Value} {below : List Frame} {meth : Method} {c : Code} {Q : State → Prop} {D : va_G} {A : Nat → Prop} {cI cJ cZ cMic cSrc cSt cAI cAJ : ClassId} {ad : Nat → Nat} {r1 : Int32} {T1 : AT} (E : cE p c cX3_parse s m args (Cond.code yX3_parse cX3_parse 4 none :: wsA) D RX3 (CT cI cJ cZ cMic cSrc cSt cAI cAJ)) (hA : ∀ q : Nat, s.heap.size ≤ q → A q) (hX : xT A s) (hN : nX s) (hml : c.maxLocals = 4) (hst : l.stackTraces = false) {h0 : Nat} (hA0 : ∀ a : Nat, A a → h0 ≤ a) (hT : sAll h0 s) (kr117 : ∀ (H : Heap) (locs : List Loc) (ls : Array Slot), gC cI cJ cZ cMic cSrc cSt cAI cAJ D ad A s.heap H locs T1 → W p l e { frames := 11, cells := 0, slots := 0, locals := 192 } s m args below meth c H locs 0 0 Q (F0 m 117 ls [])) {k24 : AT → Nat → Nat → Int32 → Option (Nat × Int32 × AT)} (hk24 : ∀ (T : AT) (H : Heap) (locs : List Loc) (ls : Array Slot) (l0 : Nat) (l2 : Nat) (l3 : Int32), k24 T l0 l2 l3 = some (0, r1, T1) → gC cI cJ cZ cMic cSrc cSt cAI cAJ D ad A s.heap H locs T → lv_has ls 4 [(0, .ref (ad l0)), (2, .ref (ad l2)), (3, .int l3)] → W p l e { frames := 11, cells := 0, slots := 0, locals := 192 } s m args below meth c H locs 0 0 Q (F0 m 24 ls [])) : ∀ (T : AT) (H : Heap) (locs : List Loc) (ls : Array Slot) (l0 : Nat) (l2 : Nat) (l3 : Int32), g_X3_parse_b60 k24 T l0 l2 l3 = some (0, r1, T1) → gC cI cJ cZ cMic cSrc cSt cAI cAJ D ad A s.heap H locs T → lv_has ls 4 [(0, .ref (ad l0)), (2, .ref (ad l2)), (3, .int l3)] → W p l e { frames := 11, cells := 0, slots := 0, locals := 192 } s m args below meth c H locs 0 0 Q (F0 m 60 ls []) := by
  have hx := E.1
  have hb := E.2.1
  have hts := E.2.2.1
  have hown := E.2.2.2.1
  have hK := E.2.2.2.2
  intro T H locs ls l0 l2 l3 h G hl
  unfold g_X3_parse_b60 at h
  refine lv_aload_n hx hb dX3_parse_60 rfl (lv_at hl 0 rfl) ?_
  refine lv_dup hx hb dX3_parse_61 rfl ?_
  obtain ⟨g2, h⟩ := oif_some h
  refine c_get E G l0 1 (oO_k g2).1 (cc_o3 (oO_k g2).2) rfl (fun w h => .tail _ (iA_17 h)) (by decide) (.tail _ qA_176) rfl rfl dX3_parse_62 ?_
  refine lv_topi (fun v3 ev3 => ?_)
  have h := elet_at ev3 h
  clear ev3
  refine lv_iconst (v := 1) hx hb dX3_parse_65 (by decide) ?_
  refine lv_iadd hx hb dX3_parse_66 ?_
  refine lv_topi (fun v4 ev4 => ?_)
  have h := elet_at ev4 h
  clear ev4
  obtain ⟨g5, h⟩ := oif_some h
  refine c_put E G l0 1 (v := .int v4) (oO_k g5).1 (cc_o3 (oO_k g5).2) rfl (fun w h => .tail _ (iA_17 h)) tyX3 tyX3_ok nmX3 (by decide) (.tail _ qA_176) ⟨rfl, rfl, rfl⟩ rfl rfl (Nat.le_of_ble_eq_true rfl) dX3_parse_67 (fun H locs G => ?_)
  have G := gC_up_i (f := upd (T.2.2.1 l0) 1 v4) (by rw [(oO_k g5).2]; rfl) G
  obtain ⟨T6, eT6, h⟩ := elet_some h
  have G : gC cI cJ cZ cMic cSrc cSt cAI cAJ D ad A s.heap H locs T6 := by rw [eT6]; exact G
  clear eT6
  refine lv_aload_n hx hb dX3_parse_70 rfl (lv_at hl 0 rfl) ?_
  refine lv_aload_n hx hb dX3_parse_71 rfl (lv_at hl 1 rfl) ?_
  obtain ⟨g7, h⟩ := oif_some h
  obtain ⟨r10, T8, eT8, h⟩ := othr_n h
  refine q_cvvX (As := [.ref (ad l2)]) (rest := []) E G hA hX hN hml (u_X3_parseLine l hst D cI cJ cZ cMic cSrc cSt cAI cAJ ad T6 h0 l0 l2 eT8) (cwV 1 hts (gaV qA_307 qA_308 qA_309 qA_222 qA_310) rfl rfl rfl (by decide +kernel) ⟨Nat.le_of_ble_eq_true rfl, Nat.le_of_ble_eq_true rfl⟩) (oO_k g7).1 (cc_o3 (oO_k g7).2) rfl rfl hl.1 rfl (lv_room (Nat.le_of_ble_eq_true rfl)) dX3_parse_72 ⟨Nat.zero_le _, Nat.zero_le _⟩ (yT0.blind) (yT0.go hT hA0 hA G) (fun T9 H locs hq G => ?_)
  rw [hq] at G
  clear hq eT8
  obtain ⟨v12, ev12, h⟩ := elet_some h
  refine lv_iinc (v := v12) (lv' := [(3, .int v12), (0, .ref (ad l0)), (2, .ref (ad l2))]) hx hb dX3_parse_75 hl (k := 2) rfl ev12.symm (by decide) rfl (fun ls hl => ?_)
  refine lv_goto (tgt := 24) hx hb dX3_parse_78 (by decide) ?_
  have hl := lv_sub hl [1, 2, 0] rfl
  exact hk24 _ _ _ _ _ _ _ h G hl
def g_X3_parse_b24  : Nat → AT → Nat → Nat → Int32 → Option (Nat × Int32 × AT)
  | 0, _, _, _, _ => none
  | n + 1, T, l0, l2, l3 => oif (oO T l0 3 = true) <| obind (T.2.2.2.2 l0 0) fun n3 => oif (oO T n3 9 = true) <| elet (T.2.2.1 n3 5) fun v5 => if v5 ≤ l3 then (g_X3_parse_b81 T l0 l2) else (oif (oO T l0 3 = true) <| obind2 (g_X3_kind T l0) fun r10 T8 => if r10 = 5 then (g_X3_parse_b81 T8 l0 l2) else (oif (oO T8 l0 3 = true) <| obind2 (g_X3_kind T8 l0) fun r16 T14 => if r16 = 4 then (g_X3_parse_b60 (g_X3_parse_b24 n) T14 l0 l2 l3) else (oif (oO T14 l0 3 = true) <| elet (T14.2.2.1 l0 1) fun v20 => oif (oO T14 l0 3 = true) <| othr (g_X3_failAt T14 l0 v20 (1 : Int32)) 0 fun r24 T22 => g_X3_parse_b60 (g_X3_parse_b24 n) T22 l0 l2 l3)))
set_option maxHeartbeats 4000000 in
set_option maxRecDepth 100000 in
theorem u_X3_parse_b24 {p : Program} {l : Launch} {e : Env} {s : State} {m : MethodId} {args : Array Value} {below : List Frame} {meth : Method} {c : Code} {Q : State → Prop} {D : va_G} {A : Nat → Prop} {cI cJ cZ cMic cSrc cSt cAI cAJ : ClassId} {ad : Nat → Nat} {r1 : Int32} {T1 : AT} (E : cE p c cX3_parse s m args (Cond.code yX3_parse cX3_parse 4 none :: wsA) D RX3 (CT cI cJ cZ cMic cSrc cSt cAI cAJ)) (hA : ∀ q : Nat, s.heap.size ≤ q → A q) (hX : xT A s) (hN : nX s) (hml : c.maxLocals = 4) (hst : l.stackTraces = false) {h0 : Nat} (hA0 : ∀ a : Nat, A a → h0 ≤ a) (hT : sAll h0 s) (kr117 : ∀ (H : Heap) (locs : List Loc) (ls : Array Slot), gC cI cJ cZ cMic cSrc cSt cAI cAJ D ad A s.heap H locs T1 → W p l e { frames := 11, cells := 0, slots := 0, locals := 192 } s m args below meth c H locs 0 0 Q (F0 m 117 ls [])) : ∀ n : Nat, ∀ (T : AT) (H : Heap) (locs : List Loc) (ls : Array Slot) (l0 : Nat) (l2 : Nat) (l3 : Int32), g_X3_parse_b24 n T l0 l2 l3 = some (0, r1, T1) → gC cI cJ cZ cMic cSrc cSt cAI cAJ D ad A s.heap H locs T → lv_has ls 4 [(0, .ref (ad l0)), (2, .ref (ad l2)), (3, .int l3)] → W p l e { frames := 11, cells := 0, slots := 0, locals := 192 } s m args below meth c H locs 0 0 Q (F0 m 24 ls []) := by
  have hx := E.1
  have hb := E.2.1
  have hts := E.2.2.1
  have hown := E.2.2.2.1
  have hK := E.2.2.2.2
  intro n
  induction n with
  | zero =>
    intro T H locs ls l0 l2 l3 h
    have h : (none : Option (Nat × Int32 × AT)) = some (0, r1, T1) := h
    cases h
  | succ n ih =>
    intro T H locs ls l0 l2 l3 h G hl
    unfold g_X3_parse_b24 at h
    refine lv_iload_n hx hb dX3_parse_24 rfl (lv_at hl 2 rfl) ?_
    refine lv_aload_n hx hb dX3_parse_25 rfl (lv_at hl 0 rfl) ?_
    obtain ⟨g2, h⟩ := oif_some h
    obtain ⟨n3, en3, h⟩ := obind_some h
    refine c_get E G l0 0 (v := .ref (ad n3)) (oO_k g2).1 (cc_o3 (oO_k g2).2) rfl (fun w h => .tail _ (iA_17 h)) (by decide) (.tail _ qA_174) rfl (by rw [en3]; rfl) dX3_parse_26 ?_
    clear en3
    obtain ⟨g4, h⟩ := oif_some h
    refine c_get E G n3 5 (oO_k g4).1 (cc_o9 (oO_k g4).2) rfl (fun w h => .tail _ (iA_18 h)) (by decide) (.tail _ qA_177) rfl rfl dX3_parse_29 ?_
    refine lv_topi (fun v5 ev5 => ?_)
    have h := elet_at ev5 h
    clear ev5
    refine lv_icmp_ge (tgt := 81) hx hb dX3_parse_32 (by decide) (fun c6 => ?_) (fun c6 => ?_)
    · have h := oif_pos c6 h
      have hl := lv_sub hl [0, 1] rfl
      exact u_X3_parse_b81 E hA hX hN hml hst hA0 hT kr117 _ _ _ _ _ _ h G hl
    · have h := oif_neg c6 h
      refine lv_aload_n hx hb dX3_parse_35 rfl (lv_at hl 0 rfl) ?_
      obtain ⟨g7, h⟩ := oif_some h
      obtain ⟨r10, T8, eT8, h⟩ := obind2_some h
      refine q_cvi (As := []) (rest := []) E G hA hX hN hml (u_X3_kind l hst D cI cJ cZ cMic cSrc cSt cAI cAJ ad T l0 eT8) (cwV 0 hts (gaV qA_239 qA_240 qA_241 qA_222 qA_242) rfl rfl rfl (by decide +kernel) ⟨Nat.le_of_ble_eq_true rfl, Nat.le_of_ble_eq_true rfl⟩) (oO_k g7).1 (cc_o3 (oO_k g7).2) rfl rfl hl.1 rfl (lv_room (Nat.le_of_ble_eq_true rfl)) dX3_parse_36 ⟨Nat.zero_le _, Nat.zero_le _⟩ (fun q11 T9 H locs hq G => ?_)
      obtain ⟨hq1, hq2⟩ := hq
      rw [hq2] at G
      refine lv_to hq1 ?_
      clear hq1 hq2 eT8
      refine lv_iconst (v := 5) hx hb dX3_parse_39 (by decide) ?_
      refine lv_icmp_eq (tgt := 81) hx hb dX3_parse_40 (by decide) (fun c12 => ?_) (fun c12 => ?_)
      · have h := oif_pos c12 h
        have hl := lv_sub hl [0, 1] rfl
        exact u_X3_parse_b81 E hA hX hN hml hst hA0 hT kr117 _ _ _ _ _ _ h G hl
      · have h := oif_neg c12 h
        refine lv_aload_n hx hb dX3_parse_43 rfl (lv_at hl 0 rfl) ?_
        obtain ⟨g13, h⟩ := oif_some h
        obtain ⟨r16, T14, eT14, h⟩ := obind2_some h
        refine q_cvi (As := []) (rest := []) E G hA hX hN hml (u_X3_kind l hst D cI cJ cZ cMic cSrc cSt cAI cAJ ad T8 l0 eT14) (cwV 0 hts (gaV qA_239 qA_240 qA_241 qA_222 qA_242) rfl rfl rfl (by decide +kernel) ⟨Nat.le_of_ble_eq_true rfl, Nat.le_of_ble_eq_true rfl⟩) (oO_k g13).1 (cc_o3 (oO_k g13).2) rfl rfl hl.1 rfl (lv_room (Nat.le_of_ble_eq_true rfl)) dX3_parse_44 ⟨Nat.zero_le _, Nat.zero_le _⟩ (fun q17 T15 H locs hq G => ?_)
        obtain ⟨hq1, hq2⟩ := hq
        rw [hq2] at G
        refine lv_to hq1 ?_
        clear hq1 hq2 eT14
        refine lv_iconst (v := 4) hx hb dX3_parse_47 (by decide) ?_
        refine lv_icmp_eq (tgt := 60) hx hb dX3_parse_48 (by decide) (fun c18 => ?_) (fun c18 => ?_)
        · have h := oif_pos c18 h
          have hl := lv_sub hl [0, 1, 2] rfl
          exact u_X3_parse_b60 E hA hX hN hml hst hA0 hT kr117 ih _ _ _ _ _ _ _ h G hl
        · have h := oif_neg c18 h
          refine lv_aload_n hx hb dX3_parse_51 rfl (lv_at hl 0 rfl) ?_
          refine lv_aload_n hx hb dX3_parse_52 rfl (lv_at hl 0 rfl) ?_
          obtain ⟨g19, h⟩ := oif_some h
          refine c_get E G l0 1 (oO_k g19).1 (cc_o3 (oO_k g19).2) rfl (fun w h => .tail _ (iA_17 h)) (by decide) (.tail _ qA_176) rfl rfl dX3_parse_53 ?_
          refine lv_topi (fun v20 ev20 => ?_)
          have h := elet_at ev20 h
          clear ev20
          refine lv_iconst (v := 1) hx hb dX3_parse_56 (by decide) ?_
          obtain ⟨g21, h⟩ := oif_some h
          obtain ⟨r24, T22, eT22, h⟩ := othr_n h
          refine q_cvv (As := [.int v20, .int 1]) (rest := []) E G hA hX hN hml (u_X3_failAt l hst D cI cJ cZ cMic cSrc cSt cAI cAJ ad T14 l0 v20 (1 : Int32) eT22) (cwV 2 hts (gaV qA_293 qA_294 qA_295 qA_222 qA_296) rfl rfl rfl (by decide +kernel) ⟨Nat.le_of_ble_eq_true rfl, Nat.le_of_ble_eq_true rfl⟩) (oO_k g21).1 (cc_o3 (oO_k g21).2) rfl rfl hl.1 rfl (lv_room (Nat.le_of_ble_eq_true rfl)) dX3_parse_57 ⟨Nat.zero_le _, Nat.zero_le _⟩ (fun T23 H locs hq G => ?_)
          rw [hq] at G
          clear hq eT22
          have hl := lv_sub hl [0, 1, 2] rfl
          exact u_X3_parse_b60 E hA hX hN hml hst hA0 hT kr117 ih _ _ _ _ _ _ _ h G hl
def g_X3_parse (T : AT) (o : Nat) (a0 : Int32) (a1 : Nat) : Option (Nat × Int32 × AT) := oif (oO T o 3 = true) <| obind (T.2.2.2.2 o 0) fun n3 => oif (oO T n3 9 = true) <| obind (g_X9_cut T n3 a0) fun T5 => oif (oO T5 o 3 = true) <| elet (uI T5 o 1 0) fun T8 => oif (oO T8 a1 6 = true) <| obind (g_X6_clear T8 a1) fun T10 => oif (oO T10 o 3 = true) <| othr (g_X3_parseHead T10 o a1) 0 fun r15 T13 => g_X3_parse_b24 16384 T13 o a1 0
set_option maxHeartbeats 4000000 in
set_option maxRecDepth 100000 in
theorem u_X3_parse (l : Launch) (hst : l.stackTraces = false) (D : va_G) (cI cJ cZ cMic cSrc cSt cAI cAJ : ClassId) (ad : Nat → Nat) (T : AT) (h0 : Nat) (o : Nat) (a0 : Int32) (a1 : Nat) {r1 : Int32} {T1 : AT} (h : g_X3_parse T o a0 a1 = some (0, r1, T1)) : kCvX l yX3_parse (Cond.code yX3_parse cX3_parse 4 none :: wsA) 11 192 cI cJ cZ cMic cSrc cSt cAI cAJ D ad T [.ref (ad o), .int a0, .ref (ad a1)] (yT0 cI cJ cZ cMic cSrc cSt cAI cAJ h0 ad T) (fun T9 => T9 = T1) := by
  intro sz
  refine Met.ofW (cc := cX3_parse) (maxL := 4) (ret := none) (by decide) rfl ?_
  intro p e s m args below meth c s₁ B hml hv
  obtain ⟨rfl, ⟨hsz, hP, hK, hD0, hX, hN⟩, hA1, hT⟩ := hv
  have hx := B.exec
  have hb := B.bytes
  have hr := B.returns
  have hts := atoms_spec (ws := (Cond.code yX3_parse cX3_parse 4 none :: wsA)) B.pre
  have hown : s.vm.findClass RX3 = some m.cls := findClass_of_methodNamed B.named
  have hlocks := B.notSynchronized
  subst hsz
  have hD := hD0.self (sz := s.heap.size)
  generalize hAe : va_A (cW ad T.1 (cc cI cJ cZ cMic cSrc cSt cAI cAJ ad T)) s.heap.size = A at hD hX hA1 ⊢
  have hA : ∀ q : Nat, s.heap.size ≤ q → A q := fun q h => by rw [← hAe]; exact Or.inr h
  have G : gC cI cJ cZ cMic cSrc cSt cAI cAJ D ad A s.heap s.heap [] T := ⟨hP, hD, va_S.rf⟩
  have E : cE p c cX3_parse s m ([.ref (ad o), .int a0, .ref (ad a1)] : List Value).toArray (Cond.code yX3_parse cX3_parse 4 none :: wsA) D RX3 (CT cI cJ cZ cMic cSrc cSt cAI cAJ) := ⟨hx, hb, hts, hown, hK⟩
  have hA0 : ∀ a : Nat, A a → h0 ≤ a := hA1
  have hl := lv_entry ([.ref (ad o), .int a0, .ref (ad a1)]) (n := 4) (Nat.le_of_ble_eq_true rfl)
  rw [lg_entry_eq]
  generalize (lg_sl ([.ref (ad o), .int a0, .ref (ad a1)]) ++ List.replicate (4 - (lg_sl ([.ref (ad o), .int a0, .ref (ad a1)])).length) Slot.unset).toArray = ls at hl ⊢
  have hl : lv_has ls 4 [(0, .ref (ad o)), (1, .int a0), (2, .ref (ad a1))] := hl
  unfold g_X3_parse at h
  refine lv_aload_n hx hb dX3_parse_0 rfl (lv_at hl 0 rfl) ?_
  obtain ⟨g2, h⟩ := oif_some h
  obtain ⟨n3, en3, h⟩ := obind_some h
  refine c_get E G o 0 (v := .ref (ad n3)) (oO_k g2).1 (cc_o3 (oO_k g2).2) rfl (fun w h => .tail _ (iA_17 h)) (by decide) (.tail _ qA_174) rfl (by rw [en3]; rfl) dX3_parse_1 ?_
  clear en3
  refine lv_iload_n hx hb dX3_parse_4 rfl (lv_at hl 1 rfl) ?_
  obtain ⟨g4, h⟩ := oif_some h
  obtain ⟨T5, eT5, h⟩ := obind_some h
  refine q_cvv (As := [.int a0]) (rest := []) E G hA hX hN hml (u_X9_cut l hst D cI cJ cZ cMic cSrc cSt cAI cAJ ad T n3 a0 eT5) (cwV 1 hts (gaV qA_182 qA_183 qA_184 qA_185 qA_186) rfl rfl rfl (by decide +kernel) ⟨Nat.le_of_ble_eq_true rfl, Nat.le_of_ble_eq_true rfl⟩) (oO_k g4).1 (cc_o9 (oO_k g4).2) rfl rfl hl.1 rfl (lv_room (Nat.le_of_ble_eq_true rfl)) dX3_parse_5 ⟨Nat.zero_le _, Nat.zero_le _⟩ (fun T6 H locs hq G => ?_)
  rw [hq] at G
  clear hq eT5
  refine lv_aload_n hx hb dX3_parse_8 rfl (lv_at hl 0 rfl) ?_
  refine lv_iconst (v := 0) hx hb dX3_parse_9 (by decide) ?_
  obtain ⟨g7, h⟩ := oif_some h
  refine c_put E G o 1 (v := .int 0) (oO_k g7).1 (cc_o3 (oO_k g7).2) rfl (fun w h => .tail _ (iA_17 h)) tyX3 tyX3_ok nmX3 (by decide) (.tail _ qA_176) ⟨rfl, rfl, rfl⟩ rfl rfl (Nat.le_of_ble_eq_true rfl) dX3_parse_10 (fun H locs G => ?_)
  have G := gC_up_i (f := upd (T5.2.2.1 o) 1 0) (by rw [(oO_k g7).2]; rfl) G
  obtain ⟨T8, eT8, h⟩ := elet_some h
  have G : gC cI cJ cZ cMic cSrc cSt cAI cAJ D ad A s.heap H locs T8 := by rw [eT8]; exact G
  clear eT8
  refine lv_aload_n hx hb dX3_parse_13 rfl (lv_at hl 2 rfl) ?_
  obtain ⟨g9, h⟩ := oif_some h
  obtain ⟨T10, eT10, h⟩ := obind_some h
  refine q_cvv (As := []) (rest := []) E G hA hX hN hml (u_X6_clear l hst D cI cJ cZ cMic cSrc cSt cAI cAJ ad T8 a1 eT10) (cwV 0 hts (gaV qA_204 qA_205 qA_206 qA_207 qA_208) rfl rfl rfl (by decide +kernel) ⟨Nat.le_of_ble_eq_true rfl, Nat.le_of_ble_eq_true rfl⟩) (oO_k g9).1 (cc_o6 (oO_k g9).2) rfl rfl hl.1 rfl (lv_room (Nat.le_of_ble_eq_true rfl)) dX3_parse_14 ⟨Nat.zero_le _, Nat.zero_le _⟩ (fun T11 H locs hq G => ?_)
  rw [hq] at G
  clear hq eT10
  refine lv_aload_n hx hb dX3_parse_17 rfl (lv_at hl 0 rfl) ?_
  refine lv_aload_n hx hb dX3_parse_18 rfl (lv_at hl 2 rfl) ?_
  obtain ⟨g12, h⟩ := oif_some h
  obtain ⟨r15, T13, eT13, h⟩ := othr_n h
  refine q_cvvX (As := [.ref (ad a1)]) (rest := []) E G hA hX hN hml (u_X3_parseHead l hst D cI cJ cZ cMic cSrc cSt cAI cAJ ad T10 h0 o a1 eT13) (cwV 1 hts (gaV qA_219 qA_220 qA_221 qA_222 qA_223) rfl rfl rfl (by decide +kernel) ⟨Nat.le_of_ble_eq_true rfl, Nat.le_of_ble_eq_true rfl⟩) (oO_k g12).1 (cc_o3 (oO_k g12).2) rfl rfl hl.1 rfl (lv_room (Nat.le_of_ble_eq_true rfl)) dX3_parse_19 ⟨Nat.zero_le _, Nat.zero_le _⟩ (yT0.blind) (yT0.go hT hA0 hA G) (fun T14 H locs hq G => ?_)
  rw [hq] at G
  clear hq eT13
  refine lv_iconst (v := 0) hx hb dX3_parse_22 (by decide) ?_
  refine lv_istore_n (lv' := [(3, .int 0), (0, .ref (ad o)), (1, .int a0), (2, .ref (ad a1))]) hx hb dX3_parse_23 rfl hl (by decide) rfl (fun ls hl => ?_)
  have hl := lv_sub hl [1, 3, 0] rfl
  exact u_X3_parse_b24 E hA hX hN hml hst hA0 hT (fun H locs ls G => W.vret hx hb hr (fun t ht hW => ⟨⟨T1, rfl, rfl, ⟨by rw [ht]; exact G.1, va_K.moved hW.alike hK, G.2.1⟩⟩, G.2.2.F ht⟩) G.2.2.2.2 dX3_parse_117) _ _ _ _ _ _ _ _ h G hl
set_option maxHeartbeats 4000000 in
set_option maxRecDepth 100000 in
theorem s_X3_parse_b107 {e1 : Nat} {r1 : Int32} {T1 : AT} : ∀ (T : AT) (l0 : Nat), g_X3_parse_b107 T l0 = some (e1, r1, T1) → SP T T1 := by
  intro T l0 h
  have p0 := SP.rf T
  unfold g_X3_parse_b107 at h
  obtain ⟨g2, h⟩ := oif_some h
  obtain ⟨T3, eT3, h⟩ := elet_some h
  have p1 : SP T T3 := SP.tr p0 (by rw [eT3]; exact sp_uI)
  obtain ⟨g4, h⟩ := oif_some h
  obtain ⟨T5, eT5, h⟩ := elet_some h
  have p2 : SP T T5 := SP.tr p1 (by rw [eT5]; exact sp_uI)
  rw [← (osome3 h).2.2]
  exact p2
set_option maxHeartbeats 4000000 in
set_option maxRecDepth 100000 in
theorem s_X3_parse_b98 {e1 : Nat} {r1 : Int32} {T1 : AT} : ∀ (T : AT) (l0 : Nat), g_X3_parse_b98 T l0 = some (e1, r1, T1) → SP T T1 := by
  intro T l0 h
  have p0 := SP.rf T
  unfold g_X3_parse_b98 at h
  obtain ⟨g2, h⟩ := oif_some h
  obtain ⟨v3, -, h⟩ := elet_some h
  obtain ⟨g4, h⟩ := oif_some h
  rcases othr_s h with ⟨k9, r9, e9, -⟩ | ⟨r6, T5, eT5, h⟩
  · exact SP.tr p0 (s_X3_failAt e9)
  have p1 : SP T T5 := SP.tr p0 (s_X3_failAt eT5)
  exact SP.tr p1 (s_X3_parse_b107 _ _ h)
set_option maxHeartbeats 4000000 in
set_option maxRecDepth 100000 in
theorem s_X3_parse_b81 {e1 : Nat} {r1 : Int32} {T1 : AT} : ∀ (T : AT) (l0 : Nat) (l2 : Nat), g_X3_parse_b81 T l0 l2 = some (e1, r1, T1) → SP T T1 := by
  intro T l0 l2 h
  have p0 := SP.rf T
  unfold g_X3_parse_b81 at h
  obtain ⟨g2, h⟩ := oif_some h
  obtain ⟨v3, -, h⟩ := elet_some h
  rcases oif_or h with ⟨c4, h⟩ | ⟨c4, h⟩
  · have h := h
    exact SP.tr p0 (s_X3_parse_b98 _ _ h)
  · have h := h
    obtain ⟨g5, h⟩ := oif_some h
    obtain ⟨n6, en6, h⟩ := obind_some h
    obtain ⟨g7, h⟩ := oif_some h
    obtain ⟨v8, -, h⟩ := elet_some h
    rcases oif_or h with ⟨c9, h⟩ | ⟨c9, h⟩
    · have h := h
      exact SP.tr p0 (s_X3_parse_b98 _ _ h)
    · have h := h
      exact SP.tr p0 (s_X3_parse_b107 _ _ h)
set_option maxHeartbeats 4000000 in
set_option maxRecDepth 100000 in
theorem s_X3_parse_b60 {e1 : Nat} {r1 : Int32} {T1 : AT} {k24 : AT → Nat → Nat → Int32 → Option (Nat × Int32 × AT)} (hk24 : ∀ (T : AT) (l0 : Nat) (l2 : Nat) (l3 : Int32), k24 T l0 l2 l3 = some (e1, r1, T1) → SP T T1) : ∀ (T : AT) (l0 : Nat) (l2 : Nat) (l3 : Int32), g_X3_parse_b60 k24 T l0 l2 l3 = some (e1, r1, T1) → SP T T1 := by
  intro T l0 l2 l3 h
  have p0 := SP.rf T
  unfold g_X3_parse_b60 at h
  obtain ⟨g2, h⟩ := oif_some h
  obtain ⟨v3, -, h⟩ := elet_some h
  obtain ⟨v4, -, h⟩ := elet_some h
  obtain ⟨g5, h⟩ := oif_some h
  obtain ⟨T6, eT6, h⟩ := elet_some h
  have p1 : SP T T6 := SP.tr p0 (by rw [eT6]; exact sp_uI)
  obtain ⟨g7, h⟩ := oif_some h
  rcases othr_s h with ⟨k9, r9, e9, -⟩ | ⟨r9, T8, eT8, h⟩
  · exact SP.tr p1 (s_X3_parseLine e9)
  have p2 : SP T T8 := SP.tr p1 (s_X3_parseLine eT8)
  obtain ⟨v10, ev10, h⟩ := elet_some h
  exact SP.tr p2 (hk24 _ _ _ _ h)
set_option maxHeartbeats 4000000 in
set_option maxRecDepth 100000 in
theorem s_X3_parse_b24 {e1 : Nat} {r1 : Int32} {T1 : AT} : ∀ n : Nat, ∀ (T : AT) (l0 : Nat) (l2 : Nat) (l3 : Int32), g_X3_parse_b24 n T l0 l2 l3 = some (e1, r1, T1) → SP T T1 := by
  intro n
  induction n with
  | zero =>
    intro T l0 l2 l3 h
    have h : (none : Option (Nat × Int32 × AT)) = some (e1, r1, T1) := h
    cases h
  | succ n ih =>
    intro T l0 l2 l3 h
    have p0 := SP.rf T
    unfold g_X3_parse_b24 at h
    obtain ⟨g2, h⟩ := oif_some h
    obtain ⟨n3, en3, h⟩ := obind_some h
    obtain ⟨g4, h⟩ := oif_some h
    obtain ⟨v5, -, h⟩ := elet_some h
    rcases oif_or h with ⟨c6, h⟩ | ⟨c6, h⟩
    · have h := h
      exact SP.tr p0 (s_X3_parse_b81 _ _ _ h)
    · have h := h
      obtain ⟨g7, h⟩ := oif_some h
      obtain ⟨r9, T8, eT8, h⟩ := obind2_some h
      have p1 : SP T T8 := SP.tr p0 (s_X3_kind eT8)
      rcases oif_or h with ⟨c10, h⟩ | ⟨c10, h⟩
      · have h := h
        exact SP.tr p1 (s_X3_parse_b81 _ _ _ h)
      · have h := h
        obtain ⟨g11, h⟩ := oif_some h
        obtain ⟨r13, T12, eT12, h⟩ := obind2_some h
        have p2 : SP T T12 := SP.tr p1 (s_X3_kind eT12)
        rcases oif_or h with ⟨c14, h⟩ | ⟨c14, h⟩
        · have h := h
          exact SP.tr p2 (s_X3_parse_b60 ih _ _ _ _ h)
        · have h := h
          obtain ⟨g15, h⟩ := oif_some h
          obtain ⟨v16, -, h⟩ := elet_some h
          obtain ⟨g17, h⟩ := oif_some h
          rcases othr_s h with ⟨k9, r9, e9, -⟩ | ⟨r19, T18, eT18, h⟩
          · exact SP.tr p2 (s_X3_failAt e9)
          have p3 : SP T T18 := SP.tr p2 (s_X3_failAt eT18)
          exact SP.tr p3 (s_X3_parse_b60 ih _ _ _ _ h)
set_option maxHeartbeats 4000000 in
set_option maxRecDepth 100000 in
theorem s_X3_parse {T : AT} {o : Nat} {a0 : Int32} {a1 : Nat} {e1 : Nat} {r1 : Int32} {T1 : AT} (h : g_X3_parse T o a0 a1 = some (e1, r1, T1)) : SP T T1 := by
  have p0 := SP.rf T
  unfold g_X3_parse at h
  obtain ⟨g2, h⟩ := oif_some h
  obtain ⟨n3, en3, h⟩ := obind_some h
  obtain ⟨g4, h⟩ := oif_some h
  obtain ⟨T5, eT5, h⟩ := obind_some h
  have p1 : SP T T5 := SP.tr p0 (s_X9_cut eT5)
  obtain ⟨g7, h⟩ := oif_some h
  obtain ⟨T8, eT8, h⟩ := elet_some h
  have p2 : SP T T8 := SP.tr p1 (by rw [eT8]; exact sp_uI)
  obtain ⟨g9, h⟩ := oif_some h
  obtain ⟨T10, eT10, h⟩ := obind_some h
  have p3 : SP T T10 := SP.tr p2 (s_X6_clear eT10)
  obtain ⟨g12, h⟩ := oif_some h
  rcases othr_s h with ⟨k9, r9, e9, -⟩ | ⟨r14, T13, eT13, h⟩
  · exact SP.tr p3 (s_X3_parseHead e9)
  have p4 : SP T T13 := SP.tr p3 (s_X3_parseHead eT13)
  exact SP.tr p4 (s_X3_parse_b24 _ _ _ _ _ h)
set_option maxHeartbeats 4000000 in
set_option maxRecDepth 100000 in
theorem x_X3_parse_b107 {p : Program} {l : Launch} {e : Env} {s : State} {m : MethodId} {args : Array Value} {below : List Frame} {meth : Method} {c : Code} {Qc : Array Value → State → Outcome → State → Prop} {XC : String → State → State → Prop} {D : va_G} {A : Nat → Prop} {cI cJ cZ cMic cSrc cSt cAI cAJ : ClassId} {ad : Nat → Nat} {e1 : Nat} {r1 : Int32} {T1 : AT} (E : cE p c cX3_parse s m args (Cond.code yX3_parse cX3_parse 4 none :: wsA) D RX3 (CT cI cJ cZ cMic cSrc cSt cAI cAJ)) (hA : ∀ q : Nat, s.heap.size ≤ q → A q) (hX : xT A s) (hN : nX s) (hml : c.maxLocals = 4) {h0 : Nat} (hA0 : ∀ a : Nat, A a → h0 ≤ a) (hT : sAll h0 s) (hz9 : True) (hst : l.stackTraces = false) (htab : ∀ x ∈ c.exceptionTable.toList, False) (hlocks : meth.locks = false) (kx : ∀ (H : Heap) (locs : List Loc) (t : State), gC cI cJ cZ cMic cSrc cSt cAI cAJ D ad A s.heap H locs T1 → s.vm.Alike t.vm → H.size ≤ t.heap.size → (∀ q, q < H.size → t.heap[q]? = H[q]?) → XC (exn e1) s t) : ∀ (T : AT) (H : Heap) (locs : List Loc) (ls : Array Slot) (l0 : Nat), g_X3_parse_b107 T l0 = some (e1 + 1, r1, T1) → gC cI cJ cZ cMic cSrc cSt cAI cAJ D ad A s.heap H locs T → lv_has ls 4 [(0, .ref (ad l0))] → W p l e { frames := 11, cells := 1, slots := 6, locals := 192 } s m args below meth c H locs 0 0 (vx_MQ below Qc XC args s 1 6 A) (F0 m 107 ls []) := by
  have hx := E.1
  have hb := E.2.1
  have hts := E.2.2.1
  have hown := E.2.2.2.1
  have hK := E.2.2.2.2
  intro T H locs ls l0 h G hl
  unfold g_X3_parse_b107 at h
  refine lv_aload_n hx hb dX3_parse_107 rfl (lv_at hl 0 rfl) ?_
  refine lv_iconst (v := 0) hx hb dX3_parse_108 (by decide) ?_
  obtain ⟨g2, h⟩ := oif_some h
  refine c_put E G l0 2 (v := .int 0) (oO_k g2).1 (cc_o3 (oO_k g2).2) rfl (fun w h => .tail _ (iA_17 h)) tyX3 tyX3_ok nmX3 (by decide) (.tail _ qA_181) ⟨rfl, rfl, rfl⟩ rfl rfl (Nat.le_of_ble_eq_true rfl) dX3_parse_109 (fun H locs G => ?_)
  have G := gC_up_i (f := upd (T.2.2.1 l0) 2 0) (by rw [(oO_k g2).2]; rfl) G
  obtain ⟨T3, eT3, h⟩ := elet_some h
  have G : gC cI cJ cZ cMic cSrc cSt cAI cAJ D ad A s.heap H locs T3 := by rw [eT3]; exact G
  clear eT3
  refine lv_aload_n hx hb dX3_parse_112 rfl (lv_at hl 0 rfl) ?_
  refine lv_iconst (v := (-1)) hx hb dX3_parse_113 (by decide) ?_
  obtain ⟨g4, h⟩ := oif_some h
  refine c_put E G l0 3 (v := .int (-1)) (oO_k g4).1 (cc_o3 (oO_k g4).2) rfl (fun w h => .tail _ (iA_17 h)) tyX3 tyX3_ok nmX3 (by decide) (.tail _ qA_173) ⟨rfl, rfl, rfl⟩ rfl rfl (Nat.le_of_ble_eq_true rfl) dX3_parse_114 (fun H locs G => ?_)
  have G := gC_up_i (f := upd (T3.2.2.1 l0) 3 (-1)) (by rw [(oO_k g4).2]; rfl) G
  obtain ⟨T5, eT5, h⟩ := elet_some h
  have G : gC cI cJ cZ cMic cSrc cSt cAI cAJ D ad A s.heap H locs T5 := by rw [eT5]; exact G
  clear eT5
  exact (Nat.succ_ne_zero _ (congrArg Prod.fst (Option.some.inj h)).symm).elim
set_option maxHeartbeats 4000000 in
set_option maxRecDepth 100000 in
theorem x_X3_parse_b98 {p : Program} {l : Launch} {e : Env} {s : State} {m : MethodId} {args : Array Value} {below : List Frame} {meth : Method} {c : Code} {Qc : Array Value → State → Outcome → State → Prop} {XC : String → State → State → Prop} {D : va_G} {A : Nat → Prop} {cI cJ cZ cMic cSrc cSt cAI cAJ : ClassId} {ad : Nat → Nat} {e1 : Nat} {r1 : Int32} {T1 : AT} (E : cE p c cX3_parse s m args (Cond.code yX3_parse cX3_parse 4 none :: wsA) D RX3 (CT cI cJ cZ cMic cSrc cSt cAI cAJ)) (hA : ∀ q : Nat, s.heap.size ≤ q → A q) (hX : xT A s) (hN : nX s) (hml : c.maxLocals = 4) {h0 : Nat} (hA0 : ∀ a : Nat, A a → h0 ≤ a) (hT : sAll h0 s) (hz9 : True) (hst : l.stackTraces = false) (htab : ∀ x ∈ c.exceptionTable.toList, False) (hlocks : meth.locks = false) (kx : ∀ (H : Heap) (locs : List Loc) (t : State), gC cI cJ cZ cMic cSrc cSt cAI cAJ D ad A s.heap H locs T1 → s.vm.Alike t.vm → H.size ≤ t.heap.size → (∀ q, q < H.size → t.heap[q]? = H[q]?) → XC (exn e1) s t) : ∀ (T : AT) (H : Heap) (locs : List Loc) (ls : Array Slot) (l0 : Nat), g_X3_parse_b98 T l0 = some (e1 + 1, r1, T1) → gC cI cJ cZ cMic cSrc cSt cAI cAJ D ad A s.heap H locs T → lv_has ls 4 [(0, .ref (ad l0))] → W p l e { frames := 11, cells := 1, slots := 6, locals := 192 } s m args below meth c H locs 0 0 (vx_MQ below Qc XC args s 1 6 A) (F0 m 98 ls []) := by
  have hx := E.1
  have hb := E.2.1
  have hts := E.2.2.1
  have hown := E.2.2.2.1
  have hK := E.2.2.2.2
  intro T H locs ls l0 h G hl
  unfold g_X3_parse_b98 at h
  refine lv_aload_n hx hb dX3_parse_98 rfl (lv_at hl 0 rfl) ?_
  refine lv_aload_n hx hb dX3_parse_99 rfl (lv_at hl 0 rfl) ?_
  obtain ⟨g2, h⟩ := oif_some h
  refine c_get E G l0 1 (oO_k g2).1 (cc_o3 (oO_k g2).2) rfl (fun w h => .tail _ (iA_17 h)) (by decide) (.tail _ qA_176) rfl rfl dX3_parse_100 ?_
  refine lv_topi (fun v3 ev3 => ?_)
  have h := elet_at ev3 h
  clear ev3
  refine lv_iconst (v := 5) hx hb dX3_parse_103 (by decide) ?_
  obtain ⟨g4, h⟩ := oif_some h
  rcases othr_t h with ⟨r0, eT5⟩ | ⟨r7, T5, eT5, h⟩
  · refine q_xvv (As := [.int v3, .int 5]) (rest := []) E G hA hX hN hml (x_X3_failAt l hst D cI cJ cZ cMic cSrc cSt cAI cAJ ad T l0 v3 (5 : Int32) eT5) (cwV 2 hts (gaV qA_293 qA_294 qA_295 qA_222 qA_296) rfl rfl rfl (by decide +kernel) ⟨Nat.le_of_ble_eq_true rfl, Nat.le_of_ble_eq_true rfl⟩) (oO_k g4).1 (cc_o3 (oO_k g4).2) rfl rfl hl.1 rfl (lv_room (Nat.le_of_ble_eq_true rfl)) dX3_parse_104 ⟨Nat.le_of_ble_eq_true rfl, Nat.le_of_ble_eq_true rfl⟩ (fun E9 ce q9 T9 H locs hp G hce hcv hcl => ?_)
    obtain ⟨hE, hT⟩ := hp
    subst hE
    rw [hT] at G
    exact vx_out (fun x hx => (htab x hx).elim) hlocks hce hcv hcl (fun t ht hvm => kx _ _ _ G hvm (by rw [ht]; exact Nat.le_refl _) (fun q hq => by rw [ht])) G.2.2.2.2 (Nat.le_refl _) (Nat.le_refl _)
  refine q_cvv (As := [.int v3, .int 5]) (rest := []) E G hA hX hN hml (u_X3_failAt l hst D cI cJ cZ cMic cSrc cSt cAI cAJ ad T l0 v3 (5 : Int32) eT5) (cwV 2 hts (gaV qA_293 qA_294 qA_295 qA_222 qA_296) rfl rfl rfl (by decide +kernel) ⟨Nat.le_of_ble_eq_true rfl, Nat.le_of_ble_eq_true rfl⟩) (oO_k g4).1 (cc_o3 (oO_k g4).2) rfl rfl hl.1 rfl (lv_room (Nat.le_of_ble_eq_true rfl)) dX3_parse_104 ⟨Nat.zero_le _, Nat.zero_le _⟩ (fun T6 H locs hq G => ?_)
  rw [hq] at G
  clear hq eT5
  have hl := lv_sub hl [0] rfl
  exact x_X3_parse_b107 E hA hX hN hml hA0 hT trivial hst htab hlocks kx _ _ _ _ _ h G hl
set_option maxHeartbeats 4000000 in
set_option maxRecDepth 100000 in
theorem x_X3_parse_b81 {p : Program} {l : Launch} {e : Env} {s : State} {m : MethodId} {args : Array Value} {below : List Frame} {meth : Method} {c : Code} {Qc : Array Value → State → Outcome → State → Prop} {XC : String → State → State → Prop} {D : va_G} {A : Nat → Prop} {cI cJ cZ cMic cSrc cSt cAI cAJ : ClassId} {ad : Nat → Nat} {e1 : Nat} {r1 : Int32} {T1 : AT} (E : cE p c cX3_parse s m args (Cond.code yX3_parse cX3_parse 4 none :: wsA) D RX3 (CT cI cJ cZ cMic cSrc cSt cAI cAJ)) (hA : ∀ q : Nat, s.heap.size ≤ q → A q) (hX : xT A s) (hN : nX s) (hml : c.maxLocals = 4) {h0 : Nat} (hA0 : ∀ a : Nat, A a → h0 ≤ a) (hT : sAll h0 s) (hz9 : True) (hst : l.stackTraces = false) (htab : ∀ x ∈ c.exceptionTable.toList, False) (hlocks : meth.locks = false) (kx : ∀ (H : Heap) (locs : List Loc) (t : State), gC cI cJ cZ cMic cSrc cSt cAI cAJ D ad A s.heap H locs T1 → s.vm.Alike t.vm → H.size ≤ t.heap.size → (∀ q, q < H.size → t.heap[q]? = H[q]?) → XC (exn e1) s t) : ∀ (T : AT) (H : Heap) (locs : List Loc) (ls : Array Slot) (l0 : Nat) (l2 : Nat), g_X3_parse_b81 T l0 l2 = some (e1 + 1, r1, T1) → gC cI cJ cZ cMic cSrc cSt cAI cAJ D ad A s.heap H locs T → lv_has ls 4 [(0, .ref (ad l0)), (2, .ref (ad l2))] → W p l e { frames := 11, cells := 1, slots := 6, locals := 192 } s m args below meth c H locs 0 0 (vx_MQ below Qc XC args s 1 6 A) (F0 m 81 ls []) := by
  have hx := E.1
  have hb := E.2.1
  have hts := E.2.2.1
  have hown := E.2.2.2.1
  have hK := E.2.2.2.2
  intro T H locs ls l0 l2 h G hl
  unfold g_X3_parse_b81 at h
  refine lv_aload_n hx hb dX3_parse_81 rfl (lv_at hl 1 rfl) ?_
  obtain ⟨g2, h⟩ := oif_some h
  refine c_get E G l2 5 (oO_k g2).1 (cc_o6 (oO_k g2).2) rfl (fun w h => .tail _ (iA_14 h)) (by decide) (.tail _ qA_178) rfl rfl dX3_parse_82 ?_
  refine lv_topi (fun v3 ev3 => ?_)
  have h := elet_at ev3 h
  clear ev3
  refine lv_if_eq (tgt := 98) hx hb dX3_parse_85 (by decide) (fun c4 => ?_) (fun c4 => ?_)
  · have h := oif_pos c4 h
    have hl := lv_sub hl [0] rfl
    exact x_X3_parse_b98 E hA hX hN hml hA0 hT trivial hst htab hlocks kx _ _ _ _ _ h G hl
  · have h := oif_neg c4 h
    refine lv_aload_n hx hb dX3_parse_88 rfl (lv_at hl 1 rfl) ?_
    obtain ⟨g5, h⟩ := oif_some h
    obtain ⟨n6, en6, h⟩ := obind_some h
    refine c_get E G l2 6 (v := .ref (ad n6)) (oO_k g5).1 (cc_o6 (oO_k g5).2) rfl (fun w h => .tail _ (iA_14 h)) (by decide) (.tail _ qA_179) rfl (by rw [en6]; rfl) dX3_parse_89 ?_
    clear en6
    obtain ⟨g7, h⟩ := oif_some h
    refine c_get E G n6 3 (oO_k g7).1 (cc_o1 (oO_k g7).2) rfl (fun w h => .tail _ (iA_15 h)) (by decide) (.tail _ qA_180) rfl rfl dX3_parse_92 ?_
    refine lv_topi (fun v8 ev8 => ?_)
    have h := elet_at ev8 h
    clear ev8
    refine lv_if_ne (tgt := 107) hx hb dX3_parse_95 (by decide) (fun c9 => ?_) (fun c9 => ?_)
    · have h := oif_neg c9 h
      have hl := lv_sub hl [0] rfl
      exact x_X3_parse_b107 E hA hX hN hml hA0 hT trivial hst htab hlocks kx _ _ _ _ _ h G hl
    · have h := oif_pos c9 h
      have hl := lv_sub hl [0] rfl
      exact x_X3_parse_b98 E hA hX hN hml hA0 hT trivial hst htab hlocks kx _ _ _ _ _ h G hl
set_option maxHeartbeats 4000000 in
set_option maxRecDepth 100000 in
theorem x_X3_parse_b60 {p : Program} {l : Launch} {e : Env} {s : State} {m : MethodId} {args : Array Value} {below : List Frame} {meth : Method} {c : Code} {Qc : Array Value → State → Outcome → State → Prop} {XC : String → State → State → Prop} {D : va_G} {A : Nat → Prop} {cI cJ cZ cMic cSrc cSt cAI cAJ : ClassId} {ad : Nat → Nat} {e1 : Nat} {r1 : Int32} {T1 : AT} (E : cE p c cX3_parse s m args (Cond.code yX3_parse cX3_parse 4 none :: wsA) D RX3 (CT cI cJ cZ cMic cSrc cSt cAI cAJ)) (hA : ∀ q : Nat, s.heap.size ≤ q → A q) (hX : xT A s) (hN : nX s) (hml : c.maxLocals = 4) {h0 : Nat} (hA0 : ∀ a : Nat, A a → h0 ≤ a) (hT : sAll h0 s) (hz9 : True) (hst : l.stackTraces = false) (htab : ∀ x ∈ c.exceptionTable.toList, False) (hlocks : meth.locks = false) (kx : ∀ (H : Heap) (locs : List Loc) (t : State), gC cI cJ cZ cMic cSrc cSt cAI cAJ D ad A s.heap H locs T1 → s.vm.Alike t.vm → H.size ≤ t.heap.size → (∀ q, q < H.size → t.heap[q]? = H[q]?) → XC (exn e1) s t) {k24 : AT → Nat → Nat → Int32 → Option (Nat × Int32 × AT)} (hk24 : ∀ (T : AT) (H : Heap) (locs : List Loc) (ls : Array Slot) (l0 : Nat) (l2 : Nat) (l3 : Int32), k24 T l0 l2 l3 = some (e1 + 1, r1, T1) → gC cI cJ cZ cMic cSrc cSt cAI cAJ D ad A s.heap H locs T → lv_has ls 4 [(0, .ref (ad l0)), (2, .ref (ad l2)), (3, .int l3)] → W p l e { frames := 11, cells := 1, slots := 6, locals := 192 } s m args below meth c H locs 0 0 (vx_MQ below Qc XC args s 1 6 A) (F0 m 24 ls [])) : ∀ (T : AT) (H : Heap) (locs : List Loc) (ls : Array Slot) (l0 : Nat) (l2 : Nat) (l3 : Int32), g_X3_parse_b60 k24 T l0 l2 l3 = some (e1 + 1, r1, T1) → gC cI cJ cZ cMic cSrc cSt cAI cAJ D ad A s.heap H locs T → lv_has ls 4 [(0, .ref (ad l0)), (2, .ref (ad l2)), (3, .int l3)] → W p l e { frames := 11, cells := 1, slots := 6, locals := 192 } s m args below meth c H locs 0 0 (vx_MQ below Qc XC args s 1 6 A) (F0 m 60 ls []) := by
  have hx := E.1
  have hb := E.2.1
  have hts := E.2.2.1
  have hown := E.2.2.2.1
  have hK := E.2.2.2.2
  intro T H locs ls l0 l2 l3 h G hl
  unfold g_X3_parse_b60 at h
  refine lv_aload_n hx hb dX3_parse_60 rfl (lv_at hl 0 rfl) ?_
  refine lv_dup hx hb dX3_parse_61 rfl ?_
  obtain ⟨g2, h⟩ := oif_some h
  refine c_get E G l0 1 (oO_k g2).1 (cc_o3 (oO_k g2).2) rfl (fun w h => .tail _ (iA_17 h)) (by decide) (.tail _ qA_176) rfl rfl dX3_parse_62 ?_
  refine lv_topi (fun v3 ev3 => ?_)
  have h := elet_at ev3 h
  clear ev3
  refine lv_iconst (v := 1) hx hb dX3_parse_65 (by decide) ?_
  refine lv_iadd hx hb dX3_parse_66 ?_
  refine lv_topi (fun v4 ev4 => ?_)
  have h := elet_at ev4 h
  clear ev4
  obtain ⟨g5, h⟩ := oif_some h
  refine c_put E G l0 1 (v := .int v4) (oO_k g5).1 (cc_o3 (oO_k g5).2) rfl (fun w h => .tail _ (iA_17 h)) tyX3 tyX3_ok nmX3 (by decide) (.tail _ qA_176) ⟨rfl, rfl, rfl⟩ rfl rfl (Nat.le_of_ble_eq_true rfl) dX3_parse_67 (fun H locs G => ?_)
  have G := gC_up_i (f := upd (T.2.2.1 l0) 1 v4) (by rw [(oO_k g5).2]; rfl) G
  obtain ⟨T6, eT6, h⟩ := elet_some h
  have G : gC cI cJ cZ cMic cSrc cSt cAI cAJ D ad A s.heap H locs T6 := by rw [eT6]; exact G
  clear eT6
  refine lv_aload_n hx hb dX3_parse_70 rfl (lv_at hl 0 rfl) ?_
  refine lv_aload_n hx hb dX3_parse_71 rfl (lv_at hl 1 rfl) ?_
  obtain ⟨g7, h⟩ := oif_some h
  rcases othr_t h with ⟨r0, eT8⟩ | ⟨r10, T8, eT8, h⟩
  · refine q_xvvX (As := [.ref (ad l2)]) (rest := []) E G hA hX hN hml (x_X3_parseLine l hst D cI cJ cZ cMic cSrc cSt cAI cAJ ad T6 h0 l0 l2 eT8) (cwV 1 hts (gaV qA_307 qA_308 qA_309 qA_222 qA_310) rfl rfl rfl (by decide +kernel) ⟨Nat.le_of_ble_eq_true rfl, Nat.le_of_ble_eq_true rfl⟩) (oO_k g7).1 (cc_o3 (oO_k g7).2) rfl rfl hl.1 rfl (lv_room (Nat.le_of_ble_eq_true rfl)) dX3_parse_72 ⟨Nat.le_of_ble_eq_true rfl, Nat.le_of_ble_eq_true rfl⟩ (yT0.blind) (yT0.go hT hA0 hA G) (fun E9 ce q9 T9 H locs hp G hce hcv hcl => ?_)
    obtain ⟨hE, hT⟩ := hp
    subst hE
    rw [hT] at G
    exact vx_out (fun x hx => (htab x hx).elim) hlocks hce hcv hcl (fun t ht hvm => kx _ _ _ G hvm (by rw [ht]; exact Nat.le_refl _) (fun q hq => by rw [ht])) G.2.2.2.2 (Nat.le_refl _) (Nat.le_refl _)
  refine q_cvvX (As := [.ref (ad l2)]) (rest := []) E G hA hX hN hml (u_X3_parseLine l hst D cI cJ cZ cMic cSrc cSt cAI cAJ ad T6 h0 l0 l2 eT8) (cwV 1 hts (gaV qA_307 qA_308 qA_309 qA_222 qA_310) rfl rfl rfl (by decide +kernel) ⟨Nat.le_of_ble_eq_true rfl, Nat.le_of_ble_eq_true rfl⟩) (oO_k g7).1 (cc_o3 (oO_k g7).2) rfl rfl hl.1 rfl (lv_room (Nat.le_of_ble_eq_true rfl)) dX3_parse_72 ⟨Nat.zero_le _, Nat.zero_le _⟩ (yT0.blind) (yT0.go hT hA0 hA G) (fun T9 H locs hq G => ?_)
  rw [hq] at G
  clear hq eT8
  obtain ⟨v12, ev12, h⟩ := elet_some h
  refine lv_iinc (v := v12) (lv' := [(3, .int v12), (0, .ref (ad l0)), (2, .ref (ad l2))]) hx hb dX3_parse_75 hl (k := 2) rfl ev12.symm (by decide) rfl (fun ls hl => ?_)
  refine lv_goto (tgt := 24) hx hb dX3_parse_78 (by decide) ?_
  have hl := lv_sub hl [1, 2, 0] rfl
  exact hk24 _ _ _ _ _ _ _ h G hl
set_option maxHeartbeats 4000000 in
set_option maxRecDepth 100000 in
theorem x_X3_parse_b24 {p : Program} {l : Launch} {e : Env} {s : State} {m : MethodId} {args : Array Value} {below : List Frame} {meth : Method} {c : Code} {Qc : Array Value → State → Outcome → State → Prop} {XC : String → State → State → Prop} {D : va_G} {A : Nat → Prop} {cI cJ cZ cMic cSrc cSt cAI cAJ : ClassId} {ad : Nat → Nat} {e1 : Nat} {r1 : Int32} {T1 : AT} (E : cE p c cX3_parse s m args (Cond.code yX3_parse cX3_parse 4 none :: wsA) D RX3 (CT cI cJ cZ cMic cSrc cSt cAI cAJ)) (hA : ∀ q : Nat, s.heap.size ≤ q → A q) (hX : xT A s) (hN : nX s) (hml : c.maxLocals = 4) {h0 : Nat} (hA0 : ∀ a : Nat, A a → h0 ≤ a) (hT : sAll h0 s) (hz9 : True) (hst : l.stackTraces = false) (htab : ∀ x ∈ c.exceptionTable.toList, False) (hlocks : meth.locks = false) (kx : ∀ (H : Heap) (locs : List Loc) (t : State), gC cI cJ cZ cMic cSrc cSt cAI cAJ D ad A s.heap H locs T1 → s.vm.Alike t.vm → H.size ≤ t.heap.size → (∀ q, q < H.size → t.heap[q]? = H[q]?) → XC (exn e1) s t) : ∀ n : Nat, ∀ (T : AT) (H : Heap) (locs : List Loc) (ls : Array Slot) (l0 : Nat) (l2 : Nat) (l3 : Int32), g_X3_parse_b24 n T l0 l2 l3 = some (e1 + 1, r1, T1) → gC cI cJ cZ cMic cSrc cSt cAI cAJ D ad A s.heap H locs T → lv_has ls 4 [(0, .ref (ad l0)), (2, .ref (ad l2)), (3, .int l3)] → W p l e { frames := 11, cells := 1, slots := 6, locals := 192 } s m args below meth c H locs 0 0 (vx_MQ below Qc XC args s 1 6 A) (F0 m 24 ls []) := by
  have hx := E.1
  have hb := E.2.1
  have hts := E.2.2.1
  have hown := E.2.2.2.1
  have hK := E.2.2.2.2
  intro n
  induction n with
  | zero =>
    intro T H locs ls l0 l2 l3 h
    have h : (none : Option (Nat × Int32 × AT)) = some (e1 + 1, r1, T1) := h
    cases h
  | succ n ih =>
    intro T H locs ls l0 l2 l3 h G hl
    unfold g_X3_parse_b24 at h
    refine lv_iload_n hx hb dX3_parse_24 rfl (lv_at hl 2 rfl) ?_
    refine lv_aload_n hx hb dX3_parse_25 rfl (lv_at hl 0 rfl) ?_
    obtain ⟨g2, h⟩ := oif_some h
    obtain ⟨n3, en3, h⟩ := obind_some h
    refine c_get E G l0 0 (v := .ref (ad n3)) (oO_k g2).1 (cc_o3 (oO_k g2).2) rfl (fun w h => .tail _ (iA_17 h)) (by decide) (.tail _ qA_174) rfl (by rw [en3]; rfl) dX3_parse_26 ?_
    clear en3
    obtain ⟨g4, h⟩ := oif_some h
    refine c_get E G n3 5 (oO_k g4).1 (cc_o9 (oO_k g4).2) rfl (fun w h => .tail _ (iA_18 h)) (by decide) (.tail _ qA_177) rfl rfl dX3_parse_29 ?_
    refine lv_topi (fun v5 ev5 => ?_)
    have h := elet_at ev5 h
    clear ev5
    refine lv_icmp_ge (tgt := 81) hx hb dX3_parse_32 (by decide) (fun c6 => ?_) (fun c6 => ?_)
    · have h := oif_pos c6 h
      have hl := lv_sub hl [0, 1] rfl
      exact x_X3_parse_b81 E hA hX hN hml hA0 hT trivial hst htab hlocks kx _ _ _ _ _ _ h G hl
    · have h := oif_neg c6 h
      refine lv_aload_n hx hb dX3_parse_35 rfl (lv_at hl 0 rfl) ?_
      obtain ⟨g7, h⟩ := oif_some h
      obtain ⟨r10, T8, eT8, h⟩ := obind2_some h
      refine q_cvi (As := []) (rest := []) E G hA hX hN hml (u_X3_kind l hst D cI cJ cZ cMic cSrc cSt cAI cAJ ad T l0 eT8) (cwV 0 hts (gaV qA_239 qA_240 qA_241 qA_222 qA_242) rfl rfl rfl (by decide +kernel) ⟨Nat.le_of_ble_eq_true rfl, Nat.le_of_ble_eq_true rfl⟩) (oO_k g7).1 (cc_o3 (oO_k g7).2) rfl rfl hl.1 rfl (lv_room (Nat.le_of_ble_eq_true rfl)) dX3_parse_36 ⟨Nat.zero_le _, Nat.zero_le _⟩ (fun q11 T9 H locs hq G => ?_)
      obtain ⟨hq1, hq2⟩ := hq
      rw [hq2] at G
      refine lv_to hq1 ?_
      clear hq1 hq2 eT8
      refine lv_iconst (v := 5) hx hb dX3_parse_39 (by decide) ?_
      refine lv_icmp_eq (tgt := 81) hx hb dX3_parse_40 (by decide) (fun c12 => ?_) (fun c12 => ?_)
      · have h := oif_pos c12 h
        have hl := lv_sub hl [0, 1] rfl
        exact x_X3_parse_b81 E hA hX hN hml hA0 hT trivial hst htab hlocks kx _ _ _ _ _ _ h G hl
      · have h := oif_neg c12 h
        refine lv_aload_n hx hb dX3_parse_43 rfl (lv_at hl 0 rfl) ?_
        obtain ⟨g13, h⟩ := oif_some h
        obtain ⟨r16, T14, eT14, h⟩ := obind2_some h
        refine q_cvi (As := []) (rest := []) E G hA hX hN hml (u_X3_kind l hst D cI cJ cZ cMic cSrc cSt cAI cAJ ad T8 l0 eT14) (cwV 0 hts (gaV qA_239 qA_240 qA_241 qA_222 qA_242) rfl rfl rfl (by decide +kernel) ⟨Nat.le_of_ble_eq_true rfl, Nat.le_of_ble_eq_true rfl⟩) (oO_k g13).1 (cc_o3 (oO_k g13).2) rfl rfl hl.1 rfl (lv_room (Nat.le_of_ble_eq_true rfl)) dX3_parse_44 ⟨Nat.zero_le _, Nat.zero_le _⟩ (fun q17 T15 H locs hq G => ?_)
        obtain ⟨hq1, hq2⟩ := hq
        rw [hq2] at G
        refine lv_to hq1 ?_
        clear hq1 hq2 eT14
        refine lv_iconst (v := 4) hx hb dX3_parse_47 (by decide) ?_
        refine lv_icmp_eq (tgt := 60) hx hb dX3_parse_48 (by decide) (fun c18 => ?_) (fun c18 => ?_)
        · have h := oif_pos c18 h
          have hl := lv_sub hl [0, 1, 2] rfl
          exact x_X3_parse_b60 E hA hX hN hml hA0 hT trivial hst htab hlocks kx ih _ _ _ _ _ _ _ h G hl
        · have h := oif_neg c18 h
          refine lv_aload_n hx hb dX3_parse_51 rfl (lv_at hl 0 rfl) ?_
          refine lv_aload_n hx hb dX3_parse_52 rfl (lv_at hl 0 rfl) ?_
          obtain ⟨g19, h⟩ := oif_some h
          refine c_get E G l0 1 (oO_k g19).1 (cc_o3 (oO_k g19).2) rfl (fun w h => .tail _ (iA_17 h)) (by decide) (.tail _ qA_176) rfl rfl dX3_parse_53 ?_
          refine lv_topi (fun v20 ev20 => ?_)
          have h := elet_at ev20 h
          clear ev20
          refine lv_iconst (v := 1) hx hb dX3_parse_56 (by decide) ?_
          obtain ⟨g21, h⟩ := oif_some h
          rcases othr_t h with ⟨r0, eT22⟩ | ⟨r24, T22, eT22, h⟩
          · refine q_xvv (As := [.int v20, .int 1]) (rest := []) E G hA hX hN hml (x_X3_failAt l hst D cI cJ cZ cMic cSrc cSt cAI cAJ ad T14 l0 v20 (1 : Int32) eT22) (cwV 2 hts (gaV qA_293 qA_294 qA_295 qA_222 qA_296) rfl rfl rfl (by decide +kernel) ⟨Nat.le_of_ble_eq_true rfl, Nat.le_of_ble_eq_true rfl⟩) (oO_k g21).1 (cc_o3 (oO_k g21).2) rfl rfl hl.1 rfl (lv_room (Nat.le_of_ble_eq_true rfl)) dX3_parse_57 ⟨Nat.le_of_ble_eq_true rfl, Nat.le_of_ble_eq_true rfl⟩ (fun E9 ce q9 T9 H locs hp G hce hcv hcl => ?_)
            obtain ⟨hE, hT⟩ := hp
            subst hE
            rw [hT] at G
            exact vx_out (fun x hx => (htab x hx).elim) hlocks hce hcv hcl (fun t ht hvm => kx _ _ _ G hvm (by rw [ht]; exact Nat.le_refl _) (fun q hq => by rw [ht])) G.2.2.2.2 (Nat.le_refl _) (Nat.le_refl _)
          refine q_cvv (As := [.int v20, .int 1]) (rest := []) E G hA hX hN hml (u_X3_failAt l hst D cI cJ cZ cMic cSrc cSt cAI cAJ ad T14 l0 v20 (1 : Int32) eT22) (cwV 2 hts (gaV qA_293 qA_294 qA_295 qA_222 qA_296) rfl rfl rfl (by decide +kernel) ⟨Nat.le_of_ble_eq_true rfl, Nat.le_of_ble_eq_true rfl⟩) (oO_k g21).1 (cc_o3 (oO_k g21).2) rfl rfl hl.1 rfl (lv_room (Nat.le_of_ble_eq_true rfl)) dX3_parse_57 ⟨Nat.zero_le _, Nat.zero_le _⟩ (fun T23 H locs hq G => ?_)
          rw [hq] at G
          clear hq eT22
          have hl := lv_sub hl [0, 1, 2] rfl
          exact x_X3_parse_b60 E hA hX hN hml hA0 hT trivial hst htab hlocks kx ih _ _ _ _ _ _ _ h G hl
set_option maxHeartbeats 4000000 in
set_option maxRecDepth 100000 in
theorem x_X3_parse (l : Launch) (hst : l.stackTraces = false) (D : va_G) (cI cJ cZ cMic cSrc cSt cAI cAJ : ClassId) (ad : Nat → Nat) (T : AT) (h0 : Nat) (o : Nat) (a0 : Int32) (a1 : Nat) {e1 : Nat} {r1 : Int32} {T1 : AT} (h : g_X3_parse T o a0 a1 = some (e1 + 1, r1, T1)) : kXvX l yX3_parse (Cond.code yX3_parse cX3_parse 4 none :: wsA) 11 192 cI cJ cZ cMic cSrc cSt cAI cAJ D ad T [.ref (ad o), .int a0, .ref (ad a1)] (yT0 cI cJ cZ cMic cSrc cSt cAI cAJ h0 ad T) e1 T1 := by
  intro sz
  refine vx_ofW (cc := cX3_parse) (maxL := 4) (ret := none) (by decide) rfl ?_
  intro p e s m args below meth c s₁ B hml htab hv
  obtain ⟨rfl, ⟨hsz, hP, hK, hD0, hX, hN⟩, hA1, hT⟩ := hv
  have hx := B.exec
  have hb := B.bytes
  have hr := B.returns
  have hts := atoms_spec (ws := (Cond.code yX3_parse cX3_parse 4 none :: wsA)) B.pre
  have hown : s.vm.findClass RX3 = some m.cls := findClass_of_methodNamed B.named
  have hlocks := B.notSynchronized
  subst hsz
  have hD := hD0.self (sz := s.heap.size)
  generalize hAe : va_A (cW ad T.1 (cc cI cJ cZ cMic cSrc cSt cAI cAJ ad T)) s.heap.size = A at hD hX hA1 ⊢
  have hA : ∀ q : Nat, s.heap.size ≤ q → A q := fun q h => by rw [← hAe]; exact Or.inr h
  have G : gC cI cJ cZ cMic cSrc cSt cAI cAJ D ad A s.heap s.heap [] T := ⟨hP, hD, va_S.rf⟩
  have E : cE p c cX3_parse s m ([.ref (ad o), .int a0, .ref (ad a1)] : List Value).toArray (Cond.code yX3_parse cX3_parse 4 none :: wsA) D RX3 (CT cI cJ cZ cMic cSrc cSt cAI cAJ) := ⟨hx, hb, hts, hown, hK⟩
  have htab : ∀ x ∈ c.exceptionTable.toList, False := fun x hx => htab x hx
  have hA0 : ∀ a : Nat, A a → h0 ≤ a := hA1
  have hl := lv_entry ([.ref (ad o), .int a0, .ref (ad a1)]) (n := 4) (Nat.le_of_ble_eq_true rfl)
  rw [lg_entry_eq]
  generalize (lg_sl ([.ref (ad o), .int a0, .ref (ad a1)]) ++ List.replicate (4 - (lg_sl ([.ref (ad o), .int a0, .ref (ad a1)])).length) Slot.unset).toArray = ls at hl ⊢
  have hl : lv_has ls 4 [(0, .ref (ad o)), (1, .int a0), (2, .ref (ad a1))] := hl
  unfold g_X3_parse at h
  refine lv_aload_n hx hb dX3_parse_0 rfl (lv_at hl 0 rfl) ?_
  obtain ⟨g2, h⟩ := oif_some h
  obtain ⟨n3, en3, h⟩ := obind_some h
  refine c_get E G o 0 (v := .ref (ad n3)) (oO_k g2).1 (cc_o3 (oO_k g2).2) rfl (fun w h => .tail _ (iA_17 h)) (by decide) (.tail _ qA_174) rfl (by rw [en3]; rfl) dX3_parse_1 ?_
  clear en3
  refine lv_iload_n hx hb dX3_parse_4 rfl (lv_at hl 1 rfl) ?_
  obtain ⟨g4, h⟩ := oif_some h
  obtain ⟨T5, eT5, h⟩ := obind_some h
  refine q_cvv (As := [.int a0]) (rest := []) E G hA hX hN hml (u_X9_cut l hst D cI cJ cZ cMic cSrc cSt cAI cAJ ad T n3 a0 eT5) (cwV 1 hts (gaV qA_182 qA_183 qA_184 qA_185 qA_186) rfl rfl rfl (by decide +kernel) ⟨Nat.le_of_ble_eq_true rfl, Nat.le_of_ble_eq_true rfl⟩) (oO_k g4).1 (cc_o9 (oO_k g4).2) rfl rfl hl.1 rfl (lv_room (Nat.le_of_ble_eq_true rfl)) dX3_parse_5 ⟨Nat.zero_le _, Nat.zero_le _⟩ (fun T6 H locs hq G => ?_)
  rw [hq] at G
  clear hq eT5
  refine lv_aload_n hx hb dX3_parse_8 rfl (lv_at hl 0 rfl) ?_
  refine lv_iconst (v := 0) hx hb dX3_parse_9 (by decide) ?_
  obtain ⟨g7, h⟩ := oif_some h
  refine c_put E G o 1 (v := .int 0) (oO_k g7).1 (cc_o3 (oO_k g7).2) rfl (fun w h => .tail _ (iA_17 h)) tyX3 tyX3_ok nmX3 (by decide) (.tail _ qA_176) ⟨rfl, rfl, rfl⟩ rfl rfl (Nat.le_of_ble_eq_true rfl) dX3_parse_10 (fun H locs G => ?_)
  have G := gC_up_i (f := upd (T5.2.2.1 o) 1 0) (by rw [(oO_k g7).2]; rfl) G
  obtain ⟨T8, eT8, h⟩ := elet_some h
  have G : gC cI cJ cZ cMic cSrc cSt cAI cAJ D ad A s.heap H locs T8 := by rw [eT8]; exact G
  clear eT8
  refine lv_aload_n hx hb dX3_parse_13 rfl (lv_at hl 2 rfl) ?_
  obtain ⟨g9, h⟩ := oif_some h
  obtain ⟨T10, eT10, h⟩ := obind_some h
  refine q_cvv (As := []) (rest := []) E G hA hX hN hml (u_X6_clear l hst D cI cJ cZ cMic cSrc cSt cAI cAJ ad T8 a1 eT10) (cwV 0 hts (gaV qA_204 qA_205 qA_206 qA_207 qA_208) rfl rfl rfl (by decide +kernel) ⟨Nat.le_of_ble_eq_true rfl, Nat.le_of_ble_eq_true rfl⟩) (oO_k g9).1 (cc_o6 (oO_k g9).2) rfl rfl hl.1 rfl (lv_room (Nat.le_of_ble_eq_true rfl)) dX3_parse_14 ⟨Nat.zero_le _, Nat.zero_le _⟩ (fun T11 H locs hq G => ?_)
  rw [hq] at G
  clear hq eT10
  refine lv_aload_n hx hb dX3_parse_17 rfl (lv_at hl 0 rfl) ?_
  refine lv_aload_n hx hb dX3_parse_18 rfl (lv_at hl 2 rfl) ?_
  obtain ⟨g12, h⟩ := oif_some h
  rcases othr_t h with ⟨r0, eT13⟩ | ⟨r15, T13, eT13, h⟩
  · refine q_xvvX (As := [.ref (ad a1)]) (rest := []) E G hA hX hN hml (x_X3_parseHead l hst D cI cJ cZ cMic cSrc cSt cAI cAJ ad T10 h0 o a1 eT13) (cwV 1 hts (gaV qA_219 qA_220 qA_221 qA_222 qA_223) rfl rfl rfl (by decide +kernel) ⟨Nat.le_of_ble_eq_true rfl, Nat.le_of_ble_eq_true rfl⟩) (oO_k g12).1 (cc_o3 (oO_k g12).2) rfl rfl hl.1 rfl (lv_room (Nat.le_of_ble_eq_true rfl)) dX3_parse_19 ⟨Nat.le_of_ble_eq_true rfl, Nat.le_of_ble_eq_true rfl⟩ (yT0.blind) (yT0.go hT hA0 hA G) (fun E9 ce q9 T9 H locs hp G hce hcv hcl => ?_)
    obtain ⟨hE, hT⟩ := hp
    subst hE
    rw [hT] at G
    exact vx_out (fun x hx => (htab x hx).elim) hlocks hce hcv hcl (fun t ht hvm => ⟨T1, trivial, ⟨⟨rfl, rfl⟩, by rw [ht]; exact G.1, va_K.moved hvm hK, G.2.1⟩, G.2.2.F ht⟩) G.2.2.2.2 (Nat.le_refl _) (Nat.le_refl _)
  refine q_cvvX (As := [.ref (ad a1)]) (rest := []) E G hA hX hN hml (u_X3_parseHead l hst D cI cJ cZ cMic cSrc cSt cAI cAJ ad T10 h0 o a1 eT13) (cwV 1 hts (gaV qA_219 qA_220 qA_221 qA_222 qA_223) rfl rfl rfl (by decide +kernel) ⟨Nat.le_of_ble_eq_true rfl, Nat.le_of_ble_eq_true rfl⟩) (oO_k g12).1 (cc_o3 (oO_k g12).2) rfl rfl hl.1 rfl (lv_room (Nat.le_of_ble_eq_true rfl)) dX3_parse_19 ⟨Nat.zero_le _, Nat.zero_le _⟩ (yT0.blind) (yT0.go hT hA0 hA G) (fun T14 H locs hq G => ?_)
  rw [hq] at G
  clear hq eT13
  refine lv_iconst (v := 0) hx hb dX3_parse_22 (by decide) ?_
  refine lv_istore_n (lv' := [(3, .int 0), (0, .ref (ad o)), (1, .int a0), (2, .ref (ad a1))]) hx hb dX3_parse_23 rfl hl (by decide) rfl (fun ls hl => ?_)
  have hl := lv_sub hl [1, 3, 0] rfl
  exact x_X3_parse_b24 E hA hX hN hml hA0 hT trivial hst htab hlocks (fun H locs t G hvm h1 h2 => ⟨T1, trivial, ⟨⟨rfl, rfl⟩, (c_thrown G hK hvm h1 h2).1⟩, (c_thrown G hK hvm h1 h2).2⟩) _ _ _ _ _ _ _ _ h G hl
def g_X4_standsOut_b65 (k11 : AT → Nat → Int32 → Nat → Nat → Int32 → Option (Int32 × AT)) (k24 : AT → Nat → Int32 → Nat → Nat → Int32 → Int32 → Option (Int32 × AT)) (T : AT) (l0 : Nat) (l1 : Int32) (l2 : Nat) (l3 : Nat) (l4 : Int32) (l5 : Int32) : Option (Int32 × AT) := elet (l5 + Int32.ofInt (1)) fun v2 => k24 T l0 l1 l2 l3 l4 v2
set_option maxHeartbeats 4000000 in
set_option maxRecDepth 100000 in
theorem u_X4_standsOut_b65 {p : Program} {l : Launch} {e : Env} {s : State} {m : MethodId} {args : Array Value} {below : List Frame} {meth : Method} {c : Code} {Q : State → Prop} {D : va_G} {A : Nat → Prop} {cI cJ cZ cMic cSrc cSt cAI cAJ : ClassId} {ad : Nat → Nat} {r1 : Int32} {T1 : AT} (E : cE p c cX4_standsOut s m args (Cond.code yX4_standsOut cX4_standsOut 7 (some .boolean) :: wsA) D RX4 (CT cI cJ cZ cMic cSrc cSt cAI cAJ)) (hA : ∀ q : Nat, s.heap.size ≤ q → A q) (hX : xT A s) (hN : nX s) (hml : c.maxLocals = 7) (hst : l.stackTraces = false) (kr64 : ∀ (H : Heap) (locs : List Loc) (ls : Array Slot), (r1 = 0 ∨ r1 = 1) → gC cI cJ cZ cMic cSrc cSt cAI cAJ D ad A s.heap H locs T1 → W p l e { frames := 4, cells := 0, slots := 0, locals := 67 } s m args below meth c H locs 0 0 Q (F0 m 64 ls [.int r1])) (kr78 : ∀ (H : Heap) (locs : List Loc) (ls : Array Slot), (r1 = 0 ∨ r1 = 1) → gC cI cJ cZ cMic cSrc cSt cAI cAJ D ad A s.heap H locs T1 → W p l e { frames := 4, cells := 0, slots := 0, locals := 67 } s m args below meth c H locs 0 0 Q (F0 m 78 ls [.int r1])) {k11 : AT → Nat → Int32 → Nat → Nat → Int32 → Option (Int32 × AT)} {k24 : AT → Nat → Int32 → Nat → Nat → Int32 → Int32 → Option (Int32 × AT)} (hk11 : ∀ (T : AT) (H : Heap) (locs : List Loc) (ls : Array Slot) (l0 : Nat) (l1 : Int32) (l2 : Nat) (l3 : Nat) (l4 : Int32), k11 T l0 l1 l2 l3 l4 = some (r1, T1) → gC cI cJ cZ cMic cSrc cSt cAI cAJ D ad A s.heap H locs T → lv_has ls 7 [(0, .ref (ad l0)), (1, .int l1), (2, .ref (ad l2)), (3, .ref (ad l3)), (4, .int l4)] → W p l e { frames := 4, cells := 0, slots := 0, locals := 67 } s m args below meth c H locs 0 0 Q (F0 m 11 ls [])) (hk24 : ∀ (T : AT) (H : Heap) (locs : List Loc) (ls : Array Slot) (l0 : Nat) (l1 : Int32) (l2 : Nat) (l3 : Nat) (l4 : Int32) (l5 : Int32), k24 T l0 l1 l2 l3 l4 l5 = some (r1, T1) → gC cI cJ cZ cMic cSrc cSt cAI cAJ D ad A s.heap H locs T → lv_has ls 7 [(0, .ref (ad l0)), (1, .int l1), (2, .ref (ad l2)), (3, .ref (ad l3)), (4, .int l4), (5, .int l5)] → W p l e { frames := 4, cells := 0, slots := 0, locals := 67 } s m args below meth c H locs 0 0 Q (F0 m 24 ls [])) : ∀ (T : AT) (H : Heap) (locs : List Loc) (ls : Array Slot) (l0 : Nat) (l1 : Int32) (l2 : Nat) (l3 : Nat) (l4 : Int32) (l5 : Int32), g_X4_standsOut_b65 k11 k24 T l0 l1 l2 l3 l4 l5 = some (r1, T1) → gC cI cJ cZ cMic cSrc cSt cAI cAJ D ad A s.heap H locs T → lv_has ls 7 [(0, .ref (ad l0)), (1, .int l1), (2, .ref (ad l2)), (3, .ref (ad l3)), (4, .int l4), (5, .int l5)] → W p l e { frames := 4, cells := 0, slots := 0, locals := 67 } s m args below meth c H locs 0 0 Q (F0 m 65 ls []) := by
  have hx := E.1
  have hb := E.2.1
  have hts := E.2.2.1
  have hown := E.2.2.2.1
  have hK := E.2.2.2.2
  intro T H locs ls l0 l1 l2 l3 l4 l5 h G hl
  unfold g_X4_standsOut_b65 at h
  obtain ⟨v2, ev2, h⟩ := elet_some h
  refine lv_iinc (v := v2) (lv' := [(5, .int v2), (0, .ref (ad l0)), (1, .int l1), (2, .ref (ad l2)), (3, .ref (ad l3)), (4, .int l4)]) hx hb dX4_standsOut_65 hl (k := 5) rfl ev2.symm (by decide) rfl (fun ls hl => ?_)
  refine lv_goto (tgt := 24) hx hb dX4_standsOut_68 (by decide) ?_
  have hl := lv_sub hl [1, 2, 3, 4, 5, 0] rfl
  exact hk24 _ _ _ _ _ _ _ _ _ _ h G hl
def g_X4_standsOut_b24 (k11 : AT → Nat → Int32 → Nat → Nat → Int32 → Option (Int32 × AT)) : Nat → AT → Nat → Int32 → Nat → Nat → Int32 → Int32 → Option (Int32 × AT)
  | 0, _, _, _, _, _, _, _ => none
  | n + 1, T, l0, l1, l2, l3, l4, l5 => oif (aA T l3 100 = true) <| oif (inb 2 (T.2.1 l3).2 = true) <| elet (T.2.2.1 l3 (2 : Int32).toNatClampNeg) fun v4 => if v4 < l5 then (elet (l4 + Int32.ofInt (1)) fun v6 => k11 T l0 l1 l2 l3 v6) else (oif (oO T l2 1 = true) <| elet (T.2.2.1 l2 3) fun v8 => elet (l4 * v8) fun v9 => elet (v9 + l5) fun v10 => if v10 = l1 then (g_X4_standsOut_b65 k11 (g_X4_standsOut_b24 k11 n) T l0 l1 l2 l3 l4 l5) else (oif (oO T l0 4 = true) <| obind (T.2.2.2.2 l0 1) fun n13 => oif (oO T n13 10 = true) <| obind2 (g_X10_compare T n13 v10 l1) fun r17 T15 => if r17 < 0 then (g_X4_standsOut_b65 k11 (g_X4_standsOut_b24 k11 n) T15 l0 l1 l2 l3 l4 l5) else (some (0, T15))))
set_option maxHeartbeats 4000000 in
set_option maxRecDepth 100000 in
theorem u_X4_standsOut_b24 {p : Program} {l : Launch} {e : Env} {s : State} {m : MethodId} {args : Array Value} {below : List Frame} {meth : Method} {c : Code} {Q : State → Prop} {D : va_G} {A : Nat → Prop} {cI cJ cZ cMic cSrc cSt cAI cAJ : ClassId} {ad : Nat → Nat} {r1 : Int32} {T1 : AT} (E : cE p c cX4_standsOut s m args (Cond.code yX4_standsOut cX4_standsOut 7 (some .boolean) :: wsA) D RX4 (CT cI cJ cZ cMic cSrc cSt cAI cAJ)) (hA : ∀ q : Nat, s.heap.size ≤ q → A q) (hX : xT A s) (hN : nX s) (hml : c.maxLocals = 7) (hst : l.stackTraces = false) (kr64 : ∀ (H : Heap) (locs : List Loc) (ls : Array Slot), (r1 = 0 ∨ r1 = 1) → gC cI cJ cZ cMic cSrc cSt cAI cAJ D ad A s.heap H locs T1 → W p l e { frames := 4, cells := 0, slots := 0, locals := 67 } s m args below meth c H locs 0 0 Q (F0 m 64 ls [.int r1])) (kr78 : ∀ (H : Heap) (locs : List Loc) (ls : Array Slot), (r1 = 0 ∨ r1 = 1) → gC cI cJ cZ cMic cSrc cSt cAI cAJ D ad A s.heap H locs T1 → W p l e { frames := 4, cells := 0, slots := 0, locals := 67 } s m args below meth c H locs 0 0 Q (F0 m 78 ls [.int r1])) {k11 : AT → Nat → Int32 → Nat → Nat → Int32 → Option (Int32 × AT)} (hk11 : ∀ (T : AT) (H : Heap) (locs : List Loc) (ls : Array Slot) (l0 : Nat) (l1 : Int32) (l2 : Nat) (l3 : Nat) (l4 : Int32), k11 T l0 l1 l2 l3 l4 = some (r1, T1) → gC cI cJ cZ cMic cSrc cSt cAI cAJ D ad A s.heap H locs T → lv_has ls 7 [(0, .ref (ad l0)), (1, .int l1), (2, .ref (ad l2)), (3, .ref (ad l3)), (4, .int l4)] → W p l e { frames := 4, cells := 0, slots := 0, locals := 67 } s m args below meth c H locs 0 0 Q (F0 m 11 ls [])) : ∀ n : Nat, ∀ (T : AT) (H : Heap) (locs : List Loc) (ls : Array Slot) (l0 : Nat) (l1 : Int32) (l2 : Nat) (l3 : Nat) (l4 : Int32) (l5 : Int32), g_X4_standsOut_b24 k11 n T l0 l1 l2 l3 l4 l5 = some (r1, T1) → gC cI cJ cZ cMic cSrc cSt cAI cAJ D ad A s.heap H locs T → lv_has ls 7 [(0, .ref (ad l0)), (1, .int l1), (2, .ref (ad l2)), (3, .ref (ad l3)), (4, .int l4), (5, .int l5)] → W p l e { frames := 4, cells := 0, slots := 0, locals := 67 } s m args below meth c H locs 0 0 Q (F0 m 24 ls []) := by
  have hx := E.1
  have hb := E.2.1
  have hts := E.2.2.1
  have hown := E.2.2.2.1
  have hK := E.2.2.2.2
  intro n
  induction n with
  | zero =>
    intro T H locs ls l0 l1 l2 l3 l4 l5 h
    have h : (none : Option (Int32 × AT)) = some (r1, T1) := h
    cases h
  | succ n ih =>
    intro T H locs ls l0 l1 l2 l3 l4 l5 h G hl
    unfold g_X4_standsOut_b24 at h
    refine lv_iload hx hb dX4_standsOut_24 (lv_at hl 5 rfl) ?_
    refine lv_aload_n hx hb dX4_standsOut_26 rfl (lv_at hl 3 rfl) ?_
    refine lv_iconst (v := 2) hx hb dX4_standsOut_27 (by decide) ?_
    obtain ⟨g2, h⟩ := oif_some h
    obtain ⟨g3, h⟩ := oif_some h
    refine c_iald E G l3 0 (k := (2 : Int32).toNatClampNeg) (aA_k g2).1 (cc_a100 (aA_k g2).2.1) rfl (inb_k g3).1 (inb_k g3).2 (aA_k g2).2.2 dX4_standsOut_28 ?_
    refine lv_topi (fun v4 ev4 => ?_)
    have h := elet_at ev4 h
    clear ev4
    refine lv_icmp_gt (tgt := 71) hx hb dX4_standsOut_29 (by decide) (fun c5 => ?_) (fun c5 => ?_)
    · have h := oif_pos c5 h
      obtain ⟨v6, ev6, h⟩ := elet_some h
      refine lv_iinc (v := v6) (lv' := [(4, .int v6), (0, .ref (ad l0)), (1, .int l1), (2, .ref (ad l2)), (3, .ref (ad l3)), (5, .int l5)]) hx hb dX4_standsOut_71 hl (k := 4) rfl ev6.symm (by decide) rfl (fun ls hl => ?_)
      refine lv_goto (tgt := 11) hx hb dX4_standsOut_74 (by decide) ?_
      have hl := lv_sub hl [1, 2, 3, 4, 0] rfl
      exact hk11 _ _ _ _ _ _ _ _ _ h G hl
    · have h := oif_neg c5 h
      refine lv_iload hx hb dX4_standsOut_32 (lv_at hl 4 rfl) ?_
      refine lv_aload_n hx hb dX4_standsOut_34 rfl (lv_at hl 2 rfl) ?_
      obtain ⟨g7, h⟩ := oif_some h
      refine c_get E G l2 3 (oO_k g7).1 (cc_o1 (oO_k g7).2) rfl (fun w h => .tail _ (iA_15 h)) (by decide) (.tail _ qA_428) rfl rfl dX4_standsOut_35 ?_
      refine lv_topi (fun v8 ev8 => ?_)
      have h := elet_at ev8 h
      clear ev8
      refine lv_imul hx hb dX4_standsOut_38 ?_
      refine lv_topi (fun v9 ev9 => ?_)
      have h := elet_at ev9 h
      clear ev9
      refine lv_iload hx hb dX4_standsOut_39 (lv_at hl 5 rfl) ?_
      refine lv_iadd hx hb dX4_standsOut_41 ?_
      refine lv_topi (fun v10 ev10 => ?_)
      have h := elet_at ev10 h
      clear ev10
      refine lv_istore (lv' := [(6, .int v10), (0, .ref (ad l0)), (1, .int l1), (2, .ref (ad l2)), (3, .ref (ad l3)), (4, .int l4), (5, .int l5)]) hx hb dX4_standsOut_42 hl (by decide) rfl (fun ls hl => ?_)
      refine lv_iload hx hb dX4_standsOut_44 (lv_at hl 0 rfl) ?_
      refine lv_iload_n hx hb dX4_standsOut_46 rfl (lv_at hl 2 rfl) ?_
      refine lv_icmp_eq (tgt := 65) hx hb dX4_standsOut_47 (by decide) (fun c11 => ?_) (fun c11 => ?_)
      · have h := oif_pos c11 h
        have hl := lv_sub hl [1, 2, 3, 4, 5, 6] rfl
        exact u_X4_standsOut_b65 E hA hX hN hml hst kr64 kr78 hk11 ih _ _ _ _ _ _ _ _ _ _ h G hl
      · have h := oif_neg c11 h
        refine lv_aload_n hx hb dX4_standsOut_50 rfl (lv_at hl 1 rfl) ?_
        obtain ⟨g12, h⟩ := oif_some h
        obtain ⟨n13, en13, h⟩ := obind_some h
        refine c_get E G l0 1 (v := .ref (ad n13)) (oO_k g12).1 (cc_o4 (oO_k g12).2) rfl (fun w h => .tail _ (iA_21 h)) (by decide) (.tail _ qA_408) rfl (by rw [en13]; rfl) dX4_standsOut_51 ?_
        clear en13
        refine lv_iload hx hb dX4_standsOut_54 (lv_at hl 0 rfl) ?_
        refine lv_iload_n hx hb dX4_standsOut_56 rfl (lv_at hl 2 rfl) ?_
        obtain ⟨g14, h⟩ := oif_some h
        obtain ⟨r17, T15, eT15, h⟩ := obind2_some h
        refine q_cvi (As := [.int v10, .int l1]) (rest := []) E G hA hX hN hml (u_X10_compare l hst D cI cJ cZ cMic cSrc cSt cAI cAJ ad T n13 v10 l1 eT15) (cwV 2 hts (gaV qA_430 qA_120 qA_121 qA_6 qA_122) rfl rfl rfl (by decide +kernel) ⟨Nat.le_of_ble_eq_true rfl, Nat.le_of_ble_eq_true rfl⟩) (oO_k g14).1 (cc_o10 (oO_k g14).2) rfl rfl hl.1 rfl (lv_room (Nat.le_of_ble_eq_true rfl)) dX4_standsOut_57 ⟨Nat.zero_le _, Nat.zero_le _⟩ (fun q18 T16 H locs hq G => ?_)
        obtain ⟨hq1, hq2⟩ := hq
        rw [hq2] at G
        refine lv_to hq1 ?_
        clear hq1 hq2 eT15
        refine lv_if_lt (tgt := 65) hx hb dX4_standsOut_60 (by decide) (fun c19 => ?_) (fun c19 => ?_)
        · have h := oif_pos c19 h
          have hl := lv_sub hl [1, 2, 3, 4, 5, 6] rfl
          exact u_X4_standsOut_b65 E hA hX hN hml hst kr64 kr78 hk11 ih _ _ _ _ _ _ _ _ _ _ h G hl
        · have h := oif_neg c19 h
          refine lv_iconst (v := 0) hx hb dX4_standsOut_63 (by decide) ?_
          rw [(osome2 h).2] at G
          refine lv_to (osome2 h).1 ?_
          exact kr64 _ _ _ (.inl ((osome2 h).1).symm) G
def g_X4_standsOut_b11  : Nat → AT → Nat → Int32 → Nat → Nat → Int32 → Option (Int32 × AT)
  | 0, _, _, _, _, _, _ => none
  | n + 1, T, l0, l1, l2, l3, l4 => oif (aA T l3 100 = true) <| oif (inb 3 (T.2.1 l3).2 = true) <| elet (T.2.2.1 l3 (3 : Int32).toNatClampNeg) fun v4 => if v4 < l4 then (some (1, T)) else (oif (aA T l3 100 = true) <| oif (inb 0 (T.2.1 l3).2 = true) <| elet (T.2.2.1 l3 (0 : Int32).toNatClampNeg) fun v8 => g_X4_standsOut_b24 (g_X4_standsOut_b11 n) 16384 T l0 l1 l2 l3 l4 v8)
set_option maxHeartbeats 4000000 in
set_option maxRecDepth 100000 in
theorem u_X4_standsOut_b11 {p : Program} {l : Launch} {e : Env} {s : State} {m : MethodId} {args : Array Value} {below : List Frame} {meth : Method} {c : Code} {Q : State → Prop} {D : va_G} {A : Nat → Prop} {cI cJ cZ cMic cSrc cSt cAI cAJ : ClassId} {ad : Nat → Nat} {r1 : Int32} {T1 : AT} (E : cE p c cX4_standsOut s m args (Cond.code yX4_standsOut cX4_standsOut 7 (some .boolean) :: wsA) D RX4 (CT cI cJ cZ cMic cSrc cSt cAI cAJ)) (hA : ∀ q : Nat, s.heap.size ≤ q → A q) (hX : xT A s) (hN : nX s) (hml : c.maxLocals = 7) (hst : l.stackTraces = false) (kr64 : ∀ (H : Heap) (locs : List Loc) (ls : Array Slot), (r1 = 0 ∨ r1 = 1) → gC cI cJ cZ cMic cSrc cSt cAI cAJ D ad A s.heap H locs T1 → W p l e { frames := 4, cells := 0, slots := 0, locals := 67 } s m args below meth c H locs 0 0 Q (F0 m 64 ls [.int r1])) (kr78 : ∀ (H : Heap) (locs : List Loc) (ls : Array Slot), (r1 = 0 ∨ r1 = 1) → gC cI cJ cZ cMic cSrc cSt cAI cAJ D ad A s.heap H locs T1 → W p l e { frames := 4, cells := 0, slots := 0, locals := 67 } s m args below meth c H locs 0 0 Q (F0 m 78 ls [.int r1])) : ∀ n : Nat, ∀ (T : AT) (H : Heap) (locs : List Loc) (ls : Array Slot) (l0 : Nat) (l1 : Int32) (l2 : Nat) (l3 : Nat) (l4 : Int32), g_X4_standsOut_b11 n T l0 l1 l2 l3 l4 = some (r1, T1) → gC cI cJ cZ cMic cSrc cSt cAI cAJ D ad A s.heap H locs T → lv_has ls 7 [(0, .ref (ad l0)), (1, .int l1), (2, .ref (ad l2)), (3, .ref (ad l3)), (4, .int l4)] → W p l e { frames := 4, cells := 0, slots := 0, locals := 67 } s m args below meth c H locs 0 0 Q (F0 m 11 ls []) := by
  have hx := E.1
  have hb := E.2.1
  have hts := E.2.2.1
  have hown := E.2.2.2.1
  have hK := E.2.2.2.2
  intro n
  induction n with
  | zero =>
    intro T H locs ls l0 l1 l2 l3 l4 h
    have h : (none : Option (Int32 × AT)) = some (r1, T1) := h
    cases h
  | succ n ih =>
    intro T H locs ls l0 l1 l2 l3 l4 h G hl
    unfold g_X4_standsOut_b11 at h
    refine lv_iload hx hb dX4_standsOut_11 (lv_at hl 4 rfl) ?_
    refine lv_aload_n hx hb dX4_standsOut_13 rfl (lv_at hl 3 rfl) ?_
    refine lv_iconst (v := 3) hx hb dX4_standsOut_14 (by decide) ?_
    obtain ⟨g2, h⟩ := oif_some h
    obtain ⟨g3, h⟩ := oif_some h
    refine c_iald E G l3 0 (k := (3 : Int32).toNatClampNeg) (aA_k g2).1 (cc_a100 (aA_k g2).2.1) rfl (inb_k g3).1 (inb_k g3).2 (aA_k g2).2.2 dX4_standsOut_15 ?_
    refine lv_topi (fun v4 ev4 => ?_)
    have h := elet_at ev4 h
    clear ev4
    refine lv_icmp_gt (tgt := 77) hx hb dX4_standsOut_16 (by decide) (fun c5 => ?_) (fun c5 => ?_)
    · have h := oif_pos c5 h
      refine lv_iconst (v := 1) hx hb dX4_standsOut_77 (by decide) ?_
      rw [(osome2 h).2] at G
      refine lv_to (osome2 h).1 ?_
      exact kr78 _ _ _ (.inr ((osome2 h).1).symm) G
    · have h := oif_neg c5 h
      refine lv_aload_n hx hb dX4_standsOut_19 rfl (lv_at hl 3 rfl) ?_
      refine lv_iconst (v := 0) hx hb dX4_standsOut_20 (by decide) ?_
      obtain ⟨g6, h⟩ := oif_some h
      obtain ⟨g7, h⟩ := oif_some h
      refine c_iald E G l3 0 (k := (0 : Int32).toNatClampNeg) (aA_k g6).1 (cc_a100 (aA_k g6).2.1) rfl (inb_k g7).1 (inb_k g7).2 (aA_k g6).2.2 dX4_standsOut_21 ?_
      refine lv_topi (fun v8 ev8 => ?_)
      have h := elet_at ev8 h
      clear ev8
      refine lv_istore (lv' := [(5, .int v8), (0, .ref (ad l0)), (1, .int l1), (2, .ref (ad l2)), (3, .ref (ad l3)), (4, .int l4)]) hx hb dX4_standsOut_22 hl (by decide) rfl (fun ls hl => ?_)
      have hl := lv_sub hl [1, 2, 3, 4, 5, 0] rfl
      exact u_X4_standsOut_b24 E hA hX hN hml hst kr64 kr78 ih _ _ _ _ _ _ _ _ _ _ _ h G hl
def g_X4_standsOut (T : AT) (o : Nat) (a0 : Int32) (a1 : Nat) : Option (Int32 × AT) := oif (oO T a1 1 = true) <| obind2 (g_X1_areaAround T a1 a0) fun n5 T3 => oif (aA T3 n5 100 = true) <| oif (inb 1 (T3.2.1 n5).2 = true) <| elet (T3.2.2.1 n5 (1 : Int32).toNatClampNeg) fun v8 => g_X4_standsOut_b11 16384 T3 o a0 a1 n5 v8
set_option maxHeartbeats 4000000 in
set_option maxRecDepth 100000 in
theorem u_X4_standsOut (l : Launch) (hst : l.stackTraces = false) (D : va_G) (cI cJ cZ cMic cSrc cSt cAI cAJ : ClassId) (ad : Nat → Nat) (T : AT) (o : Nat) (a0 : Int32) (a1 : Nat) {r1 : Int32} {T1 : AT} (h : g_X4_standsOut T o a0 a1 = some (r1, T1)) : kCi l yX4_standsOut (Cond.code yX4_standsOut cX4_standsOut 7 (some .boolean) :: wsA) 4 67 cI cJ cZ cMic cSrc cSt cAI cAJ D ad T [.ref (ad o), .int a0, .ref (ad a1)] (fun r T9 => r = r1 ∧ T9 = T1) := by
  intro sz
  refine Met.ofW (cc := cX4_standsOut) (maxL := 7) (ret := (some .boolean)) (by decide) rfl ?_
  intro p e s m args below meth c s₁ B hml hv
  obtain ⟨rfl, hsz, hP, hK, hD0, hX, hN⟩ := hv
  have hx := B.exec
  have hb := B.bytes
  have hr := B.returns
  have hts := atoms_spec (ws := (Cond.code yX4_standsOut cX4_standsOut 7 (some .boolean) :: wsA)) B.pre
  have hown : s.vm.findClass RX4 = some m.cls := findClass_of_methodNamed B.named
  have hlocks := B.notSynchronized
  subst hsz
  have hD := hD0.self (sz := s.heap.size)
  generalize hAe : va_A (cW ad T.1 (cc cI cJ cZ cMic cSrc cSt cAI cAJ ad T)) s.heap.size = A at hD hX ⊢
  have hA : ∀ q : Nat, s.heap.size ≤ q → A q := fun q h => by rw [← hAe]; exact Or.inr h
  have G : gC cI cJ cZ cMic cSrc cSt cAI cAJ D ad A s.heap s.heap [] T := ⟨hP, hD, va_S.rf⟩
  have E : cE p c cX4_standsOut s m ([.ref (ad o), .int a0, .ref (ad a1)] : List Value).toArray (Cond.code yX4_standsOut cX4_standsOut 7 (some .boolean) :: wsA) D RX4 (CT cI cJ cZ cMic cSrc cSt cAI cAJ) := ⟨hx, hb, hts, hown, hK⟩
  have hl := lv_entry ([.ref (ad o), .int a0, .ref (ad a1)]) (n := 7) (Nat.le_of_ble_eq_true rfl)
  rw [lg_entry_eq]
  generalize (lg_sl ([.ref (ad o), .int a0, .ref (ad a1)]) ++ List.replicate (7 - (lg_sl ([.ref (ad o), .int a0, .ref (ad a1)])).length) Slot.unset).toArray = ls at hl ⊢
  have hl : lv_has ls 7 [(0, .ref (ad o)), (1, .int a0), (2, .ref (ad a1))] := hl
  unfold g_X4_standsOut at h
  refine lv_aload_n hx hb dX4_standsOut_0 rfl (lv_at hl 2 rfl) ?_
  refine lv_iload_n hx hb dX4_standsOut_1 rfl (lv_at hl 1 rfl) ?_
  obtain ⟨g2, h⟩ := oif_some h
  obtain ⟨n5, T3, eT3, h⟩ := obind2_some h
  refine q_cvr (As := [.int a0]) (rest := []) E G hA hX hN hml (u_X1_areaAround l hst D cI cJ cZ cMic cSrc cSt cAI cAJ ad T a1 a0 eT3) (cwV 1 hts (gaV qA_429 qA_134 qA_135 qA_37 qA_136) rfl rfl rfl (by decide +kernel) ⟨Nat.le_of_ble_eq_true rfl, Nat.le_of_ble_eq_true rfl⟩) (oO_k g2).1 (cc_o1 (oO_k g2).2) rfl rfl hl.1 rfl (lv_room (Nat.le_of_ble_eq_true rfl)) dX4_standsOut_2 ⟨Nat.zero_le _, Nat.zero_le _⟩ (fun T4 H locs hq G => ?_)
  rw [hq] at G
  clear hq eT3
  refine lv_astore_n (lv' := [(3, .ref (ad n5)), (0, .ref (ad o)), (1, .int a0), (2, .ref (ad a1))]) hx hb dX4_standsOut_5 rfl hl (by decide) rfl (fun ls hl => ?_)
  refine lv_aload_n hx hb dX4_standsOut_6 rfl (lv_at hl 0 rfl) ?_
  refine lv_iconst (v := 1) hx hb dX4_standsOut_7 (by decide) ?_
  obtain ⟨g6, h⟩ := oif_some h
  obtain ⟨g7, h⟩ := oif_some h
  refine c_iald E G n5 0 (k := (1 : Int32).toNatClampNeg) (aA_k g6).1 (cc_a100 (aA_k g6).2.1) rfl (inb_k g7).1 (inb_k g7).2 (aA_k g6).2.2 dX4_standsOut_8 ?_
  refine lv_topi (fun v8 ev8 => ?_)
  have h := elet_at ev8 h
  clear ev8
  refine lv_istore (lv' := [(4, .int v8), (3, .ref (ad n5)), (0, .ref (ad o)), (1, .int a0), (2, .ref (ad a1))]) hx hb dX4_standsOut_9 hl (by decide) rfl (fun ls hl => ?_)
  have hl := lv_sub hl [2, 3, 4, 1, 0] rfl
  exact u_X4_standsOut_b11 E hA hX hN hml hst (fun H locs ls gz G => W.zret (v := r1) hx hb hr (nar01 gz) (fun t ht hW => ⟨⟨r1, T1, rfl, ⟨rfl, rfl⟩, ⟨by rw [ht]; exact G.1, va_K.moved hW.alike hK, G.2.1⟩⟩, G.2.2.F ht⟩) G.2.2.2.2 dX4_standsOut_64) (fun H locs ls gz G => W.zret (v := r1) hx hb hr (nar01 gz) (fun t ht hW => ⟨⟨r1, T1, rfl, ⟨rfl, rfl⟩, ⟨by rw [ht]; exact G.1, va_K.moved hW.alike hK, G.2.1⟩⟩, G.2.2.F ht⟩) G.2.2.2.2 dX4_standsOut_78) _ _ _ _ _ _ _ _ _ _ h G hl
set_option maxHeartbeats 4000000 in
set_option maxRecDepth 100000 in
theorem s_X4_standsOut_b65 {r1 : Int32} {T1 : AT} {k11 : AT → Nat → Int32 → Nat → Nat → Int32 → Option (Int32 × AT)} {k24 : AT → Nat → Int32 → Nat → Nat → Int32 → Int32 → Option (Int32 × AT)} (hk11 : ∀ (T : AT) (l0 : Nat) (l1 : Int32) (l2 : Nat) (l3 : Nat) (l4 : Int32), k11 T l0 l1 l2 l3 l4 = some (r1, T1) → SP T T1) (hk24 : ∀ (T : AT) (l0 : Nat) (l1 : Int32) (l2 : Nat) (l3 : Nat) (l4 : Int32) (l5 : Int32), k24 T l0 l1 l2 l3 l4 l5 = some (r1, T1) → SP T T1) : ∀ (T : AT) (l0 : Nat) (l1 : Int32) (l2 : Nat) (l3 : Nat) (l4 : Int32) (l5 : Int32), g_X4_standsOut_b65 k11 k24 T l0 l1 l2 l3 l4 l5 = some (r1, T1) → SP T T1 := by
  intro T l0 l1 l2 l3 l4 l5 h
  have p0 := SP.rf T
  unfold g_X4_standsOut_b65 at h
  obtain ⟨v2, ev2, h⟩ := elet_some h
  exact SP.tr p0 (hk24 _ _ _ _ _ _ _ h)
set_option maxHeartbeats 4000000 in
set_option maxRecDepth 100000 in
theorem s_X4_standsOut_b24 {r1 : Int32} {T1 : AT} {k11 : AT → Nat → Int32 → Nat → Nat → Int32 → Option (Int32 × AT)} (hk11 : ∀ (T : AT) (l0 : Nat) (l1 : Int32) (l2 : Nat) (l3 : Nat) (l4 : Int32), k11 T l0 l1 l2 l3 l4 = some (r1, T1) → SP T T1) : ∀ n : Nat, ∀ (T : AT) (l0 : Nat) (l1 : Int32) (l2 : Nat) (l3 : Nat) (l4 : Int32) (l5 : Int32), g_X4_standsOut_b24 k11 n T l0 l1 l2 l3 l4 l5 = some (r1, T1) → SP T T1 := by
  intro n
  induction n with
  | zero =>
    intro T l0 l1 l2 l3 l4 l5 h
    have h : (none : Option (Int32 × AT)) = some (r1, T1) := h
    cases h
  | succ n ih =>
    intro T l0 l1 l2 l3 l4 l5 h
    have p0 := SP.rf T
    unfold g_X4_standsOut_b24 at h
    obtain ⟨g2, h⟩ := oif_some h
    obtain ⟨g3, h⟩ := oif_some h
    obtain ⟨v4, -, h⟩ := elet_some h
    rcases oif_or h with ⟨c5, h⟩ | ⟨c5, h⟩
    · have h := h
      obtain ⟨v6, ev6, h⟩ := elet_some h
      exact SP.tr p0 (hk11 _ _ _ _ _ _ h)
    · have h := h
      obtain ⟨g7, h⟩ := oif_some h
      obtain ⟨v8, -, h⟩ := elet_some h
      obtain ⟨v9, -, h⟩ := elet_some h
      obtain ⟨v10, -, h⟩ := elet_some h
      rcases oif_or h with ⟨c11, h⟩ | ⟨c11, h⟩
      · have h := h
        exact SP.tr p0 (s_X4_standsOut_b65 hk11 ih _ _ _ _ _ _ _ h)
      · have h := h
        obtain ⟨g12, h⟩ := oif_some h
        obtain ⟨n13, en13, h⟩ := obind_some h
        obtain ⟨g14, h⟩ := oif_some h
        obtain ⟨r16, T15, eT15, h⟩ := obind2_some h
        have p1 : SP T T15 := SP.tr p0 (s_X10_compare eT15)
        rcases oif_or h with ⟨c17, h⟩ | ⟨c17, h⟩
        · have h := h
          exact SP.tr p1 (s_X4_standsOut_b65 hk11 ih _ _ _ _ _ _ _ h)
        · have h := h
          rw [← (osome2 h).2]
          exact p1
set_option maxHeartbeats 4000000 in
set_option maxRecDepth 100000 in
theorem s_X4_standsOut_b11 {r1 : Int32} {T1 : AT} : ∀ n : Nat, ∀ (T : AT) (l0 : Nat) (l1 : Int32) (l2 : Nat) (l3 : Nat) (l4 : Int32), g_X4_standsOut_b11 n T l0 l1 l2 l3 l4 = some (r1, T1) → SP T T1 := by
  intro n
  induction n with
  | zero =>
    intro T l0 l1 l2 l3 l4 h
    have h : (none : Option (Int32 × AT)) = some (r1, T1) := h
    cases h
  | succ n ih =>
    intro T l0 l1 l2 l3 l4 h
    have p0 := SP.rf T
    unfold g_X4_standsOut_b11 at h
    obtain ⟨g2, h⟩ := oif_some h
    obtain ⟨g3, h⟩ := oif_some h
    obtain ⟨v4, -, h⟩ := elet_some h
    rcases oif_or h with ⟨c5, h⟩ | ⟨c5, h⟩
    · have h := h
      rw [← (osome2 h).2]
      exact p0
    · have h := h
      obtain ⟨g6, h⟩ := oif_some h
      obtain ⟨g7, h⟩ := oif_some h
      obtain ⟨v8, -, h⟩ := elet_some h
      exact SP.tr p0 (s_X4_standsOut_b24 ih _ _ _ _ _ _ _ _ h)
set_option maxHeartbeats 4000000 in
set_option maxRecDepth 100000 in
theorem s_X4_standsOut {T : AT} {o : Nat} {a0 : Int32} {a1 : Nat} {r1 : Int32} {T1 : AT} (h : g_X4_standsOut T o a0 a1 = some (r1, T1)) : SP T T1 := by
  have p0 := SP.rf T
  unfold g_X4_standsOut at h
  obtain ⟨g2, h⟩ := oif_some h
  obtain ⟨r4, T3, eT3, h⟩ := obind2_some h
  have p1 : SP T T3 := SP.tr p0 (s_X1_areaAround eT3)
  obtain ⟨g5, h⟩ := oif_some h
  obtain ⟨g6, h⟩ := oif_some h
  obtain ⟨v7, -, h⟩ := elet_some h
  exact SP.tr p1 (s_X4_standsOut_b11 _ _ _ _ _ _ _ h)
end
section
/-! 11kh.cd7.lean.txt -/
def g_X10_set_b13  (T : AT)  : Option (AT) := some T
def g_X10_set (T : AT) (o : Nat) (a0 : Int32) (a1 : Nat) (a2 : Int32) : Option (AT) := oif (oO T o 10 = true) <| obind (g_X10_clear T o a0) fun T3 => oif (oO T3 o 10 = true) <| obind (g_X10_add T3 o a0 a1 a2 (1 : Int32)) fun T6 => g_X10_set_b13 T6
set_option maxHeartbeats 4000000 in
set_option maxRecDepth 100000 in
theorem s_X10_set_b13 {T1 : AT} : ∀ (T : AT), g_X10_set_b13 T = some T1 → GL T T1 := by
  intro T h
  have p0 := GL.rf T
  unfold g_X10_set_b13 at h
  rw [← osome1 h]
  exact p0
set_option maxHeartbeats 4000000 in
set_option maxRecDepth 100000 in
theorem s_X10_set {T : AT} {o : Nat} {a0 : Int32} {a1 : Nat} {a2 : Int32} {T1 : AT} (h : g_X10_set T o a0 a1 a2 = some T1) : GL T T1 := by
  have p0 := GL.rf T
  unfold g_X10_set at h
  obtain ⟨g2, h⟩ := oif_some h
  obtain ⟨T3, eT3, h⟩ := obind_some h
  have p1 : GL T T3 := GL.tr p0 (gl_sp (s_X10_clear eT3))
  obtain ⟨g5, h⟩ := oif_some h
  obtain ⟨T6, eT6, h⟩ := obind_some h
  have p2 : GL T T6 := GL.tr p1 (s_X10_add eT6)
  exact GL.tr p2 (s_X10_set_b13 _ h)
set_option maxHeartbeats 4000000 in
set_option maxRecDepth 100000 in
theorem a_X10_set_b13 {p : Program} {l : Launch} {e : Env} {s : State} {m : MethodId} {args : Array Value} {below : List Frame} {meth : Method} {c : Code} {Q : State → Prop} {D : va_G} {A : Nat → Prop} {cI cJ cZ cMic cSrc cSt cAI cAJ : ClassId} {ad0 : Nat → Nat} {T0 : AT} {T1 : AT} (E : cE p c cX10_set s m args (Cond.code yX10_set cX10_set 4 none :: wsA) D RX10 (CT cI cJ cZ cMic cSrc cSt cAI cAJ)) (hA : ∀ q : Nat, s.heap.size ≤ q → A q) (hX : xT A s) (hN : nX s) (hml : c.maxLocals = 4) (hst : l.stackTraces = false) (kr13 : ∀ (ad : Nat → Nat) (H : Heap) (locs : List Loc) (ls : Array Slot), (∀ n, n < T0.1 → ad n = ad0 n) → gC cI cJ cZ cMic cSrc cSt cAI cAJ D ad A s.heap H locs T1 → W p l e { frames := 4, cells := T1.1 - T0.1, slots := sg T1 - sg T0, locals := 74 } s m args below meth c H locs (T1.1 - T0.1) (sg T1 - sg T0) Q (F0 m 13 ls [])) : ∀ (T : AT) (ad : Nat → Nat) (H : Heap) (locs : List Loc) (ls : Array Slot), g_X10_set_b13 T = some T1 → GL T0 T → RC T → (∀ n, n < T0.1 → ad n = ad0 n) → gC cI cJ cZ cMic cSrc cSt cAI cAJ D ad A s.heap H locs T → lv_has ls 4 [] → W p l e { frames := 4, cells := T1.1 - T0.1, slots := sg T1 - sg T0, locals := 74 } s m args below meth c H locs (T.1 - T0.1) (sg T - sg T0) Q (F0 m 13 ls []) := by
  have hx := E.1
  have hb := E.2.1
  have hts := E.2.2.1
  have hown := E.2.2.2.1
  have hK := E.2.2.2.2
  intro T ad H locs ls h hgl hrc had G hl
  have hT1 := s_X10_set_b13 _ h
  have hcs := cs_ok hgl hT1
  have cp0 := cpr0 hrc
  unfold g_X10_set_b13 at h
  rw [osome1 h] at G
  refine w_cast (c2 := T1.1 - T0.1) (s2 := sg T1 - sg T0) (by rw [← osome1 h, cp0.1] <;> rfl) (by rw [← osome1 h, sg_cpr cp0] <;> rfl) ?_
  exact kr13 ad _ _ _ had G
set_option maxHeartbeats 4000000 in
set_option maxRecDepth 100000 in
theorem a_X10_set (l : Launch) (hst : l.stackTraces = false) (D : va_G) (cI cJ cZ cMic cSrc cSt cAI cAJ : ClassId) (ad : Nat → Nat) (T : AT) (o : Nat) (a0 : Int32) (a1 : Nat) (a2 : Int32) {T1 : AT} (h : g_X10_set T o a0 a1 a2 = some T1) (hrc : RC T) (h_o : o < T.1) (h_a1 : a1 < T.1) : kAv l yX10_set (Cond.code yX10_set cX10_set 4 none :: wsA) 4 74 cI cJ cZ cMic cSrc cSt cAI cAJ D ad T [.ref (ad o), .int a0, .ref (ad a1), .int a2] T1 := by
  intro sz
  refine Met.ofW (cc := cX10_set) (maxL := 4) (ret := none) (by decide) rfl ?_
  intro p e s m args below meth c s₁ B hml hv
  obtain ⟨rfl, hsz, hP, hK, hD0, hX, hN⟩ := hv
  have hx := B.exec
  have hb := B.bytes
  have hr := B.returns
  have hts := atoms_spec (ws := (Cond.code yX10_set cX10_set 4 none :: wsA)) B.pre
  have hown : s.vm.findClass RX10 = some m.cls := findClass_of_methodNamed B.named
  have hlocks := B.notSynchronized
  subst hsz
  have hD := hD0.self (sz := s.heap.size)
  generalize hAe : va_A (cW ad T.1 (cc cI cJ cZ cMic cSrc cSt cAI cAJ ad T)) s.heap.size = A at hD hX ⊢
  have hA : ∀ q : Nat, s.heap.size ≤ q → A q := fun q h => by rw [← hAe]; exact Or.inr h
  have G : gC cI cJ cZ cMic cSrc cSt cAI cAJ D ad A s.heap s.heap [] T := ⟨hP, hD, va_S.rf⟩
  have E : cE p c cX10_set s m ([.ref (ad o), .int a0, .ref (ad a1), .int a2] : List Value).toArray (Cond.code yX10_set cX10_set 4 none :: wsA) D RX10 (CT cI cJ cZ cMic cSrc cSt cAI cAJ) := ⟨hx, hb, hts, hown, hK⟩
  have hl := lv_entry ([.ref (ad o), .int a0, .ref (ad a1), .int a2]) (n := 4) (Nat.le_of_ble_eq_true rfl)
  rw [lg_entry_eq]
  generalize (lg_sl ([.ref (ad o), .int a0, .ref (ad a1), .int a2]) ++ List.replicate (4 - (lg_sl ([.ref (ad o), .int a0, .ref (ad a1), .int a2])).length) Slot.unset).toArray = ls at hl ⊢
  have hl : lv_has ls 4 [(0, .ref (ad o)), (1, .int a0), (2, .ref (ad a1)), (3, .int a2)] := hl
  have hgl := GL.rf T
  have had : ∀ n, n < T.1 → ad n = ad n := fun _ _ => rfl
  have hT1 := s_X10_set h
  have hcs := cs_ok hgl hT1
  refine w_cast (Nat.sub_self T.1).symm (Nat.sub_self (sg T)).symm ?_
  have cp0 := cpr0 hrc
  unfold g_X10_set at h
  refine lv_aload_n hx hb dX10_set_0 rfl (lv_at hl 0 rfl) ?_
  refine lv_iload_n hx hb dX10_set_1 rfl (lv_at hl 1 rfl) ?_
  obtain ⟨g2, h⟩ := oif_some h
  obtain ⟨T3, eT3, h⟩ := obind_some h
  refine q_cvv (As := [.int a0]) (rest := []) E G hA hX hN hml (u_X10_clear l hst D cI cJ cZ cMic cSrc cSt cAI cAJ ad T o a0 eT3) (cwV 1 hts (gaV qA_435 qA_66 qA_67 qA_6 qA_68) rfl rfl rfl (by decide +kernel) ⟨Nat.le_of_ble_eq_true rfl, Nat.le_of_ble_eq_true rfl⟩) (oO_k g2).1 (cc_o10 (oO_k g2).2) rfl rfl hl.1 rfl (lv_room (Nat.le_of_ble_eq_true rfl)) dX10_set_2 hcs (fun T4 H locs hq G => ?_)
  rw [hq] at G
  clear hq
  have cp1 := cpr_sp cp0 (s_X10_clear eT3)
  refine lv_aload_n hx hb dX10_set_5 rfl (lv_at hl 0 rfl) ?_
  refine lv_iload_n hx hb dX10_set_6 rfl (lv_at hl 1 rfl) ?_
  refine lv_aload_n hx hb dX10_set_7 rfl (lv_at hl 2 rfl) ?_
  refine lv_iload_n hx hb dX10_set_8 rfl (lv_at hl 3 rfl) ?_
  refine lv_iconst (v := 1) hx hb dX10_set_9 (by decide) ?_
  obtain ⟨g5, h⟩ := oif_some h
  obtain ⟨T6, eT6, h⟩ := obind_some h
  have hg2 := s_X10_add eT6
  have hrc2 := hg2.2.2 cp1.2.2
  have hT2 := s_X10_set_b13 _ h
  refine q_avv (As := [.int a0, .ref (ad a1), .int a2, .int 1]) (rest := []) E G hA hX hN hml (a_X10_add l hst D cI cJ cZ cMic cSrc cSt cAI cAJ ad T3 o a0 a1 a2 (1 : Int32) eT6 cp1.2.2 (by rw [cp1.1]; exact h_o) (by rw [cp1.1]; exact h_a1)) (cwV 4 hts (gaV qA_436 qA_151 qA_152 qA_6 qA_153) rfl rfl rfl (by decide +kernel) ⟨Nat.le_of_ble_eq_true rfl, Nat.le_of_ble_eq_true rfl⟩) (oO_k g5).1 (cc_o10 (oO_k g5).2) rfl rfl hl.1 rfl (lv_room (Nat.le_of_ble_eq_true rfl)) dX10_set_10 (cs_av hgl cp1 hg2 hT2) (fun ad2 H locs hga G => ?_)
  refine w_cast (c2 := T6.1 - T.1) (s2 := sg T6 - sg T) (cs_f1 hgl cp1 hg2) (cs_f2 hgl cp1 hg2) ?_
  have hl := lv_sub hl [] rfl
  exact a_X10_set_b13 E hA hX hN hml hst (fun ad H locs ls had G => W.vret hx hb hr (fun t ht hW => ⟨⟨(T1, ad), rfl, ⟨rfl, had⟩, ⟨by rw [ht]; exact G.1, va_K.moved hW.alike hK, G.2.1⟩⟩, G.2.2.F ht⟩) G.2.2.2.2 dX10_set_13) _ _ _ _ _ h (GL.tr (gl_cpr hgl cp1) hg2) hrc2 (fun n hn => (hga n (by rw [cp1.1]; exact Nat.lt_of_lt_of_le hn hgl.1)).trans (had n hn)) G hl
def g_X4_measure_b148 (k89 : AT → Nat → Nat → Int32 → Option (AT)) (T : AT) (l0 : Nat) (l1 : Nat) (l3 : Int32) : Option (AT) := elet (l3 + Int32.ofInt (1)) fun v2 => k89 T l0 l1 v2
def g_X4_measure_b138 (k89 : AT → Nat → Nat → Int32 → Option (AT)) (T : AT) (l0 : Nat) (l1 : Nat) (l3 : Int32) : Option (AT) := oif (oO T l0 4 = true) <| elet (T.2.2.1 l0 3) fun v3 => elet (v3 + 1) fun v4 => oif (oO T l0 4 = true) <| elet (uI T l0 3 v4) fun T6 => g_X4_measure_b148 k89 T6 l0 l1 l3
def g_X4_measure_b89  : Nat → AT → Nat → Nat → Int32 → Option (AT)
  | 0, _, _, _, _ => none
  | n + 1, T, l0, l1, l3 => oif (oO T l1 6 = true) <| obind (T.2.2.2.2 l1 6) fun n3 => oif (oO T n3 1 = true) <| obind2 (g_X1_cells T n3) fun r7 T5 => if r7 ≤ l3 then (some T5) else (oif (oO T5 l1 6 = true) <| obind (T5.2.2.2.2 l1 6) fun n11 => oif (oO T5 l0 4 = true) <| obind2 (g_X4_standsOut T5 l0 l3 n11) fun r15 T13 => if r15 = 0 then (g_X4_measure_b148 (g_X4_measure_b89 n) T13 l0 l1 l3) else (oif (oO T13 l0 4 = true) <| obind (T13.2.2.2.2 l0 4) fun n19 => oif (oO T13 l0 4 = true) <| elet (T13.2.2.1 l0 3) fun v21 => oif (aA T13 n19 100 = true) <| oif (inb v21 (T13.2.1 n19).2 = true) <| elet (uI T13 n19 v21.toNatClampNeg l3) fun T24 => oif (oO T24 l0 4 = true) <| obind (T24.2.2.2.2 l0 5) fun n26 => oif (oO T24 l0 4 = true) <| elet (T24.2.2.1 l0 3) fun v28 => oif (oO T24 l0 4 = true) <| obind (T24.2.2.2.2 l0 1) fun n30 => oif (oO T24 n26 10 = true) <| obind (g_X10_set T24 n26 v28 n30 l3) fun T32 => g_X4_measure_b138 (g_X4_measure_b89 n) T32 l0 l1 l3))
def g_X4_measure_b53 (k16 : AT → Nat → Nat → Nat → Int32 → Option (AT)) (T : AT) (l0 : Nat) (l1 : Nat) (l2 : Nat) (l3 : Int32) : Option (AT) := elet (l3 + Int32.ofInt (1)) fun v2 => k16 T l0 l1 l2 v2
def g_X4_measure_b16  : Nat → AT → Nat → Nat → Nat → Int32 → Option (AT)
  | 0, _, _, _, _, _ => none
  | n + 1, T, l0, l1, l2, l3 => oif (oO T l1 6 = true) <| obind (T.2.2.2.2 l1 6) fun n3 => oif (oO T n3 1 = true) <| obind2 (g_X1_cells T n3) fun r7 T5 => if r7 ≤ l3 then (oif (oO T5 l1 6 = true) <| obind (T5.2.2.2.2 l1 6) fun n11 => oif (oO T5 l1 6 = true) <| obind (T5.2.2.2.2 l1 6) fun n13 => oif (oO T5 n13 1 = true) <| obind (T5.2.2.2.2 n13 5) fun n15 => oif (oO T5 l0 4 = true) <| obind (T5.2.2.2.2 l0 1) fun n17 => oif (oO T5 n11 1 = true) <| obind2 (g_X1_bestIn T5 n11 n15 n17 (0 : Int32)) fun r21 T19 => oif (oO T19 l0 4 = true) <| elet (uI T19 l0 2 r21) fun T24 => oif (oO T24 l0 4 = true) <| elet (uI T24 l0 3 0) fun T26 => g_X4_measure_b89 16384 T26 l0 l1 0) else (oif (oO T5 l1 6 = true) <| obind (T5.2.2.2.2 l1 17) fun n28 => oif (aA T5 n28 106 = true) <| oif (inb l3 (T5.2.1 n28).2 = true) <| obind (T5.2.2.2.2 n28 l3.toNatClampNeg) fun n31 => oif (oO T5 l2 8 = true) <| obind2 (g_X8_windowOf T5 l2 n31) fun r35 T33 => oif (oO T33 l0 4 = true) <| obind (T33.2.2.2.2 l0 1) fun n38 => oif (oO T33 l2 8 = true) <| obind (g_X8_blockPowerOf T33 l2 n31 (0 : Int32) r35 n38 l3) fun T40 => g_X4_measure_b53 (g_X4_measure_b16 n) T40 l0 l1 l2 l3)
def g_X4_measure (T : AT) (o : Nat) (a0 : Nat) (a1 : Nat) : Option (AT) := oif (oO T o 4 = true) <| obind (T.2.2.2.2 o 1) fun n3 => oif (oO T n3 10 = true) <| obind (g_X10_narrow T n3) fun T5 => oif (oO T5 o 4 = true) <| obind (T5.2.2.2.2 o 5) fun n8 => oif (oO T5 n8 10 = true) <| obind (g_X10_narrow T5 n8) fun T10 => g_X4_measure_b16 16384 T10 o a0 a1 0
set_option maxHeartbeats 4000000 in
set_option maxRecDepth 100000 in
theorem s_X4_measure_b148 {T1 : AT} {k89 : AT → Nat → Nat → Int32 → Option (AT)} (hk89 : ∀ (T : AT) (l0 : Nat) (l1 : Nat) (l3 : Int32), k89 T l0 l1 l3 = some T1 → GL T T1) : ∀ (T : AT) (l0 : Nat) (l1 : Nat) (l3 : Int32), g_X4_measure_b148 k89 T l0 l1 l3 = some T1 → GL T T1 := by
  intro T l0 l1 l3 h
  have p0 := GL.rf T
  unfold g_X4_measure_b148 at h
  obtain ⟨v2, ev2, h⟩ := elet_some h
  exact GL.tr p0 (hk89 _ _ _ _ h)
set_option maxHeartbeats 4000000 in
set_option maxRecDepth 100000 in
theorem s_X4_measure_b138 {T1 : AT} {k89 : AT → Nat → Nat → Int32 → Option (AT)} (hk89 : ∀ (T : AT) (l0 : Nat) (l1 : Nat) (l3 : Int32), k89 T l0 l1 l3 = some T1 → GL T T1) : ∀ (T : AT) (l0 : Nat) (l1 : Nat) (l3 : Int32), g_X4_measure_b138 k89 T l0 l1 l3 = some T1 → GL T T1 := by
  intro T l0 l1 l3 h
  have p0 := GL.rf T
  unfold g_X4_measure_b138 at h
  obtain ⟨g2, h⟩ := oif_some h
  obtain ⟨v3, -, h⟩ := elet_some h
  obtain ⟨v4, -, h⟩ := elet_some h
  obtain ⟨g5, h⟩ := oif_some h
  obtain ⟨T6, eT6, h⟩ := elet_some h
  have p1 : GL T T6 := GL.tr p0 (by rw [eT6]; exact gl_sp sp_uI)
  exact GL.tr p1 (s_X4_measure_b148 hk89 _ _ _ _ h)
set_option maxHeartbeats 4000000 in
set_option maxRecDepth 100000 in
theorem s_X4_measure_b89 {T1 : AT} : ∀ n : Nat, ∀ (T : AT) (l0 : Nat) (l1 : Nat) (l3 : Int32), g_X4_measure_b89 n T l0 l1 l3 = some T1 → GL T T1 := by
  intro n
  induction n with
  | zero =>
    intro T l0 l1 l3 h
    have h : (none : Option (AT)) = some T1 := h
    cases h
  | succ n ih =>
    intro T l0 l1 l3 h
    have p0 := GL.rf T
    unfold g_X4_measure_b89 at h
    obtain ⟨g2, h⟩ := oif_some h
    obtain ⟨n3, en3, h⟩ := obind_some h
    obtain ⟨g4, h⟩ := oif_some h
    obtain ⟨r6, T5, eT5, h⟩ := obind2_some h
    have p1 : GL T T5 := GL.tr p0 (gl_sp (s_X1_cells eT5))
    rcases oif_or h with ⟨c7, h⟩ | ⟨c7, h⟩
    · have h := h
      rw [← osome1 h]
      exact p1
    · have h := h
      obtain ⟨g8, h⟩ := oif_some h
      obtain ⟨n9, en9, h⟩ := obind_some h
      obtain ⟨g10, h⟩ := oif_some h
      obtain ⟨r12, T11, eT11, h⟩ := obind2_some h
      have p2 : GL T T11 := GL.tr p1 (gl_sp (s_X4_standsOut eT11))
      rcases oif_or h with ⟨c13, h⟩ | ⟨c13, h⟩
      · have h := h
        exact GL.tr p2 (s_X4_measure_b148 ih _ _ _ _ h)
      · have h := h
        obtain ⟨g14, h⟩ := oif_some h
        obtain ⟨n15, en15, h⟩ := obind_some h
        obtain ⟨g16, h⟩ := oif_some h
        obtain ⟨v17, -, h⟩ := elet_some h
        obtain ⟨g18, h⟩ := oif_some h
        obtain ⟨g19, h⟩ := oif_some h
        obtain ⟨T20, eT20, h⟩ := elet_some h
        have p3 : GL T T20 := GL.tr p2 (by rw [eT20]; exact gl_sp sp_uI)
        obtain ⟨g21, h⟩ := oif_some h
        obtain ⟨n22, en22, h⟩ := obind_some h
        obtain ⟨g23, h⟩ := oif_some h
        obtain ⟨v24, -, h⟩ := elet_some h
        obtain ⟨g25, h⟩ := oif_some h
        obtain ⟨n26, en26, h⟩ := obind_some h
        obtain ⟨g27, h⟩ := oif_some h
        obtain ⟨T28, eT28, h⟩ := obind_some h
        have p4 : GL T T28 := GL.tr p3 (s_X10_set eT28)
        exact GL.tr p4 (s_X4_measure_b138 ih _ _ _ _ h)
set_option maxHeartbeats 4000000 in
set_option maxRecDepth 100000 in
theorem s_X4_measure_b53 {T1 : AT} {k16 : AT → Nat → Nat → Nat → Int32 → Option (AT)} (hk16 : ∀ (T : AT) (l0 : Nat) (l1 : Nat) (l2 : Nat) (l3 : Int32), k16 T l0 l1 l2 l3 = some T1 → GL T T1) : ∀ (T : AT) (l0 : Nat) (l1 : Nat) (l2 : Nat) (l3 : Int32), g_X4_measure_b53 k16 T l0 l1 l2 l3 = some T1 → GL T T1 := by
  intro T l0 l1 l2 l3 h
  have p0 := GL.rf T
  unfold g_X4_measure_b53 at h
  obtain ⟨v2, ev2, h⟩ := elet_some h
  exact GL.tr p0 (hk16 _ _ _ _ _ h)
set_option maxHeartbeats 4000000 in
set_option maxRecDepth 100000 in
theorem s_X4_measure_b16 {T1 : AT} : ∀ n : Nat, ∀ (T : AT) (l0 : Nat) (l1 : Nat) (l2 : Nat) (l3 : Int32), g_X4_measure_b16 n T l0 l1 l2 l3 = some T1 → GL T T1 := by
  intro n
  induction n with
  | zero =>
    intro T l0 l1 l2 l3 h
    have h : (none : Option (AT)) = some T1 := h
    cases h
  | succ n ih =>
    intro T l0 l1 l2 l3 h
    have p0 := GL.rf T
    unfold g_X4_measure_b16 at h
    obtain ⟨g2, h⟩ := oif_some h
    obtain ⟨n3, en3, h⟩ := obind_some h
    obtain ⟨g4, h⟩ := oif_some h
    obtain ⟨r6, T5, eT5, h⟩ := obind2_some h
    have p1 : GL T T5 := GL.tr p0 (gl_sp (s_X1_cells eT5))
    rcases oif_or h with ⟨c7, h⟩ | ⟨c7, h⟩
    · have h := h
      obtain ⟨g8, h⟩ := oif_some h
      obtain ⟨n9, en9, h⟩ := obind_some h
      obtain ⟨g10, h⟩ := oif_some h
      obtain ⟨n11, en11, h⟩ := obind_some h
      obtain ⟨g12, h⟩ := oif_some h
      obtain ⟨n13, en13, h⟩ := obind_some h
      obtain ⟨g14, h⟩ := oif_some h
      obtain ⟨n15, en15, h⟩ := obind_some h
      obtain ⟨g16, h⟩ := oif_some h
      obtain ⟨r18, T17, eT17, h⟩ := obind2_some h
      have p2 : GL T T17 := GL.tr p1 (gl_sp (s_X1_bestIn eT17))
      obtain ⟨g19, h⟩ := oif_some h
      obtain ⟨T20, eT20, h⟩ := elet_some h
      have p3 : GL T T20 := GL.tr p2 (by rw [eT20]; exact gl_sp sp_uI)
      obtain ⟨g21, h⟩ := oif_some h
      obtain ⟨T22, eT22, h⟩ := elet_some h
      have p4 : GL T T22 := GL.tr p3 (by rw [eT22]; exact gl_sp sp_uI)
      exact GL.tr p4 (s_X4_measure_b89 _ _ _ _ _ h)
    · have h := h
      obtain ⟨g23, h⟩ := oif_some h
      obtain ⟨n24, en24, h⟩ := obind_some h
      obtain ⟨g25, h⟩ := oif_some h
      obtain ⟨g26, h⟩ := oif_some h
      obtain ⟨n27, en27, h⟩ := obind_some h
      obtain ⟨g28, h⟩ := oif_some h
      obtain ⟨r30, T29, eT29, h⟩ := obind2_some h
      have p2 : GL T T29 := GL.tr p1 (gl_sp (s_X8_windowOf eT29))
      obtain ⟨g31, h⟩ := oif_some h
      obtain ⟨n32, en32, h⟩ := obind_some h
      obtain ⟨g33, h⟩ := oif_some h
      obtain ⟨T34, eT34, h⟩ := obind_some h
      have p3 : GL T T34 := GL.tr p2 (s_X8_blockPowerOf eT34)
      exact GL.tr p3 (s_X4_measure_b53 ih _ _ _ _ _ h)
set_option maxHeartbeats 4000000 in
set_option maxRecDepth 100000 in
theorem s_X4_measure {T : AT} {o : Nat} {a0 : Nat} {a1 : Nat} {T1 : AT} (h : g_X4_measure T o a0 a1 = some T1) : GL T T1 := by
  have p0 := GL.rf T
  unfold g_X4_measure at h
  obtain ⟨g2, h⟩ := oif_some h
  obtain ⟨n3, en3, h⟩ := obind_some h
  obtain ⟨g4, h⟩ := oif_some h
  obtain ⟨T5, eT5, h⟩ := obind_some h
  have p1 : GL T T5 := GL.tr p0 (gl_sp (s_X10_narrow eT5))
  obtain ⟨g7, h⟩ := oif_some h
  obtain ⟨n8, en8, h⟩ := obind_some h
  obtain ⟨g9, h⟩ := oif_some h
  obtain ⟨T10, eT10, h⟩ := obind_some h
  have p2 : GL T T10 := GL.tr p1 (gl_sp (s_X10_narrow eT10))
  exact GL.tr p2 (s_X4_measure_b16 _ _ _ _ _ _ h)
set_option maxHeartbeats 4000000 in
set_option maxRecDepth 100000 in
theorem a_X4_measure_b148 {p : Program} {l : Launch} {e : Env} {s : State} {m : MethodId} {args : Array Value} {below : List Frame} {meth : Method} {c : Code} {Q : State → Prop} {D : va_G} {A : Nat → Prop} {cI cJ cZ cMic cSrc cSt cAI cAJ : ClassId} {ad0 : Nat → Nat} {T0 : AT} {T1 : AT} (E : cE p c cX4_measure s m args (Cond.code yX4_measure cX4_measure 5 none :: wsA) D RX4 (CT cI cJ cZ cMic cSrc cSt cAI cAJ)) (hA : ∀ q : Nat, s.heap.size ≤ q → A q) (hX : xT A s) (hN : nX s) (hml : c.maxLocals = 5) (hst : l.stackTraces = false) (kr154 : ∀ (ad : Nat → Nat) (H : Heap) (locs : List Loc) (ls : Array Slot), (∀ n, n < T0.1 → ad n = ad0 n) → gC cI cJ cZ cMic cSrc cSt cAI cAJ D ad A s.heap H locs T1 → W p l e { frames := 5, cells := T1.1 - T0.1, slots := sg T1 - sg T0, locals := 105 } s m args below meth c H locs (T1.1 - T0.1) (sg T1 - sg T0) Q (F0 m 154 ls [])) {k89 : AT → Nat → Nat → Int32 → Option (AT)} (hs89 : ∀ (T : AT) (l0 : Nat) (l1 : Nat) (l3 : Int32), k89 T l0 l1 l3 = some T1 → GL T T1) (hk89 : ∀ (T : AT) (ad : Nat → Nat) (H : Heap) (locs : List Loc) (ls : Array Slot) (l0 : Nat) (l1 : Nat) (l3 : Int32), k89 T l0 l1 l3 = some T1 → GL T0 T → RC T → (∀ n, n < T0.1 → ad n = ad0 n) → l0 < T.1 → l1 < T.1 → gC cI cJ cZ cMic cSrc cSt cAI cAJ D ad A s.heap H locs T → lv_has ls 5 [(0, .ref (ad l0)), (1, .ref (ad l1)), (3, .int l3)] → W p l e { frames := 5, cells := T1.1 - T0.1, slots := sg T1 - sg T0, locals := 105 } s m args below meth c H locs (T.1 - T0.1) (sg T - sg T0) Q (F0 m 89 ls [])) : ∀ (T : AT) (ad : Nat → Nat) (H : Heap) (locs : List Loc) (ls : Array Slot) (l0 : Nat) (l1 : Nat) (l3 : Int32), g_X4_measure_b148 k89 T l0 l1 l3 = some T1 → GL T0 T → RC T → (∀ n, n < T0.1 → ad n = ad0 n) → l0 < T.1 → l1 < T.1 → gC cI cJ cZ cMic cSrc cSt cAI cAJ D ad A s.heap H locs T → lv_has ls 5 [(0, .ref (ad l0)), (1, .ref (ad l1)), (3, .int l3)] → W p l e { frames := 5, cells := T1.1 - T0.1, slots := sg T1 - sg T0, locals := 105 } s m args below meth c H locs (T.1 - T0.1) (sg T - sg T0) Q (F0 m 148 ls []) := by
  have hx := E.1
  have hb := E.2.1
  have hts := E.2.2.1
  have hown := E.2.2.2.1
  have hK := E.2.2.2.2
  intro T ad H locs ls l0 l1 l3 h hgl hrc had h_l0 h_l1 G hl
  have hT1 := s_X4_measure_b148 hs89 _ _ _ _ h
  have hcs := cs_ok hgl hT1
  have cp0 := cpr0 hrc
  unfold g_X4_measure_b148 at h
  obtain ⟨v2, ev2, h⟩ := elet_some h
  refine lv_iinc (v := v2) (lv' := [(3, .int v2), (0, .ref (ad l0)), (1, .ref (ad l1))]) hx hb dX4_measure_148 hl (k := 2) rfl ev2.symm (by decide) rfl (fun ls hl => ?_)
  refine lv_goto (tgt := 89) hx hb dX4_measure_151 (by decide) ?_
  have hl := lv_sub hl [1, 2, 0] rfl
  refine w_cast (c2 := T.1 - T0.1) (s2 := sg T - sg T0) (by rw [cp0.1] <;> rfl) (by rw [sg_cpr cp0] <;> rfl) ?_
  exact hk89 _ _ _ _ _ _ _ _ h (gl_cpr hgl cp0) cp0.2.2 had (by rw [cp0.1]; exact h_l0) (by rw [cp0.1]; exact h_l1) G hl
set_option maxHeartbeats 4000000 in
set_option maxRecDepth 100000 in
theorem a_X4_measure_b138 {p : Program} {l : Launch} {e : Env} {s : State} {m : MethodId} {args : Array Value} {below : List Frame} {meth : Method} {c : Code} {Q : State → Prop} {D : va_G} {A : Nat → Prop} {cI cJ cZ cMic cSrc cSt cAI cAJ : ClassId} {ad0 : Nat → Nat} {T0 : AT} {T1 : AT} (E : cE p c cX4_measure s m args (Cond.code yX4_measure cX4_measure 5 none :: wsA) D RX4 (CT cI cJ cZ cMic cSrc cSt cAI cAJ)) (hA : ∀ q : Nat, s.heap.size ≤ q → A q) (hX : xT A s) (hN : nX s) (hml : c.maxLocals = 5) (hst : l.stackTraces = false) (kr154 : ∀ (ad : Nat → Nat) (H : Heap) (locs : List Loc) (ls : Array Slot), (∀ n, n < T0.1 → ad n = ad0 n) → gC cI cJ cZ cMic cSrc cSt cAI cAJ D ad A s.heap H locs T1 → W p l e { frames := 5, cells := T1.1 - T0.1, slots := sg T1 - sg T0, locals := 105 } s m args below meth c H locs (T1.1 - T0.1) (sg T1 - sg T0) Q (F0 m 154 ls [])) {k89 : AT → Nat → Nat → Int32 → Option (AT)} (hs89 : ∀ (T : AT) (l0 : Nat) (l1 : Nat) (l3 : Int32), k89 T l0 l1 l3 = some T1 → GL T T1) (hk89 : ∀ (T : AT) (ad : Nat → Nat) (H : Heap) (locs : List Loc) (ls : Array Slot) (l0 : Nat) (l1 : Nat) (l3 : Int32), k89 T l0 l1 l3 = some T1 → GL T0 T → RC T → (∀ n, n < T0.1 → ad n = ad0 n) → l0 < T.1 → l1 < T.1 → gC cI cJ cZ cMic cSrc cSt cAI cAJ D ad A s.heap H locs T → lv_has ls 5 [(0, .ref (ad l0)), (1, .ref (ad l1)), (3, .int l3)] → W p l e { frames := 5, cells := T1.1 - T0.1, slots := sg T1 - sg T0, locals := 105 } s m args below meth c H locs (T.1 - T0.1) (sg T - sg T0) Q (F0 m 89 ls [])) : ∀ (T : AT) (ad : Nat → Nat) (H : Heap) (locs : List Loc) (ls : Array Slot) (l0 : Nat) (l1 : Nat) (l3 : Int32), g_X4_measure_b138 k89 T l0 l1 l3 = some T1 → GL T0 T → RC T → (∀ n, n < T0.1 → ad n = ad0 n) → l0 < T.1 → l1 < T.1 → gC cI cJ cZ cMic cSrc cSt cAI cAJ D ad A s.heap H locs T → lv_has ls 5 [(0, .ref (ad l0)), (1, .ref (ad l1)), (3, .int l3)] → W p l e { frames := 5, cells := T1.1 - T0.1, slots := sg T1 - sg T0, locals := 105 } s m args below meth c H locs (T.1 - T0.1) (sg T - sg T0) Q (F0 m 138 ls []) := by
  have hx := E.1
  have hb := E.2.1
  have hts := E.2.2.1
  have hown := E.2.2.2.1
  have hK := E.2.2.2.2
  intro T ad H locs ls l0 l1 l3 h hgl hrc had h_l0 h_l1 G hl
  have hT1 := s_X4_measure_b138 hs89 _ _ _ _ h
  have hcs := cs_ok hgl hT1
  have cp0 := cpr0 hrc
  unfold g_X4_measure_b138 at h
  refine lv_aload_n hx hb dX4_measure_138 rfl (lv_at hl 0 rfl) ?_
  refine lv_dup hx hb dX4_measure_139 rfl ?_
  obtain ⟨g2, h⟩ := oif_some h
  refine c_get E G l0 3 (oO_k g2).1 (cc_o4 (oO_k g2).2) rfl (fun w h => .tail _ (iA_21 h)) (by decide) (.tail _ qA_417) rfl rfl dX4_measure_140 ?_
  refine lv_topi (fun v3 ev3 => ?_)
  have h := elet_at ev3 h
  clear ev3
  refine lv_iconst (v := 1) hx hb dX4_measure_143 (by decide) ?_
  refine lv_iadd hx hb dX4_measure_144 ?_
  refine lv_topi (fun v4 ev4 => ?_)
  have h := elet_at ev4 h
  clear ev4
  obtain ⟨g5, h⟩ := oif_some h
  refine c_put E G l0 3 (v := .int v4) (oO_k g5).1 (cc_o4 (oO_k g5).2) rfl (fun w h => .tail _ (iA_21 h)) tyX4 tyX4_ok nmX4 (by decide) (.tail _ qA_417) ⟨rfl, rfl, rfl⟩ rfl rfl (Nat.le_of_ble_eq_true rfl) dX4_measure_145 (fun H locs G => ?_)
  have G := gC_up_i (f := upd (T.2.2.1 l0) 3 v4) (by rw [(oO_k g5).2]; rfl) G
  obtain ⟨T6, eT6, h⟩ := elet_some h
  have G : gC cI cJ cZ cMic cSrc cSt cAI cAJ D ad A s.heap H locs T6 := by rw [eT6]; exact G
  have cp1 := show CPR T T6 from by rw [eT6]; exact cpr_sp cp0 sp_uI
  clear eT6
  have hl := lv_sub hl [0, 1, 2] rfl
  refine w_cast (c2 := T6.1 - T0.1) (s2 := sg T6 - sg T0) (by rw [cp1.1] <;> rfl) (by rw [sg_cpr cp1] <;> rfl) ?_
  exact a_X4_measure_b148 E hA hX hN hml hst kr154 hs89 hk89 _ _ _ _ _ _ _ _ h (gl_cpr hgl cp1) cp1.2.2 had (by rw [cp1.1]; exact h_l0) (by rw [cp1.1]; exact h_l1) G hl
set_option maxHeartbeats 4000000 in
set_option maxRecDepth 100000 in
theorem a_X4_measure_b89 {p : Program} {l : Launch} {e : Env} {s : State} {m : MethodId} {args : Array Value} {below : List Frame} {meth : Method} {c : Code} {Q : State → Prop} {D : va_G} {A : Nat → Prop} {cI cJ cZ cMic cSrc cSt cAI cAJ : ClassId} {ad0 : Nat → Nat} {T0 : AT} {T1 : AT} (E : cE p c cX4_measure s m args (Cond.code yX4_measure cX4_measure 5 none :: wsA) D RX4 (CT cI cJ cZ cMic cSrc cSt cAI cAJ)) (hA : ∀ q : Nat, s.heap.size ≤ q → A q) (hX : xT A s) (hN : nX s) (hml : c.maxLocals = 5) (hst : l.stackTraces = false) (kr154 : ∀ (ad : Nat → Nat) (H : Heap) (locs : List Loc) (ls : Array Slot), (∀ n, n < T0.1 → ad n = ad0 n) → gC cI cJ cZ cMic cSrc cSt cAI cAJ D ad A s.heap H locs T1 → W p l e { frames := 5, cells := T1.1 - T0.1, slots := sg T1 - sg T0, locals := 105 } s m args below meth c H locs (T1.1 - T0.1) (sg T1 - sg T0) Q (F0 m 154 ls [])) : ∀ n : Nat, ∀ (T : AT) (ad : Nat → Nat) (H : Heap) (locs : List Loc) (ls : Array Slot) (l0 : Nat) (l1 : Nat) (l3 : Int32), g_X4_measure_b89 n T l0 l1 l3 = some T1 → GL T0 T → RC T → (∀ n, n < T0.1 → ad n = ad0 n) → l0 < T.1 → l1 < T.1 → gC cI cJ cZ cMic cSrc cSt cAI cAJ D ad A s.heap H locs T → lv_has ls 5 [(0, .ref (ad l0)), (1, .ref (ad l1)), (3, .int l3)] → W p l e { frames := 5, cells := T1.1 - T0.1, slots := sg T1 - sg T0, locals := 105 } s m args below meth c H locs (T.1 - T0.1) (sg T - sg T0) Q (F0 m 89 ls []) := by
  have hx := E.1
  have hb := E.2.1
  have hts := E.2.2.1
  have hown := E.2.2.2.1
  have hK := E.2.2.2.2
  intro n
  induction n with
  | zero =>
    intro T ad H locs ls l0 l1 l3 h
    have h : (none : Option (AT)) = some T1 := h
    cases h
  | succ n ih =>
    intro T ad H locs ls l0 l1 l3 h hgl hrc had h_l0 h_l1 G hl
    have hT1 := s_X4_measure_b89 _ _ _ _ _ h
    have hcs := cs_ok hgl hT1
    have cp0 := cpr0 hrc
    unfold g_X4_measure_b89 at h
    refine lv_iload_n hx hb dX4_measure_89 rfl (lv_at hl 2 rfl) ?_
    refine lv_aload_n hx hb dX4_measure_90 rfl (lv_at hl 1 rfl) ?_
    obtain ⟨g2, h⟩ := oif_some h
    obtain ⟨n3, en3, h⟩ := obind_some h
    have h_n3 : n3 < T.1 := by rw [← cp0.1]; exact cp0.2.2 _ _ _ en3
    refine c_get E G l1 6 (v := .ref (ad n3)) (oO_k g2).1 (cc_o6 (oO_k g2).2) rfl (fun w h => .tail _ (iA_14 h)) (by decide) (.tail _ qA_413) rfl (by rw [en3]; rfl) dX4_measure_91 ?_
    clear en3
    obtain ⟨g4, h⟩ := oif_some h
    obtain ⟨r7, T5, eT5, h⟩ := obind2_some h
    refine q_cvi (As := []) (rest := [.int l3]) E G hA hX hN hml (u_X1_cells l hst D cI cJ cZ cMic cSrc cSt cAI cAJ ad T n3 eT5) (cwV 0 hts (gaV qA_419 qA_35 qA_36 qA_37 qA_38) rfl rfl rfl (by decide +kernel) ⟨Nat.le_of_ble_eq_true rfl, Nat.le_of_ble_eq_true rfl⟩) (oO_k g4).1 (cc_o1 (oO_k g4).2) rfl rfl hl.1 rfl (lv_room (Nat.le_of_ble_eq_true rfl)) dX4_measure_94 hcs (fun q8 T6 H locs hq G => ?_)
    obtain ⟨hq1, hq2⟩ := hq
    rw [hq2] at G
    refine lv_to hq1 ?_
    clear hq1 hq2
    have cp1 := cpr_sp cp0 (s_X1_cells eT5)
    refine lv_icmp_ge (tgt := 154) hx hb dX4_measure_97 (by decide) (fun c9 => ?_) (fun c9 => ?_)
    · have h := oif_pos c9 h
      rw [osome1 h] at G
      refine w_cast (c2 := T1.1 - T0.1) (s2 := sg T1 - sg T0) (by rw [← osome1 h, cp1.1] <;> rfl) (by rw [← osome1 h, sg_cpr cp1] <;> rfl) ?_
      exact kr154 ad _ _ _ had G
    · have h := oif_neg c9 h
      refine lv_aload_n hx hb dX4_measure_100 rfl (lv_at hl 0 rfl) ?_
      refine lv_iload_n hx hb dX4_measure_101 rfl (lv_at hl 2 rfl) ?_
      refine lv_aload_n hx hb dX4_measure_102 rfl (lv_at hl 1 rfl) ?_
      obtain ⟨g10, h⟩ := oif_some h
      obtain ⟨n11, en11, h⟩ := obind_some h
      have h_n11 : n11 < T.1 := by rw [← cp1.1]; exact cp1.2.2 _ _ _ en11
      refine c_get E G l1 6 (v := .ref (ad n11)) (oO_k g10).1 (cc_o6 (oO_k g10).2) rfl (fun w h => .tail _ (iA_14 h)) (by decide) (.tail _ qA_413) rfl (by rw [en11]; rfl) dX4_measure_103 ?_
      clear en11
      obtain ⟨g12, h⟩ := oif_some h
      obtain ⟨r15, T13, eT13, h⟩ := obind2_some h
      refine q_cvi (As := [.int l3, .ref (ad n11)]) (rest := []) E G hA hX hN hml (u_X4_standsOut l hst D cI cJ cZ cMic cSrc cSt cAI cAJ ad T5 l0 l3 n11 eT13) (cwV 2 hts (gaV qA_423 qA_424 qA_425 qA_426 qA_427) rfl rfl rfl (by decide +kernel) ⟨Nat.le_of_ble_eq_true rfl, Nat.le_of_ble_eq_true rfl⟩) (oO_k g12).1 (cc_o4 (oO_k g12).2) rfl rfl hl.1 rfl (lv_room (Nat.le_of_ble_eq_true rfl)) dX4_measure_106 hcs (fun q16 T14 H locs hq G => ?_)
      obtain ⟨hq1, hq2⟩ := hq
      rw [hq2] at G
      refine lv_to hq1 ?_
      clear hq1 hq2
      have cp2 := cpr_sp cp1 (s_X4_standsOut eT13)
      refine lv_if_eq (tgt := 148) hx hb dX4_measure_109 (by decide) (fun c17 => ?_) (fun c17 => ?_)
      · have h := oif_pos c17 h
        have hl := lv_sub hl [0, 1, 2] rfl
        refine w_cast (c2 := T13.1 - T0.1) (s2 := sg T13 - sg T0) (by rw [cp2.1] <;> rfl) (by rw [sg_cpr cp2] <;> rfl) ?_
        exact a_X4_measure_b148 E hA hX hN hml hst kr154 (s_X4_measure_b89 n) ih _ _ _ _ _ _ _ _ h (gl_cpr hgl cp2) cp2.2.2 had (by rw [cp2.1]; exact h_l0) (by rw [cp2.1]; exact h_l1) G hl
      · have h := oif_neg c17 h
        refine lv_aload_n hx hb dX4_measure_112 rfl (lv_at hl 0 rfl) ?_
        obtain ⟨g18, h⟩ := oif_some h
        obtain ⟨n19, en19, h⟩ := obind_some h
        have h_n19 : n19 < T.1 := by rw [← cp2.1]; exact cp2.2.2 _ _ _ en19
        refine c_get E G l0 4 (v := .ref (ad n19)) (oO_k g18).1 (cc_o4 (oO_k g18).2) rfl (fun w h => .tail _ (iA_21 h)) (by decide) (.tail _ qA_409) rfl (by rw [en19]; rfl) dX4_measure_113 ?_
        clear en19
        refine lv_aload_n hx hb dX4_measure_116 rfl (lv_at hl 0 rfl) ?_
        obtain ⟨g20, h⟩ := oif_some h
        refine c_get E G l0 3 (oO_k g20).1 (cc_o4 (oO_k g20).2) rfl (fun w h => .tail _ (iA_21 h)) (by decide) (.tail _ qA_417) rfl rfl dX4_measure_117 ?_
        refine lv_topi (fun v21 ev21 => ?_)
        have h := elet_at ev21 h
        clear ev21
        refine lv_iload_n hx hb dX4_measure_120 rfl (lv_at hl 2 rfl) ?_
        obtain ⟨g22, h⟩ := oif_some h
        obtain ⟨g23, h⟩ := oif_some h
        refine c_iast E G n19 0 (k := v21.toNatClampNeg) (v := l3) (aA_k g22).1 (cc_a100 (aA_k g22).2.1) rfl (inb_k g23).1 (inb_k g23).2 (aA_k g22).2.2 dX4_measure_121 (fun H locs G => ?_)
        have G := gC_up_i (f := upd (T13.2.2.1 n19) v21.toNatClampNeg l3) (ccv_100 (aA_k g22).2.1) G
        obtain ⟨T24, eT24, h⟩ := elet_some h
        have G : gC cI cJ cZ cMic cSrc cSt cAI cAJ D ad A s.heap H locs T24 := by rw [eT24]; exact G
        have cp3 := show CPR T T24 from by rw [eT24]; exact cpr_sp cp2 sp_uI
        clear eT24
        refine lv_aload_n hx hb dX4_measure_122 rfl (lv_at hl 0 rfl) ?_
        obtain ⟨g25, h⟩ := oif_some h
        obtain ⟨n26, en26, h⟩ := obind_some h
        have h_n26 : n26 < T.1 := by rw [← cp3.1]; exact cp3.2.2 _ _ _ en26
        refine c_get E G l0 5 (v := .ref (ad n26)) (oO_k g25).1 (cc_o4 (oO_k g25).2) rfl (fun w h => .tail _ (iA_21 h)) (by decide) (.tail _ qA_410) rfl (by rw [en26]; rfl) dX4_measure_123 ?_
        clear en26
        refine lv_aload_n hx hb dX4_measure_126 rfl (lv_at hl 0 rfl) ?_
        obtain ⟨g27, h⟩ := oif_some h
        refine c_get E G l0 3 (oO_k g27).1 (cc_o4 (oO_k g27).2) rfl (fun w h => .tail _ (iA_21 h)) (by decide) (.tail _ qA_417) rfl rfl dX4_measure_127 ?_
        refine lv_topi (fun v28 ev28 => ?_)
        have h := elet_at ev28 h
        clear ev28
        refine lv_aload_n hx hb dX4_measure_130 rfl (lv_at hl 0 rfl) ?_
        obtain ⟨g29, h⟩ := oif_some h
        obtain ⟨n30, en30, h⟩ := obind_some h
        have h_n30 : n30 < T.1 := by rw [← cp3.1]; exact cp3.2.2 _ _ _ en30
        refine c_get E G l0 1 (v := .ref (ad n30)) (oO_k g29).1 (cc_o4 (oO_k g29).2) rfl (fun w h => .tail _ (iA_21 h)) (by decide) (.tail _ qA_408) rfl (by rw [en30]; rfl) dX4_measure_131 ?_
        clear en30
        refine lv_iload_n hx hb dX4_measure_134 rfl (lv_at hl 2 rfl) ?_
        obtain ⟨g31, h⟩ := oif_some h
        obtain ⟨T32, eT32, h⟩ := obind_some h
        have hg2 := s_X10_set eT32
        have hrc2 := hg2.2.2 cp3.2.2
        have hT2 := s_X4_measure_b138 (s_X4_measure_b89 n) _ _ _ _ h
        refine q_avv (As := [.int v28, .ref (ad n30), .int l3]) (rest := []) E G hA hX hN hml (a_X10_set l hst D cI cJ cZ cMic cSrc cSt cAI cAJ ad T24 n26 v28 n30 l3 eT32 cp3.2.2 (by rw [cp3.1]; exact h_n26) (by rw [cp3.1]; exact h_n30)) (cwV 3 hts (gaV qA_431 qA_432 qA_433 qA_6 qA_434) rfl rfl rfl (by decide +kernel) ⟨Nat.le_of_ble_eq_true rfl, Nat.le_of_ble_eq_true rfl⟩) (oO_k g31).1 (cc_o10 (oO_k g31).2) rfl rfl hl.1 rfl (lv_room (Nat.le_of_ble_eq_true rfl)) dX4_measure_135 (cs_av hgl cp3 hg2 hT2) (fun ad2 H locs hga G => ?_)
        refine w_cast (c2 := T32.1 - T0.1) (s2 := sg T32 - sg T0) (cs_f1 hgl cp3 hg2) (cs_f2 hgl cp3 hg2) ?_
        have hl := lv_sub hl [0, 1, 2] rfl
        rw [show ad l0 = ad2 l0 from (hga l0 (by rw [cp3.1]; exact h_l0)).symm] at hl
        rw [show ad l1 = ad2 l1 from (hga l1 (by rw [cp3.1]; exact h_l1)).symm] at hl
        exact a_X4_measure_b138 E hA hX hN hml hst kr154 (s_X4_measure_b89 n) ih _ _ _ _ _ _ _ _ h (GL.tr (gl_cpr hgl cp3) hg2) hrc2 (fun n hn => (hga n (by rw [cp3.1]; exact Nat.lt_of_lt_of_le hn hgl.1)).trans (had n hn)) (Nat.lt_of_lt_of_le (by rw [cp3.1]; exact h_l0) hg2.1) (Nat.lt_of_lt_of_le (by rw [cp3.1]; exact h_l1) hg2.1) G hl
set_option maxHeartbeats 4000000 in
set_option maxRecDepth 100000 in
theorem a_X4_measure_b53 {p : Program} {l : Launch} {e : Env} {s : State} {m : MethodId} {args : Array Value} {below : List Frame} {meth : Method} {c : Code} {Q : State → Prop} {D : va_G} {A : Nat → Prop} {cI cJ cZ cMic cSrc cSt cAI cAJ : ClassId} {ad0 : Nat → Nat} {T0 : AT} {T1 : AT} (E : cE p c cX4_measure s m args (Cond.code yX4_measure cX4_measure 5 none :: wsA) D RX4 (CT cI cJ cZ cMic cSrc cSt cAI cAJ)) (hA : ∀ q : Nat, s.heap.size ≤ q → A q) (hX : xT A s) (hN : nX s) (hml : c.maxLocals = 5) (hst : l.stackTraces = false) (kr154 : ∀ (ad : Nat → Nat) (H : Heap) (locs : List Loc) (ls : Array Slot), (∀ n, n < T0.1 → ad n = ad0 n) → gC cI cJ cZ cMic cSrc cSt cAI cAJ D ad A s.heap H locs T1 → W p l e { frames := 5, cells := T1.1 - T0.1, slots := sg T1 - sg T0, locals := 105 } s m args below meth c H locs (T1.1 - T0.1) (sg T1 - sg T0) Q (F0 m 154 ls [])) {k16 : AT → Nat → Nat → Nat → Int32 → Option (AT)} (hs16 : ∀ (T : AT) (l0 : Nat) (l1 : Nat) (l2 : Nat) (l3 : Int32), k16 T l0 l1 l2 l3 = some T1 → GL T T1) (hk16 : ∀ (T : AT) (ad : Nat → Nat) (H : Heap) (locs : List Loc) (ls : Array Slot) (l0 : Nat) (l1 : Nat) (l2 : Nat) (l3 : Int32), k16 T l0 l1 l2 l3 = some T1 → GL T0 T → RC T → (∀ n, n < T0.1 → ad n = ad0 n) → l0 < T.1 → l1 < T.1 → l2 < T.1 → gC cI cJ cZ cMic cSrc cSt cAI cAJ D ad A s.heap H locs T → lv_has ls 5 [(0, .ref (ad l0)), (1, .ref (ad l1)), (2, .ref (ad l2)), (3, .int l3)] → W p l e { frames := 5, cells := T1.1 - T0.1, slots := sg T1 - sg T0, locals := 105 } s m args below meth c H locs (T.1 - T0.1) (sg T - sg T0) Q (F0 m 16 ls [])) : ∀ (T : AT) (ad : Nat → Nat) (H : Heap) (locs : List Loc) (ls : Array Slot) (l0 : Nat) (l1 : Nat) (l2 : Nat) (l3 : Int32), g_X4_measure_b53 k16 T l0 l1 l2 l3 = some T1 → GL T0 T → RC T → (∀ n, n < T0.1 → ad n = ad0 n) → l0 < T.1 → l1 < T.1 → l2 < T.1 → gC cI cJ cZ cMic cSrc cSt cAI cAJ D ad A s.heap H locs T → lv_has ls 5 [(0, .ref (ad l0)), (1, .ref (ad l1)), (2, .ref (ad l2)), (3, .int l3)] → W p l e { frames := 5, cells := T1.1 - T0.1, slots := sg T1 - sg T0, locals := 105 } s m args below meth c H locs (T.1 - T0.1) (sg T - sg T0) Q (F0 m 53 ls []) := by
  have hx := E.1
  have hb := E.2.1
  have hts := E.2.2.1
  have hown := E.2.2.2.1
  have hK := E.2.2.2.2
  intro T ad H locs ls l0 l1 l2 l3 h hgl hrc had h_l0 h_l1 h_l2 G hl
  have hT1 := s_X4_measure_b53 hs16 _ _ _ _ _ h
  have hcs := cs_ok hgl hT1
  have cp0 := cpr0 hrc
  unfold g_X4_measure_b53 at h
  obtain ⟨v2, ev2, h⟩ := elet_some h
  refine lv_iinc (v := v2) (lv' := [(3, .int v2), (0, .ref (ad l0)), (1, .ref (ad l1)), (2, .ref (ad l2))]) hx hb dX4_measure_53 hl (k := 3) rfl ev2.symm (by decide) rfl (fun ls hl => ?_)
  refine lv_goto (tgt := 16) hx hb dX4_measure_56 (by decide) ?_
  have hl := lv_sub hl [1, 2, 3, 0] rfl
  refine w_cast (c2 := T.1 - T0.1) (s2 := sg T - sg T0) (by rw [cp0.1] <;> rfl) (by rw [sg_cpr cp0] <;> rfl) ?_
  exact hk16 _ _ _ _ _ _ _ _ _ h (gl_cpr hgl cp0) cp0.2.2 had (by rw [cp0.1]; exact h_l0) (by rw [cp0.1]; exact h_l1) (by rw [cp0.1]; exact h_l2) G hl
set_option maxHeartbeats 4000000 in
set_option maxRecDepth 100000 in
theorem a_X4_measure_b16 {p : Program} {l : Launch} {e : Env} {s : State} {m : MethodId} {args : Array Value} {below : List Frame} {meth : Method} {c : Code} {Q : State → Prop} {D : va_G} {A : Nat → Prop} {cI cJ cZ cMic cSrc cSt cAI cAJ : ClassId} {ad0 : Nat → Nat} {T0 : AT} {T1 : AT} (E : cE p c cX4_measure s m args (Cond.code yX4_measure cX4_measure 5 none :: wsA) D RX4 (CT cI cJ cZ cMic cSrc cSt cAI cAJ)) (hA : ∀ q : Nat, s.heap.size ≤ q → A q) (hX : xT A s) (hN : nX s) (hml : c.maxLocals = 5) (hst : l.stackTraces = false) (kr154 : ∀ (ad : Nat → Nat) (H : Heap) (locs : List Loc) (ls : Array Slot), (∀ n, n < T0.1 → ad n = ad0 n) → gC cI cJ cZ cMic cSrc cSt cAI cAJ D ad A s.heap H locs T1 → W p l e { frames := 5, cells := T1.1 - T0.1, slots := sg T1 - sg T0, locals := 105 } s m args below meth c H locs (T1.1 - T0.1) (sg T1 - sg T0) Q (F0 m 154 ls [])) : ∀ n : Nat, ∀ (T : AT) (ad : Nat → Nat) (H : Heap) (locs : List Loc) (ls : Array Slot) (l0 : Nat) (l1 : Nat) (l2 : Nat) (l3 : Int32), g_X4_measure_b16 n T l0 l1 l2 l3 = some T1 → GL T0 T → RC T → (∀ n, n < T0.1 → ad n = ad0 n) → l0 < T.1 → l1 < T.1 → l2 < T.1 → gC cI cJ cZ cMic cSrc cSt cAI cAJ D ad A s.heap H locs T → lv_has ls 5 [(0, .ref (ad l0)), (1, .ref (ad l1)), (2, .ref (ad l2)), (3, .int l3)] → W p l e { frames := 5, cells := T1.1 - T0.1, slots := sg T1 - sg T0, locals := 105 } s m args below meth c H locs (T.1 - T0.1) (sg T - sg T0) Q (F0 m 16 ls []) := by
  have hx := E.1
  have hb := E.2.1
  have hts := E.2.2.1
  have hown := E.2.2.2.1
  have hK := E.2.2.2.2
  intro n
  induction n with
  | zero =>
    intro T ad H locs ls l0 l1 l2 l3 h
    have h : (none : Option (AT)) = some T1 := h
    cases h
  | succ n ih =>
    intro T ad H locs ls l0 l1 l2 l3 h hgl hrc had h_l0 h_l1 h_l2 G hl
    have hT1 := s_X4_measure_b16 _ _ _ _ _ _ h
    have hcs := cs_ok hgl hT1
    have cp0 := cpr0 hrc
    unfold g_X4_measure_b16 at h
    refine lv_iload_n hx hb dX4_measure_16 rfl (lv_at hl 3 rfl) ?_
    refine lv_aload_n hx hb dX4_measure_17 rfl (lv_at hl 1 rfl) ?_
    obtain ⟨g2, h⟩ := oif_some h
    obtain ⟨n3, en3, h⟩ := obind_some h
    have h_n3 : n3 < T.1 := by rw [← cp0.1]; exact cp0.2.2 _ _ _ en3
    refine c_get E G l1 6 (v := .ref (ad n3)) (oO_k g2).1 (cc_o6 (oO_k g2).2) rfl (fun w h => .tail _ (iA_14 h)) (by decide) (.tail _ qA_413) rfl (by rw [en3]; rfl) dX4_measure_18 ?_
    clear en3
    obtain ⟨g4, h⟩ := oif_some h
    obtain ⟨r7, T5, eT5, h⟩ := obind2_some h
    refine q_cvi (As := []) (rest := [.int l3]) E G hA hX hN hml (u_X1_cells l hst D cI cJ cZ cMic cSrc cSt cAI cAJ ad T n3 eT5) (cwV 0 hts (gaV qA_419 qA_35 qA_36 qA_37 qA_38) rfl rfl rfl (by decide +kernel) ⟨Nat.le_of_ble_eq_true rfl, Nat.le_of_ble_eq_true rfl⟩) (oO_k g4).1 (cc_o1 (oO_k g4).2) rfl rfl hl.1 rfl (lv_room (Nat.le_of_ble_eq_true rfl)) dX4_measure_21 hcs (fun q8 T6 H locs hq G => ?_)
    obtain ⟨hq1, hq2⟩ := hq
    rw [hq2] at G
    refine lv_to hq1 ?_
    clear hq1 hq2
    have cp1 := cpr_sp cp0 (s_X1_cells eT5)
    refine lv_icmp_ge (tgt := 59) hx hb dX4_measure_24 (by decide) (fun c9 => ?_) (fun c9 => ?_)
    · have h := oif_pos c9 h
      refine lv_aload_n hx hb dX4_measure_59 rfl (lv_at hl 0 rfl) ?_
      refine lv_aload_n hx hb dX4_measure_60 rfl (lv_at hl 1 rfl) ?_
      obtain ⟨g10, h⟩ := oif_some h
      obtain ⟨n11, en11, h⟩ := obind_some h
      have h_n11 : n11 < T.1 := by rw [← cp1.1]; exact cp1.2.2 _ _ _ en11
      refine c_get E G l1 6 (v := .ref (ad n11)) (oO_k g10).1 (cc_o6 (oO_k g10).2) rfl (fun w h => .tail _ (iA_14 h)) (by decide) (.tail _ qA_413) rfl (by rw [en11]; rfl) dX4_measure_61 ?_
      clear en11
      refine lv_aload_n hx hb dX4_measure_64 rfl (lv_at hl 1 rfl) ?_
      obtain ⟨g12, h⟩ := oif_some h
      obtain ⟨n13, en13, h⟩ := obind_some h
      have h_n13 : n13 < T.1 := by rw [← cp1.1]; exact cp1.2.2 _ _ _ en13
      refine c_get E G l1 6 (v := .ref (ad n13)) (oO_k g12).1 (cc_o6 (oO_k g12).2) rfl (fun w h => .tail _ (iA_14 h)) (by decide) (.tail _ qA_413) rfl (by rw [en13]; rfl) dX4_measure_65 ?_
      clear en13
      obtain ⟨g14, h⟩ := oif_some h
      obtain ⟨n15, en15, h⟩ := obind_some h
      have h_n15 : n15 < T.1 := by rw [← cp1.1]; exact cp1.2.2 _ _ _ en15
      refine c_get E G n13 5 (v := .ref (ad n15)) (oO_k g14).1 (cc_o1 (oO_k g14).2) rfl (fun w h => .tail _ (iA_15 h)) (by decide) (.tail _ qA_415) rfl (by rw [en15]; rfl) dX4_measure_68 ?_
      clear en15
      refine lv_aload_n hx hb dX4_measure_71 rfl (lv_at hl 0 rfl) ?_
      obtain ⟨g16, h⟩ := oif_some h
      obtain ⟨n17, en17, h⟩ := obind_some h
      have h_n17 : n17 < T.1 := by rw [← cp1.1]; exact cp1.2.2 _ _ _ en17
      refine c_get E G l0 1 (v := .ref (ad n17)) (oO_k g16).1 (cc_o4 (oO_k g16).2) rfl (fun w h => .tail _ (iA_21 h)) (by decide) (.tail _ qA_408) rfl (by rw [en17]; rfl) dX4_measure_72 ?_
      clear en17
      refine lv_iconst (v := 0) hx hb dX4_measure_75 (by decide) ?_
      obtain ⟨g18, h⟩ := oif_some h
      obtain ⟨r21, T19, eT19, h⟩ := obind2_some h
      refine q_cvi (As := [.ref (ad n15), .ref (ad n17), .int 0]) (rest := [.ref (ad l0)]) E G hA hX hN hml (u_X1_bestIn l hst D cI cJ cZ cMic cSrc cSt cAI cAJ ad T5 n11 n15 n17 (0 : Int32) eT19) (cwV 3 hts (gaV qA_422 qA_116 qA_117 qA_37 qA_118) rfl rfl rfl (by decide +kernel) ⟨Nat.le_of_ble_eq_true rfl, Nat.le_of_ble_eq_true rfl⟩) (oO_k g18).1 (cc_o1 (oO_k g18).2) rfl rfl hl.1 rfl (lv_room (Nat.le_of_ble_eq_true rfl)) dX4_measure_76 hcs (fun q22 T20 H locs hq G => ?_)
      obtain ⟨hq1, hq2⟩ := hq
      rw [hq2] at G
      refine lv_to hq1 ?_
      clear hq1 hq2
      have cp2 := cpr_sp cp1 (s_X1_bestIn eT19)
      obtain ⟨g23, h⟩ := oif_some h
      refine c_put E G l0 2 (v := .int r21) (oO_k g23).1 (cc_o4 (oO_k g23).2) rfl (fun w h => .tail _ (iA_21 h)) tyX4 tyX4_ok nmX4 (by decide) (.tail _ qA_416) ⟨rfl, rfl, rfl⟩ rfl rfl (Nat.le_of_ble_eq_true rfl) dX4_measure_79 (fun H locs G => ?_)
      have G := gC_up_i (f := upd (T19.2.2.1 l0) 2 r21) (by rw [(oO_k g23).2]; rfl) G
      obtain ⟨T24, eT24, h⟩ := elet_some h
      have G : gC cI cJ cZ cMic cSrc cSt cAI cAJ D ad A s.heap H locs T24 := by rw [eT24]; exact G
      have cp3 := show CPR T T24 from by rw [eT24]; exact cpr_sp cp2 sp_uI
      clear eT24
      refine lv_aload_n hx hb dX4_measure_82 rfl (lv_at hl 0 rfl) ?_
      refine lv_iconst (v := 0) hx hb dX4_measure_83 (by decide) ?_
      obtain ⟨g25, h⟩ := oif_some h
      refine c_put E G l0 3 (v := .int 0) (oO_k g25).1 (cc_o4 (oO_k g25).2) rfl (fun w h => .tail _ (iA_21 h)) tyX4 tyX4_ok nmX4 (by decide) (.tail _ qA_417) ⟨rfl, rfl, rfl⟩ rfl rfl (Nat.le_of_ble_eq_true rfl) dX4_measure_84 (fun H locs G => ?_)
      have G := gC_up_i (f := upd (T24.2.2.1 l0) 3 0) (by rw [(oO_k g25).2]; rfl) G
      obtain ⟨T26, eT26, h⟩ := elet_some h
      have G : gC cI cJ cZ cMic cSrc cSt cAI cAJ D ad A s.heap H locs T26 := by rw [eT26]; exact G
      have cp4 := show CPR T T26 from by rw [eT26]; exact cpr_sp cp3 sp_uI
      clear eT26
      refine lv_iconst (v := 0) hx hb dX4_measure_87 (by decide) ?_
      refine lv_istore_n (lv' := [(3, .int 0), (0, .ref (ad l0)), (1, .ref (ad l1)), (2, .ref (ad l2))]) hx hb dX4_measure_88 rfl hl (by decide) rfl (fun ls hl => ?_)
      have hl := lv_sub hl [1, 2, 0] rfl
      refine w_cast (c2 := T26.1 - T0.1) (s2 := sg T26 - sg T0) (by rw [cp4.1] <;> rfl) (by rw [sg_cpr cp4] <;> rfl) ?_
      exact a_X4_measure_b89 E hA hX hN hml hst kr154 _ _ _ _ _ _ _ _ _ h (gl_cpr hgl cp4) cp4.2.2 had (by rw [cp4.1]; exact h_l0) (by rw [cp4.1]; exact h_l1) G hl
    · have h := oif_neg c9 h
      refine lv_aload_n hx hb dX4_measure_27 rfl (lv_at hl 1 rfl) ?_
      obtain ⟨g27, h⟩ := oif_some h
      obtain ⟨n28, en28, h⟩ := obind_some h
      have h_n28 : n28 < T.1 := by rw [← cp1.1]; exact cp1.2.2 _ _ _ en28
      refine c_get E G l1 17 (v := .ref (ad n28)) (oO_k g27).1 (cc_o6 (oO_k g27).2) rfl (fun w h => .tail _ (iA_14 h)) (by decide) (.tail _ qA_414) rfl (by rw [en28]; rfl) dX4_measure_28 ?_
      clear en28
      refine lv_iload_n hx hb dX4_measure_31 rfl (lv_at hl 3 rfl) ?_
      obtain ⟨g29, h⟩ := oif_some h
      obtain ⟨g30, h⟩ := oif_some h
      obtain ⟨n31, en31, h⟩ := obind_some h
      have h_n31 : n31 < T.1 := by rw [← cp1.1]; exact cp1.2.2 _ _ _ en31
      refine c_alda E G n28 6 (k := l3.toNatClampNeg) (v := .ref (ad n31)) (aA_k g29).1 (cc_a106 (aA_k g29).2.1) rfl (inb_k g30).1 (inb_k g30).2 (aA_k g29).2.2 (by show va_rf ((T5.2.2.2.2 n28 l3.toNatClampNeg).map ad) = _; rw [en31]; rfl) dX4_measure_32 ?_
      clear en31
      refine lv_astore (lv' := [(4, .ref (ad n31)), (0, .ref (ad l0)), (1, .ref (ad l1)), (2, .ref (ad l2)), (3, .int l3)]) hx hb dX4_measure_33 hl (by decide) rfl (fun ls hl => ?_)
      refine lv_aload_n hx hb dX4_measure_35 rfl (lv_at hl 3 rfl) ?_
      refine lv_aload hx hb dX4_measure_36 (lv_at hl 0 rfl) ?_
      refine lv_iconst (v := 0) hx hb dX4_measure_38 (by decide) ?_
      refine lv_aload_n hx hb dX4_measure_39 rfl (lv_at hl 3 rfl) ?_
      refine lv_aload hx hb dX4_measure_40 (lv_at hl 0 rfl) ?_
      obtain ⟨g32, h⟩ := oif_some h
      obtain ⟨r35, T33, eT33, h⟩ := obind2_some h
      refine q_cvi (As := [.ref (ad n31)]) (rest := [.int 0, .ref (ad n31), .ref (ad l2)]) E G hA hX hN hml (u_X8_windowOf l hst D cI cJ cZ cMic cSrc cSt cAI cAJ ad T5 l2 n31 eT33) (cwV 1 hts (gaV qA_420 qA_54 qA_55 qA_47 qA_56) rfl rfl rfl (by decide +kernel) ⟨Nat.le_of_ble_eq_true rfl, Nat.le_of_ble_eq_true rfl⟩) (oO_k g32).1 (cc_o8 (oO_k g32).2) rfl rfl hl.1 rfl (lv_room (Nat.le_of_ble_eq_true rfl)) dX4_measure_42 hcs (fun q36 T34 H locs hq G => ?_)
      obtain ⟨hq1, hq2⟩ := hq
      rw [hq2] at G
      refine lv_to hq1 ?_
      clear hq1 hq2
      have cp2 := cpr_sp cp1 (s_X8_windowOf eT33)
      refine lv_aload_n hx hb dX4_measure_45 rfl (lv_at hl 1 rfl) ?_
      obtain ⟨g37, h⟩ := oif_some h
      obtain ⟨n38, en38, h⟩ := obind_some h
      have h_n38 : n38 < T.1 := by rw [← cp2.1]; exact cp2.2.2 _ _ _ en38
      refine c_get E G l0 1 (v := .ref (ad n38)) (oO_k g37).1 (cc_o4 (oO_k g37).2) rfl (fun w h => .tail _ (iA_21 h)) (by decide) (.tail _ qA_408) rfl (by rw [en38]; rfl) dX4_measure_46 ?_
      clear en38
      refine lv_iload_n hx hb dX4_measure_49 rfl (lv_at hl 4 rfl) ?_
      obtain ⟨g39, h⟩ := oif_some h
      obtain ⟨T40, eT40, h⟩ := obind_some h
      have hg2 := s_X8_blockPowerOf eT40
      have hrc2 := hg2.2.2 cp2.2.2
      have hT2 := s_X4_measure_b53 (s_X4_measure_b16 n) _ _ _ _ _ h
      refine q_avv (As := [.ref (ad n31), .int 0, .int r35, .ref (ad n38), .int l3]) (rest := []) E G hA hX hN hml (a_X8_blockPowerOf l hst D cI cJ cZ cMic cSrc cSt cAI cAJ ad T33 l2 n31 (0 : Int32) r35 n38 l3 eT40 cp2.2.2 (by rw [cp2.1]; exact h_l2) (by rw [cp2.1]; exact h_n31) (by rw [cp2.1]; exact h_n38)) (cwV 5 hts (gaV qA_421 qA_45 qA_46 qA_47 qA_48) rfl rfl rfl (by decide +kernel) ⟨Nat.le_of_ble_eq_true rfl, Nat.le_of_ble_eq_true rfl⟩) (oO_k g39).1 (cc_o8 (oO_k g39).2) rfl rfl hl.1 rfl (lv_room (Nat.le_of_ble_eq_true rfl)) dX4_measure_50 (cs_av hgl cp2 hg2 hT2) (fun ad2 H locs hga G => ?_)
      refine w_cast (c2 := T40.1 - T0.1) (s2 := sg T40 - sg T0) (cs_f1 hgl cp2 hg2) (cs_f2 hgl cp2 hg2) ?_
      have hl := lv_sub hl [1, 2, 3, 4] rfl
      rw [show ad l0 = ad2 l0 from (hga l0 (by rw [cp2.1]; exact h_l0)).symm] at hl
      rw [show ad l1 = ad2 l1 from (hga l1 (by rw [cp2.1]; exact h_l1)).symm] at hl
      rw [show ad l2 = ad2 l2 from (hga l2 (by rw [cp2.1]; exact h_l2)).symm] at hl
      exact a_X4_measure_b53 E hA hX hN hml hst kr154 (s_X4_measure_b16 n) ih _ _ _ _ _ _ _ _ _ h (GL.tr (gl_cpr hgl cp2) hg2) hrc2 (fun n hn => (hga n (by rw [cp2.1]; exact Nat.lt_of_lt_of_le hn hgl.1)).trans (had n hn)) (Nat.lt_of_lt_of_le (by rw [cp2.1]; exact h_l0) hg2.1) (Nat.lt_of_lt_of_le (by rw [cp2.1]; exact h_l1) hg2.1) (Nat.lt_of_lt_of_le (by rw [cp2.1]; exact h_l2) hg2.1) G hl
set_option maxHeartbeats 4000000 in
set_option maxRecDepth 100000 in
theorem a_X4_measure (l : Launch) (hst : l.stackTraces = false) (D : va_G) (cI cJ cZ cMic cSrc cSt cAI cAJ : ClassId) (ad : Nat → Nat) (T : AT) (o : Nat) (a0 : Nat) (a1 : Nat) {T1 : AT} (h : g_X4_measure T o a0 a1 = some T1) (hrc : RC T) (h_o : o < T.1) (h_a0 : a0 < T.1) (h_a1 : a1 < T.1) : kAv l yX4_measure (Cond.code yX4_measure cX4_measure 5 none :: wsA) 5 105 cI cJ cZ cMic cSrc cSt cAI cAJ D ad T [.ref (ad o), .ref (ad a0), .ref (ad a1)] T1 := by
  intro sz
  refine Met.ofW (cc := cX4_measure) (maxL := 5) (ret := none) (by decide) rfl ?_
  intro p e s m args below meth c s₁ B hml hv
  obtain ⟨rfl, hsz, hP, hK, hD0, hX, hN⟩ := hv
  have hx := B.exec
  have hb := B.bytes
  have hr := B.returns
  have hts := atoms_spec (ws := (Cond.code yX4_measure cX4_measure 5 none :: wsA)) B.pre
  have hown : s.vm.findClass RX4 = some m.cls := findClass_of_methodNamed B.named
  have hlocks := B.notSynchronized
  subst hsz
  have hD := hD0.self (sz := s.heap.size)
  generalize hAe : va_A (cW ad T.1 (cc cI cJ cZ cMic cSrc cSt cAI cAJ ad T)) s.heap.size = A at hD hX ⊢
  have hA : ∀ q : Nat, s.heap.size ≤ q → A q := fun q h => by rw [← hAe]; exact Or.inr h
  have G : gC cI cJ cZ cMic cSrc cSt cAI cAJ D ad A s.heap s.heap [] T := ⟨hP, hD, va_S.rf⟩
  have E : cE p c cX4_measure s m ([.ref (ad o), .ref (ad a0), .ref (ad a1)] : List Value).toArray (Cond.code yX4_measure cX4_measure 5 none :: wsA) D RX4 (CT cI cJ cZ cMic cSrc cSt cAI cAJ) := ⟨hx, hb, hts, hown, hK⟩
  have hl := lv_entry ([.ref (ad o), .ref (ad a0), .ref (ad a1)]) (n := 5) (Nat.le_of_ble_eq_true rfl)
  rw [lg_entry_eq]
  generalize (lg_sl ([.ref (ad o), .ref (ad a0), .ref (ad a1)]) ++ List.replicate (5 - (lg_sl ([.ref (ad o), .ref (ad a0), .ref (ad a1)])).length) Slot.unset).toArray = ls at hl ⊢
  have hl : lv_has ls 5 [(0, .ref (ad o)), (1, .ref (ad a0)), (2, .ref (ad a1))] := hl
  have hgl := GL.rf T
  have had : ∀ n, n < T.1 → ad n = ad n := fun _ _ => rfl
  have hT1 := s_X4_measure h
  have hcs := cs_ok hgl hT1
  refine w_cast (Nat.sub_self T.1).symm (Nat.sub_self (sg T)).symm ?_
  have cp0 := cpr0 hrc
  unfold g_X4_measure at h
  refine lv_aload_n hx hb dX4_measure_0 rfl (lv_at hl 0 rfl) ?_
  obtain ⟨g2, h⟩ := oif_some h
  obtain ⟨n3, en3, h⟩ := obind_some h
  have h_n3 : n3 < T.1 := by rw [← cp0.1]; exact cp0.2.2 _ _ _ en3
  refine c_get E G o 1 (v := .ref (ad n3)) (oO_k g2).1 (cc_o4 (oO_k g2).2) rfl (fun w h => .tail _ (iA_21 h)) (by decide) (.tail _ qA_408) rfl (by rw [en3]; rfl) dX4_measure_1 ?_
  clear en3
  obtain ⟨g4, h⟩ := oif_some h
  obtain ⟨T5, eT5, h⟩ := obind_some h
  refine q_cvv (As := []) (rest := []) E G hA hX hN hml (u_X10_narrow l hst D cI cJ cZ cMic cSrc cSt cAI cAJ ad T n3 eT5) (cwV 0 hts (gaV qA_418 qA_25 qA_26 qA_6 qA_27) rfl rfl rfl (by decide +kernel) ⟨Nat.le_of_ble_eq_true rfl, Nat.le_of_ble_eq_true rfl⟩) (oO_k g4).1 (cc_o10 (oO_k g4).2) rfl rfl hl.1 rfl (lv_room (Nat.le_of_ble_eq_true rfl)) dX4_measure_4 hcs (fun T6 H locs hq G => ?_)
  rw [hq] at G
  clear hq
  have cp1 := cpr_sp cp0 (s_X10_narrow eT5)
  refine lv_aload_n hx hb dX4_measure_7 rfl (lv_at hl 0 rfl) ?_
  obtain ⟨g7, h⟩ := oif_some h
  obtain ⟨n8, en8, h⟩ := obind_some h
  have h_n8 : n8 < T.1 := by rw [← cp1.1]; exact cp1.2.2 _ _ _ en8
  refine c_get E G o 5 (v := .ref (ad n8)) (oO_k g7).1 (cc_o4 (oO_k g7).2) rfl (fun w h => .tail _ (iA_21 h)) (by decide) (.tail _ qA_410) rfl (by rw [en8]; rfl) dX4_measure_8 ?_
  clear en8
  obtain ⟨g9, h⟩ := oif_some h
  obtain ⟨T10, eT10, h⟩ := obind_some h
  refine q_cvv (As := []) (rest := []) E G hA hX hN hml (u_X10_narrow l hst D cI cJ cZ cMic cSrc cSt cAI cAJ ad T5 n8 eT10) (cwV 0 hts (gaV qA_418 qA_25 qA_26 qA_6 qA_27) rfl rfl rfl (by decide +kernel) ⟨Nat.le_of_ble_eq_true rfl, Nat.le_of_ble_eq_true rfl⟩) (oO_k g9).1 (cc_o10 (oO_k g9).2) rfl rfl hl.1 rfl (lv_room (Nat.le_of_ble_eq_true rfl)) dX4_measure_11 hcs (fun T11 H locs hq G => ?_)
  rw [hq] at G
  clear hq
  have cp2 := cpr_sp cp1 (s_X10_narrow eT10)
  refine lv_iconst (v := 0) hx hb dX4_measure_14 (by decide) ?_
  refine lv_istore_n (lv' := [(3, .int 0), (0, .ref (ad o)), (1, .ref (ad a0)), (2, .ref (ad a1))]) hx hb dX4_measure_15 rfl hl (by decide) rfl (fun ls hl => ?_)
  have hl := lv_sub hl [1, 2, 3, 0] rfl
  refine w_cast (c2 := T10.1 - T.1) (s2 := sg T10 - sg T) (by rw [cp2.1] <;> rfl) (by rw [sg_cpr cp2] <;> rfl) ?_
  exact a_X4_measure_b16 E hA hX hN hml hst (fun ad H locs ls had G => W.vret hx hb hr (fun t ht hW => ⟨⟨(T1, ad), rfl, ⟨rfl, had⟩, ⟨by rw [ht]; exact G.1, va_K.moved hW.alike hK, G.2.1⟩⟩, G.2.2.F ht⟩) G.2.2.2.2 dX4_measure_154) _ _ _ _ _ _ _ _ _ _ h (gl_cpr hgl cp2) cp2.2.2 had (by rw [cp2.1]; exact h_o) (by rw [cp2.1]; exact h_a0) (by rw [cp2.1]; exact h_a1) G hl
def g_X4_second_b36 (k4 : AT → Nat → Int32 → Int32 → Int32 → Option (Int32 × AT)) (T : AT) (l0 : Nat) (l1 : Int32) (l2 : Int32) (l3 : Int32) : Option (Int32 × AT) := elet (l3 + Int32.ofInt (1)) fun v2 => k4 T l0 l1 l2 v2
set_option maxHeartbeats 4000000 in
set_option maxRecDepth 100000 in
theorem u_X4_second_b36 {p : Program} {l : Launch} {e : Env} {s : State} {m : MethodId} {args : Array Value} {below : List Frame} {meth : Method} {c : Code} {Q : State → Prop} {D : va_G} {A : Nat → Prop} {cI cJ cZ cMic cSrc cSt cAI cAJ : ClassId} {ad : Nat → Nat} {r1 : Int32} {T1 : AT} (E : cE p c cX4_second s m args (Cond.code yX4_second cX4_second 4 (some .int) :: wsA) D RX4 (CT cI cJ cZ cMic cSrc cSt cAI cAJ)) (hA : ∀ q : Nat, s.heap.size ≤ q → A q) (hX : xT A s) (hN : nX s) (hml : c.maxLocals = 4) (hst : l.stackTraces = false) (kr43 : ∀ (H : Heap) (locs : List Loc) (ls : Array Slot), gC cI cJ cZ cMic cSrc cSt cAI cAJ D ad A s.heap H locs T1 → W p l e { frames := 3, cells := 0, slots := 0, locals := 47 } s m args below meth c H locs 0 0 Q (F0 m 43 ls [.int r1])) {k4 : AT → Nat → Int32 → Int32 → Int32 → Option (Int32 × AT)} (hk4 : ∀ (T : AT) (H : Heap) (locs : List Loc) (ls : Array Slot) (l0 : Nat) (l1 : Int32) (l2 : Int32) (l3 : Int32), k4 T l0 l1 l2 l3 = some (r1, T1) → gC cI cJ cZ cMic cSrc cSt cAI cAJ D ad A s.heap H locs T → lv_has ls 4 [(0, .ref (ad l0)), (1, .int l1), (2, .int l2), (3, .int l3)] → W p l e { frames := 3, cells := 0, slots := 0, locals := 47 } s m args below meth c H locs 0 0 Q (F0 m 4 ls [])) : ∀ (T : AT) (H : Heap) (locs : List Loc) (ls : Array Slot) (l0 : Nat) (l1 : Int32) (l2 : Int32) (l3 : Int32), g_X4_second_b36 k4 T l0 l1 l2 l3 = some (r1, T1) → gC cI cJ cZ cMic cSrc cSt cAI cAJ D ad A s.heap H locs T → lv_has ls 4 [(0, .ref (ad l0)), (1, .int l1), (2, .int l2), (3, .int l3)] → W p l e { frames := 3, cells := 0, slots := 0, locals := 47 } s m args below meth c H locs 0 0 Q (F0 m 36 ls []) := by
  have hx := E.1
  have hb := E.2.1
  have hts := E.2.2.1
  have hown := E.2.2.2.1
  have hK := E.2.2.2.2
  intro T H locs ls l0 l1 l2 l3 h G hl
  unfold g_X4_second_b36 at h
  obtain ⟨v2, ev2, h⟩ := elet_some h
  refine lv_iinc (v := v2) (lv' := [(3, .int v2), (0, .ref (ad l0)), (1, .int l1), (2, .int l2)]) hx hb dX4_second_36 hl (k := 3) rfl ev2.symm (by decide) rfl (fun ls hl => ?_)
  refine lv_goto (tgt := 4) hx hb dX4_second_39 (by decide) ?_
  have hl := lv_sub hl [1, 2, 3, 0] rfl
  exact hk4 _ _ _ _ _ _ _ _ h G hl
def g_X4_second_b34 (k4 : AT → Nat → Int32 → Int32 → Int32 → Option (Int32 × AT)) (T : AT) (l0 : Nat) (l1 : Int32) (l3 : Int32) : Option (Int32 × AT) := g_X4_second_b36 k4 T l0 l1 l3 l3
set_option maxHeartbeats 4000000 in
set_option maxRecDepth 100000 in
theorem u_X4_second_b34 {p : Program} {l : Launch} {e : Env} {s : State} {m : MethodId} {args : Array Value} {below : List Frame} {meth : Method} {c : Code} {Q : State → Prop} {D : va_G} {A : Nat → Prop} {cI cJ cZ cMic cSrc cSt cAI cAJ : ClassId} {ad : Nat → Nat} {r1 : Int32} {T1 : AT} (E : cE p c cX4_second s m args (Cond.code yX4_second cX4_second 4 (some .int) :: wsA) D RX4 (CT cI cJ cZ cMic cSrc cSt cAI cAJ)) (hA : ∀ q : Nat, s.heap.size ≤ q → A q) (hX : xT A s) (hN : nX s) (hml : c.maxLocals = 4) (hst : l.stackTraces = false) (kr43 : ∀ (H : Heap) (locs : List Loc) (ls : Array Slot), gC cI cJ cZ cMic cSrc cSt cAI cAJ D ad A s.heap H locs T1 → W p l e { frames := 3, cells := 0, slots := 0, locals := 47 } s m args below meth c H locs 0 0 Q (F0 m 43 ls [.int r1])) {k4 : AT → Nat → Int32 → Int32 → Int32 → Option (Int32 × AT)} (hk4 : ∀ (T : AT) (H : Heap) (locs : List Loc) (ls : Array Slot) (l0 : Nat) (l1 : Int32) (l2 : Int32) (l3 : Int32), k4 T l0 l1 l2 l3 = some (r1, T1) → gC cI cJ cZ cMic cSrc cSt cAI cAJ D ad A s.heap H locs T → lv_has ls 4 [(0, .ref (ad l0)), (1, .int l1), (2, .int l2), (3, .int l3)] → W p l e { frames := 3, cells := 0, slots := 0, locals := 47 } s m args below meth c H locs 0 0 Q (F0 m 4 ls [])) : ∀ (T : AT) (H : Heap) (locs : List Loc) (ls : Array Slot) (l0 : Nat) (l1 : Int32) (l3 : Int32), g_X4_second_b34 k4 T l0 l1 l3 = some (r1, T1) → gC cI cJ cZ cMic cSrc cSt cAI cAJ D ad A s.heap H locs T → lv_has ls 4 [(0, .ref (ad l0)), (1, .int l1), (3, .int l3)] → W p l e { frames := 3, cells := 0, slots := 0, locals := 47 } s m args below meth c H locs 0 0 Q (F0 m 34 ls []) := by
  have hx := E.1
  have hb := E.2.1
  have hts := E.2.2.1
  have hown := E.2.2.2.1
  have hK := E.2.2.2.2
  intro T H locs ls l0 l1 l3 h G hl
  unfold g_X4_second_b34 at h
  refine lv_iload_n hx hb dX4_second_34 rfl (lv_at hl 2 rfl) ?_
  refine lv_istore_n (lv' := [(2, .int l3), (0, .ref (ad l0)), (1, .int l1), (3, .int l3)]) hx hb dX4_second_35 rfl hl (by decide) rfl (fun ls hl => ?_)
  have hl := lv_sub hl [1, 2, 0, 3] rfl
  exact u_X4_second_b36 E hA hX hN hml hst kr43 hk4 _ _ _ _ _ _ _ _ h G hl
def g_X4_second_b4  : Nat → AT → Nat → Int32 → Int32 → Int32 → Option (Int32 × AT)
  | 0, _, _, _, _, _ => none
  | n + 1, T, l0, l1, l2, l3 => if l1 ≤ l3 then (some (l2, T)) else (oif (oO T l0 4 = true) <| elet (T.2.2.1 l0 2) fun v4 => if l3 = v4 then (g_X4_second_b36 (g_X4_second_b4 n) T l0 l1 l2 l3) else (if l2 = (-1) then (g_X4_second_b34 (g_X4_second_b4 n) T l0 l1 l3) else (oif (oO T l0 4 = true) <| obind (T.2.2.2.2 l0 1) fun n8 => oif (oO T n8 10 = true) <| obind2 (g_X10_compare T n8 l3 l2) fun r12 T10 => if r12 ≤ 0 then (g_X4_second_b36 (g_X4_second_b4 n) T10 l0 l1 l2 l3) else (g_X4_second_b34 (g_X4_second_b4 n) T10 l0 l1 l3))))
set_option maxHeartbeats 4000000 in
set_option maxRecDepth 100000 in
theorem u_X4_second_b4 {p : Program} {l : Launch} {e : Env} {s : State} {m : MethodId} {args : Array Value} {below : List Frame} {meth : Method} {c : Code} {Q : State → Prop} {D : va_G} {A : Nat → Prop} {cI cJ cZ cMic cSrc cSt cAI cAJ : ClassId} {ad : Nat → Nat} {r1 : Int32} {T1 : AT} (E : cE p c cX4_second s m args (Cond.code yX4_second cX4_second 4 (some .int) :: wsA) D RX4 (CT cI cJ cZ cMic cSrc cSt cAI cAJ)) (hA : ∀ q : Nat, s.heap.size ≤ q → A q) (hX : xT A s) (hN : nX s) (hml : c.maxLocals = 4) (hst : l.stackTraces = false) (kr43 : ∀ (H : Heap) (locs : List Loc) (ls : Array Slot), gC cI cJ cZ cMic cSrc cSt cAI cAJ D ad A s.heap H locs T1 → W p l e { frames := 3, cells := 0, slots := 0, locals := 47 } s m args below meth c H locs 0 0 Q (F0 m 43 ls [.int r1])) : ∀ n : Nat, ∀ (T : AT) (H : Heap) (locs : List Loc) (ls : Array Slot) (l0 : Nat) (l1 : Int32) (l2 : Int32) (l3 : Int32), g_X4_second_b4 n T l0 l1 l2 l3 = some (r1, T1) → gC cI cJ cZ cMic cSrc cSt cAI cAJ D ad A s.heap H locs T → lv_has ls 4 [(0, .ref (ad l0)), (1, .int l1), (2, .int l2), (3, .int l3)] → W p l e { frames := 3, cells := 0, slots := 0, locals := 47 } s m args below meth c H locs 0 0 Q (F0 m 4 ls []) := by
  have hx := E.1
  have hb := E.2.1
  have hts := E.2.2.1
  have hown := E.2.2.2.1
  have hK := E.2.2.2.2
  intro n
  induction n with
  | zero =>
    intro T H locs ls l0 l1 l2 l3 h
    have h : (none : Option (Int32 × AT)) = some (r1, T1) := h
    cases h
  | succ n ih =>
    intro T H locs ls l0 l1 l2 l3 h G hl
    unfold g_X4_second_b4 at h
    refine lv_iload_n hx hb dX4_second_4 rfl (lv_at hl 3 rfl) ?_
    refine lv_iload_n hx hb dX4_second_5 rfl (lv_at hl 1 rfl) ?_
    refine lv_icmp_ge (tgt := 42) hx hb dX4_second_6 (by decide) (fun c2 => ?_) (fun c2 => ?_)
    · have h := oif_pos c2 h
      refine lv_iload_n hx hb dX4_second_42 rfl (lv_at hl 2 rfl) ?_
      rw [(osome2 h).2] at G
      refine lv_to (osome2 h).1 ?_
      exact kr43 _ _ _ G
    · have h := oif_neg c2 h
      refine lv_iload_n hx hb dX4_second_9 rfl (lv_at hl 3 rfl) ?_
      refine lv_aload_n hx hb dX4_second_10 rfl (lv_at hl 0 rfl) ?_
      obtain ⟨g3, h⟩ := oif_some h
      refine c_get E G l0 2 (oO_k g3).1 (cc_o4 (oO_k g3).2) rfl (fun w h => .tail _ (iA_21 h)) (by decide) (.tail _ qA_416) rfl rfl dX4_second_11 ?_
      refine lv_topi (fun v4 ev4 => ?_)
      have h := elet_at ev4 h
      clear ev4
      refine lv_icmp_eq (tgt := 36) hx hb dX4_second_14 (by decide) (fun c5 => ?_) (fun c5 => ?_)
      · have h := oif_pos c5 h
        have hl := lv_sub hl [0, 1, 2, 3] rfl
        exact u_X4_second_b36 E hA hX hN hml hst kr43 ih _ _ _ _ _ _ _ _ h G hl
      · have h := oif_neg c5 h
        refine lv_iload_n hx hb dX4_second_17 rfl (lv_at hl 2 rfl) ?_
        refine lv_iconst (v := (-1)) hx hb dX4_second_18 (by decide) ?_
        refine lv_icmp_eq (tgt := 34) hx hb dX4_second_19 (by decide) (fun c6 => ?_) (fun c6 => ?_)
        · have h := oif_pos c6 h
          have hl := lv_sub hl [0, 1, 3] rfl
          exact u_X4_second_b34 E hA hX hN hml hst kr43 ih _ _ _ _ _ _ _ h G hl
        · have h := oif_neg c6 h
          refine lv_aload_n hx hb dX4_second_22 rfl (lv_at hl 0 rfl) ?_
          obtain ⟨g7, h⟩ := oif_some h
          obtain ⟨n8, en8, h⟩ := obind_some h
          refine c_get E G l0 1 (v := .ref (ad n8)) (oO_k g7).1 (cc_o4 (oO_k g7).2) rfl (fun w h => .tail _ (iA_21 h)) (by decide) (.tail _ qA_408) rfl (by rw [en8]; rfl) dX4_second_23 ?_
          clear en8
          refine lv_iload_n hx hb dX4_second_26 rfl (lv_at hl 3 rfl) ?_
          refine lv_iload_n hx hb dX4_second_27 rfl (lv_at hl 2 rfl) ?_
          obtain ⟨g9, h⟩ := oif_some h
          obtain ⟨r12, T10, eT10, h⟩ := obind2_some h
          refine q_cvi (As := [.int l3, .int l2]) (rest := []) E G hA hX hN hml (u_X10_compare l hst D cI cJ cZ cMic cSrc cSt cAI cAJ ad T n8 l3 l2 eT10) (cwV 2 hts (gaV qA_430 qA_120 qA_121 qA_6 qA_122) rfl rfl rfl (by decide +kernel) ⟨Nat.le_of_ble_eq_true rfl, Nat.le_of_ble_eq_true rfl⟩) (oO_k g9).1 (cc_o10 (oO_k g9).2) rfl rfl hl.1 rfl (lv_room (Nat.le_of_ble_eq_true rfl)) dX4_second_28 ⟨Nat.zero_le _, Nat.zero_le _⟩ (fun q13 T11 H locs hq G => ?_)
          obtain ⟨hq1, hq2⟩ := hq
          rw [hq2] at G
          refine lv_to hq1 ?_
          clear hq1 hq2 eT10
          refine lv_if_le (tgt := 36) hx hb dX4_second_31 (by decide) (fun c14 => ?_) (fun c14 => ?_)
          · have h := oif_pos c14 h
            have hl := lv_sub hl [0, 1, 2, 3] rfl
            exact u_X4_second_b36 E hA hX hN hml hst kr43 ih _ _ _ _ _ _ _ _ h G hl
          · have h := oif_neg c14 h
            have hl := lv_sub hl [0, 1, 3] rfl
            exact u_X4_second_b34 E hA hX hN hml hst kr43 ih _ _ _ _ _ _ _ h G hl
def g_X4_second (T : AT) (o : Nat) (a0 : Int32) : Option (Int32 × AT) := g_X4_second_b4 16384 T o a0 (-1) 0
set_option maxHeartbeats 4000000 in
set_option maxRecDepth 100000 in
theorem u_X4_second (l : Launch) (hst : l.stackTraces = false) (D : va_G) (cI cJ cZ cMic cSrc cSt cAI cAJ : ClassId) (ad : Nat → Nat) (T : AT) (o : Nat) (a0 : Int32) {r1 : Int32} {T1 : AT} (h : g_X4_second T o a0 = some (r1, T1)) : kCi l yX4_second (Cond.code yX4_second cX4_second 4 (some .int) :: wsA) 3 47 cI cJ cZ cMic cSrc cSt cAI cAJ D ad T [.ref (ad o), .int a0] (fun r T9 => r = r1 ∧ T9 = T1) := by
  intro sz
  refine Met.ofW (cc := cX4_second) (maxL := 4) (ret := (some .int)) (by decide) rfl ?_
  intro p e s m args below meth c s₁ B hml hv
  obtain ⟨rfl, hsz, hP, hK, hD0, hX, hN⟩ := hv
  have hx := B.exec
  have hb := B.bytes
  have hr := B.returns
  have hts := atoms_spec (ws := (Cond.code yX4_second cX4_second 4 (some .int) :: wsA)) B.pre
  have hown : s.vm.findClass RX4 = some m.cls := findClass_of_methodNamed B.named
  have hlocks := B.notSynchronized
  subst hsz
  have hD := hD0.self (sz := s.heap.size)
  generalize hAe : va_A (cW ad T.1 (cc cI cJ cZ cMic cSrc cSt cAI cAJ ad T)) s.heap.size = A at hD hX ⊢
  have hA : ∀ q : Nat, s.heap.size ≤ q → A q := fun q h => by rw [← hAe]; exact Or.inr h
  have G : gC cI cJ cZ cMic cSrc cSt cAI cAJ D ad A s.heap s.heap [] T := ⟨hP, hD, va_S.rf⟩
  have E : cE p c cX4_second s m ([.ref (ad o), .int a0] : List Value).toArray (Cond.code yX4_second cX4_second 4 (some .int) :: wsA) D RX4 (CT cI cJ cZ cMic cSrc cSt cAI cAJ) := ⟨hx, hb, hts, hown, hK⟩
  have hl := lv_entry ([.ref (ad o), .int a0]) (n := 4) (Nat.le_of_ble_eq_true rfl)
  rw [lg_entry_eq]
  generalize (lg_sl ([.ref (ad o), .int a0]) ++ List.replicate (4 - (lg_sl ([.ref (ad o), .int a0])).length) Slot.unset).toArray = ls at hl ⊢
  have hl : lv_has ls 4 [(0, .ref (ad o)), (1, .int a0)] := hl
  unfold g_X4_second at h
  refine lv_iconst (v := (-1)) hx hb dX4_second_0 (by decide) ?_
  refine lv_istore_n (lv' := [(2, .int (-1)), (0, .ref (ad o)), (1, .int a0)]) hx hb dX4_second_1 rfl hl (by decide) rfl (fun ls hl => ?_)
  refine lv_iconst (v := 0) hx hb dX4_second_2 (by decide) ?_
  refine lv_istore_n (lv' := [(3, .int 0), (2, .int (-1)), (0, .ref (ad o)), (1, .int a0)]) hx hb dX4_second_3 rfl hl (by decide) rfl (fun ls hl => ?_)
  have hl := lv_sub hl [2, 3, 1, 0] rfl
  exact u_X4_second_b4 E hA hX hN hml hst (fun H locs ls G => W.iret (v := r1) hx hb hr (fun t ht hW => ⟨⟨r1, T1, rfl, ⟨rfl, rfl⟩, ⟨by rw [ht]; exact G.1, va_K.moved hW.alike hK, G.2.1⟩⟩, G.2.2.F ht⟩) G.2.2.2.2 dX4_second_43) _ _ _ _ _ _ _ _ _ h G hl
set_option maxHeartbeats 4000000 in
set_option maxRecDepth 100000 in
theorem s_X4_second_b36 {r1 : Int32} {T1 : AT} {k4 : AT → Nat → Int32 → Int32 → Int32 → Option (Int32 × AT)} (hk4 : ∀ (T : AT) (l0 : Nat) (l1 : Int32) (l2 : Int32) (l3 : Int32), k4 T l0 l1 l2 l3 = some (r1, T1) → SP T T1) : ∀ (T : AT) (l0 : Nat) (l1 : Int32) (l2 : Int32) (l3 : Int32), g_X4_second_b36 k4 T l0 l1 l2 l3 = some (r1, T1) → SP T T1 := by
  intro T l0 l1 l2 l3 h
  have p0 := SP.rf T
  unfold g_X4_second_b36 at h
  obtain ⟨v2, ev2, h⟩ := elet_some h
  exact SP.tr p0 (hk4 _ _ _ _ _ h)
set_option maxHeartbeats 4000000 in
set_option maxRecDepth 100000 in
theorem s_X4_second_b34 {r1 : Int32} {T1 : AT} {k4 : AT → Nat → Int32 → Int32 → Int32 → Option (Int32 × AT)} (hk4 : ∀ (T : AT) (l0 : Nat) (l1 : Int32) (l2 : Int32) (l3 : Int32), k4 T l0 l1 l2 l3 = some (r1, T1) → SP T T1) : ∀ (T : AT) (l0 : Nat) (l1 : Int32) (l3 : Int32), g_X4_second_b34 k4 T l0 l1 l3 = some (r1, T1) → SP T T1 := by
  intro T l0 l1 l3 h
  have p0 := SP.rf T
  unfold g_X4_second_b34 at h
  exact SP.tr p0 (s_X4_second_b36 hk4 _ _ _ _ _ h)
set_option maxHeartbeats 4000000 in
set_option maxRecDepth 100000 in
theorem s_X4_second_b4 {r1 : Int32} {T1 : AT} : ∀ n : Nat, ∀ (T : AT) (l0 : Nat) (l1 : Int32) (l2 : Int32) (l3 : Int32), g_X4_second_b4 n T l0 l1 l2 l3 = some (r1, T1) → SP T T1 := by
  intro n
  induction n with
  | zero =>
    intro T l0 l1 l2 l3 h
    have h : (none : Option (Int32 × AT)) = some (r1, T1) := h
    cases h
  | succ n ih =>
    intro T l0 l1 l2 l3 h
    have p0 := SP.rf T
    unfold g_X4_second_b4 at h
    rcases oif_or h with ⟨c2, h⟩ | ⟨c2, h⟩
    · have h := h
      rw [← (osome2 h).2]
      exact p0
    · have h := h
      obtain ⟨g3, h⟩ := oif_some h
      obtain ⟨v4, -, h⟩ := elet_some h
      rcases oif_or h with ⟨c5, h⟩ | ⟨c5, h⟩
      · have h := h
        exact SP.tr p0 (s_X4_second_b36 ih _ _ _ _ _ h)
      · have h := h
        rcases oif_or h with ⟨c6, h⟩ | ⟨c6, h⟩
        · have h := h
          exact SP.tr p0 (s_X4_second_b34 ih _ _ _ _ h)
        · have h := h
          obtain ⟨g7, h⟩ := oif_some h
          obtain ⟨n8, en8, h⟩ := obind_some h
          obtain ⟨g9, h⟩ := oif_some h
          obtain ⟨r11, T10, eT10, h⟩ := obind2_some h
          have p1 : SP T T10 := SP.tr p0 (s_X10_compare eT10)
          rcases oif_or h with ⟨c12, h⟩ | ⟨c12, h⟩
          · have h := h
            exact SP.tr p1 (s_X4_second_b36 ih _ _ _ _ _ h)
          · have h := h
            exact SP.tr p1 (s_X4_second_b34 ih _ _ _ _ h)
set_option maxHeartbeats 4000000 in
set_option maxRecDepth 100000 in
theorem s_X4_second {T : AT} {o : Nat} {a0 : Int32} {r1 : Int32} {T1 : AT} (h : g_X4_second T o a0 = some (r1, T1)) : SP T T1 := by
  have p0 := SP.rf T
  unfold g_X4_second at h
  exact SP.tr p0 (s_X4_second_b4 _ _ _ _ _ _ h)
def g_X4_sumIn_b53 (k11 : AT → Nat → Nat → Nat → Nat → Int32 → Int32 → Option (AT)) (k24 : AT → Nat → Nat → Nat → Nat → Int32 → Int32 → Int32 → Option (AT)) (T : AT) (l0 : Nat) (l1 : Nat) (l2 : Nat) (l3 : Nat) (l4 : Int32) (l5 : Int32) (l6 : Int32) : Option (AT) := elet (l6 + Int32.ofInt (1)) fun v2 => k24 T l0 l1 l2 l3 l4 l5 v2
def g_X4_sumIn_b24 (k11 : AT → Nat → Nat → Nat → Nat → Int32 → Int32 → Option (AT)) : Nat → AT → Nat → Nat → Nat → Nat → Int32 → Int32 → Int32 → Option (AT)
  | 0, _, _, _, _, _, _, _, _ => none
  | n + 1, T, l0, l1, l2, l3, l4, l5, l6 => oif (aA T l1 100 = true) <| oif (inb 2 (T.2.1 l1).2 = true) <| elet (T.2.2.1 l1 (2 : Int32).toNatClampNeg) fun v4 => if v4 < l6 then (elet (l5 + Int32.ofInt (1)) fun v6 => k11 T l0 l1 l2 l3 l4 v6) else (oif (oO T l0 4 = true) <| obind (T.2.2.2.2 l0 1) fun n8 => oif (oO T l2 1 = true) <| elet (T.2.2.1 l2 3) fun v10 => elet (l5 * v10) fun v11 => elet (v11 + l6) fun v12 => oif (oO T l3 10 = true) <| obind (g_X10_add T l3 l4 n8 v12 (1 : Int32)) fun T14 => g_X4_sumIn_b53 k11 (g_X4_sumIn_b24 k11 n) T14 l0 l1 l2 l3 l4 l5 l6)
def g_X4_sumIn_b11  : Nat → AT → Nat → Nat → Nat → Nat → Int32 → Int32 → Option (AT)
  | 0, _, _, _, _, _, _, _ => none
  | n + 1, T, l0, l1, l2, l3, l4, l5 => oif (aA T l1 100 = true) <| oif (inb 3 (T.2.1 l1).2 = true) <| elet (T.2.2.1 l1 (3 : Int32).toNatClampNeg) fun v4 => if v4 < l5 then (some T) else (oif (aA T l1 100 = true) <| oif (inb 0 (T.2.1 l1).2 = true) <| elet (T.2.2.1 l1 (0 : Int32).toNatClampNeg) fun v8 => g_X4_sumIn_b24 (g_X4_sumIn_b11 n) 16384 T l0 l1 l2 l3 l4 l5 v8)
def g_X4_sumIn (T : AT) (o : Nat) (a0 : Nat) (a1 : Nat) (a2 : Nat) (a3 : Int32) : Option (AT) := oif (oO T a2 10 = true) <| obind (g_X10_clear T a2 a3) fun T3 => oif (aA T3 a0 100 = true) <| oif (inb 1 (T3.2.1 a0).2 = true) <| elet (T3.2.2.1 a0 (1 : Int32).toNatClampNeg) fun v7 => g_X4_sumIn_b11 16384 T3 o a0 a1 a2 a3 v7
set_option maxHeartbeats 4000000 in
set_option maxRecDepth 100000 in
theorem s_X4_sumIn_b53 {T1 : AT} {k11 : AT → Nat → Nat → Nat → Nat → Int32 → Int32 → Option (AT)} {k24 : AT → Nat → Nat → Nat → Nat → Int32 → Int32 → Int32 → Option (AT)} (hk11 : ∀ (T : AT) (l0 : Nat) (l1 : Nat) (l2 : Nat) (l3 : Nat) (l4 : Int32) (l5 : Int32), k11 T l0 l1 l2 l3 l4 l5 = some T1 → GL T T1) (hk24 : ∀ (T : AT) (l0 : Nat) (l1 : Nat) (l2 : Nat) (l3 : Nat) (l4 : Int32) (l5 : Int32) (l6 : Int32), k24 T l0 l1 l2 l3 l4 l5 l6 = some T1 → GL T T1) : ∀ (T : AT) (l0 : Nat) (l1 : Nat) (l2 : Nat) (l3 : Nat) (l4 : Int32) (l5 : Int32) (l6 : Int32), g_X4_sumIn_b53 k11 k24 T l0 l1 l2 l3 l4 l5 l6 = some T1 → GL T T1 := by
  intro T l0 l1 l2 l3 l4 l5 l6 h
  have p0 := GL.rf T
  unfold g_X4_sumIn_b53 at h
  obtain ⟨v2, ev2, h⟩ := elet_some h
  exact GL.tr p0 (hk24 _ _ _ _ _ _ _ _ h)
set_option maxHeartbeats 4000000 in
set_option maxRecDepth 100000 in
theorem s_X4_sumIn_b24 {T1 : AT} {k11 : AT → Nat → Nat → Nat → Nat → Int32 → Int32 → Option (AT)} (hk11 : ∀ (T : AT) (l0 : Nat) (l1 : Nat) (l2 : Nat) (l3 : Nat) (l4 : Int32) (l5 : Int32), k11 T l0 l1 l2 l3 l4 l5 = some T1 → GL T T1) : ∀ n : Nat, ∀ (T : AT) (l0 : Nat) (l1 : Nat) (l2 : Nat) (l3 : Nat) (l4 : Int32) (l5 : Int32) (l6 : Int32), g_X4_sumIn_b24 k11 n T l0 l1 l2 l3 l4 l5 l6 = some T1 → GL T T1 := by
  intro n
  induction n with
  | zero =>
    intro T l0 l1 l2 l3 l4 l5 l6 h
    have h : (none : Option (AT)) = some T1 := h
    cases h
  | succ n ih =>
    intro T l0 l1 l2 l3 l4 l5 l6 h
    have p0 := GL.rf T
    unfold g_X4_sumIn_b24 at h
    obtain ⟨g2, h⟩ := oif_some h
    obtain ⟨g3, h⟩ := oif_some h
    obtain ⟨v4, -, h⟩ := elet_some h
    rcases oif_or h with ⟨c5, h⟩ | ⟨c5, h⟩
    · have h := h
      obtain ⟨v6, ev6, h⟩ := elet_some h
      exact GL.tr p0 (hk11 _ _ _ _ _ _ _ h)
    · have h := h
      obtain ⟨g7, h⟩ := oif_some h
      obtain ⟨n8, en8, h⟩ := obind_some h
      obtain ⟨g9, h⟩ := oif_some h
      obtain ⟨v10, -, h⟩ := elet_some h
      obtain ⟨v11, -, h⟩ := elet_some h
      obtain ⟨v12, -, h⟩ := elet_some h
      obtain ⟨g13, h⟩ := oif_some h
      obtain ⟨T14, eT14, h⟩ := obind_some h
      have p1 : GL T T14 := GL.tr p0 (s_X10_add eT14)
      exact GL.tr p1 (s_X4_sumIn_b53 hk11 ih _ _ _ _ _ _ _ _ h)
set_option maxHeartbeats 4000000 in
set_option maxRecDepth 100000 in
theorem s_X4_sumIn_b11 {T1 : AT} : ∀ n : Nat, ∀ (T : AT) (l0 : Nat) (l1 : Nat) (l2 : Nat) (l3 : Nat) (l4 : Int32) (l5 : Int32), g_X4_sumIn_b11 n T l0 l1 l2 l3 l4 l5 = some T1 → GL T T1 := by
  intro n
  induction n with
  | zero =>
    intro T l0 l1 l2 l3 l4 l5 h
    have h : (none : Option (AT)) = some T1 := h
    cases h
  | succ n ih =>
    intro T l0 l1 l2 l3 l4 l5 h
    have p0 := GL.rf T
    unfold g_X4_sumIn_b11 at h
    obtain ⟨g2, h⟩ := oif_some h
    obtain ⟨g3, h⟩ := oif_some h
    obtain ⟨v4, -, h⟩ := elet_some h
    rcases oif_or h with ⟨c5, h⟩ | ⟨c5, h⟩
    · have h := h
      rw [← osome1 h]
      exact p0
    · have h := h
      obtain ⟨g6, h⟩ := oif_some h
      obtain ⟨g7, h⟩ := oif_some h
      obtain ⟨v8, -, h⟩ := elet_some h
      exact GL.tr p0 (s_X4_sumIn_b24 ih _ _ _ _ _ _ _ _ _ h)
set_option maxHeartbeats 4000000 in
set_option maxRecDepth 100000 in
theorem s_X4_sumIn {T : AT} {o : Nat} {a0 : Nat} {a1 : Nat} {a2 : Nat} {a3 : Int32} {T1 : AT} (h : g_X4_sumIn T o a0 a1 a2 a3 = some T1) : GL T T1 := by
  have p0 := GL.rf T
  unfold g_X4_sumIn at h
  obtain ⟨g2, h⟩ := oif_some h
  obtain ⟨T3, eT3, h⟩ := obind_some h
  have p1 : GL T T3 := GL.tr p0 (gl_sp (s_X10_clear eT3))
  obtain ⟨g5, h⟩ := oif_some h
  obtain ⟨g6, h⟩ := oif_some h
  obtain ⟨v7, -, h⟩ := elet_some h
  exact GL.tr p1 (s_X4_sumIn_b11 _ _ _ _ _ _ _ _ h)
set_option maxHeartbeats 4000000 in
set_option maxRecDepth 100000 in
theorem a_X4_sumIn_b53 {p : Program} {l : Launch} {e : Env} {s : State} {m : MethodId} {args : Array Value} {below : List Frame} {meth : Method} {c : Code} {Q : State → Prop} {D : va_G} {A : Nat → Prop} {cI cJ cZ cMic cSrc cSt cAI cAJ : ClassId} {ad0 : Nat → Nat} {T0 : AT} {T1 : AT} (E : cE p c cX4_sumIn s m args (Cond.code yX4_sumIn cX4_sumIn 7 none :: wsA) D RX4 (CT cI cJ cZ cMic cSrc cSt cAI cAJ)) (hA : ∀ q : Nat, s.heap.size ≤ q → A q) (hX : xT A s) (hN : nX s) (hml : c.maxLocals = 7) (hst : l.stackTraces = false) (kr65 : ∀ (ad : Nat → Nat) (H : Heap) (locs : List Loc) (ls : Array Slot), (∀ n, n < T0.1 → ad n = ad0 n) → gC cI cJ cZ cMic cSrc cSt cAI cAJ D ad A s.heap H locs T1 → W p l e { frames := 4, cells := T1.1 - T0.1, slots := sg T1 - sg T0, locals := 74 } s m args below meth c H locs (T1.1 - T0.1) (sg T1 - sg T0) Q (F0 m 65 ls [])) {k11 : AT → Nat → Nat → Nat → Nat → Int32 → Int32 → Option (AT)} {k24 : AT → Nat → Nat → Nat → Nat → Int32 → Int32 → Int32 → Option (AT)} (hs11 : ∀ (T : AT) (l0 : Nat) (l1 : Nat) (l2 : Nat) (l3 : Nat) (l4 : Int32) (l5 : Int32), k11 T l0 l1 l2 l3 l4 l5 = some T1 → GL T T1) (hk11 : ∀ (T : AT) (ad : Nat → Nat) (H : Heap) (locs : List Loc) (ls : Array Slot) (l0 : Nat) (l1 : Nat) (l2 : Nat) (l3 : Nat) (l4 : Int32) (l5 : Int32), k11 T l0 l1 l2 l3 l4 l5 = some T1 → GL T0 T → RC T → (∀ n, n < T0.1 → ad n = ad0 n) → l0 < T.1 → l1 < T.1 → l2 < T.1 → l3 < T.1 → gC cI cJ cZ cMic cSrc cSt cAI cAJ D ad A s.heap H locs T → lv_has ls 7 [(0, .ref (ad l0)), (1, .ref (ad l1)), (2, .ref (ad l2)), (3, .ref (ad l3)), (4, .int l4), (5, .int l5)] → W p l e { frames := 4, cells := T1.1 - T0.1, slots := sg T1 - sg T0, locals := 74 } s m args below meth c H locs (T.1 - T0.1) (sg T - sg T0) Q (F0 m 11 ls [])) (hs24 : ∀ (T : AT) (l0 : Nat) (l1 : Nat) (l2 : Nat) (l3 : Nat) (l4 : Int32) (l5 : Int32) (l6 : Int32), k24 T l0 l1 l2 l3 l4 l5 l6 = some T1 → GL T T1) (hk24 : ∀ (T : AT) (ad : Nat → Nat) (H : Heap) (locs : List Loc) (ls : Array Slot) (l0 : Nat) (l1 : Nat) (l2 : Nat) (l3 : Nat) (l4 : Int32) (l5 : Int32) (l6 : Int32), k24 T l0 l1 l2 l3 l4 l5 l6 = some T1 → GL T0 T → RC T → (∀ n, n < T0.1 → ad n = ad0 n) → l0 < T.1 → l1 < T.1 → l2 < T.1 → l3 < T.1 → gC cI cJ cZ cMic cSrc cSt cAI cAJ D ad A s.heap H locs T → lv_has ls 7 [(0, .ref (ad l0)), (1, .ref (ad l1)), (2, .ref (ad l2)), (3, .ref (ad l3)), (4, .int l4), (5, .int l5), (6, .int l6)] → W p l e { frames := 4, cells := T1.1 - T0.1, slots := sg T1 - sg T0, locals := 74 } s m args below meth c H locs (T.1 - T0.1) (sg T - sg T0) Q (F0 m 24 ls [])) : ∀ (T : AT) (ad : Nat → Nat) (H : Heap) (locs : List Loc) (ls : Array Slot) (l0 : Nat) (l1 : Nat) (l2 : Nat) (l3 : Nat) (l4 : Int32) (l5 : Int32) (l6 : Int32), g_X4_sumIn_b53 k11 k24 T l0 l1 l2 l3 l4 l5 l6 = some T1 → GL T0 T → RC T → (∀ n, n < T0.1 → ad n = ad0 n) → l0 < T.1 → l1 < T.1 → l2 < T.1 → l3 < T.1 → gC cI cJ cZ cMic cSrc cSt cAI cAJ D ad A s.heap H locs T → lv_has ls 7 [(0, .ref (ad l0)), (1, .ref (ad l1)), (2, .ref (ad l2)), (3, .ref (ad l3)), (4, .int l4), (5, .int l5), (6, .int l6)] → W p l e { frames := 4, cells := T1.1 - T0.1, slots := sg T1 - sg T0, locals := 74 } s m args below meth c H locs (T.1 - T0.1) (sg T - sg T0) Q (F0 m 53 ls []) := by
  have hx := E.1
  have hb := E.2.1
  have hts := E.2.2.1
  have hown := E.2.2.2.1
  have hK := E.2.2.2.2
  intro T ad H locs ls l0 l1 l2 l3 l4 l5 l6 h hgl hrc had h_l0 h_l1 h_l2 h_l3 G hl
  have hT1 := s_X4_sumIn_b53 hs11 hs24 _ _ _ _ _ _ _ _ h
  have hcs := cs_ok hgl hT1
  have cp0 := cpr0 hrc
  unfold g_X4_sumIn_b53 at h
  obtain ⟨v2, ev2, h⟩ := elet_some h
  refine lv_iinc (v := v2) (lv' := [(6, .int v2), (0, .ref (ad l0)), (1, .ref (ad l1)), (2, .ref (ad l2)), (3, .ref (ad l3)), (4, .int l4), (5, .int l5)]) hx hb dX4_sumIn_53 hl (k := 6) rfl ev2.symm (by decide) rfl (fun ls hl => ?_)
  refine lv_goto (tgt := 24) hx hb dX4_sumIn_56 (by decide) ?_
  have hl := lv_sub hl [1, 2, 3, 4, 5, 6, 0] rfl
  refine w_cast (c2 := T.1 - T0.1) (s2 := sg T - sg T0) (by rw [cp0.1] <;> rfl) (by rw [sg_cpr cp0] <;> rfl) ?_
  exact hk24 _ _ _ _ _ _ _ _ _ _ _ _ h (gl_cpr hgl cp0) cp0.2.2 had (by rw [cp0.1]; exact h_l0) (by rw [cp0.1]; exact h_l1) (by rw [cp0.1]; exact h_l2) (by rw [cp0.1]; exact h_l3) G hl
set_option maxHeartbeats 4000000 in
set_option maxRecDepth 100000 in
theorem a_X4_sumIn_b24 {p : Program} {l : Launch} {e : Env} {s : State} {m : MethodId} {args : Array Value} {below : List Frame} {meth : Method} {c : Code} {Q : State → Prop} {D : va_G} {A : Nat → Prop} {cI cJ cZ cMic cSrc cSt cAI cAJ : ClassId} {ad0 : Nat → Nat} {T0 : AT} {T1 : AT} (E : cE p c cX4_sumIn s m args (Cond.code yX4_sumIn cX4_sumIn 7 none :: wsA) D RX4 (CT cI cJ cZ cMic cSrc cSt cAI cAJ)) (hA : ∀ q : Nat, s.heap.size ≤ q → A q) (hX : xT A s) (hN : nX s) (hml : c.maxLocals = 7) (hst : l.stackTraces = false) (kr65 : ∀ (ad : Nat → Nat) (H : Heap) (locs : List Loc) (ls : Array Slot), (∀ n, n < T0.1 → ad n = ad0 n) → gC cI cJ cZ cMic cSrc cSt cAI cAJ D ad A s.heap H locs T1 → W p l e { frames := 4, cells := T1.1 - T0.1, slots := sg T1 - sg T0, locals := 74 } s m args below meth c H locs (T1.1 - T0.1) (sg T1 - sg T0) Q (F0 m 65 ls [])) {k11 : AT → Nat → Nat → Nat → Nat → Int32 → Int32 → Option (AT)} (hs11 : ∀ (T : AT) (l0 : Nat) (l1 : Nat) (l2 : Nat) (l3 : Nat) (l4 : Int32) (l5 : Int32), k11 T l0 l1 l2 l3 l4 l5 = some T1 → GL T T1) (hk11 : ∀ (T : AT) (ad : Nat → Nat) (H : Heap) (locs : List Loc) (ls : Array Slot) (l0 : Nat) (l1 : Nat) (l2 : Nat) (l3 : Nat) (l4 : Int32) (l5 : Int32), k11 T l0 l1 l2 l3 l4 l5 = some T1 → GL T0 T → RC T → (∀ n, n < T0.1 → ad n = ad0 n) → l0 < T.1 → l1 < T.1 → l2 < T.1 → l3 < T.1 → gC cI cJ cZ cMic cSrc cSt cAI cAJ D ad A s.heap H locs T → lv_has ls 7 [(0, .ref (ad l0)), (1, .ref (ad l1)), (2, .ref (ad l2)), (3, .ref (ad l3)), (4, .int l4), (5, .int l5)] → W p l e { frames := 4, cells := T1.1 - T0.1, slots := sg T1 - sg T0, locals := 74 } s m args below meth c H locs (T.1 - T0.1) (sg T - sg T0) Q (F0 m 11 ls [])) : ∀ n : Nat, ∀ (T : AT) (ad : Nat → Nat) (H : Heap) (locs : List Loc) (ls : Array Slot) (l0 : Nat) (l1 : Nat) (l2 : Nat) (l3 : Nat) (l4 : Int32) (l5 : Int32) (l6 : Int32), g_X4_sumIn_b24 k11 n T l0 l1 l2 l3 l4 l5 l6 = some T1 → GL T0 T → RC T → (∀ n, n < T0.1 → ad n = ad0 n) → l0 < T.1 → l1 < T.1 → l2 < T.1 → l3 < T.1 → gC cI cJ cZ cMic cSrc cSt cAI cAJ D ad A s.heap H locs T → lv_has ls 7 [(0, .ref (ad l0)), (1, .ref (ad l1)), (2, .ref (ad l2)), (3, .ref (ad l3)), (4, .int l4), (5, .int l5), (6, .int l6)] → W p l e { frames := 4, cells := T1.1 - T0.1, slots := sg T1 - sg T0, locals := 74 } s m args below meth c H locs (T.1 - T0.1) (sg T - sg T0) Q (F0 m 24 ls []) := by
  have hx := E.1
  have hb := E.2.1
  have hts := E.2.2.1
  have hown := E.2.2.2.1
  have hK := E.2.2.2.2
  intro n
  induction n with
  | zero =>
    intro T ad H locs ls l0 l1 l2 l3 l4 l5 l6 h
    have h : (none : Option (AT)) = some T1 := h
    cases h
  | succ n ih =>
    intro T ad H locs ls l0 l1 l2 l3 l4 l5 l6 h hgl hrc had h_l0 h_l1 h_l2 h_l3 G hl
    have hT1 := s_X4_sumIn_b24 hs11 _ _ _ _ _ _ _ _ _ h
    have hcs := cs_ok hgl hT1
    have cp0 := cpr0 hrc
    unfold g_X4_sumIn_b24 at h
    refine lv_iload hx hb dX4_sumIn_24 (lv_at hl 6 rfl) ?_
    refine lv_aload_n hx hb dX4_sumIn_26 rfl (lv_at hl 1 rfl) ?_
    refine lv_iconst (v := 2) hx hb dX4_sumIn_27 (by decide) ?_
    obtain ⟨g2, h⟩ := oif_some h
    obtain ⟨g3, h⟩ := oif_some h
    refine c_iald E G l1 0 (k := (2 : Int32).toNatClampNeg) (aA_k g2).1 (cc_a100 (aA_k g2).2.1) rfl (inb_k g3).1 (inb_k g3).2 (aA_k g2).2.2 dX4_sumIn_28 ?_
    refine lv_topi (fun v4 ev4 => ?_)
    have h := elet_at ev4 h
    clear ev4
    refine lv_icmp_gt (tgt := 59) hx hb dX4_sumIn_29 (by decide) (fun c5 => ?_) (fun c5 => ?_)
    · have h := oif_pos c5 h
      obtain ⟨v6, ev6, h⟩ := elet_some h
      refine lv_iinc (v := v6) (lv' := [(5, .int v6), (0, .ref (ad l0)), (1, .ref (ad l1)), (2, .ref (ad l2)), (3, .ref (ad l3)), (4, .int l4), (6, .int l6)]) hx hb dX4_sumIn_59 hl (k := 5) rfl ev6.symm (by decide) rfl (fun ls hl => ?_)
      refine lv_goto (tgt := 11) hx hb dX4_sumIn_62 (by decide) ?_
      have hl := lv_sub hl [1, 2, 3, 4, 5, 0] rfl
      refine w_cast (c2 := T.1 - T0.1) (s2 := sg T - sg T0) (by rw [cp0.1] <;> rfl) (by rw [sg_cpr cp0] <;> rfl) ?_
      exact hk11 _ _ _ _ _ _ _ _ _ _ _ h (gl_cpr hgl cp0) cp0.2.2 had (by rw [cp0.1]; exact h_l0) (by rw [cp0.1]; exact h_l1) (by rw [cp0.1]; exact h_l2) (by rw [cp0.1]; exact h_l3) G hl
    · have h := oif_neg c5 h
      refine lv_aload_n hx hb dX4_sumIn_32 rfl (lv_at hl 3 rfl) ?_
      refine lv_iload hx hb dX4_sumIn_33 (lv_at hl 4 rfl) ?_
      refine lv_aload_n hx hb dX4_sumIn_35 rfl (lv_at hl 0 rfl) ?_
      obtain ⟨g7, h⟩ := oif_some h
      obtain ⟨n8, en8, h⟩ := obind_some h
      have h_n8 : n8 < T.1 := by rw [← cp0.1]; exact cp0.2.2 _ _ _ en8
      refine c_get E G l0 1 (v := .ref (ad n8)) (oO_k g7).1 (cc_o4 (oO_k g7).2) rfl (fun w h => .tail _ (iA_21 h)) (by decide) (.tail _ qA_408) rfl (by rw [en8]; rfl) dX4_sumIn_36 ?_
      clear en8
      refine lv_iload hx hb dX4_sumIn_39 (lv_at hl 5 rfl) ?_
      refine lv_aload_n hx hb dX4_sumIn_41 rfl (lv_at hl 2 rfl) ?_
      obtain ⟨g9, h⟩ := oif_some h
      refine c_get E G l2 3 (oO_k g9).1 (cc_o1 (oO_k g9).2) rfl (fun w h => .tail _ (iA_15 h)) (by decide) (.tail _ qA_428) rfl rfl dX4_sumIn_42 ?_
      refine lv_topi (fun v10 ev10 => ?_)
      have h := elet_at ev10 h
      clear ev10
      refine lv_imul hx hb dX4_sumIn_45 ?_
      refine lv_topi (fun v11 ev11 => ?_)
      have h := elet_at ev11 h
      clear ev11
      refine lv_iload hx hb dX4_sumIn_46 (lv_at hl 6 rfl) ?_
      refine lv_iadd hx hb dX4_sumIn_48 ?_
      refine lv_topi (fun v12 ev12 => ?_)
      have h := elet_at ev12 h
      clear ev12
      refine lv_iconst (v := 1) hx hb dX4_sumIn_49 (by decide) ?_
      obtain ⟨g13, h⟩ := oif_some h
      obtain ⟨T14, eT14, h⟩ := obind_some h
      have hg2 := s_X10_add eT14
      have hrc2 := hg2.2.2 cp0.2.2
      have hT2 := s_X4_sumIn_b53 hs11 (s_X4_sumIn_b24 hs11 n) _ _ _ _ _ _ _ _ h
      refine q_avv (As := [.int l4, .ref (ad n8), .int v12, .int 1]) (rest := []) E G hA hX hN hml (a_X10_add l hst D cI cJ cZ cMic cSrc cSt cAI cAJ ad T l3 l4 n8 v12 (1 : Int32) eT14 cp0.2.2 (by rw [cp0.1]; exact h_l3) (by rw [cp0.1]; exact h_n8)) (cwV 4 hts (gaV qA_440 qA_151 qA_152 qA_6 qA_153) rfl rfl rfl (by decide +kernel) ⟨Nat.le_of_ble_eq_true rfl, Nat.le_of_ble_eq_true rfl⟩) (oO_k g13).1 (cc_o10 (oO_k g13).2) rfl rfl hl.1 rfl (lv_room (Nat.le_of_ble_eq_true rfl)) dX4_sumIn_50 (cs_av hgl cp0 hg2 hT2) (fun ad2 H locs hga G => ?_)
      refine w_cast (c2 := T14.1 - T0.1) (s2 := sg T14 - sg T0) (cs_f1 hgl cp0 hg2) (cs_f2 hgl cp0 hg2) ?_
      have hl := lv_sub hl [0, 1, 2, 3, 4, 5, 6] rfl
      rw [show ad l0 = ad2 l0 from (hga l0 (by rw [cp0.1]; exact h_l0)).symm] at hl
      rw [show ad l1 = ad2 l1 from (hga l1 (by rw [cp0.1]; exact h_l1)).symm] at hl
      rw [show ad l2 = ad2 l2 from (hga l2 (by rw [cp0.1]; exact h_l2)).symm] at hl
      rw [show ad l3 = ad2 l3 from (hga l3 (by rw [cp0.1]; exact h_l3)).symm] at hl
      exact a_X4_sumIn_b53 E hA hX hN hml hst kr65 hs11 hk11 (s_X4_sumIn_b24 hs11 n) ih _ _ _ _ _ _ _ _ _ _ _ _ h (GL.tr (gl_cpr hgl cp0) hg2) hrc2 (fun n hn => (hga n (by rw [cp0.1]; exact Nat.lt_of_lt_of_le hn hgl.1)).trans (had n hn)) (Nat.lt_of_lt_of_le (by rw [cp0.1]; exact h_l0) hg2.1) (Nat.lt_of_lt_of_le (by rw [cp0.1]; exact h_l1) hg2.1) (Nat.lt_of_lt_of_le (by rw [cp0.1]; exact h_l2) hg2.1) (Nat.lt_of_lt_of_le (by rw [cp0.1]; exact h_l3) hg2.1) G hl
set_option maxHeartbeats 4000000 in
set_option maxRecDepth 100000 in
theorem a_X4_sumIn_b11 {p : Program} {l : Launch} {e : Env} {s : State} {m : MethodId} {args : Array Value} {below : List Frame} {meth : Method} {c : Code} {Q : State → Prop} {D : va_G} {A : Nat → Prop} {cI cJ cZ cMic cSrc cSt cAI cAJ : ClassId} {ad0 : Nat → Nat} {T0 : AT} {T1 : AT} (E : cE p c cX4_sumIn s m args (Cond.code yX4_sumIn cX4_sumIn 7 none :: wsA) D RX4 (CT cI cJ cZ cMic cSrc cSt cAI cAJ)) (hA : ∀ q : Nat, s.heap.size ≤ q → A q) (hX : xT A s) (hN : nX s) (hml : c.maxLocals = 7) (hst : l.stackTraces = false) (kr65 : ∀ (ad : Nat → Nat) (H : Heap) (locs : List Loc) (ls : Array Slot), (∀ n, n < T0.1 → ad n = ad0 n) → gC cI cJ cZ cMic cSrc cSt cAI cAJ D ad A s.heap H locs T1 → W p l e { frames := 4, cells := T1.1 - T0.1, slots := sg T1 - sg T0, locals := 74 } s m args below meth c H locs (T1.1 - T0.1) (sg T1 - sg T0) Q (F0 m 65 ls [])) : ∀ n : Nat, ∀ (T : AT) (ad : Nat → Nat) (H : Heap) (locs : List Loc) (ls : Array Slot) (l0 : Nat) (l1 : Nat) (l2 : Nat) (l3 : Nat) (l4 : Int32) (l5 : Int32), g_X4_sumIn_b11 n T l0 l1 l2 l3 l4 l5 = some T1 → GL T0 T → RC T → (∀ n, n < T0.1 → ad n = ad0 n) → l0 < T.1 → l1 < T.1 → l2 < T.1 → l3 < T.1 → gC cI cJ cZ cMic cSrc cSt cAI cAJ D ad A s.heap H locs T → lv_has ls 7 [(0, .ref (ad l0)), (1, .ref (ad l1)), (2, .ref (ad l2)), (3, .ref (ad l3)), (4, .int l4), (5, .int l5)] → W p l e { frames := 4, cells := T1.1 - T0.1, slots := sg T1 - sg T0, locals := 74 } s m args below meth c H locs (T.1 - T0.1) (sg T - sg T0) Q (F0 m 11 ls []) := by
  have hx := E.1
  have hb := E.2.1
  have hts := E.2.2.1
  have hown := E.2.2.2.1
  have hK := E.2.2.2.2
  intro n
  induction n with
  | zero =>
    intro T ad H locs ls l0 l1 l2 l3 l4 l5 h
    have h : (none : Option (AT)) = some T1 := h
    cases h
  | succ n ih =>
    intro T ad H locs ls l0 l1 l2 l3 l4 l5 h hgl hrc had h_l0 h_l1 h_l2 h_l3 G hl
    have hT1 := s_X4_sumIn_b11 _ _ _ _ _ _ _ _ h
    have hcs := cs_ok hgl hT1
    have cp0 := cpr0 hrc
    unfold g_X4_sumIn_b11 at h
    refine lv_iload hx hb dX4_sumIn_11 (lv_at hl 5 rfl) ?_
    refine lv_aload_n hx hb dX4_sumIn_13 rfl (lv_at hl 1 rfl) ?_
    refine lv_iconst (v := 3) hx hb dX4_sumIn_14 (by decide) ?_
    obtain ⟨g2, h⟩ := oif_some h
    obtain ⟨g3, h⟩ := oif_some h
    refine c_iald E G l1 0 (k := (3 : Int32).toNatClampNeg) (aA_k g2).1 (cc_a100 (aA_k g2).2.1) rfl (inb_k g3).1 (inb_k g3).2 (aA_k g2).2.2 dX4_sumIn_15 ?_
    refine lv_topi (fun v4 ev4 => ?_)
    have h := elet_at ev4 h
    clear ev4
    refine lv_icmp_gt (tgt := 65) hx hb dX4_sumIn_16 (by decide) (fun c5 => ?_) (fun c5 => ?_)
    · have h := oif_pos c5 h
      rw [osome1 h] at G
      refine w_cast (c2 := T1.1 - T0.1) (s2 := sg T1 - sg T0) (by rw [← osome1 h, cp0.1] <;> rfl) (by rw [← osome1 h, sg_cpr cp0] <;> rfl) ?_
      exact kr65 ad _ _ _ had G
    · have h := oif_neg c5 h
      refine lv_aload_n hx hb dX4_sumIn_19 rfl (lv_at hl 1 rfl) ?_
      refine lv_iconst (v := 0) hx hb dX4_sumIn_20 (by decide) ?_
      obtain ⟨g6, h⟩ := oif_some h
      obtain ⟨g7, h⟩ := oif_some h
      refine c_iald E G l1 0 (k := (0 : Int32).toNatClampNeg) (aA_k g6).1 (cc_a100 (aA_k g6).2.1) rfl (inb_k g7).1 (inb_k g7).2 (aA_k g6).2.2 dX4_sumIn_21 ?_
      refine lv_topi (fun v8 ev8 => ?_)
      have h := elet_at ev8 h
      clear ev8
      refine lv_istore (lv' := [(6, .int v8), (0, .ref (ad l0)), (1, .ref (ad l1)), (2, .ref (ad l2)), (3, .ref (ad l3)), (4, .int l4), (5, .int l5)]) hx hb dX4_sumIn_22 hl (by decide) rfl (fun ls hl => ?_)
      have hl := lv_sub hl [1, 2, 3, 4, 5, 6, 0] rfl
      refine w_cast (c2 := T.1 - T0.1) (s2 := sg T - sg T0) (by rw [cp0.1] <;> rfl) (by rw [sg_cpr cp0] <;> rfl) ?_
      exact a_X4_sumIn_b24 E hA hX hN hml hst kr65 (s_X4_sumIn_b11 n) ih _ _ _ _ _ _ _ _ _ _ _ _ _ h (gl_cpr hgl cp0) cp0.2.2 had (by rw [cp0.1]; exact h_l0) (by rw [cp0.1]; exact h_l1) (by rw [cp0.1]; exact h_l2) (by rw [cp0.1]; exact h_l3) G hl
set_option maxHeartbeats 4000000 in
set_option maxRecDepth 100000 in
theorem a_X4_sumIn (l : Launch) (hst : l.stackTraces = false) (D : va_G) (cI cJ cZ cMic cSrc cSt cAI cAJ : ClassId) (ad : Nat → Nat) (T : AT) (o : Nat) (a0 : Nat) (a1 : Nat) (a2 : Nat) (a3 : Int32) {T1 : AT} (h : g_X4_sumIn T o a0 a1 a2 a3 = some T1) (hrc : RC T) (h_o : o < T.1) (h_a0 : a0 < T.1) (h_a1 : a1 < T.1) (h_a2 : a2 < T.1) : kAv l yX4_sumIn (Cond.code yX4_sumIn cX4_sumIn 7 none :: wsA) 4 74 cI cJ cZ cMic cSrc cSt cAI cAJ D ad T [.ref (ad o), .ref (ad a0), .ref (ad a1), .ref (ad a2), .int a3] T1 := by
  intro sz
  refine Met.ofW (cc := cX4_sumIn) (maxL := 7) (ret := none) (by decide) rfl ?_
  intro p e s m args below meth c s₁ B hml hv
  obtain ⟨rfl, hsz, hP, hK, hD0, hX, hN⟩ := hv
  have hx := B.exec
  have hb := B.bytes
  have hr := B.returns
  have hts := atoms_spec (ws := (Cond.code yX4_sumIn cX4_sumIn 7 none :: wsA)) B.pre
  have hown : s.vm.findClass RX4 = some m.cls := findClass_of_methodNamed B.named
  have hlocks := B.notSynchronized
  subst hsz
  have hD := hD0.self (sz := s.heap.size)
  generalize hAe : va_A (cW ad T.1 (cc cI cJ cZ cMic cSrc cSt cAI cAJ ad T)) s.heap.size = A at hD hX ⊢
  have hA : ∀ q : Nat, s.heap.size ≤ q → A q := fun q h => by rw [← hAe]; exact Or.inr h
  have G : gC cI cJ cZ cMic cSrc cSt cAI cAJ D ad A s.heap s.heap [] T := ⟨hP, hD, va_S.rf⟩
  have E : cE p c cX4_sumIn s m ([.ref (ad o), .ref (ad a0), .ref (ad a1), .ref (ad a2), .int a3] : List Value).toArray (Cond.code yX4_sumIn cX4_sumIn 7 none :: wsA) D RX4 (CT cI cJ cZ cMic cSrc cSt cAI cAJ) := ⟨hx, hb, hts, hown, hK⟩
  have hl := lv_entry ([.ref (ad o), .ref (ad a0), .ref (ad a1), .ref (ad a2), .int a3]) (n := 7) (Nat.le_of_ble_eq_true rfl)
  rw [lg_entry_eq]
  generalize (lg_sl ([.ref (ad o), .ref (ad a0), .ref (ad a1), .ref (ad a2), .int a3]) ++ List.replicate (7 - (lg_sl ([.ref (ad o), .ref (ad a0), .ref (ad a1), .ref (ad a2), .int a3])).length) Slot.unset).toArray = ls at hl ⊢
  have hl : lv_has ls 7 [(0, .ref (ad o)), (1, .ref (ad a0)), (2, .ref (ad a1)), (3, .ref (ad a2)), (4, .int a3)] := hl
  have hgl := GL.rf T
  have had : ∀ n, n < T.1 → ad n = ad n := fun _ _ => rfl
  have hT1 := s_X4_sumIn h
  have hcs := cs_ok hgl hT1
  refine w_cast (Nat.sub_self T.1).symm (Nat.sub_self (sg T)).symm ?_
  have cp0 := cpr0 hrc
  unfold g_X4_sumIn at h
  refine lv_aload_n hx hb dX4_sumIn_0 rfl (lv_at hl 3 rfl) ?_
  refine lv_iload hx hb dX4_sumIn_1 (lv_at hl 4 rfl) ?_
  obtain ⟨g2, h⟩ := oif_some h
  obtain ⟨T3, eT3, h⟩ := obind_some h
  refine q_cvv (As := [.int a3]) (rest := []) E G hA hX hN hml (u_X10_clear l hst D cI cJ cZ cMic cSrc cSt cAI cAJ ad T a2 a3 eT3) (cwV 1 hts (gaV qA_439 qA_66 qA_67 qA_6 qA_68) rfl rfl rfl (by decide +kernel) ⟨Nat.le_of_ble_eq_true rfl, Nat.le_of_ble_eq_true rfl⟩) (oO_k g2).1 (cc_o10 (oO_k g2).2) rfl rfl hl.1 rfl (lv_room (Nat.le_of_ble_eq_true rfl)) dX4_sumIn_3 hcs (fun T4 H locs hq G => ?_)
  rw [hq] at G
  clear hq
  have cp1 := cpr_sp cp0 (s_X10_clear eT3)
  refine lv_aload_n hx hb dX4_sumIn_6 rfl (lv_at hl 1 rfl) ?_
  refine lv_iconst (v := 1) hx hb dX4_sumIn_7 (by decide) ?_
  obtain ⟨g5, h⟩ := oif_some h
  obtain ⟨g6, h⟩ := oif_some h
  refine c_iald E G a0 0 (k := (1 : Int32).toNatClampNeg) (aA_k g5).1 (cc_a100 (aA_k g5).2.1) rfl (inb_k g6).1 (inb_k g6).2 (aA_k g5).2.2 dX4_sumIn_8 ?_
  refine lv_topi (fun v7 ev7 => ?_)
  have h := elet_at ev7 h
  clear ev7
  refine lv_istore (lv' := [(5, .int v7), (0, .ref (ad o)), (1, .ref (ad a0)), (2, .ref (ad a1)), (3, .ref (ad a2)), (4, .int a3)]) hx hb dX4_sumIn_9 hl (by decide) rfl (fun ls hl => ?_)
  have hl := lv_sub hl [1, 2, 3, 4, 5, 0] rfl
  refine w_cast (c2 := T3.1 - T.1) (s2 := sg T3 - sg T) (by rw [cp1.1] <;> rfl) (by rw [sg_cpr cp1] <;> rfl) ?_
  exact a_X4_sumIn_b11 E hA hX hN hml hst (fun ad H locs ls had G => W.vret hx hb hr (fun t ht hW => ⟨⟨(T1, ad), rfl, ⟨rfl, had⟩, ⟨by rw [ht]; exact G.1, va_K.moved hW.alike hK, G.2.1⟩⟩, G.2.2.F ht⟩) G.2.2.2.2 dX4_sumIn_65) _ _ _ _ _ _ _ _ _ _ _ _ h (gl_cpr hgl cp1) cp1.2.2 had (by rw [cp1.1]; exact h_o) (by rw [cp1.1]; exact h_a0) (by rw [cp1.1]; exact h_a1) (by rw [cp1.1]; exact h_a2) G hl
def g_X10_ranked_b47 (k2 : AT → Nat → Int32 → Int32 → Int32 → Option (Int32 × AT)) (k13 : AT → Nat → Int32 → Int32 → Int32 → Int32 → Int32 → Option (Int32 × AT)) (T : AT) (l0 : Nat) (l1 : Int32) (l2 : Int32) (l3 : Int32) (l4 : Int32) (l5 : Int32) : Option (Int32 × AT) := elet (l5 + Int32.ofInt (1)) fun v2 => k13 T l0 l1 l2 l3 l4 v2
set_option maxHeartbeats 4000000 in
set_option maxRecDepth 100000 in
theorem u_X10_ranked_b47 {p : Program} {l : Launch} {e : Env} {s : State} {m : MethodId} {args : Array Value} {below : List Frame} {meth : Method} {c : Code} {Q : State → Prop} {D : va_G} {A : Nat → Prop} {cI cJ cZ cMic cSrc cSt cAI cAJ : ClassId} {ad : Nat → Nat} {r1 : Int32} {T1 : AT} (E : cE p c cX10_ranked s m args (Cond.code yX10_ranked cX10_ranked 7 (some .int) :: wsA) D RX10 (CT cI cJ cZ cMic cSrc cSt cAI cAJ)) (hA : ∀ q : Nat, s.heap.size ≤ q → A q) (hX : xT A s) (hN : nX s) (hml : c.maxLocals = 7) (hst : l.stackTraces = false) (kr60 : ∀ (H : Heap) (locs : List Loc) (ls : Array Slot), gC cI cJ cZ cMic cSrc cSt cAI cAJ D ad A s.heap H locs T1 → W p l e { frames := 3, cells := 0, slots := 0, locals := 47 } s m args below meth c H locs 0 0 Q (F0 m 60 ls [.int r1])) (kr68 : ∀ (H : Heap) (locs : List Loc) (ls : Array Slot), gC cI cJ cZ cMic cSrc cSt cAI cAJ D ad A s.heap H locs T1 → W p l e { frames := 3, cells := 0, slots := 0, locals := 47 } s m args below meth c H locs 0 0 Q (F0 m 68 ls [.int r1])) {k2 : AT → Nat → Int32 → Int32 → Int32 → Option (Int32 × AT)} {k13 : AT → Nat → Int32 → Int32 → Int32 → Int32 → Int32 → Option (Int32 × AT)} (hk2 : ∀ (T : AT) (H : Heap) (locs : List Loc) (ls : Array Slot) (l0 : Nat) (l1 : Int32) (l2 : Int32) (l3 : Int32), k2 T l0 l1 l2 l3 = some (r1, T1) → gC cI cJ cZ cMic cSrc cSt cAI cAJ D ad A s.heap H locs T → lv_has ls 7 [(0, .ref (ad l0)), (1, .int l1), (2, .int l2), (3, .int l3)] → W p l e { frames := 3, cells := 0, slots := 0, locals := 47 } s m args below meth c H locs 0 0 Q (F0 m 2 ls [])) (hk13 : ∀ (T : AT) (H : Heap) (locs : List Loc) (ls : Array Slot) (l0 : Nat) (l1 : Int32) (l2 : Int32) (l3 : Int32) (l4 : Int32) (l5 : Int32), k13 T l0 l1 l2 l3 l4 l5 = some (r1, T1) → gC cI cJ cZ cMic cSrc cSt cAI cAJ D ad A s.heap H locs T → lv_has ls 7 [(0, .ref (ad l0)), (1, .int l1), (2, .int l2), (3, .int l3), (4, .int l4), (5, .int l5)] → W p l e { frames := 3, cells := 0, slots := 0, locals := 47 } s m args below meth c H locs 0 0 Q (F0 m 13 ls [])) : ∀ (T : AT) (H : Heap) (locs : List Loc) (ls : Array Slot) (l0 : Nat) (l1 : Int32) (l2 : Int32) (l3 : Int32) (l4 : Int32) (l5 : Int32), g_X10_ranked_b47 k2 k13 T l0 l1 l2 l3 l4 l5 = some (r1, T1) → gC cI cJ cZ cMic cSrc cSt cAI cAJ D ad A s.heap H locs T → lv_has ls 7 [(0, .ref (ad l0)), (1, .int l1), (2, .int l2), (3, .int l3), (4, .int l4), (5, .int l5)] → W p l e { frames := 3, cells := 0, slots := 0, locals := 47 } s m args below meth c H locs 0 0 Q (F0 m 47 ls []) := by
  have hx := E.1
  have hb := E.2.1
  have hts := E.2.2.1
  have hown := E.2.2.2.1
  have hK := E.2.2.2.2
  intro T H locs ls l0 l1 l2 l3 l4 l5 h G hl
  unfold g_X10_ranked_b47 at h
  obtain ⟨v2, ev2, h⟩ := elet_some h
  refine lv_iinc (v := v2) (lv' := [(5, .int v2), (0, .ref (ad l0)), (1, .int l1), (2, .int l2), (3, .int l3), (4, .int l4)]) hx hb dX10_ranked_47 hl (k := 5) rfl ev2.symm (by decide) rfl (fun ls hl => ?_)
  refine lv_goto (tgt := 13) hx hb dX10_ranked_50 (by decide) ?_
  have hl := lv_sub hl [1, 2, 3, 4, 5, 0] rfl
  exact hk13 _ _ _ _ _ _ _ _ _ _ h G hl
def g_X10_ranked_b44 (k2 : AT → Nat → Int32 → Int32 → Int32 → Option (Int32 × AT)) (k13 : AT → Nat → Int32 → Int32 → Int32 → Int32 → Int32 → Option (Int32 × AT)) (T : AT) (l0 : Nat) (l1 : Int32) (l2 : Int32) (l3 : Int32) (l4 : Int32) (l5 : Int32) : Option (Int32 × AT) := elet (l4 + Int32.ofInt (1)) fun v2 => g_X10_ranked_b47 k2 k13 T l0 l1 l2 l3 v2 l5
set_option maxHeartbeats 4000000 in
set_option maxRecDepth 100000 in
theorem u_X10_ranked_b44 {p : Program} {l : Launch} {e : Env} {s : State} {m : MethodId} {args : Array Value} {below : List Frame} {meth : Method} {c : Code} {Q : State → Prop} {D : va_G} {A : Nat → Prop} {cI cJ cZ cMic cSrc cSt cAI cAJ : ClassId} {ad : Nat → Nat} {r1 : Int32} {T1 : AT} (E : cE p c cX10_ranked s m args (Cond.code yX10_ranked cX10_ranked 7 (some .int) :: wsA) D RX10 (CT cI cJ cZ cMic cSrc cSt cAI cAJ)) (hA : ∀ q : Nat, s.heap.size ≤ q → A q) (hX : xT A s) (hN : nX s) (hml : c.maxLocals = 7) (hst : l.stackTraces = false) (kr60 : ∀ (H : Heap) (locs : List Loc) (ls : Array Slot), gC cI cJ cZ cMic cSrc cSt cAI cAJ D ad A s.heap H locs T1 → W p l e { frames := 3, cells := 0, slots := 0, locals := 47 } s m args below meth c H locs 0 0 Q (F0 m 60 ls [.int r1])) (kr68 : ∀ (H : Heap) (locs : List Loc) (ls : Array Slot), gC cI cJ cZ cMic cSrc cSt cAI cAJ D ad A s.heap H locs T1 → W p l e { frames := 3, cells := 0, slots := 0, locals := 47 } s m args below meth c H locs 0 0 Q (F0 m 68 ls [.int r1])) {k2 : AT → Nat → Int32 → Int32 → Int32 → Option (Int32 × AT)} {k13 : AT → Nat → Int32 → Int32 → Int32 → Int32 → Int32 → Option (Int32 × AT)} (hk2 : ∀ (T : AT) (H : Heap) (locs : List Loc) (ls : Array Slot) (l0 : Nat) (l1 : Int32) (l2 : Int32) (l3 : Int32), k2 T l0 l1 l2 l3 = some (r1, T1) → gC cI cJ cZ cMic cSrc cSt cAI cAJ D ad A s.heap H locs T → lv_has ls 7 [(0, .ref (ad l0)), (1, .int l1), (2, .int l2), (3, .int l3)] → W p l e { frames := 3, cells := 0, slots := 0, locals := 47 } s m args below meth c H locs 0 0 Q (F0 m 2 ls [])) (hk13 : ∀ (T : AT) (H : Heap) (locs : List Loc) (ls : Array Slot) (l0 : Nat) (l1 : Int32) (l2 : Int32) (l3 : Int32) (l4 : Int32) (l5 : Int32), k13 T l0 l1 l2 l3 l4 l5 = some (r1, T1) → gC cI cJ cZ cMic cSrc cSt cAI cAJ D ad A s.heap H locs T → lv_has ls 7 [(0, .ref (ad l0)), (1, .int l1), (2, .int l2), (3, .int l3), (4, .int l4), (5, .int l5)] → W p l e { frames := 3, cells := 0, slots := 0, locals := 47 } s m args below meth c H locs 0 0 Q (F0 m 13 ls [])) : ∀ (T : AT) (H : Heap) (locs : List Loc) (ls : Array Slot) (l0 : Nat) (l1 : Int32) (l2 : Int32) (l3 : Int32) (l4 : Int32) (l5 : Int32), g_X10_ranked_b44 k2 k13 T l0 l1 l2 l3 l4 l5 = some (r1, T1) → gC cI cJ cZ cMic cSrc cSt cAI cAJ D ad A s.heap H locs T → lv_has ls 7 [(0, .ref (ad l0)), (1, .int l1), (2, .int l2), (3, .int l3), (4, .int l4), (5, .int l5)] → W p l e { frames := 3, cells := 0, slots := 0, locals := 47 } s m args below meth c H locs 0 0 Q (F0 m 44 ls []) := by
  have hx := E.1
  have hb := E.2.1
  have hts := E.2.2.1
  have hown := E.2.2.2.1
  have hK := E.2.2.2.2
  intro T H locs ls l0 l1 l2 l3 l4 l5 h G hl
  unfold g_X10_ranked_b44 at h
  obtain ⟨v2, ev2, h⟩ := elet_some h
  refine lv_iinc (v := v2) (lv' := [(4, .int v2), (0, .ref (ad l0)), (1, .int l1), (2, .int l2), (3, .int l3), (5, .int l5)]) hx hb dX10_ranked_44 hl (k := 4) rfl ev2.symm (by decide) rfl (fun ls hl => ?_)
  have hl := lv_sub hl [1, 2, 3, 4, 0, 5] rfl
  exact u_X10_ranked_b47 E hA hX hN hml hst kr60 kr68 hk2 hk13 _ _ _ _ _ _ _ _ _ _ h G hl
def g_X10_ranked_b13 (k2 : AT → Nat → Int32 → Int32 → Int32 → Option (Int32 × AT)) : Nat → AT → Nat → Int32 → Int32 → Int32 → Int32 → Int32 → Option (Int32 × AT)
  | 0, _, _, _, _, _, _, _ => none
  | n + 1, T, l0, l1, l2, l3, l4, l5 => if l1 ≤ l5 then (if l4 = l2 then (some (l3, T)) else (elet (l3 + Int32.ofInt (1)) fun v4 => k2 T l0 l1 l2 v4)) else (oif (oO T l0 10 = true) <| obind2 (g_X10_compare T l0 l5 l3) fun r8 T6 => if 0 < r8 then (g_X10_ranked_b44 k2 (g_X10_ranked_b13 k2 n) T6 l0 l1 l2 l3 l4 l5) else (if r8 = 0 then (if l3 ≤ l5 then (g_X10_ranked_b47 k2 (g_X10_ranked_b13 k2 n) T6 l0 l1 l2 l3 l4 l5) else (g_X10_ranked_b44 k2 (g_X10_ranked_b13 k2 n) T6 l0 l1 l2 l3 l4 l5)) else (g_X10_ranked_b47 k2 (g_X10_ranked_b13 k2 n) T6 l0 l1 l2 l3 l4 l5)))
set_option maxHeartbeats 4000000 in
set_option maxRecDepth 100000 in
theorem u_X10_ranked_b13 {p : Program} {l : Launch} {e : Env} {s : State} {m : MethodId} {args : Array Value} {below : List Frame} {meth : Method} {c : Code} {Q : State → Prop} {D : va_G} {A : Nat → Prop} {cI cJ cZ cMic cSrc cSt cAI cAJ : ClassId} {ad : Nat → Nat} {r1 : Int32} {T1 : AT} (E : cE p c cX10_ranked s m args (Cond.code yX10_ranked cX10_ranked 7 (some .int) :: wsA) D RX10 (CT cI cJ cZ cMic cSrc cSt cAI cAJ)) (hA : ∀ q : Nat, s.heap.size ≤ q → A q) (hX : xT A s) (hN : nX s) (hml : c.maxLocals = 7) (hst : l.stackTraces = false) (kr60 : ∀ (H : Heap) (locs : List Loc) (ls : Array Slot), gC cI cJ cZ cMic cSrc cSt cAI cAJ D ad A s.heap H locs T1 → W p l e { frames := 3, cells := 0, slots := 0, locals := 47 } s m args below meth c H locs 0 0 Q (F0 m 60 ls [.int r1])) (kr68 : ∀ (H : Heap) (locs : List Loc) (ls : Array Slot), gC cI cJ cZ cMic cSrc cSt cAI cAJ D ad A s.heap H locs T1 → W p l e { frames := 3, cells := 0, slots := 0, locals := 47 } s m args below meth c H locs 0 0 Q (F0 m 68 ls [.int r1])) {k2 : AT → Nat → Int32 → Int32 → Int32 → Option (Int32 × AT)} (hk2 : ∀ (T : AT) (H : Heap) (locs : List Loc) (ls : Array Slot) (l0 : Nat) (l1 : Int32) (l2 : Int32) (l3 : Int32), k2 T l0 l1 l2 l3 = some (r1, T1) → gC cI cJ cZ cMic cSrc cSt cAI cAJ D ad A s.heap H locs T → lv_has ls 7 [(0, .ref (ad l0)), (1, .int l1), (2, .int l2), (3, .int l3)] → W p l e { frames := 3, cells := 0, slots := 0, locals := 47 } s m args below meth c H locs 0 0 Q (F0 m 2 ls [])) : ∀ n : Nat, ∀ (T : AT) (H : Heap) (locs : List Loc) (ls : Array Slot) (l0 : Nat) (l1 : Int32) (l2 : Int32) (l3 : Int32) (l4 : Int32) (l5 : Int32), g_X10_ranked_b13 k2 n T l0 l1 l2 l3 l4 l5 = some (r1, T1) → gC cI cJ cZ cMic cSrc cSt cAI cAJ D ad A s.heap H locs T → lv_has ls 7 [(0, .ref (ad l0)), (1, .int l1), (2, .int l2), (3, .int l3), (4, .int l4), (5, .int l5)] → W p l e { frames := 3, cells := 0, slots := 0, locals := 47 } s m args below meth c H locs 0 0 Q (F0 m 13 ls []) := by
  have hx := E.1
  have hb := E.2.1
  have hts := E.2.2.1
  have hown := E.2.2.2.1
  have hK := E.2.2.2.2
  intro n
  induction n with
  | zero =>
    intro T H locs ls l0 l1 l2 l3 l4 l5 h
    have h : (none : Option (Int32 × AT)) = some (r1, T1) := h
    cases h
  | succ n ih =>
    intro T H locs ls l0 l1 l2 l3 l4 l5 h G hl
    unfold g_X10_ranked_b13 at h
    refine lv_iload hx hb dX10_ranked_13 (lv_at hl 5 rfl) ?_
    refine lv_iload_n hx hb dX10_ranked_15 rfl (lv_at hl 1 rfl) ?_
    refine lv_icmp_ge (tgt := 53) hx hb dX10_ranked_16 (by decide) (fun c2 => ?_) (fun c2 => ?_)
    · have h := oif_pos c2 h
      refine lv_iload hx hb dX10_ranked_53 (lv_at hl 4 rfl) ?_
      refine lv_iload_n hx hb dX10_ranked_55 rfl (lv_at hl 2 rfl) ?_
      refine lv_icmp_ne (tgt := 61) hx hb dX10_ranked_56 (by decide) (fun c3 => ?_) (fun c3 => ?_)
      · have h := oif_neg c3 h
        obtain ⟨v4, ev4, h⟩ := elet_some h
        refine lv_iinc (v := v4) (lv' := [(3, .int v4), (0, .ref (ad l0)), (1, .int l1), (2, .int l2), (4, .int l4), (5, .int l5)]) hx hb dX10_ranked_61 hl (k := 3) rfl ev4.symm (by decide) rfl (fun ls hl => ?_)
        refine lv_goto (tgt := 2) hx hb dX10_ranked_64 (by decide) ?_
        have hl := lv_sub hl [1, 2, 3, 0] rfl
        exact hk2 _ _ _ _ _ _ _ _ h G hl
      · have h := oif_pos c3 h
        refine lv_iload_n hx hb dX10_ranked_59 rfl (lv_at hl 3 rfl) ?_
        rw [(osome2 h).2] at G
        refine lv_to (osome2 h).1 ?_
        exact kr60 _ _ _ G
    · have h := oif_neg c2 h
      refine lv_aload_n hx hb dX10_ranked_19 rfl (lv_at hl 0 rfl) ?_
      refine lv_iload hx hb dX10_ranked_20 (lv_at hl 5 rfl) ?_
      refine lv_iload_n hx hb dX10_ranked_22 rfl (lv_at hl 3 rfl) ?_
      obtain ⟨g5, h⟩ := oif_some h
      obtain ⟨r8, T6, eT6, h⟩ := obind2_some h
      refine q_cvi (As := [.int l5, .int l3]) (rest := []) E G hA hX hN hml (u_X10_compare l hst D cI cJ cZ cMic cSrc cSt cAI cAJ ad T l0 l5 l3 eT6) (cwV 2 hts (gaV qA_446 qA_120 qA_121 qA_6 qA_122) rfl rfl rfl (by decide +kernel) ⟨Nat.le_of_ble_eq_true rfl, Nat.le_of_ble_eq_true rfl⟩) (oO_k g5).1 (cc_o10 (oO_k g5).2) rfl rfl hl.1 rfl (lv_room (Nat.le_of_ble_eq_true rfl)) dX10_ranked_23 ⟨Nat.zero_le _, Nat.zero_le _⟩ (fun q9 T7 H locs hq G => ?_)
      obtain ⟨hq1, hq2⟩ := hq
      rw [hq2] at G
      refine lv_to hq1 ?_
      clear hq1 hq2 eT6
      refine lv_istore (lv' := [(6, .int r8), (0, .ref (ad l0)), (1, .int l1), (2, .int l2), (3, .int l3), (4, .int l4), (5, .int l5)]) hx hb dX10_ranked_26 hl (by decide) rfl (fun ls hl => ?_)
      refine lv_iload hx hb dX10_ranked_28 (lv_at hl 0 rfl) ?_
      refine lv_if_gt (tgt := 44) hx hb dX10_ranked_30 (by decide) (fun c10 => ?_) (fun c10 => ?_)
      · have h := oif_pos c10 h
        have hl := lv_sub hl [1, 2, 3, 4, 5, 6] rfl
        exact u_X10_ranked_b44 E hA hX hN hml hst kr60 kr68 hk2 ih _ _ _ _ _ _ _ _ _ _ h G hl
      · have h := oif_neg c10 h
        refine lv_iload hx hb dX10_ranked_33 (lv_at hl 0 rfl) ?_
        refine lv_if_ne (tgt := 47) hx hb dX10_ranked_35 (by decide) (fun c11 => ?_) (fun c11 => ?_)
        · have h := oif_neg c11 h
          have hl := lv_sub hl [1, 2, 3, 4, 5, 6] rfl
          exact u_X10_ranked_b47 E hA hX hN hml hst kr60 kr68 hk2 ih _ _ _ _ _ _ _ _ _ _ h G hl
        · have h := oif_pos c11 h
          refine lv_iload hx hb dX10_ranked_38 (lv_at hl 6 rfl) ?_
          refine lv_iload_n hx hb dX10_ranked_40 rfl (lv_at hl 4 rfl) ?_
          refine lv_icmp_ge (tgt := 47) hx hb dX10_ranked_41 (by decide) (fun c12 => ?_) (fun c12 => ?_)
          · have h := oif_pos c12 h
            have hl := lv_sub hl [1, 2, 3, 4, 5, 6] rfl
            exact u_X10_ranked_b47 E hA hX hN hml hst kr60 kr68 hk2 ih _ _ _ _ _ _ _ _ _ _ h G hl
          · have h := oif_neg c12 h
            have hl := lv_sub hl [1, 2, 3, 4, 5, 6] rfl
            exact u_X10_ranked_b44 E hA hX hN hml hst kr60 kr68 hk2 ih _ _ _ _ _ _ _ _ _ _ h G hl
def g_X10_ranked_b2  : Nat → AT → Nat → Int32 → Int32 → Int32 → Option (Int32 × AT)
  | 0, _, _, _, _, _ => none
  | n + 1, T, l0, l1, l2, l3 => if l1 ≤ l3 then (some ((-1), T)) else (g_X10_ranked_b13 (g_X10_ranked_b2 n) 16384 T l0 l1 l2 l3 0 0)
set_option maxHeartbeats 4000000 in
set_option maxRecDepth 100000 in
theorem u_X10_ranked_b2 {p : Program} {l : Launch} {e : Env} {s : State} {m : MethodId} {args : Array Value} {below : List Frame} {meth : Method} {c : Code} {Q : State → Prop} {D : va_G} {A : Nat → Prop} {cI cJ cZ cMic cSrc cSt cAI cAJ : ClassId} {ad : Nat → Nat} {r1 : Int32} {T1 : AT} (E : cE p c cX10_ranked s m args (Cond.code yX10_ranked cX10_ranked 7 (some .int) :: wsA) D RX10 (CT cI cJ cZ cMic cSrc cSt cAI cAJ)) (hA : ∀ q : Nat, s.heap.size ≤ q → A q) (hX : xT A s) (hN : nX s) (hml : c.maxLocals = 7) (hst : l.stackTraces = false) (kr60 : ∀ (H : Heap) (locs : List Loc) (ls : Array Slot), gC cI cJ cZ cMic cSrc cSt cAI cAJ D ad A s.heap H locs T1 → W p l e { frames := 3, cells := 0, slots := 0, locals := 47 } s m args below meth c H locs 0 0 Q (F0 m 60 ls [.int r1])) (kr68 : ∀ (H : Heap) (locs : List Loc) (ls : Array Slot), gC cI cJ cZ cMic cSrc cSt cAI cAJ D ad A s.heap H locs T1 → W p l e { frames := 3, cells := 0, slots := 0, locals := 47 } s m args below meth c H locs 0 0 Q (F0 m 68 ls [.int r1])) : ∀ n : Nat, ∀ (T : AT) (H : Heap) (locs : List Loc) (ls : Array Slot) (l0 : Nat) (l1 : Int32) (l2 : Int32) (l3 : Int32), g_X10_ranked_b2 n T l0 l1 l2 l3 = some (r1, T1) → gC cI cJ cZ cMic cSrc cSt cAI cAJ D ad A s.heap H locs T → lv_has ls 7 [(0, .ref (ad l0)), (1, .int l1), (2, .int l2), (3, .int l3)] → W p l e { frames := 3, cells := 0, slots := 0, locals := 47 } s m args below meth c H locs 0 0 Q (F0 m 2 ls []) := by
  have hx := E.1
  have hb := E.2.1
  have hts := E.2.2.1
  have hown := E.2.2.2.1
  have hK := E.2.2.2.2
  intro n
  induction n with
  | zero =>
    intro T H locs ls l0 l1 l2 l3 h
    have h : (none : Option (Int32 × AT)) = some (r1, T1) := h
    cases h
  | succ n ih =>
    intro T H locs ls l0 l1 l2 l3 h G hl
    unfold g_X10_ranked_b2 at h
    refine lv_iload_n hx hb dX10_ranked_2 rfl (lv_at hl 3 rfl) ?_
    refine lv_iload_n hx hb dX10_ranked_3 rfl (lv_at hl 1 rfl) ?_
    refine lv_icmp_ge (tgt := 67) hx hb dX10_ranked_4 (by decide) (fun c2 => ?_) (fun c2 => ?_)
    · have h := oif_pos c2 h
      refine lv_iconst (v := (-1)) hx hb dX10_ranked_67 (by decide) ?_
      rw [(osome2 h).2] at G
      refine lv_to (osome2 h).1 ?_
      exact kr68 _ _ _ G
    · have h := oif_neg c2 h
      refine lv_iconst (v := 0) hx hb dX10_ranked_7 (by decide) ?_
      refine lv_istore (lv' := [(4, .int 0), (0, .ref (ad l0)), (1, .int l1), (2, .int l2), (3, .int l3)]) hx hb dX10_ranked_8 hl (by decide) rfl (fun ls hl => ?_)
      refine lv_iconst (v := 0) hx hb dX10_ranked_10 (by decide) ?_
      refine lv_istore (lv' := [(5, .int 0), (4, .int 0), (0, .ref (ad l0)), (1, .int l1), (2, .int l2), (3, .int l3)]) hx hb dX10_ranked_11 hl (by decide) rfl (fun ls hl => ?_)
      have hl := lv_sub hl [2, 3, 4, 5, 1, 0] rfl
      exact u_X10_ranked_b13 E hA hX hN hml hst kr60 kr68 ih _ _ _ _ _ _ _ _ _ _ _ h G hl
def g_X10_ranked (T : AT) (o : Nat) (a0 : Int32) (a1 : Int32) : Option (Int32 × AT) := g_X10_ranked_b2 16384 T o a0 a1 0
set_option maxHeartbeats 4000000 in
set_option maxRecDepth 100000 in
theorem u_X10_ranked (l : Launch) (hst : l.stackTraces = false) (D : va_G) (cI cJ cZ cMic cSrc cSt cAI cAJ : ClassId) (ad : Nat → Nat) (T : AT) (o : Nat) (a0 : Int32) (a1 : Int32) {r1 : Int32} {T1 : AT} (h : g_X10_ranked T o a0 a1 = some (r1, T1)) : kCi l yX10_ranked (Cond.code yX10_ranked cX10_ranked 7 (some .int) :: wsA) 3 47 cI cJ cZ cMic cSrc cSt cAI cAJ D ad T [.ref (ad o), .int a0, .int a1] (fun r T9 => r = r1 ∧ T9 = T1) := by
  intro sz
  refine Met.ofW (cc := cX10_ranked) (maxL := 7) (ret := (some .int)) (by decide) rfl ?_
  intro p e s m args below meth c s₁ B hml hv
  obtain ⟨rfl, hsz, hP, hK, hD0, hX, hN⟩ := hv
  have hx := B.exec
  have hb := B.bytes
  have hr := B.returns
  have hts := atoms_spec (ws := (Cond.code yX10_ranked cX10_ranked 7 (some .int) :: wsA)) B.pre
  have hown : s.vm.findClass RX10 = some m.cls := findClass_of_methodNamed B.named
  have hlocks := B.notSynchronized
  subst hsz
  have hD := hD0.self (sz := s.heap.size)
  generalize hAe : va_A (cW ad T.1 (cc cI cJ cZ cMic cSrc cSt cAI cAJ ad T)) s.heap.size = A at hD hX ⊢
  have hA : ∀ q : Nat, s.heap.size ≤ q → A q := fun q h => by rw [← hAe]; exact Or.inr h
  have G : gC cI cJ cZ cMic cSrc cSt cAI cAJ D ad A s.heap s.heap [] T := ⟨hP, hD, va_S.rf⟩
  have E : cE p c cX10_ranked s m ([.ref (ad o), .int a0, .int a1] : List Value).toArray (Cond.code yX10_ranked cX10_ranked 7 (some .int) :: wsA) D RX10 (CT cI cJ cZ cMic cSrc cSt cAI cAJ) := ⟨hx, hb, hts, hown, hK⟩
  have hl := lv_entry ([.ref (ad o), .int a0, .int a1]) (n := 7) (Nat.le_of_ble_eq_true rfl)
  rw [lg_entry_eq]
  generalize (lg_sl ([.ref (ad o), .int a0, .int a1]) ++ List.replicate (7 - (lg_sl ([.ref (ad o), .int a0, .int a1])).length) Slot.unset).toArray = ls at hl ⊢
  have hl : lv_has ls 7 [(0, .ref (ad o)), (1, .int a0), (2, .int a1)] := hl
  unfold g_X10_ranked at h
  refine lv_iconst (v := 0) hx hb dX10_ranked_0 (by decide) ?_
  refine lv_istore_n (lv' := [(3, .int 0), (0, .ref (ad o)), (1, .int a0), (2, .int a1)]) hx hb dX10_ranked_1 rfl hl (by decide) rfl (fun ls hl => ?_)
  have hl := lv_sub hl [1, 2, 3, 0] rfl
  exact u_X10_ranked_b2 E hA hX hN hml hst (fun H locs ls G => W.iret (v := r1) hx hb hr (fun t ht hW => ⟨⟨r1, T1, rfl, ⟨rfl, rfl⟩, ⟨by rw [ht]; exact G.1, va_K.moved hW.alike hK, G.2.1⟩⟩, G.2.2.F ht⟩) G.2.2.2.2 dX10_ranked_60) (fun H locs ls G => W.iret (v := r1) hx hb hr (fun t ht hW => ⟨⟨r1, T1, rfl, ⟨rfl, rfl⟩, ⟨by rw [ht]; exact G.1, va_K.moved hW.alike hK, G.2.1⟩⟩, G.2.2.F ht⟩) G.2.2.2.2 dX10_ranked_68) _ _ _ _ _ _ _ _ _ h G hl
set_option maxHeartbeats 4000000 in
set_option maxRecDepth 100000 in
theorem s_X10_ranked_b47 {r1 : Int32} {T1 : AT} {k2 : AT → Nat → Int32 → Int32 → Int32 → Option (Int32 × AT)} {k13 : AT → Nat → Int32 → Int32 → Int32 → Int32 → Int32 → Option (Int32 × AT)} (hk2 : ∀ (T : AT) (l0 : Nat) (l1 : Int32) (l2 : Int32) (l3 : Int32), k2 T l0 l1 l2 l3 = some (r1, T1) → SP T T1) (hk13 : ∀ (T : AT) (l0 : Nat) (l1 : Int32) (l2 : Int32) (l3 : Int32) (l4 : Int32) (l5 : Int32), k13 T l0 l1 l2 l3 l4 l5 = some (r1, T1) → SP T T1) : ∀ (T : AT) (l0 : Nat) (l1 : Int32) (l2 : Int32) (l3 : Int32) (l4 : Int32) (l5 : Int32), g_X10_ranked_b47 k2 k13 T l0 l1 l2 l3 l4 l5 = some (r1, T1) → SP T T1 := by
  intro T l0 l1 l2 l3 l4 l5 h
  have p0 := SP.rf T
  unfold g_X10_ranked_b47 at h
  obtain ⟨v2, ev2, h⟩ := elet_some h
  exact SP.tr p0 (hk13 _ _ _ _ _ _ _ h)
set_option maxHeartbeats 4000000 in
set_option maxRecDepth 100000 in
theorem s_X10_ranked_b44 {r1 : Int32} {T1 : AT} {k2 : AT → Nat → Int32 → Int32 → Int32 → Option (Int32 × AT)} {k13 : AT → Nat → Int32 → Int32 → Int32 → Int32 → Int32 → Option (Int32 × AT)} (hk2 : ∀ (T : AT) (l0 : Nat) (l1 : Int32) (l2 : Int32) (l3 : Int32), k2 T l0 l1 l2 l3 = some (r1, T1) → SP T T1) (hk13 : ∀ (T : AT) (l0 : Nat) (l1 : Int32) (l2 : Int32) (l3 : Int32) (l4 : Int32) (l5 : Int32), k13 T l0 l1 l2 l3 l4 l5 = some (r1, T1) → SP T T1) : ∀ (T : AT) (l0 : Nat) (l1 : Int32) (l2 : Int32) (l3 : Int32) (l4 : Int32) (l5 : Int32), g_X10_ranked_b44 k2 k13 T l0 l1 l2 l3 l4 l5 = some (r1, T1) → SP T T1 := by
  intro T l0 l1 l2 l3 l4 l5 h
  have p0 := SP.rf T
  unfold g_X10_ranked_b44 at h
  obtain ⟨v2, ev2, h⟩ := elet_some h
  exact SP.tr p0 (s_X10_ranked_b47 hk2 hk13 _ _ _ _ _ _ _ h)
set_option maxHeartbeats 4000000 in
set_option maxRecDepth 100000 in
theorem s_X10_ranked_b13 {r1 : Int32} {T1 : AT} {k2 : AT → Nat → Int32 → Int32 → Int32 → Option (Int32 × AT)} (hk2 : ∀ (T : AT) (l0 : Nat) (l1 : Int32) (l2 : Int32) (l3 : Int32), k2 T l0 l1 l2 l3 = some (r1, T1) → SP T T1) : ∀ n : Nat, ∀ (T : AT) (l0 : Nat) (l1 : Int32) (l2 : Int32) (l3 : Int32) (l4 : Int32) (l5 : Int32), g_X10_ranked_b13 k2 n T l0 l1 l2 l3 l4 l5 = some (r1, T1) → SP T T1 := by
  intro n
  induction n with
  | zero =>
    intro T l0 l1 l2 l3 l4 l5 h
    have h : (none : Option (Int32 × AT)) = some (r1, T1) := h
    cases h
  | succ n ih =>
    intro T l0 l1 l2 l3 l4 l5 h
    have p0 := SP.rf T
    unfold g_X10_ranked_b13 at h
    rcases oif_or h with ⟨c2, h⟩ | ⟨c2, h⟩
    · have h := h
      rcases oif_or h with ⟨c3, h⟩ | ⟨c3, h⟩
      · have h := h
        rw [← (osome2 h).2]
        exact p0
      · have h := h
        obtain ⟨v4, ev4, h⟩ := elet_some h
        exact SP.tr p0 (hk2 _ _ _ _ _ h)
    · have h := h
      obtain ⟨g5, h⟩ := oif_some h
      obtain ⟨r7, T6, eT6, h⟩ := obind2_some h
      have p1 : SP T T6 := SP.tr p0 (s_X10_compare eT6)
      rcases oif_or h with ⟨c8, h⟩ | ⟨c8, h⟩
      · have h := h
        exact SP.tr p1 (s_X10_ranked_b44 hk2 ih _ _ _ _ _ _ _ h)
      · have h := h
        rcases oif_or h with ⟨c9, h⟩ | ⟨c9, h⟩
        · have h := h
          rcases oif_or h with ⟨c10, h⟩ | ⟨c10, h⟩
          · have h := h
            exact SP.tr p1 (s_X10_ranked_b47 hk2 ih _ _ _ _ _ _ _ h)
          · have h := h
            exact SP.tr p1 (s_X10_ranked_b44 hk2 ih _ _ _ _ _ _ _ h)
        · have h := h
          exact SP.tr p1 (s_X10_ranked_b47 hk2 ih _ _ _ _ _ _ _ h)
set_option maxHeartbeats 4000000 in
set_option maxRecDepth 100000 in
theorem s_X10_ranked_b2 {r1 : Int32} {T1 : AT} : ∀ n : Nat, ∀ (T : AT) (l0 : Nat) (l1 : Int32) (l2 : Int32) (l3 : Int32), g_X10_ranked_b2 n T l0 l1 l2 l3 = some (r1, T1) → SP T T1 := by
  intro n
  induction n with
  | zero =>
    intro T l0 l1 l2 l3 h
    have h : (none : Option (Int32 × AT)) = some (r1, T1) := h
    cases h
  | succ n ih =>
    intro T l0 l1 l2 l3 h
    have p0 := SP.rf T
    unfold g_X10_ranked_b2 at h
    rcases oif_or h with ⟨c2, h⟩ | ⟨c2, h⟩
    · have h := h
      rw [← (osome2 h).2]
      exact p0
    · have h := h
      exact SP.tr p0 (s_X10_ranked_b13 ih _ _ _ _ _ _ _ _ h)
set_option maxHeartbeats 4000000 in
set_option maxRecDepth 100000 in
theorem s_X10_ranked {T : AT} {o : Nat} {a0 : Int32} {a1 : Int32} {r1 : Int32} {T1 : AT} (h : g_X10_ranked T o a0 a1 = some (r1, T1)) : SP T T1 := by
  have p0 := SP.rf T
  unfold g_X10_ranked at h
  exact SP.tr p0 (s_X10_ranked_b2 _ _ _ _ _ _ h)
def g_X4_peakRanked_b28  (T : AT) (s0 : Int32) : Option (Int32 × AT) := some (s0, T)
set_option maxHeartbeats 4000000 in
set_option maxRecDepth 100000 in
theorem u_X4_peakRanked_b28 {p : Program} {l : Launch} {e : Env} {s : State} {m : MethodId} {args : Array Value} {below : List Frame} {meth : Method} {c : Code} {Q : State → Prop} {D : va_G} {A : Nat → Prop} {cI cJ cZ cMic cSrc cSt cAI cAJ : ClassId} {ad : Nat → Nat} {r1 : Int32} {T1 : AT} (E : cE p c cX4_peakRanked s m args (Cond.code yX4_peakRanked cX4_peakRanked 3 (some .int) :: wsA) D RX4 (CT cI cJ cZ cMic cSrc cSt cAI cAJ)) (hA : ∀ q : Nat, s.heap.size ≤ q → A q) (hX : xT A s) (hN : nX s) (hml : c.maxLocals = 3) (hst : l.stackTraces = false) (kr28 : ∀ (H : Heap) (locs : List Loc) (ls : Array Slot), gC cI cJ cZ cMic cSrc cSt cAI cAJ D ad A s.heap H locs T1 → W p l e { frames := 4, cells := 0, slots := 0, locals := 73 } s m args below meth c H locs 0 0 Q (F0 m 28 ls [.int r1])) : ∀ (T : AT) (H : Heap) (locs : List Loc) (ls : Array Slot) (s0 : Int32), g_X4_peakRanked_b28 T s0 = some (r1, T1) → gC cI cJ cZ cMic cSrc cSt cAI cAJ D ad A s.heap H locs T → lv_has ls 3 [] → W p l e { frames := 4, cells := 0, slots := 0, locals := 73 } s m args below meth c H locs 0 0 Q (F0 m 28 ls [.int s0]) := by
  have hx := E.1
  have hb := E.2.1
  have hts := E.2.2.1
  have hown := E.2.2.2.1
  have hK := E.2.2.2.2
  intro T H locs ls s0 h G hl
  unfold g_X4_peakRanked_b28 at h
  rw [(osome2 h).2] at G
  refine lv_to (osome2 h).1 ?_
  exact kr28 _ _ _ G
def g_X4_peakRanked (T : AT) (o : Nat) (a0 : Int32) : Option (Int32 × AT) := oif (oO T o 4 = true) <| obind (T.2.2.2.2 o 5) fun n3 => oif (oO T o 4 = true) <| elet (T.2.2.1 o 3) fun v5 => oif (oO T n3 10 = true) <| obind2 (g_X10_ranked T n3 v5 a0) fun r9 T7 => if r9 = (-1) then (g_X4_peakRanked_b28 T7 (-1)) else (oif (oO T7 o 4 = true) <| obind (T7.2.2.2.2 o 4) fun n13 => oif (aA T7 n13 100 = true) <| oif (inb r9 (T7.2.1 n13).2 = true) <| elet (T7.2.2.1 n13 r9.toNatClampNeg) fun v16 => g_X4_peakRanked_b28 T7 v16)
set_option maxHeartbeats 4000000 in
set_option maxRecDepth 100000 in
theorem u_X4_peakRanked (l : Launch) (hst : l.stackTraces = false) (D : va_G) (cI cJ cZ cMic cSrc cSt cAI cAJ : ClassId) (ad : Nat → Nat) (T : AT) (o : Nat) (a0 : Int32) {r1 : Int32} {T1 : AT} (h : g_X4_peakRanked T o a0 = some (r1, T1)) : kCi l yX4_peakRanked (Cond.code yX4_peakRanked cX4_peakRanked 3 (some .int) :: wsA) 4 73 cI cJ cZ cMic cSrc cSt cAI cAJ D ad T [.ref (ad o), .int a0] (fun r T9 => r = r1 ∧ T9 = T1) := by
  intro sz
  refine Met.ofW (cc := cX4_peakRanked) (maxL := 3) (ret := (some .int)) (by decide) rfl ?_
  intro p e s m args below meth c s₁ B hml hv
  obtain ⟨rfl, hsz, hP, hK, hD0, hX, hN⟩ := hv
  have hx := B.exec
  have hb := B.bytes
  have hr := B.returns
  have hts := atoms_spec (ws := (Cond.code yX4_peakRanked cX4_peakRanked 3 (some .int) :: wsA)) B.pre
  have hown : s.vm.findClass RX4 = some m.cls := findClass_of_methodNamed B.named
  have hlocks := B.notSynchronized
  subst hsz
  have hD := hD0.self (sz := s.heap.size)
  generalize hAe : va_A (cW ad T.1 (cc cI cJ cZ cMic cSrc cSt cAI cAJ ad T)) s.heap.size = A at hD hX ⊢
  have hA : ∀ q : Nat, s.heap.size ≤ q → A q := fun q h => by rw [← hAe]; exact Or.inr h
  have G : gC cI cJ cZ cMic cSrc cSt cAI cAJ D ad A s.heap s.heap [] T := ⟨hP, hD, va_S.rf⟩
  have E : cE p c cX4_peakRanked s m ([.ref (ad o), .int a0] : List Value).toArray (Cond.code yX4_peakRanked cX4_peakRanked 3 (some .int) :: wsA) D RX4 (CT cI cJ cZ cMic cSrc cSt cAI cAJ) := ⟨hx, hb, hts, hown, hK⟩
  have hl := lv_entry ([.ref (ad o), .int a0]) (n := 3) (Nat.le_of_ble_eq_true rfl)
  rw [lg_entry_eq]
  generalize (lg_sl ([.ref (ad o), .int a0]) ++ List.replicate (3 - (lg_sl ([.ref (ad o), .int a0])).length) Slot.unset).toArray = ls at hl ⊢
  have hl : lv_has ls 3 [(0, .ref (ad o)), (1, .int a0)] := hl
  unfold g_X4_peakRanked at h
  refine lv_aload_n hx hb dX4_peakRanked_0 rfl (lv_at hl 0 rfl) ?_
  obtain ⟨g2, h⟩ := oif_some h
  obtain ⟨n3, en3, h⟩ := obind_some h
  refine c_get E G o 5 (v := .ref (ad n3)) (oO_k g2).1 (cc_o4 (oO_k g2).2) rfl (fun w h => .tail _ (iA_21 h)) (by decide) (.tail _ qA_410) rfl (by rw [en3]; rfl) dX4_peakRanked_1 ?_
  clear en3
  refine lv_aload_n hx hb dX4_peakRanked_4 rfl (lv_at hl 0 rfl) ?_
  obtain ⟨g4, h⟩ := oif_some h
  refine c_get E G o 3 (oO_k g4).1 (cc_o4 (oO_k g4).2) rfl (fun w h => .tail _ (iA_21 h)) (by decide) (.tail _ qA_417) rfl rfl dX4_peakRanked_5 ?_
  refine lv_topi (fun v5 ev5 => ?_)
  have h := elet_at ev5 h
  clear ev5
  refine lv_iload_n hx hb dX4_peakRanked_8 rfl (lv_at hl 1 rfl) ?_
  obtain ⟨g6, h⟩ := oif_some h
  obtain ⟨r9, T7, eT7, h⟩ := obind2_some h
  refine q_cvi (As := [.int v5, .int a0]) (rest := []) E G hA hX hN hml (u_X10_ranked l hst D cI cJ cZ cMic cSrc cSt cAI cAJ ad T n3 v5 a0 eT7) (cwV 2 hts (gaV qA_442 qA_443 qA_444 qA_6 qA_445) rfl rfl rfl (by decide +kernel) ⟨Nat.le_of_ble_eq_true rfl, Nat.le_of_ble_eq_true rfl⟩) (oO_k g6).1 (cc_o10 (oO_k g6).2) rfl rfl hl.1 rfl (lv_room (Nat.le_of_ble_eq_true rfl)) dX4_peakRanked_9 ⟨Nat.zero_le _, Nat.zero_le _⟩ (fun q10 T8 H locs hq G => ?_)
  obtain ⟨hq1, hq2⟩ := hq
  rw [hq2] at G
  refine lv_to hq1 ?_
  clear hq1 hq2 eT7
  refine lv_istore_n (lv' := [(2, .int r9), (0, .ref (ad o)), (1, .int a0)]) hx hb dX4_peakRanked_12 rfl hl (by decide) rfl (fun ls hl => ?_)
  refine lv_iload_n hx hb dX4_peakRanked_13 rfl (lv_at hl 0 rfl) ?_
  refine lv_iconst (v := (-1)) hx hb dX4_peakRanked_14 (by decide) ?_
  refine lv_icmp_ne (tgt := 22) hx hb dX4_peakRanked_15 (by decide) (fun c11 => ?_) (fun c11 => ?_)
  · have h := oif_neg c11 h
    refine lv_aload_n hx hb dX4_peakRanked_22 rfl (lv_at hl 1 rfl) ?_
    obtain ⟨g12, h⟩ := oif_some h
    obtain ⟨n13, en13, h⟩ := obind_some h
    refine c_get E G o 4 (v := .ref (ad n13)) (oO_k g12).1 (cc_o4 (oO_k g12).2) rfl (fun w h => .tail _ (iA_21 h)) (by decide) (.tail _ qA_409) rfl (by rw [en13]; rfl) dX4_peakRanked_23 ?_
    clear en13
    refine lv_iload_n hx hb dX4_peakRanked_26 rfl (lv_at hl 0 rfl) ?_
    obtain ⟨g14, h⟩ := oif_some h
    obtain ⟨g15, h⟩ := oif_some h
    refine c_iald E G n13 0 (k := r9.toNatClampNeg) (aA_k g14).1 (cc_a100 (aA_k g14).2.1) rfl (inb_k g15).1 (inb_k g15).2 (aA_k g14).2.2 dX4_peakRanked_27 ?_
    refine lv_topi (fun v16 ev16 => ?_)
    have h := elet_at ev16 h
    clear ev16
    have hl := lv_sub hl [] rfl
    exact u_X4_peakRanked_b28 E hA hX hN hml hst (fun H locs ls G => W.iret (v := r1) hx hb hr (fun t ht hW => ⟨⟨r1, T1, rfl, ⟨rfl, rfl⟩, ⟨by rw [ht]; exact G.1, va_K.moved hW.alike hK, G.2.1⟩⟩, G.2.2.F ht⟩) G.2.2.2.2 dX4_peakRanked_28) _ _ _ _ _ h G hl
  · have h := oif_pos c11 h
    refine lv_iconst (v := (-1)) hx hb dX4_peakRanked_18 (by decide) ?_
    refine lv_goto (tgt := 28) hx hb dX4_peakRanked_19 (by decide) ?_
    have hl := lv_sub hl [] rfl
    exact u_X4_peakRanked_b28 E hA hX hN hml hst (fun H locs ls G => W.iret (v := r1) hx hb hr (fun t ht hW => ⟨⟨r1, T1, rfl, ⟨rfl, rfl⟩, ⟨by rw [ht]; exact G.1, va_K.moved hW.alike hK, G.2.1⟩⟩, G.2.2.F ht⟩) G.2.2.2.2 dX4_peakRanked_28) _ _ _ _ _ h G hl
set_option maxHeartbeats 4000000 in
set_option maxRecDepth 100000 in
theorem s_X4_peakRanked_b28 {r1 : Int32} {T1 : AT} : ∀ (T : AT) (s0 : Int32), g_X4_peakRanked_b28 T s0 = some (r1, T1) → SP T T1 := by
  intro T s0 h
  have p0 := SP.rf T
  unfold g_X4_peakRanked_b28 at h
  rw [← (osome2 h).2]
  exact p0
set_option maxHeartbeats 4000000 in
set_option maxRecDepth 100000 in
theorem s_X4_peakRanked {T : AT} {o : Nat} {a0 : Int32} {r1 : Int32} {T1 : AT} (h : g_X4_peakRanked T o a0 = some (r1, T1)) : SP T T1 := by
  have p0 := SP.rf T
  unfold g_X4_peakRanked at h
  obtain ⟨g2, h⟩ := oif_some h
  obtain ⟨n3, en3, h⟩ := obind_some h
  obtain ⟨g4, h⟩ := oif_some h
  obtain ⟨v5, -, h⟩ := elet_some h
  obtain ⟨g6, h⟩ := oif_some h
  obtain ⟨r8, T7, eT7, h⟩ := obind2_some h
  have p1 : SP T T7 := SP.tr p0 (s_X10_ranked eT7)
  rcases oif_or h with ⟨c9, h⟩ | ⟨c9, h⟩
  · have h := h
    exact SP.tr p1 (s_X4_peakRanked_b28 _ _ h)
  · have h := h
    obtain ⟨g10, h⟩ := oif_some h
    obtain ⟨n11, en11, h⟩ := obind_some h
    obtain ⟨g12, h⟩ := oif_some h
    obtain ⟨g13, h⟩ := oif_some h
    obtain ⟨v14, -, h⟩ := elet_some h
    exact SP.tr p1 (s_X4_peakRanked_b28 _ _ h)
def g_X10_isZero_b43  (T : AT) (s0 : Int32) : Option (Int32 × AT) := oif (s0 = 0 ∨ s0 = 1) <| some (s0, T)
set_option maxHeartbeats 4000000 in
set_option maxRecDepth 100000 in
theorem u_X10_isZero_b43 {p : Program} {l : Launch} {e : Env} {s : State} {m : MethodId} {args : Array Value} {below : List Frame} {meth : Method} {c : Code} {Q : State → Prop} {D : va_G} {A : Nat → Prop} {cI cJ cZ cMic cSrc cSt cAI cAJ : ClassId} {ad : Nat → Nat} {r1 : Int32} {T1 : AT} (E : cE p c cX10_isZero s m args (Cond.code yX10_isZero cX10_isZero 5 (some .boolean) :: wsA) D RX10 (CT cI cJ cZ cMic cSrc cSt cAI cAJ)) (hA : ∀ q : Nat, s.heap.size ≤ q → A q) (hX : xT A s) (hN : nX s) (hml : c.maxLocals = 5) (hst : l.stackTraces = false) (kr43 : ∀ (H : Heap) (locs : List Loc) (ls : Array Slot), (r1 = 0 ∨ r1 = 1) → gC cI cJ cZ cMic cSrc cSt cAI cAJ D ad A s.heap H locs T1 → W p l e { frames := 1, cells := 0, slots := 0, locals := 0 } s m args below meth c H locs 0 0 Q (F0 m 43 ls [.int r1])) : ∀ (T : AT) (H : Heap) (locs : List Loc) (ls : Array Slot) (s0 : Int32), g_X10_isZero_b43 T s0 = some (r1, T1) → gC cI cJ cZ cMic cSrc cSt cAI cAJ D ad A s.heap H locs T → lv_has ls 5 [] → W p l e { frames := 1, cells := 0, slots := 0, locals := 0 } s m args below meth c H locs 0 0 Q (F0 m 43 ls [.int s0]) := by
  have hx := E.1
  have hb := E.2.1
  have hts := E.2.2.1
  have hown := E.2.2.2.1
  have hK := E.2.2.2.2
  intro T H locs ls s0 h G hl
  unfold g_X10_isZero_b43 at h
  obtain ⟨gz, h⟩ := oif_some h
  have gr : r1 = 0 ∨ r1 = 1 := by rw [← (osome2 h).1]; exact gz
  rw [(osome2 h).2] at G
  refine lv_to (osome2 h).1 ?_
  exact kr43 _ _ _ gr G
def g_X10_isZero_b5  : Nat → AT → Nat → Int32 → Int64 → Int32 → Option (Int32 × AT)
  | 0, _, _, _, _, _ => none
  | n + 1, T, l0, l1, l2, l4 => oif (oO T l0 10 = true) <| elet (T.2.2.1 l0 2) fun v3 => if v3 ≤ l4 then (elet (lg_cmp l2 (0 : Int64)) fun v5 => if v5 = 0 then (g_X10_isZero_b43 T 1) else (g_X10_isZero_b43 T 0)) else (oif (oO T l0 10 = true) <| obind (T.2.2.2.2 l0 1) fun n8 => oif (aA T n8 107 = true) <| oif (inb l4 (T.2.1 n8).2 = true) <| obind (T.2.2.2.2 n8 l4.toNatClampNeg) fun n11 => oif (aA T n11 101 = true) <| oif (inb l1 (T.2.1 n11).2 = true) <| elet (T.2.2.2.1 n11 l1.toNatClampNeg) fun v14 => elet (l2 ||| v14) fun v15 => elet (l4 + Int32.ofInt (1)) fun v16 => g_X10_isZero_b5 n T l0 l1 v15 v16)
set_option maxHeartbeats 4000000 in
set_option maxRecDepth 100000 in
theorem u_X10_isZero_b5 {p : Program} {l : Launch} {e : Env} {s : State} {m : MethodId} {args : Array Value} {below : List Frame} {meth : Method} {c : Code} {Q : State → Prop} {D : va_G} {A : Nat → Prop} {cI cJ cZ cMic cSrc cSt cAI cAJ : ClassId} {ad : Nat → Nat} {r1 : Int32} {T1 : AT} (E : cE p c cX10_isZero s m args (Cond.code yX10_isZero cX10_isZero 5 (some .boolean) :: wsA) D RX10 (CT cI cJ cZ cMic cSrc cSt cAI cAJ)) (hA : ∀ q : Nat, s.heap.size ≤ q → A q) (hX : xT A s) (hN : nX s) (hml : c.maxLocals = 5) (hst : l.stackTraces = false) (kr43 : ∀ (H : Heap) (locs : List Loc) (ls : Array Slot), (r1 = 0 ∨ r1 = 1) → gC cI cJ cZ cMic cSrc cSt cAI cAJ D ad A s.heap H locs T1 → W p l e { frames := 1, cells := 0, slots := 0, locals := 0 } s m args below meth c H locs 0 0 Q (F0 m 43 ls [.int r1])) : ∀ n : Nat, ∀ (T : AT) (H : Heap) (locs : List Loc) (ls : Array Slot) (l0 : Nat) (l1 : Int32) (l2 : Int64) (l4 : Int32), g_X10_isZero_b5 n T l0 l1 l2 l4 = some (r1, T1) → gC cI cJ cZ cMic cSrc cSt cAI cAJ D ad A s.heap H locs T → lv_has ls 5 [(0, .ref (ad l0)), (1, .int l1), (2, .long l2), (4, .int l4)] → W p l e { frames := 1, cells := 0, slots := 0, locals := 0 } s m args below meth c H locs 0 0 Q (F0 m 5 ls []) := by
  have hx := E.1
  have hb := E.2.1
  have hts := E.2.2.1
  have hown := E.2.2.2.1
  have hK := E.2.2.2.2
  intro n
  induction n with
  | zero =>
    intro T H locs ls l0 l1 l2 l4 h
    have h : (none : Option (Int32 × AT)) = some (r1, T1) := h
    cases h
  | succ n ih =>
    intro T H locs ls l0 l1 l2 l4 h G hl
    unfold g_X10_isZero_b5 at h
    refine lv_iload hx hb dX10_isZero_5 (lv_at hl 3 rfl) ?_
    refine lv_aload_n hx hb dX10_isZero_7 rfl (lv_at hl 0 rfl) ?_
    obtain ⟨g2, h⟩ := oif_some h
    refine c_get E G l0 2 (oO_k g2).1 (cc_o10 (oO_k g2).2) rfl (fun w h => .tail _ (iA_12 h)) (by decide) (.tail _ qA_15) rfl rfl dX10_isZero_8 ?_
    refine lv_topi (fun v3 ev3 => ?_)
    have h := elet_at ev3 h
    clear ev3
    refine lv_icmp_ge (tgt := 32) hx hb dX10_isZero_11 (by decide) (fun c4 => ?_) (fun c4 => ?_)
    · have h := oif_pos c4 h
      refine lv_lload_n hx hb dX10_isZero_32 rfl (lv_at hl 2 rfl) ?_
      refine lv_lconst (v := 0) hx hb dX10_isZero_33 (by decide) ?_
      refine W.lcmp hx hb dX10_isZero_34 ?_
      refine lv_topi (fun v5 ev5 => ?_)
      have h := elet_at ev5 h
      clear ev5
      refine lv_if_ne (tgt := 42) hx hb dX10_isZero_35 (by decide) (fun c6 => ?_) (fun c6 => ?_)
      · have h := oif_neg c6 h
        refine lv_iconst (v := 0) hx hb dX10_isZero_42 (by decide) ?_
        have hl := lv_sub hl [] rfl
        exact u_X10_isZero_b43 E hA hX hN hml hst kr43 _ _ _ _ _ h G hl
      · have h := oif_pos c6 h
        refine lv_iconst (v := 1) hx hb dX10_isZero_38 (by decide) ?_
        refine lv_goto (tgt := 43) hx hb dX10_isZero_39 (by decide) ?_
        have hl := lv_sub hl [] rfl
        exact u_X10_isZero_b43 E hA hX hN hml hst kr43 _ _ _ _ _ h G hl
    · have h := oif_neg c4 h
      refine lv_lload_n hx hb dX10_isZero_14 rfl (lv_at hl 2 rfl) ?_
      refine lv_aload_n hx hb dX10_isZero_15 rfl (lv_at hl 0 rfl) ?_
      obtain ⟨g7, h⟩ := oif_some h
      obtain ⟨n8, en8, h⟩ := obind_some h
      refine c_get E G l0 1 (v := .ref (ad n8)) (oO_k g7).1 (cc_o10 (oO_k g7).2) rfl (fun w h => .tail _ (iA_12 h)) (by decide) (.tail _ qA_14) rfl (by rw [en8]; rfl) dX10_isZero_16 ?_
      clear en8
      refine lv_iload hx hb dX10_isZero_19 (lv_at hl 3 rfl) ?_
      obtain ⟨g9, h⟩ := oif_some h
      obtain ⟨g10, h⟩ := oif_some h
      obtain ⟨n11, en11, h⟩ := obind_some h
      refine c_alda E G n8 7 (k := l4.toNatClampNeg) (v := .ref (ad n11)) (aA_k g9).1 (cc_a107 (aA_k g9).2.1) rfl (inb_k g10).1 (inb_k g10).2 (aA_k g9).2.2 (by show va_rf ((T.2.2.2.2 n8 l4.toNatClampNeg).map ad) = _; rw [en11]; rfl) dX10_isZero_21 ?_
      clear en11
      refine lv_iload_n hx hb dX10_isZero_22 rfl (lv_at hl 1 rfl) ?_
      obtain ⟨g12, h⟩ := oif_some h
      obtain ⟨g13, h⟩ := oif_some h
      refine c_lald E G n11 1 (k := l1.toNatClampNeg) (aA_k g12).1 (cc_a101 (aA_k g12).2.1) rfl (inb_k g13).1 (inb_k g13).2 (aA_k g12).2.2 dX10_isZero_23 ?_
      refine lv_topl (fun v14 ev14 => ?_)
      have h := elet_at ev14 h
      clear ev14
      refine lv_lor hx hb dX10_isZero_24 ?_
      refine lv_topl (fun v15 ev15 => ?_)
      have h := elet_at ev15 h
      clear ev15
      refine lv_lstore_n (lv' := [(2, .long v15), (0, .ref (ad l0)), (1, .int l1), (4, .int l4)]) hx hb dX10_isZero_25 rfl hl (by decide) rfl (fun ls hl => ?_)
      obtain ⟨v16, ev16, h⟩ := elet_some h
      refine lv_iinc (v := v16) (lv' := [(4, .int v16), (2, .long v15), (0, .ref (ad l0)), (1, .int l1)]) hx hb dX10_isZero_26 hl (k := 3) rfl ev16.symm (by decide) rfl (fun ls hl => ?_)
      refine lv_goto (tgt := 5) hx hb dX10_isZero_29 (by decide) ?_
      have hl := lv_sub hl [2, 3, 1, 0] rfl
      exact ih _ _ _ _ _ _ _ _ h G hl
def g_X10_isZero (T : AT) (o : Nat) (a0 : Int32) : Option (Int32 × AT) := g_X10_isZero_b5 16384 T o a0 (0 : Int64) 0
set_option maxHeartbeats 4000000 in
set_option maxRecDepth 100000 in
theorem u_X10_isZero (l : Launch) (hst : l.stackTraces = false) (D : va_G) (cI cJ cZ cMic cSrc cSt cAI cAJ : ClassId) (ad : Nat → Nat) (T : AT) (o : Nat) (a0 : Int32) {r1 : Int32} {T1 : AT} (h : g_X10_isZero T o a0 = some (r1, T1)) : kCi l yX10_isZero (Cond.code yX10_isZero cX10_isZero 5 (some .boolean) :: wsA) 1 0 cI cJ cZ cMic cSrc cSt cAI cAJ D ad T [.ref (ad o), .int a0] (fun r T9 => r = r1 ∧ T9 = T1) := by
  intro sz
  refine Met.ofW (cc := cX10_isZero) (maxL := 5) (ret := (some .boolean)) (by decide) rfl ?_
  intro p e s m args below meth c s₁ B hml hv
  obtain ⟨rfl, hsz, hP, hK, hD0, hX, hN⟩ := hv
  have hx := B.exec
  have hb := B.bytes
  have hr := B.returns
  have hts := atoms_spec (ws := (Cond.code yX10_isZero cX10_isZero 5 (some .boolean) :: wsA)) B.pre
  have hown : s.vm.findClass RX10 = some m.cls := findClass_of_methodNamed B.named
  have hlocks := B.notSynchronized
  subst hsz
  have hD := hD0.self (sz := s.heap.size)
  generalize hAe : va_A (cW ad T.1 (cc cI cJ cZ cMic cSrc cSt cAI cAJ ad T)) s.heap.size = A at hD hX ⊢
  have hA : ∀ q : Nat, s.heap.size ≤ q → A q := fun q h => by rw [← hAe]; exact Or.inr h
  have G : gC cI cJ cZ cMic cSrc cSt cAI cAJ D ad A s.heap s.heap [] T := ⟨hP, hD, va_S.rf⟩
  have E : cE p c cX10_isZero s m ([.ref (ad o), .int a0] : List Value).toArray (Cond.code yX10_isZero cX10_isZero 5 (some .boolean) :: wsA) D RX10 (CT cI cJ cZ cMic cSrc cSt cAI cAJ) := ⟨hx, hb, hts, hown, hK⟩
  have hl := lv_entry ([.ref (ad o), .int a0]) (n := 5) (Nat.le_of_ble_eq_true rfl)
  rw [lg_entry_eq]
  generalize (lg_sl ([.ref (ad o), .int a0]) ++ List.replicate (5 - (lg_sl ([.ref (ad o), .int a0])).length) Slot.unset).toArray = ls at hl ⊢
  have hl : lv_has ls 5 [(0, .ref (ad o)), (1, .int a0)] := hl
  unfold g_X10_isZero at h
  refine lv_lconst (v := 0) hx hb dX10_isZero_0 (by decide) ?_
  refine lv_lstore_n (lv' := [(2, .long (0 : Int64)), (0, .ref (ad o)), (1, .int a0)]) hx hb dX10_isZero_1 rfl hl (by decide) rfl (fun ls hl => ?_)
  refine lv_iconst (v := 0) hx hb dX10_isZero_2 (by decide) ?_
  refine lv_istore (lv' := [(4, .int 0), (2, .long (0 : Int64)), (0, .ref (ad o)), (1, .int a0)]) hx hb dX10_isZero_3 hl (by decide) rfl (fun ls hl => ?_)
  have hl := lv_sub hl [2, 3, 1, 0] rfl
  exact u_X10_isZero_b5 E hA hX hN hml hst (fun H locs ls gz G => W.zret (v := r1) hx hb hr (nar01 gz) (fun t ht hW => ⟨⟨r1, T1, rfl, ⟨rfl, rfl⟩, ⟨by rw [ht]; exact G.1, va_K.moved hW.alike hK, G.2.1⟩⟩, G.2.2.F ht⟩) G.2.2.2.2 dX10_isZero_43) _ _ _ _ _ _ _ _ _ h G hl
set_option maxHeartbeats 4000000 in
set_option maxRecDepth 100000 in
theorem s_X10_isZero_b43 {r1 : Int32} {T1 : AT} : ∀ (T : AT) (s0 : Int32), g_X10_isZero_b43 T s0 = some (r1, T1) → SP T T1 := by
  intro T s0 h
  have p0 := SP.rf T
  unfold g_X10_isZero_b43 at h
  obtain ⟨gz, h⟩ := oif_some h
  rw [← (osome2 h).2]
  exact p0
set_option maxHeartbeats 4000000 in
set_option maxRecDepth 100000 in
theorem s_X10_isZero_b5 {r1 : Int32} {T1 : AT} : ∀ n : Nat, ∀ (T : AT) (l0 : Nat) (l1 : Int32) (l2 : Int64) (l4 : Int32), g_X10_isZero_b5 n T l0 l1 l2 l4 = some (r1, T1) → SP T T1 := by
  intro n
  induction n with
  | zero =>
    intro T l0 l1 l2 l4 h
    have h : (none : Option (Int32 × AT)) = some (r1, T1) := h
    cases h
  | succ n ih =>
    intro T l0 l1 l2 l4 h
    have p0 := SP.rf T
    unfold g_X10_isZero_b5 at h
    obtain ⟨g2, h⟩ := oif_some h
    obtain ⟨v3, -, h⟩ := elet_some h
    rcases oif_or h with ⟨c4, h⟩ | ⟨c4, h⟩
    · have h := h
      obtain ⟨v5, -, h⟩ := elet_some h
      rcases oif_or h with ⟨c6, h⟩ | ⟨c6, h⟩
      · have h := h
        exact SP.tr p0 (s_X10_isZero_b43 _ _ h)
      · have h := h
        exact SP.tr p0 (s_X10_isZero_b43 _ _ h)
    · have h := h
      obtain ⟨g7, h⟩ := oif_some h
      obtain ⟨n8, en8, h⟩ := obind_some h
      obtain ⟨g9, h⟩ := oif_some h
      obtain ⟨g10, h⟩ := oif_some h
      obtain ⟨n11, en11, h⟩ := obind_some h
      obtain ⟨g12, h⟩ := oif_some h
      obtain ⟨g13, h⟩ := oif_some h
      obtain ⟨v14, -, h⟩ := elet_some h
      obtain ⟨v15, -, h⟩ := elet_some h
      obtain ⟨v16, ev16, h⟩ := elet_some h
      exact SP.tr p0 (ih _ _ _ _ _ h)
set_option maxHeartbeats 4000000 in
set_option maxRecDepth 100000 in
theorem s_X10_isZero {T : AT} {o : Nat} {a0 : Int32} {r1 : Int32} {T1 : AT} (h : g_X10_isZero T o a0 = some (r1, T1)) : SP T T1 := by
  have p0 := SP.rf T
  unfold g_X10_isZero at h
  exact SP.tr p0 (s_X10_isZero_b5 _ _ _ _ _ _ h)
def g_X4_digit_b84  (T : AT) (l3 : Int32) : Option (Int32 × AT) := some (l3, T)
def g_X4_digit_b77 (k27 : AT → Nat → Nat → Int32 → Int32 → Option (Int32 × AT)) (T : AT) (s0 : Int32) (l0 : Nat) (l2 : Nat) (l4 : Int32) : Option (Int32 × AT) := elet (l4 + Int32.ofInt (1)) fun v2 => k27 T l0 l2 s0 v2
def g_X4_digit_b62 (k27 : AT → Nat → Nat → Int32 → Int32 → Option (Int32 × AT)) (T : AT) (l0 : Nat) (l2 : Nat) (l3 : Int32) (l4 : Int32) : Option (Int32 × AT) := oif (oO T l2 10 = true) <| obind2 (g_X10_compare T l2 (0 : Int32) (1 : Int32)) fun r5 T3 => if r5 < 0 then (g_X4_digit_b77 k27 T3 l3 l0 l2 l4) else (g_X4_digit_b77 k27 T3 l4 l0 l2 l4)
def g_X4_digit_b27  : Nat → AT → Nat → Nat → Int32 → Int32 → Option (Int32 × AT)
  | 0, _, _, _, _, _ => none
  | n + 1, T, l0, l2, l3, l4 => if 9 < l4 then (g_X4_digit_b84 T l3) else (oif (oO T l0 4 = true) <| obind (T.2.2.2.2 l0 1) fun n4 => oif (oO T l0 4 = true) <| elet (T.2.2.1 l0 2) fun v6 => oif (oO T n4 10 = true) <| obind2 (g_X10_isZero T n4 v6) fun r10 T8 => if r10 = 0 then (oif (oO T8 l0 4 = true) <| obind (T8.2.2.2.2 l0 1) fun n14 => oif (oO T8 l0 4 = true) <| elet (T8.2.2.1 l0 2) fun v16 => oif (oO T8 l2 10 = true) <| obind (g_X10_add T8 l2 (1 : Int32) n14 v16 (1 : Int32)) fun T18 => g_X4_digit_b62 (g_X4_digit_b27 n) T18 l0 l2 l3 l4) else (g_X4_digit_b84 T8 l3))
def g_X4_digit_b22  (T : AT) (l0 : Nat) (l2 : Nat) : Option (Int32 × AT) := g_X4_digit_b27 16384 T l0 l2 0 1
def g_X4_digit (T : AT) (o : Nat) (a0 : Int32) (a1 : Nat) : Option (Int32 × AT) := oif (oO T a1 10 = true) <| obind (g_X10_clear T a1 (0 : Int32)) fun T3 => oif (oO T3 a1 10 = true) <| obind (g_X10_clear T3 a1 (1 : Int32)) fun T6 => oif (oO T6 o 4 = true) <| obind (T6.2.2.2.2 o 1) fun n9 => oif (oO T6 a1 10 = true) <| obind (g_X10_add T6 a1 (0 : Int32) n9 a0 (9 : Int32)) fun T11 => g_X4_digit_b22 T11 o a1
set_option maxHeartbeats 4000000 in
set_option maxRecDepth 100000 in
theorem s_X4_digit_b84 {r1 : Int32} {T1 : AT} : ∀ (T : AT) (l3 : Int32), g_X4_digit_b84 T l3 = some (r1, T1) → GL T T1 := by
  intro T l3 h
  have p0 := GL.rf T
  unfold g_X4_digit_b84 at h
  rw [← (osome2 h).2]
  exact p0
set_option maxHeartbeats 4000000 in
set_option maxRecDepth 100000 in
theorem s_X4_digit_b77 {r1 : Int32} {T1 : AT} {k27 : AT → Nat → Nat → Int32 → Int32 → Option (Int32 × AT)} (hk27 : ∀ (T : AT) (l0 : Nat) (l2 : Nat) (l3 : Int32) (l4 : Int32), k27 T l0 l2 l3 l4 = some (r1, T1) → GL T T1) : ∀ (T : AT) (s0 : Int32) (l0 : Nat) (l2 : Nat) (l4 : Int32), g_X4_digit_b77 k27 T s0 l0 l2 l4 = some (r1, T1) → GL T T1 := by
  intro T s0 l0 l2 l4 h
  have p0 := GL.rf T
  unfold g_X4_digit_b77 at h
  obtain ⟨v2, ev2, h⟩ := elet_some h
  exact GL.tr p0 (hk27 _ _ _ _ _ h)
set_option maxHeartbeats 4000000 in
set_option maxRecDepth 100000 in
theorem s_X4_digit_b62 {r1 : Int32} {T1 : AT} {k27 : AT → Nat → Nat → Int32 → Int32 → Option (Int32 × AT)} (hk27 : ∀ (T : AT) (l0 : Nat) (l2 : Nat) (l3 : Int32) (l4 : Int32), k27 T l0 l2 l3 l4 = some (r1, T1) → GL T T1) : ∀ (T : AT) (l0 : Nat) (l2 : Nat) (l3 : Int32) (l4 : Int32), g_X4_digit_b62 k27 T l0 l2 l3 l4 = some (r1, T1) → GL T T1 := by
  intro T l0 l2 l3 l4 h
  have p0 := GL.rf T
  unfold g_X4_digit_b62 at h
  obtain ⟨g2, h⟩ := oif_some h
  obtain ⟨r4, T3, eT3, h⟩ := obind2_some h
  have p1 : GL T T3 := GL.tr p0 (gl_sp (s_X10_compare eT3))
  rcases oif_or h with ⟨c5, h⟩ | ⟨c5, h⟩
  · have h := h
    exact GL.tr p1 (s_X4_digit_b77 hk27 _ _ _ _ _ h)
  · have h := h
    exact GL.tr p1 (s_X4_digit_b77 hk27 _ _ _ _ _ h)
set_option maxHeartbeats 4000000 in
set_option maxRecDepth 100000 in
theorem s_X4_digit_b27 {r1 : Int32} {T1 : AT} : ∀ n : Nat, ∀ (T : AT) (l0 : Nat) (l2 : Nat) (l3 : Int32) (l4 : Int32), g_X4_digit_b27 n T l0 l2 l3 l4 = some (r1, T1) → GL T T1 := by
  intro n
  induction n with
  | zero =>
    intro T l0 l2 l3 l4 h
    have h : (none : Option (Int32 × AT)) = some (r1, T1) := h
    cases h
  | succ n ih =>
    intro T l0 l2 l3 l4 h
    have p0 := GL.rf T
    unfold g_X4_digit_b27 at h
    rcases oif_or h with ⟨c2, h⟩ | ⟨c2, h⟩
    · have h := h
      exact GL.tr p0 (s_X4_digit_b84 _ _ h)
    · have h := h
      obtain ⟨g3, h⟩ := oif_some h
      obtain ⟨n4, en4, h⟩ := obind_some h
      obtain ⟨g5, h⟩ := oif_some h
      obtain ⟨v6, -, h⟩ := elet_some h
      obtain ⟨g7, h⟩ := oif_some h
      obtain ⟨r9, T8, eT8, h⟩ := obind2_some h
      have p1 : GL T T8 := GL.tr p0 (gl_sp (s_X10_isZero eT8))
      rcases oif_or h with ⟨c10, h⟩ | ⟨c10, h⟩
      · have h := h
        obtain ⟨g11, h⟩ := oif_some h
        obtain ⟨n12, en12, h⟩ := obind_some h
        obtain ⟨g13, h⟩ := oif_some h
        obtain ⟨v14, -, h⟩ := elet_some h
        obtain ⟨g15, h⟩ := oif_some h
        obtain ⟨T16, eT16, h⟩ := obind_some h
        have p2 : GL T T16 := GL.tr p1 (s_X10_add eT16)
        exact GL.tr p2 (s_X4_digit_b62 ih _ _ _ _ _ h)
      · have h := h
        exact GL.tr p1 (s_X4_digit_b84 _ _ h)
set_option maxHeartbeats 4000000 in
set_option maxRecDepth 100000 in
theorem s_X4_digit_b22 {r1 : Int32} {T1 : AT} : ∀ (T : AT) (l0 : Nat) (l2 : Nat), g_X4_digit_b22 T l0 l2 = some (r1, T1) → GL T T1 := by
  intro T l0 l2 h
  have p0 := GL.rf T
  unfold g_X4_digit_b22 at h
  exact GL.tr p0 (s_X4_digit_b27 _ _ _ _ _ _ h)
set_option maxHeartbeats 4000000 in
set_option maxRecDepth 100000 in
theorem s_X4_digit {T : AT} {o : Nat} {a0 : Int32} {a1 : Nat} {r1 : Int32} {T1 : AT} (h : g_X4_digit T o a0 a1 = some (r1, T1)) : GL T T1 := by
  have p0 := GL.rf T
  unfold g_X4_digit at h
  obtain ⟨g2, h⟩ := oif_some h
  obtain ⟨T3, eT3, h⟩ := obind_some h
  have p1 : GL T T3 := GL.tr p0 (gl_sp (s_X10_clear eT3))
  obtain ⟨g5, h⟩ := oif_some h
  obtain ⟨T6, eT6, h⟩ := obind_some h
  have p2 : GL T T6 := GL.tr p1 (gl_sp (s_X10_clear eT6))
  obtain ⟨g8, h⟩ := oif_some h
  obtain ⟨n9, en9, h⟩ := obind_some h
  obtain ⟨g10, h⟩ := oif_some h
  obtain ⟨T11, eT11, h⟩ := obind_some h
  have p3 : GL T T11 := GL.tr p2 (s_X10_add eT11)
  exact GL.tr p3 (s_X4_digit_b22 _ _ _ h)
set_option maxHeartbeats 4000000 in
set_option maxRecDepth 100000 in
theorem a_X4_digit_b84 {p : Program} {l : Launch} {e : Env} {s : State} {m : MethodId} {args : Array Value} {below : List Frame} {meth : Method} {c : Code} {Q : State → Prop} {D : va_G} {A : Nat → Prop} {cI cJ cZ cMic cSrc cSt cAI cAJ : ClassId} {ad0 : Nat → Nat} {T0 : AT} {r1 : Int32} {T1 : AT} (E : cE p c cX4_digit s m args (Cond.code yX4_digit cX4_digit 5 (some .int) :: wsA) D RX4 (CT cI cJ cZ cMic cSrc cSt cAI cAJ)) (hA : ∀ q : Nat, s.heap.size ≤ q → A q) (hX : xT A s) (hN : nX s) (hml : c.maxLocals = 5) (hst : l.stackTraces = false) (kr85 : ∀ (ad : Nat → Nat) (H : Heap) (locs : List Loc) (ls : Array Slot), (∀ n, n < T0.1 → ad n = ad0 n) → gC cI cJ cZ cMic cSrc cSt cAI cAJ D ad A s.heap H locs T1 → W p l e { frames := 4, cells := T1.1 - T0.1, slots := sg T1 - sg T0, locals := 74 } s m args below meth c H locs (T1.1 - T0.1) (sg T1 - sg T0) Q (F0 m 85 ls [.int r1])) : ∀ (T : AT) (ad : Nat → Nat) (H : Heap) (locs : List Loc) (ls : Array Slot) (l3 : Int32), g_X4_digit_b84 T l3 = some (r1, T1) → GL T0 T → RC T → (∀ n, n < T0.1 → ad n = ad0 n) → gC cI cJ cZ cMic cSrc cSt cAI cAJ D ad A s.heap H locs T → lv_has ls 5 [(3, .int l3)] → W p l e { frames := 4, cells := T1.1 - T0.1, slots := sg T1 - sg T0, locals := 74 } s m args below meth c H locs (T.1 - T0.1) (sg T - sg T0) Q (F0 m 84 ls []) := by
  have hx := E.1
  have hb := E.2.1
  have hts := E.2.2.1
  have hown := E.2.2.2.1
  have hK := E.2.2.2.2
  intro T ad H locs ls l3 h hgl hrc had G hl
  have hT1 := s_X4_digit_b84 _ _ h
  have hcs := cs_ok hgl hT1
  have cp0 := cpr0 hrc
  unfold g_X4_digit_b84 at h
  refine lv_iload_n hx hb dX4_digit_84 rfl (lv_at hl 0 rfl) ?_
  rw [(osome2 h).2] at G
  refine w_cast (c2 := T1.1 - T0.1) (s2 := sg T1 - sg T0) (by rw [← (osome2 h).2, cp0.1] <;> rfl) (by rw [← (osome2 h).2, sg_cpr cp0] <;> rfl) ?_
  refine lv_to ((osome2 h).1) ?_
  exact kr85 ad _ _ _ had G
set_option maxHeartbeats 4000000 in
set_option maxRecDepth 100000 in
theorem a_X4_digit_b77 {p : Program} {l : Launch} {e : Env} {s : State} {m : MethodId} {args : Array Value} {below : List Frame} {meth : Method} {c : Code} {Q : State → Prop} {D : va_G} {A : Nat → Prop} {cI cJ cZ cMic cSrc cSt cAI cAJ : ClassId} {ad0 : Nat → Nat} {T0 : AT} {r1 : Int32} {T1 : AT} (E : cE p c cX4_digit s m args (Cond.code yX4_digit cX4_digit 5 (some .int) :: wsA) D RX4 (CT cI cJ cZ cMic cSrc cSt cAI cAJ)) (hA : ∀ q : Nat, s.heap.size ≤ q → A q) (hX : xT A s) (hN : nX s) (hml : c.maxLocals = 5) (hst : l.stackTraces = false) (kr85 : ∀ (ad : Nat → Nat) (H : Heap) (locs : List Loc) (ls : Array Slot), (∀ n, n < T0.1 → ad n = ad0 n) → gC cI cJ cZ cMic cSrc cSt cAI cAJ D ad A s.heap H locs T1 → W p l e { frames := 4, cells := T1.1 - T0.1, slots := sg T1 - sg T0, locals := 74 } s m args below meth c H locs (T1.1 - T0.1) (sg T1 - sg T0) Q (F0 m 85 ls [.int r1])) {k27 : AT → Nat → Nat → Int32 → Int32 → Option (Int32 × AT)} (hs27 : ∀ (T : AT) (l0 : Nat) (l2 : Nat) (l3 : Int32) (l4 : Int32), k27 T l0 l2 l3 l4 = some (r1, T1) → GL T T1) (hk27 : ∀ (T : AT) (ad : Nat → Nat) (H : Heap) (locs : List Loc) (ls : Array Slot) (l0 : Nat) (l2 : Nat) (l3 : Int32) (l4 : Int32), k27 T l0 l2 l3 l4 = some (r1, T1) → GL T0 T → RC T → (∀ n, n < T0.1 → ad n = ad0 n) → l0 < T.1 → l2 < T.1 → gC cI cJ cZ cMic cSrc cSt cAI cAJ D ad A s.heap H locs T → lv_has ls 5 [(0, .ref (ad l0)), (2, .ref (ad l2)), (3, .int l3), (4, .int l4)] → W p l e { frames := 4, cells := T1.1 - T0.1, slots := sg T1 - sg T0, locals := 74 } s m args below meth c H locs (T.1 - T0.1) (sg T - sg T0) Q (F0 m 27 ls [])) : ∀ (T : AT) (ad : Nat → Nat) (H : Heap) (locs : List Loc) (ls : Array Slot) (s0 : Int32) (l0 : Nat) (l2 : Nat) (l4 : Int32), g_X4_digit_b77 k27 T s0 l0 l2 l4 = some (r1, T1) → GL T0 T → RC T → (∀ n, n < T0.1 → ad n = ad0 n) → l0 < T.1 → l2 < T.1 → gC cI cJ cZ cMic cSrc cSt cAI cAJ D ad A s.heap H locs T → lv_has ls 5 [(0, .ref (ad l0)), (2, .ref (ad l2)), (4, .int l4)] → W p l e { frames := 4, cells := T1.1 - T0.1, slots := sg T1 - sg T0, locals := 74 } s m args below meth c H locs (T.1 - T0.1) (sg T - sg T0) Q (F0 m 77 ls [.int s0]) := by
  have hx := E.1
  have hb := E.2.1
  have hts := E.2.2.1
  have hown := E.2.2.2.1
  have hK := E.2.2.2.2
  intro T ad H locs ls s0 l0 l2 l4 h hgl hrc had h_l0 h_l2 G hl
  have hT1 := s_X4_digit_b77 hs27 _ _ _ _ _ h
  have hcs := cs_ok hgl hT1
  have cp0 := cpr0 hrc
  unfold g_X4_digit_b77 at h
  refine lv_istore_n (lv' := [(3, .int s0), (0, .ref (ad l0)), (2, .ref (ad l2)), (4, .int l4)]) hx hb dX4_digit_77 rfl hl (by decide) rfl (fun ls hl => ?_)
  obtain ⟨v2, ev2, h⟩ := elet_some h
  refine lv_iinc (v := v2) (lv' := [(4, .int v2), (3, .int s0), (0, .ref (ad l0)), (2, .ref (ad l2))]) hx hb dX4_digit_78 hl (k := 3) rfl ev2.symm (by decide) rfl (fun ls hl => ?_)
  refine lv_goto (tgt := 27) hx hb dX4_digit_81 (by decide) ?_
  have hl := lv_sub hl [2, 3, 1, 0] rfl
  refine w_cast (c2 := T.1 - T0.1) (s2 := sg T - sg T0) (by rw [cp0.1] <;> rfl) (by rw [sg_cpr cp0] <;> rfl) ?_
  exact hk27 _ _ _ _ _ _ _ _ _ h (gl_cpr hgl cp0) cp0.2.2 had (by rw [cp0.1]; exact h_l0) (by rw [cp0.1]; exact h_l2) G hl
set_option maxHeartbeats 4000000 in
set_option maxRecDepth 100000 in
theorem a_X4_digit_b62 {p : Program} {l : Launch} {e : Env} {s : State} {m : MethodId} {args : Array Value} {below : List Frame} {meth : Method} {c : Code} {Q : State → Prop} {D : va_G} {A : Nat → Prop} {cI cJ cZ cMic cSrc cSt cAI cAJ : ClassId} {ad0 : Nat → Nat} {T0 : AT} {r1 : Int32} {T1 : AT} (E : cE p c cX4_digit s m args (Cond.code yX4_digit cX4_digit 5 (some .int) :: wsA) D RX4 (CT cI cJ cZ cMic cSrc cSt cAI cAJ)) (hA : ∀ q : Nat, s.heap.size ≤ q → A q) (hX : xT A s) (hN : nX s) (hml : c.maxLocals = 5) (hst : l.stackTraces = false) (kr85 : ∀ (ad : Nat → Nat) (H : Heap) (locs : List Loc) (ls : Array Slot), (∀ n, n < T0.1 → ad n = ad0 n) → gC cI cJ cZ cMic cSrc cSt cAI cAJ D ad A s.heap H locs T1 → W p l e { frames := 4, cells := T1.1 - T0.1, slots := sg T1 - sg T0, locals := 74 } s m args below meth c H locs (T1.1 - T0.1) (sg T1 - sg T0) Q (F0 m 85 ls [.int r1])) {k27 : AT → Nat → Nat → Int32 → Int32 → Option (Int32 × AT)} (hs27 : ∀ (T : AT) (l0 : Nat) (l2 : Nat) (l3 : Int32) (l4 : Int32), k27 T l0 l2 l3 l4 = some (r1, T1) → GL T T1) (hk27 : ∀ (T : AT) (ad : Nat → Nat) (H : Heap) (locs : List Loc) (ls : Array Slot) (l0 : Nat) (l2 : Nat) (l3 : Int32) (l4 : Int32), k27 T l0 l2 l3 l4 = some (r1, T1) → GL T0 T → RC T → (∀ n, n < T0.1 → ad n = ad0 n) → l0 < T.1 → l2 < T.1 → gC cI cJ cZ cMic cSrc cSt cAI cAJ D ad A s.heap H locs T → lv_has ls 5 [(0, .ref (ad l0)), (2, .ref (ad l2)), (3, .int l3), (4, .int l4)] → W p l e { frames := 4, cells := T1.1 - T0.1, slots := sg T1 - sg T0, locals := 74 } s m args below meth c H locs (T.1 - T0.1) (sg T - sg T0) Q (F0 m 27 ls [])) : ∀ (T : AT) (ad : Nat → Nat) (H : Heap) (locs : List Loc) (ls : Array Slot) (l0 : Nat) (l2 : Nat) (l3 : Int32) (l4 : Int32), g_X4_digit_b62 k27 T l0 l2 l3 l4 = some (r1, T1) → GL T0 T → RC T → (∀ n, n < T0.1 → ad n = ad0 n) → l0 < T.1 → l2 < T.1 → gC cI cJ cZ cMic cSrc cSt cAI cAJ D ad A s.heap H locs T → lv_has ls 5 [(0, .ref (ad l0)), (2, .ref (ad l2)), (3, .int l3), (4, .int l4)] → W p l e { frames := 4, cells := T1.1 - T0.1, slots := sg T1 - sg T0, locals := 74 } s m args below meth c H locs (T.1 - T0.1) (sg T - sg T0) Q (F0 m 62 ls []) := by
  have hx := E.1
  have hb := E.2.1
  have hts := E.2.2.1
  have hown := E.2.2.2.1
  have hK := E.2.2.2.2
  intro T ad H locs ls l0 l2 l3 l4 h hgl hrc had h_l0 h_l2 G hl
  have hT1 := s_X4_digit_b62 hs27 _ _ _ _ _ h
  have hcs := cs_ok hgl hT1
  have cp0 := cpr0 hrc
  unfold g_X4_digit_b62 at h
  refine lv_aload_n hx hb dX4_digit_62 rfl (lv_at hl 1 rfl) ?_
  refine lv_iconst (v := 0) hx hb dX4_digit_63 (by decide) ?_
  refine lv_iconst (v := 1) hx hb dX4_digit_64 (by decide) ?_
  obtain ⟨g2, h⟩ := oif_some h
  obtain ⟨r5, T3, eT3, h⟩ := obind2_some h
  refine q_cvi (As := [.int 0, .int 1]) (rest := []) E G hA hX hN hml (u_X10_compare l hst D cI cJ cZ cMic cSrc cSt cAI cAJ ad T l2 (0 : Int32) (1 : Int32) eT3) (cwV 2 hts (gaV qA_430 qA_120 qA_121 qA_6 qA_122) rfl rfl rfl (by decide +kernel) ⟨Nat.le_of_ble_eq_true rfl, Nat.le_of_ble_eq_true rfl⟩) (oO_k g2).1 (cc_o10 (oO_k g2).2) rfl rfl hl.1 rfl (lv_room (Nat.le_of_ble_eq_true rfl)) dX4_digit_65 hcs (fun q6 T4 H locs hq G => ?_)
  obtain ⟨hq1, hq2⟩ := hq
  rw [hq2] at G
  refine lv_to hq1 ?_
  clear hq1 hq2
  have cp1 := cpr_sp cp0 (s_X10_compare eT3)
  refine lv_if_lt (tgt := 76) hx hb dX4_digit_68 (by decide) (fun c7 => ?_) (fun c7 => ?_)
  · have h := oif_pos c7 h
    refine lv_iload_n hx hb dX4_digit_76 rfl (lv_at hl 2 rfl) ?_
    have hl := lv_sub hl [0, 1, 3] rfl
    refine w_cast (c2 := T3.1 - T0.1) (s2 := sg T3 - sg T0) (by rw [cp1.1] <;> rfl) (by rw [sg_cpr cp1] <;> rfl) ?_
    exact a_X4_digit_b77 E hA hX hN hml hst kr85 hs27 hk27 _ _ _ _ _ _ _ _ _ h (gl_cpr hgl cp1) cp1.2.2 had (by rw [cp1.1]; exact h_l0) (by rw [cp1.1]; exact h_l2) G hl
  · have h := oif_neg c7 h
    refine lv_iload hx hb dX4_digit_71 (lv_at hl 3 rfl) ?_
    refine lv_goto (tgt := 77) hx hb dX4_digit_73 (by decide) ?_
    have hl := lv_sub hl [0, 1, 3] rfl
    refine w_cast (c2 := T3.1 - T0.1) (s2 := sg T3 - sg T0) (by rw [cp1.1] <;> rfl) (by rw [sg_cpr cp1] <;> rfl) ?_
    exact a_X4_digit_b77 E hA hX hN hml hst kr85 hs27 hk27 _ _ _ _ _ _ _ _ _ h (gl_cpr hgl cp1) cp1.2.2 had (by rw [cp1.1]; exact h_l0) (by rw [cp1.1]; exact h_l2) G hl
set_option maxHeartbeats 4000000 in
set_option maxRecDepth 100000 in
theorem a_X4_digit_b27 {p : Program} {l : Launch} {e : Env} {s : State} {m : MethodId} {args : Array Value} {below : List Frame} {meth : Method} {c : Code} {Q : State → Prop} {D : va_G} {A : Nat → Prop} {cI cJ cZ cMic cSrc cSt cAI cAJ : ClassId} {ad0 : Nat → Nat} {T0 : AT} {r1 : Int32} {T1 : AT} (E : cE p c cX4_digit s m args (Cond.code yX4_digit cX4_digit 5 (some .int) :: wsA) D RX4 (CT cI cJ cZ cMic cSrc cSt cAI cAJ)) (hA : ∀ q : Nat, s.heap.size ≤ q → A q) (hX : xT A s) (hN : nX s) (hml : c.maxLocals = 5) (hst : l.stackTraces = false) (kr85 : ∀ (ad : Nat → Nat) (H : Heap) (locs : List Loc) (ls : Array Slot), (∀ n, n < T0.1 → ad n = ad0 n) → gC cI cJ cZ cMic cSrc cSt cAI cAJ D ad A s.heap H locs T1 → W p l e { frames := 4, cells := T1.1 - T0.1, slots := sg T1 - sg T0, locals := 74 } s m args below meth c H locs (T1.1 - T0.1) (sg T1 - sg T0) Q (F0 m 85 ls [.int r1])) : ∀ n : Nat, ∀ (T : AT) (ad : Nat → Nat) (H : Heap) (locs : List Loc) (ls : Array Slot) (l0 : Nat) (l2 : Nat) (l3 : Int32) (l4 : Int32), g_X4_digit_b27 n T l0 l2 l3 l4 = some (r1, T1) → GL T0 T → RC T → (∀ n, n < T0.1 → ad n = ad0 n) → l0 < T.1 → l2 < T.1 → gC cI cJ cZ cMic cSrc cSt cAI cAJ D ad A s.heap H locs T → lv_has ls 5 [(0, .ref (ad l0)), (2, .ref (ad l2)), (3, .int l3), (4, .int l4)] → W p l e { frames := 4, cells := T1.1 - T0.1, slots := sg T1 - sg T0, locals := 74 } s m args below meth c H locs (T.1 - T0.1) (sg T - sg T0) Q (F0 m 27 ls []) := by
  have hx := E.1
  have hb := E.2.1
  have hts := E.2.2.1
  have hown := E.2.2.2.1
  have hK := E.2.2.2.2
  intro n
  induction n with
  | zero =>
    intro T ad H locs ls l0 l2 l3 l4 h
    have h : (none : Option (Int32 × AT)) = some (r1, T1) := h
    cases h
  | succ n ih =>
    intro T ad H locs ls l0 l2 l3 l4 h hgl hrc had h_l0 h_l2 G hl
    have hT1 := s_X4_digit_b27 _ _ _ _ _ _ h
    have hcs := cs_ok hgl hT1
    have cp0 := cpr0 hrc
    unfold g_X4_digit_b27 at h
    refine lv_iload hx hb dX4_digit_27 (lv_at hl 3 rfl) ?_
    refine lv_bipush (v := 9) hx hb dX4_digit_29 (by decide) ?_
    refine lv_icmp_gt (tgt := 84) hx hb dX4_digit_31 (by decide) (fun c2 => ?_) (fun c2 => ?_)
    · have h := oif_pos c2 h
      have hl := lv_sub hl [2] rfl
      refine w_cast (c2 := T.1 - T0.1) (s2 := sg T - sg T0) (by rw [cp0.1] <;> rfl) (by rw [sg_cpr cp0] <;> rfl) ?_
      exact a_X4_digit_b84 E hA hX hN hml hst kr85 _ _ _ _ _ _ h (gl_cpr hgl cp0) cp0.2.2 had G hl
    · have h := oif_neg c2 h
      refine lv_aload_n hx hb dX4_digit_34 rfl (lv_at hl 0 rfl) ?_
      obtain ⟨g3, h⟩ := oif_some h
      obtain ⟨n4, en4, h⟩ := obind_some h
      have h_n4 : n4 < T.1 := by rw [← cp0.1]; exact cp0.2.2 _ _ _ en4
      refine c_get E G l0 1 (v := .ref (ad n4)) (oO_k g3).1 (cc_o4 (oO_k g3).2) rfl (fun w h => .tail _ (iA_21 h)) (by decide) (.tail _ qA_408) rfl (by rw [en4]; rfl) dX4_digit_35 ?_
      clear en4
      refine lv_aload_n hx hb dX4_digit_38 rfl (lv_at hl 0 rfl) ?_
      obtain ⟨g5, h⟩ := oif_some h
      refine c_get E G l0 2 (oO_k g5).1 (cc_o4 (oO_k g5).2) rfl (fun w h => .tail _ (iA_21 h)) (by decide) (.tail _ qA_416) rfl rfl dX4_digit_39 ?_
      refine lv_topi (fun v6 ev6 => ?_)
      have h := elet_at ev6 h
      clear ev6
      obtain ⟨g7, h⟩ := oif_some h
      obtain ⟨r10, T8, eT8, h⟩ := obind2_some h
      refine q_cvi (As := [.int v6]) (rest := []) E G hA hX hN hml (u_X10_isZero l hst D cI cJ cZ cMic cSrc cSt cAI cAJ ad T n4 v6 eT8) (cwV 1 hts (gaV qA_448 qA_449 qA_450 qA_6 qA_451) rfl rfl rfl (by decide +kernel) ⟨Nat.le_of_ble_eq_true rfl, Nat.le_of_ble_eq_true rfl⟩) (oO_k g7).1 (cc_o10 (oO_k g7).2) rfl rfl hl.1 rfl (lv_room (Nat.le_of_ble_eq_true rfl)) dX4_digit_42 hcs (fun q11 T9 H locs hq G => ?_)
      obtain ⟨hq1, hq2⟩ := hq
      rw [hq2] at G
      refine lv_to hq1 ?_
      clear hq1 hq2
      have cp1 := cpr_sp cp0 (s_X10_isZero eT8)
      refine lv_if_ne (tgt := 84) hx hb dX4_digit_45 (by decide) (fun c12 => ?_) (fun c12 => ?_)
      · have h := oif_neg c12 h
        have hl := lv_sub hl [2] rfl
        refine w_cast (c2 := T8.1 - T0.1) (s2 := sg T8 - sg T0) (by rw [cp1.1] <;> rfl) (by rw [sg_cpr cp1] <;> rfl) ?_
        exact a_X4_digit_b84 E hA hX hN hml hst kr85 _ _ _ _ _ _ h (gl_cpr hgl cp1) cp1.2.2 had G hl
      · have h := oif_pos c12 h
        refine lv_aload_n hx hb dX4_digit_48 rfl (lv_at hl 1 rfl) ?_
        refine lv_iconst (v := 1) hx hb dX4_digit_49 (by decide) ?_
        refine lv_aload_n hx hb dX4_digit_50 rfl (lv_at hl 0 rfl) ?_
        obtain ⟨g13, h⟩ := oif_some h
        obtain ⟨n14, en14, h⟩ := obind_some h
        have h_n14 : n14 < T.1 := by rw [← cp1.1]; exact cp1.2.2 _ _ _ en14
        refine c_get E G l0 1 (v := .ref (ad n14)) (oO_k g13).1 (cc_o4 (oO_k g13).2) rfl (fun w h => .tail _ (iA_21 h)) (by decide) (.tail _ qA_408) rfl (by rw [en14]; rfl) dX4_digit_51 ?_
        clear en14
        refine lv_aload_n hx hb dX4_digit_54 rfl (lv_at hl 0 rfl) ?_
        obtain ⟨g15, h⟩ := oif_some h
        refine c_get E G l0 2 (oO_k g15).1 (cc_o4 (oO_k g15).2) rfl (fun w h => .tail _ (iA_21 h)) (by decide) (.tail _ qA_416) rfl rfl dX4_digit_55 ?_
        refine lv_topi (fun v16 ev16 => ?_)
        have h := elet_at ev16 h
        clear ev16
        refine lv_iconst (v := 1) hx hb dX4_digit_58 (by decide) ?_
        obtain ⟨g17, h⟩ := oif_some h
        obtain ⟨T18, eT18, h⟩ := obind_some h
        have hg2 := s_X10_add eT18
        have hrc2 := hg2.2.2 cp1.2.2
        have hT2 := s_X4_digit_b62 (s_X4_digit_b27 n) _ _ _ _ _ h
        refine q_avv (As := [.int 1, .ref (ad n14), .int v16, .int 1]) (rest := []) E G hA hX hN hml (a_X10_add l hst D cI cJ cZ cMic cSrc cSt cAI cAJ ad T8 l2 (1 : Int32) n14 v16 (1 : Int32) eT18 cp1.2.2 (by rw [cp1.1]; exact h_l2) (by rw [cp1.1]; exact h_n14)) (cwV 4 hts (gaV qA_440 qA_151 qA_152 qA_6 qA_153) rfl rfl rfl (by decide +kernel) ⟨Nat.le_of_ble_eq_true rfl, Nat.le_of_ble_eq_true rfl⟩) (oO_k g17).1 (cc_o10 (oO_k g17).2) rfl rfl hl.1 rfl (lv_room (Nat.le_of_ble_eq_true rfl)) dX4_digit_59 (cs_av hgl cp1 hg2 hT2) (fun ad2 H locs hga G => ?_)
        refine w_cast (c2 := T18.1 - T0.1) (s2 := sg T18 - sg T0) (cs_f1 hgl cp1 hg2) (cs_f2 hgl cp1 hg2) ?_
        have hl := lv_sub hl [0, 1, 2, 3] rfl
        rw [show ad l0 = ad2 l0 from (hga l0 (by rw [cp1.1]; exact h_l0)).symm] at hl
        rw [show ad l2 = ad2 l2 from (hga l2 (by rw [cp1.1]; exact h_l2)).symm] at hl
        exact a_X4_digit_b62 E hA hX hN hml hst kr85 (s_X4_digit_b27 n) ih _ _ _ _ _ _ _ _ _ h (GL.tr (gl_cpr hgl cp1) hg2) hrc2 (fun n hn => (hga n (by rw [cp1.1]; exact Nat.lt_of_lt_of_le hn hgl.1)).trans (had n hn)) (Nat.lt_of_lt_of_le (by rw [cp1.1]; exact h_l0) hg2.1) (Nat.lt_of_lt_of_le (by rw [cp1.1]; exact h_l2) hg2.1) G hl
set_option maxHeartbeats 4000000 in
set_option maxRecDepth 100000 in
theorem a_X4_digit_b22 {p : Program} {l : Launch} {e : Env} {s : State} {m : MethodId} {args : Array Value} {below : List Frame} {meth : Method} {c : Code} {Q : State → Prop} {D : va_G} {A : Nat → Prop} {cI cJ cZ cMic cSrc cSt cAI cAJ : ClassId} {ad0 : Nat → Nat} {T0 : AT} {r1 : Int32} {T1 : AT} (E : cE p c cX4_digit s m args (Cond.code yX4_digit cX4_digit 5 (some .int) :: wsA) D RX4 (CT cI cJ cZ cMic cSrc cSt cAI cAJ)) (hA : ∀ q : Nat, s.heap.size ≤ q → A q) (hX : xT A s) (hN : nX s) (hml : c.maxLocals = 5) (hst : l.stackTraces = false) (kr85 : ∀ (ad : Nat → Nat) (H : Heap) (locs : List Loc) (ls : Array Slot), (∀ n, n < T0.1 → ad n = ad0 n) → gC cI cJ cZ cMic cSrc cSt cAI cAJ D ad A s.heap H locs T1 → W p l e { frames := 4, cells := T1.1 - T0.1, slots := sg T1 - sg T0, locals := 74 } s m args below meth c H locs (T1.1 - T0.1) (sg T1 - sg T0) Q (F0 m 85 ls [.int r1])) : ∀ (T : AT) (ad : Nat → Nat) (H : Heap) (locs : List Loc) (ls : Array Slot) (l0 : Nat) (l2 : Nat), g_X4_digit_b22 T l0 l2 = some (r1, T1) → GL T0 T → RC T → (∀ n, n < T0.1 → ad n = ad0 n) → l0 < T.1 → l2 < T.1 → gC cI cJ cZ cMic cSrc cSt cAI cAJ D ad A s.heap H locs T → lv_has ls 5 [(0, .ref (ad l0)), (2, .ref (ad l2))] → W p l e { frames := 4, cells := T1.1 - T0.1, slots := sg T1 - sg T0, locals := 74 } s m args below meth c H locs (T.1 - T0.1) (sg T - sg T0) Q (F0 m 22 ls []) := by
  have hx := E.1
  have hb := E.2.1
  have hts := E.2.2.1
  have hown := E.2.2.2.1
  have hK := E.2.2.2.2
  intro T ad H locs ls l0 l2 h hgl hrc had h_l0 h_l2 G hl
  have hT1 := s_X4_digit_b22 _ _ _ h
  have hcs := cs_ok hgl hT1
  have cp0 := cpr0 hrc
  unfold g_X4_digit_b22 at h
  refine lv_iconst (v := 0) hx hb dX4_digit_22 (by decide) ?_
  refine lv_istore_n (lv' := [(3, .int 0), (0, .ref (ad l0)), (2, .ref (ad l2))]) hx hb dX4_digit_23 rfl hl (by decide) rfl (fun ls hl => ?_)
  refine lv_iconst (v := 1) hx hb dX4_digit_24 (by decide) ?_
  refine lv_istore (lv' := [(4, .int 1), (3, .int 0), (0, .ref (ad l0)), (2, .ref (ad l2))]) hx hb dX4_digit_25 hl (by decide) rfl (fun ls hl => ?_)
  have hl := lv_sub hl [2, 3, 1, 0] rfl
  refine w_cast (c2 := T.1 - T0.1) (s2 := sg T - sg T0) (by rw [cp0.1] <;> rfl) (by rw [sg_cpr cp0] <;> rfl) ?_
  exact a_X4_digit_b27 E hA hX hN hml hst kr85 _ _ _ _ _ _ _ _ _ _ h (gl_cpr hgl cp0) cp0.2.2 had (by rw [cp0.1]; exact h_l0) (by rw [cp0.1]; exact h_l2) G hl
set_option maxHeartbeats 4000000 in
set_option maxRecDepth 100000 in
theorem a_X4_digit (l : Launch) (hst : l.stackTraces = false) (D : va_G) (cI cJ cZ cMic cSrc cSt cAI cAJ : ClassId) (ad : Nat → Nat) (T : AT) (o : Nat) (a0 : Int32) (a1 : Nat) {r1 : Int32} {T1 : AT} (h : g_X4_digit T o a0 a1 = some (r1, T1)) (hrc : RC T) (h_o : o < T.1) (h_a1 : a1 < T.1) : kAi l yX4_digit (Cond.code yX4_digit cX4_digit 5 (some .int) :: wsA) 4 74 cI cJ cZ cMic cSrc cSt cAI cAJ D ad T [.ref (ad o), .int a0, .ref (ad a1)] r1 T1 := by
  intro sz
  refine Met.ofW (cc := cX4_digit) (maxL := 5) (ret := (some .int)) (by decide) rfl ?_
  intro p e s m args below meth c s₁ B hml hv
  obtain ⟨rfl, hsz, hP, hK, hD0, hX, hN⟩ := hv
  have hx := B.exec
  have hb := B.bytes
  have hr := B.returns
  have hts := atoms_spec (ws := (Cond.code yX4_digit cX4_digit 5 (some .int) :: wsA)) B.pre
  have hown : s.vm.findClass RX4 = some m.cls := findClass_of_methodNamed B.named
  have hlocks := B.notSynchronized
  subst hsz
  have hD := hD0.self (sz := s.heap.size)
  generalize hAe : va_A (cW ad T.1 (cc cI cJ cZ cMic cSrc cSt cAI cAJ ad T)) s.heap.size = A at hD hX ⊢
  have hA : ∀ q : Nat, s.heap.size ≤ q → A q := fun q h => by rw [← hAe]; exact Or.inr h
  have G : gC cI cJ cZ cMic cSrc cSt cAI cAJ D ad A s.heap s.heap [] T := ⟨hP, hD, va_S.rf⟩
  have E : cE p c cX4_digit s m ([.ref (ad o), .int a0, .ref (ad a1)] : List Value).toArray (Cond.code yX4_digit cX4_digit 5 (some .int) :: wsA) D RX4 (CT cI cJ cZ cMic cSrc cSt cAI cAJ) := ⟨hx, hb, hts, hown, hK⟩
  have hl := lv_entry ([.ref (ad o), .int a0, .ref (ad a1)]) (n := 5) (Nat.le_of_ble_eq_true rfl)
  rw [lg_entry_eq]
  generalize (lg_sl ([.ref (ad o), .int a0, .ref (ad a1)]) ++ List.replicate (5 - (lg_sl ([.ref (ad o), .int a0, .ref (ad a1)])).length) Slot.unset).toArray = ls at hl ⊢
  have hl : lv_has ls 5 [(0, .ref (ad o)), (1, .int a0), (2, .ref (ad a1))] := hl
  have hgl := GL.rf T
  have had : ∀ n, n < T.1 → ad n = ad n := fun _ _ => rfl
  have hT1 := s_X4_digit h
  have hcs := cs_ok hgl hT1
  refine w_cast (Nat.sub_self T.1).symm (Nat.sub_self (sg T)).symm ?_
  have cp0 := cpr0 hrc
  unfold g_X4_digit at h
  refine lv_aload_n hx hb dX4_digit_0 rfl (lv_at hl 2 rfl) ?_
  refine lv_iconst (v := 0) hx hb dX4_digit_1 (by decide) ?_
  obtain ⟨g2, h⟩ := oif_some h
  obtain ⟨T3, eT3, h⟩ := obind_some h
  refine q_cvv (As := [.int 0]) (rest := []) E G hA hX hN hml (u_X10_clear l hst D cI cJ cZ cMic cSrc cSt cAI cAJ ad T a1 (0 : Int32) eT3) (cwV 1 hts (gaV qA_439 qA_66 qA_67 qA_6 qA_68) rfl rfl rfl (by decide +kernel) ⟨Nat.le_of_ble_eq_true rfl, Nat.le_of_ble_eq_true rfl⟩) (oO_k g2).1 (cc_o10 (oO_k g2).2) rfl rfl hl.1 rfl (lv_room (Nat.le_of_ble_eq_true rfl)) dX4_digit_2 hcs (fun T4 H locs hq G => ?_)
  rw [hq] at G
  clear hq
  have cp1 := cpr_sp cp0 (s_X10_clear eT3)
  refine lv_aload_n hx hb dX4_digit_5 rfl (lv_at hl 2 rfl) ?_
  refine lv_iconst (v := 1) hx hb dX4_digit_6 (by decide) ?_
  obtain ⟨g5, h⟩ := oif_some h
  obtain ⟨T6, eT6, h⟩ := obind_some h
  refine q_cvv (As := [.int 1]) (rest := []) E G hA hX hN hml (u_X10_clear l hst D cI cJ cZ cMic cSrc cSt cAI cAJ ad T3 a1 (1 : Int32) eT6) (cwV 1 hts (gaV qA_439 qA_66 qA_67 qA_6 qA_68) rfl rfl rfl (by decide +kernel) ⟨Nat.le_of_ble_eq_true rfl, Nat.le_of_ble_eq_true rfl⟩) (oO_k g5).1 (cc_o10 (oO_k g5).2) rfl rfl hl.1 rfl (lv_room (Nat.le_of_ble_eq_true rfl)) dX4_digit_7 hcs (fun T7 H locs hq G => ?_)
  rw [hq] at G
  clear hq
  have cp2 := cpr_sp cp1 (s_X10_clear eT6)
  refine lv_aload_n hx hb dX4_digit_10 rfl (lv_at hl 2 rfl) ?_
  refine lv_iconst (v := 0) hx hb dX4_digit_11 (by decide) ?_
  refine lv_aload_n hx hb dX4_digit_12 rfl (lv_at hl 0 rfl) ?_
  obtain ⟨g8, h⟩ := oif_some h
  obtain ⟨n9, en9, h⟩ := obind_some h
  have h_n9 : n9 < T.1 := by rw [← cp2.1]; exact cp2.2.2 _ _ _ en9
  refine c_get E G o 1 (v := .ref (ad n9)) (oO_k g8).1 (cc_o4 (oO_k g8).2) rfl (fun w h => .tail _ (iA_21 h)) (by decide) (.tail _ qA_408) rfl (by rw [en9]; rfl) dX4_digit_13 ?_
  clear en9
  refine lv_iload_n hx hb dX4_digit_16 rfl (lv_at hl 1 rfl) ?_
  refine lv_bipush (v := 9) hx hb dX4_digit_17 (by decide) ?_
  obtain ⟨g10, h⟩ := oif_some h
  obtain ⟨T11, eT11, h⟩ := obind_some h
  have hg2 := s_X10_add eT11
  have hrc2 := hg2.2.2 cp2.2.2
  have hT2 := s_X4_digit_b22 _ _ _ h
  refine q_avv (As := [.int 0, .ref (ad n9), .int a0, .int 9]) (rest := []) E G hA hX hN hml (a_X10_add l hst D cI cJ cZ cMic cSrc cSt cAI cAJ ad T6 a1 (0 : Int32) n9 a0 (9 : Int32) eT11 cp2.2.2 (by rw [cp2.1]; exact h_a1) (by rw [cp2.1]; exact h_n9)) (cwV 4 hts (gaV qA_440 qA_151 qA_152 qA_6 qA_153) rfl rfl rfl (by decide +kernel) ⟨Nat.le_of_ble_eq_true rfl, Nat.le_of_ble_eq_true rfl⟩) (oO_k g10).1 (cc_o10 (oO_k g10).2) rfl rfl hl.1 rfl (lv_room (Nat.le_of_ble_eq_true rfl)) dX4_digit_19 (cs_av hgl cp2 hg2 hT2) (fun ad2 H locs hga G => ?_)
  refine w_cast (c2 := T11.1 - T.1) (s2 := sg T11 - sg T) (cs_f1 hgl cp2 hg2) (cs_f2 hgl cp2 hg2) ?_
  have hl := lv_sub hl [0, 2] rfl
  rw [show ad o = ad2 o from (hga o (by rw [cp2.1]; exact h_o)).symm] at hl
  rw [show ad a1 = ad2 a1 from (hga a1 (by rw [cp2.1]; exact h_a1)).symm] at hl
  exact a_X4_digit_b22 E hA hX hN hml hst (fun ad H locs ls had G => W.iret (v := r1) hx hb hr (fun t ht hW => ⟨⟨r1, (T1, ad), rfl, ⟨rfl, rfl, had⟩, ⟨by rw [ht]; exact G.1, va_K.moved hW.alike hK, G.2.1⟩⟩, G.2.2.F ht⟩) G.2.2.2.2 dX4_digit_85) _ _ _ _ _ _ _ h (GL.tr (gl_cpr hgl cp2) hg2) hrc2 (fun n hn => (hga n (by rw [cp2.1]; exact Nat.lt_of_lt_of_le hn hgl.1)).trans (had n hn)) (Nat.lt_of_lt_of_le (by rw [cp2.1]; exact h_o) hg2.1) (Nat.lt_of_lt_of_le (by rw [cp2.1]; exact h_a1) hg2.1) G hl
def g_J7_fill_53178_b5  : Nat → AT → Nat → Int32 → Int32 → Int32 → Option (AT)
  | 0, _, _, _, _, _ => none
  | n + 1, T, l0, l1, l2, l3 => if l3 ≤ l2 then (some T) else (oif (aA T l0 100 = true) <| oif (inb l2 (T.2.1 l0).2 = true) <| elet (uI T l0 l2.toNatClampNeg l1) fun T5 => elet (l2 + Int32.ofInt (1)) fun v6 => g_J7_fill_53178_b5 n T5 l0 l1 v6 l3)
set_option maxHeartbeats 4000000 in
set_option maxRecDepth 100000 in
theorem u_J7_fill_53178_b5 {p : Program} {l : Launch} {e : Env} {s : State} {m : MethodId} {args : Array Value} {below : List Frame} {meth : Method} {c : Code} {Q : State → Prop} {D : va_G} {A : Nat → Prop} {cI cJ cZ cMic cSrc cSt cAI cAJ : ClassId} {ad : Nat → Nat} {T1 : AT} (E : cE p c cJ7_fill_53178 s m args (Cond.code yJ7_fill_53178 cJ7_fill_53178 4 none :: wsA) D RJ7 (CT cI cJ cZ cMic cSrc cSt cAI cAJ)) (hA : ∀ q : Nat, s.heap.size ≤ q → A q) (hX : xT A s) (hN : nX s) (hml : c.maxLocals = 4) (hst : l.stackTraces = false) (kr20 : ∀ (H : Heap) (locs : List Loc) (ls : Array Slot), gC cI cJ cZ cMic cSrc cSt cAI cAJ D ad A s.heap H locs T1 → W p l e { frames := 1, cells := 0, slots := 0, locals := 0 } s m args below meth c H locs 0 0 Q (F0 m 20 ls [])) : ∀ n : Nat, ∀ (T : AT) (H : Heap) (locs : List Loc) (ls : Array Slot) (l0 : Nat) (l1 : Int32) (l2 : Int32) (l3 : Int32), g_J7_fill_53178_b5 n T l0 l1 l2 l3 = some T1 → gC cI cJ cZ cMic cSrc cSt cAI cAJ D ad A s.heap H locs T → lv_has ls 4 [(0, .ref (ad l0)), (1, .int l1), (2, .int l2), (3, .int l3)] → W p l e { frames := 1, cells := 0, slots := 0, locals := 0 } s m args below meth c H locs 0 0 Q (F0 m 5 ls []) := by
  have hx := E.1
  have hb := E.2.1
  have hts := E.2.2.1
  have hown := E.2.2.2.1
  have hK := E.2.2.2.2
  intro n
  induction n with
  | zero =>
    intro T H locs ls l0 l1 l2 l3 h
    have h : (none : Option (AT)) = some T1 := h
    cases h
  | succ n ih =>
    intro T H locs ls l0 l1 l2 l3 h G hl
    unfold g_J7_fill_53178_b5 at h
    refine lv_iload_n hx hb dJ7_fill_53178_5 rfl (lv_at hl 2 rfl) ?_
    refine lv_iload_n hx hb dJ7_fill_53178_6 rfl (lv_at hl 3 rfl) ?_
    refine lv_icmp_ge (tgt := 20) hx hb dJ7_fill_53178_7 (by decide) (fun c2 => ?_) (fun c2 => ?_)
    · have h := oif_pos c2 h
      rw [osome1 h] at G
      exact kr20 _ _ _ G
    · have h := oif_neg c2 h
      refine lv_aload_n hx hb dJ7_fill_53178_10 rfl (lv_at hl 0 rfl) ?_
      refine lv_iload_n hx hb dJ7_fill_53178_11 rfl (lv_at hl 2 rfl) ?_
      refine lv_iload_n hx hb dJ7_fill_53178_12 rfl (lv_at hl 1 rfl) ?_
      obtain ⟨g3, h⟩ := oif_some h
      obtain ⟨g4, h⟩ := oif_some h
      refine c_iast E G l0 0 (k := l2.toNatClampNeg) (v := l1) (aA_k g3).1 (cc_a100 (aA_k g3).2.1) rfl (inb_k g4).1 (inb_k g4).2 (aA_k g3).2.2 dJ7_fill_53178_13 (fun H locs G => ?_)
      have G := gC_up_i (f := upd (T.2.2.1 l0) l2.toNatClampNeg l1) (ccv_100 (aA_k g3).2.1) G
      obtain ⟨T5, eT5, h⟩ := elet_some h
      have G : gC cI cJ cZ cMic cSrc cSt cAI cAJ D ad A s.heap H locs T5 := by rw [eT5]; exact G
      clear eT5
      obtain ⟨v6, ev6, h⟩ := elet_some h
      refine lv_iinc (v := v6) (lv' := [(2, .int v6), (0, .ref (ad l0)), (1, .int l1), (3, .int l3)]) hx hb dJ7_fill_53178_14 hl (k := 2) rfl ev6.symm (by decide) rfl (fun ls hl => ?_)
      refine lv_goto (tgt := 5) hx hb dJ7_fill_53178_17 (by decide) ?_
      have hl := lv_sub hl [1, 2, 0, 3] rfl
      exact ih _ _ _ _ _ _ _ _ h G hl
def g_J7_fill_53178 (T : AT) (a0 : Nat) (a1 : Int32) : Option (AT) := oif (aA T a0 100 = true) <| elet (nI (T.2.1 a0).2) fun v3 => g_J7_fill_53178_b5 16384 T a0 a1 0 v3
set_option maxHeartbeats 4000000 in
set_option maxRecDepth 100000 in
theorem u_J7_fill_53178 (l : Launch) (hst : l.stackTraces = false) (D : va_G) (cI cJ cZ cMic cSrc cSt cAI cAJ : ClassId) (ad : Nat → Nat) (T : AT) (a0 : Nat) (a1 : Int32) {T1 : AT} (h : g_J7_fill_53178 T a0 a1 = some T1) : kCv l yJ7_fill_53178 (Cond.code yJ7_fill_53178 cJ7_fill_53178 4 none :: wsA) 1 0 cI cJ cZ cMic cSrc cSt cAI cAJ D ad T [.ref (ad a0), .int a1] (fun T9 => T9 = T1) := by
  intro sz
  refine Met.ofW (cc := cJ7_fill_53178) (maxL := 4) (ret := none) (by decide) rfl ?_
  intro p e s m args below meth c s₁ B hml hv
  obtain ⟨rfl, hsz, hP, hK, hD0, hX, hN⟩ := hv
  have hx := B.exec
  have hb := B.bytes
  have hr := B.returns
  have hts := atoms_spec (ws := (Cond.code yJ7_fill_53178 cJ7_fill_53178 4 none :: wsA)) B.pre
  have hown : s.vm.findClass RJ7 = some m.cls := findClass_of_methodNamed B.named
  have hlocks := B.notSynchronized
  subst hsz
  have hD := hD0.self (sz := s.heap.size)
  generalize hAe : va_A (cW ad T.1 (cc cI cJ cZ cMic cSrc cSt cAI cAJ ad T)) s.heap.size = A at hD hX ⊢
  have hA : ∀ q : Nat, s.heap.size ≤ q → A q := fun q h => by rw [← hAe]; exact Or.inr h
  have G : gC cI cJ cZ cMic cSrc cSt cAI cAJ D ad A s.heap s.heap [] T := ⟨hP, hD, va_S.rf⟩
  have E : cE p c cJ7_fill_53178 s m ([.ref (ad a0), .int a1] : List Value).toArray (Cond.code yJ7_fill_53178 cJ7_fill_53178 4 none :: wsA) D RJ7 (CT cI cJ cZ cMic cSrc cSt cAI cAJ) := ⟨hx, hb, hts, hown, hK⟩
  have hl := lv_entry ([.ref (ad a0), .int a1]) (n := 4) (Nat.le_of_ble_eq_true rfl)
  rw [lg_entry_eq]
  generalize (lg_sl ([.ref (ad a0), .int a1]) ++ List.replicate (4 - (lg_sl ([.ref (ad a0), .int a1])).length) Slot.unset).toArray = ls at hl ⊢
  have hl : lv_has ls 4 [(0, .ref (ad a0)), (1, .int a1)] := hl
  unfold g_J7_fill_53178 at h
  refine lv_iconst (v := 0) hx hb dJ7_fill_53178_0 (by decide) ?_
  refine lv_istore_n (lv' := [(2, .int 0), (0, .ref (ad a0)), (1, .int a1)]) hx hb dJ7_fill_53178_1 rfl hl (by decide) rfl (fun ls hl => ?_)
  refine lv_aload_n hx hb dJ7_fill_53178_2 rfl (lv_at hl 1 rfl) ?_
  obtain ⟨g2, h⟩ := oif_some h
  refine va_alen hx hb hK G.1 a0 0 (cW_e (aA_k g2).1 (cc_a100 (aA_k g2).2.1)) rfl (v := nI (T.2.1 a0).2) rfl dJ7_fill_53178_3 ?_
  refine lv_topi (fun v3 ev3 => ?_)
  have h := elet_at ev3 h
  clear ev3
  refine lv_istore_n (lv' := [(3, .int v3), (2, .int 0), (0, .ref (ad a0)), (1, .int a1)]) hx hb dJ7_fill_53178_4 rfl hl (by decide) rfl (fun ls hl => ?_)
  have hl := lv_sub hl [2, 3, 1, 0] rfl
  exact u_J7_fill_53178_b5 E hA hX hN hml hst (fun H locs ls G => W.vret hx hb hr (fun t ht hW => ⟨⟨T1, rfl, rfl, ⟨by rw [ht]; exact G.1, va_K.moved hW.alike hK, G.2.1⟩⟩, G.2.2.F ht⟩) G.2.2.2.2 dJ7_fill_53178_20) _ _ _ _ _ _ _ _ _ h G hl
set_option maxHeartbeats 4000000 in
set_option maxRecDepth 100000 in
theorem s_J7_fill_53178_b5 {T1 : AT} : ∀ n : Nat, ∀ (T : AT) (l0 : Nat) (l1 : Int32) (l2 : Int32) (l3 : Int32), g_J7_fill_53178_b5 n T l0 l1 l2 l3 = some T1 → SP T T1 := by
  intro n
  induction n with
  | zero =>
    intro T l0 l1 l2 l3 h
    have h : (none : Option (AT)) = some T1 := h
    cases h
  | succ n ih =>
    intro T l0 l1 l2 l3 h
    have p0 := SP.rf T
    unfold g_J7_fill_53178_b5 at h
    rcases oif_or h with ⟨c2, h⟩ | ⟨c2, h⟩
    · have h := h
      rw [← osome1 h]
      exact p0
    · have h := h
      obtain ⟨g3, h⟩ := oif_some h
      obtain ⟨g4, h⟩ := oif_some h
      obtain ⟨T5, eT5, h⟩ := elet_some h
      have p1 : SP T T5 := SP.tr p0 (by rw [eT5]; exact sp_uI)
      obtain ⟨v6, ev6, h⟩ := elet_some h
      exact SP.tr p1 (ih _ _ _ _ _ h)
set_option maxHeartbeats 4000000 in
set_option maxRecDepth 100000 in
theorem s_J7_fill_53178 {T : AT} {a0 : Nat} {a1 : Int32} {T1 : AT} (h : g_J7_fill_53178 T a0 a1 = some T1) : SP T T1 := by
  have p0 := SP.rf T
  unfold g_J7_fill_53178 at h
  obtain ⟨g2, h⟩ := oif_some h
  obtain ⟨v3, -, h⟩ := elet_some h
  exact SP.tr p0 (s_J7_fill_53178_b5 _ _ _ _ _ _ h)
def g_X5_silence_b2  : Nat → AT → Nat → Int32 → Option (AT)
  | 0, _, _, _ => none
  | n + 1, T, l0, l1 => if 12 ≤ l1 then (some T) else (oif (oO T l0 5 = true) <| obind (T.2.2.2.2 l0 0) fun n4 => oif (aA T n4 106 = true) <| oif (inb l1 (T.2.1 n4).2 = true) <| obind (T.2.2.2.2 n4 l1.toNatClampNeg) fun n7 => obind (g_J7_fill_53178 T n7 (0 : Int32)) fun T8 => elet (l1 + Int32.ofInt (1)) fun v10 => g_X5_silence_b2 n T8 l0 v10)
set_option maxHeartbeats 4000000 in
set_option maxRecDepth 100000 in
theorem u_X5_silence_b2 {p : Program} {l : Launch} {e : Env} {s : State} {m : MethodId} {args : Array Value} {below : List Frame} {meth : Method} {c : Code} {Q : State → Prop} {D : va_G} {A : Nat → Prop} {cI cJ cZ cMic cSrc cSt cAI cAJ : ClassId} {ad : Nat → Nat} {T1 : AT} (E : cE p c cX5_silence s m args (Cond.code yX5_silence cX5_silence 2 none :: wsA) D RX5 (CT cI cJ cZ cMic cSrc cSt cAI cAJ)) (hA : ∀ q : Nat, s.heap.size ≤ q → A q) (hX : xT A s) (hN : nX s) (hml : c.maxLocals = 2) (hst : l.stackTraces = false) (kr24 : ∀ (H : Heap) (locs : List Loc) (ls : Array Slot), gC cI cJ cZ cMic cSrc cSt cAI cAJ D ad A s.heap H locs T1 → W p l e { frames := 2, cells := 0, slots := 0, locals := 23 } s m args below meth c H locs 0 0 Q (F0 m 24 ls [])) : ∀ n : Nat, ∀ (T : AT) (H : Heap) (locs : List Loc) (ls : Array Slot) (l0 : Nat) (l1 : Int32), g_X5_silence_b2 n T l0 l1 = some T1 → gC cI cJ cZ cMic cSrc cSt cAI cAJ D ad A s.heap H locs T → lv_has ls 2 [(0, .ref (ad l0)), (1, .int l1)] → W p l e { frames := 2, cells := 0, slots := 0, locals := 23 } s m args below meth c H locs 0 0 Q (F0 m 2 ls []) := by
  have hx := E.1
  have hb := E.2.1
  have hts := E.2.2.1
  have hown := E.2.2.2.1
  have hK := E.2.2.2.2
  intro n
  induction n with
  | zero =>
    intro T H locs ls l0 l1 h
    have h : (none : Option (AT)) = some T1 := h
    cases h
  | succ n ih =>
    intro T H locs ls l0 l1 h G hl
    unfold g_X5_silence_b2 at h
    refine lv_iload_n hx hb dX5_silence_2 rfl (lv_at hl 1 rfl) ?_
    refine lv_bipush (v := 12) hx hb dX5_silence_3 (by decide) ?_
    refine lv_icmp_ge (tgt := 24) hx hb dX5_silence_5 (by decide) (fun c2 => ?_) (fun c2 => ?_)
    · have h := oif_pos c2 h
      rw [osome1 h] at G
      exact kr24 _ _ _ G
    · have h := oif_neg c2 h
      refine lv_aload_n hx hb dX5_silence_8 rfl (lv_at hl 0 rfl) ?_
      obtain ⟨g3, h⟩ := oif_some h
      obtain ⟨n4, en4, h⟩ := obind_some h
      refine c_get E G l0 0 (v := .ref (ad n4)) (oO_k g3).1 (cc_o5 (oO_k g3).2) rfl (fun w h => .tail _ (iA_22 h)) (by decide) (.tail _ qA_455) rfl (by rw [en4]; rfl) dX5_silence_9 ?_
      clear en4
      refine lv_iload_n hx hb dX5_silence_12 rfl (lv_at hl 1 rfl) ?_
      obtain ⟨g5, h⟩ := oif_some h
      obtain ⟨g6, h⟩ := oif_some h
      obtain ⟨n7, en7, h⟩ := obind_some h
      refine c_alda E G n4 6 (k := l1.toNatClampNeg) (v := .ref (ad n7)) (aA_k g5).1 (cc_a106 (aA_k g5).2.1) rfl (inb_k g6).1 (inb_k g6).2 (aA_k g5).2.2 (by show va_rf ((T.2.2.2.2 n4 l1.toNatClampNeg).map ad) = _; rw [en7]; rfl) dX5_silence_13 ?_
      clear en7
      refine lv_iconst (v := 0) hx hb dX5_silence_14 (by decide) ?_
      obtain ⟨T8, eT8, h⟩ := obind_some h
      refine q_csv (As := [.ref (ad n7), .int 0]) (rest := []) E G hA hX hN hml (u_J7_fill_53178 l hst D cI cJ cZ cMic cSrc cSt cAI cAJ ad T n7 (0 : Int32) eT8) ⟨callB_of 2 hts (gaC qA_480) rfl rfl rfl (hts _ (.tail _ qA_479)) (hts _ (.tail _ qA_477)) (by decide +kernel) ⟨Nat.le_of_ble_eq_true rfl, Nat.le_of_ble_eq_true rfl⟩, hts _ (.tail _ qA_478)⟩ rfl hl.1 rfl (lv_room (Nat.le_of_ble_eq_true rfl)) dX5_silence_15 ⟨Nat.zero_le _, Nat.zero_le _⟩ (fun T9 H locs hq G => ?_)
      rw [hq] at G
      clear hq eT8
      obtain ⟨v10, ev10, h⟩ := elet_some h
      refine lv_iinc (v := v10) (lv' := [(1, .int v10), (0, .ref (ad l0))]) hx hb dX5_silence_18 hl (k := 1) rfl ev10.symm (by decide) rfl (fun ls hl => ?_)
      refine lv_goto (tgt := 2) hx hb dX5_silence_21 (by decide) ?_
      have hl := lv_sub hl [1, 0] rfl
      exact ih _ _ _ _ _ _ h G hl
def g_X5_silence (T : AT) (o : Nat) : Option (AT) := g_X5_silence_b2 16384 T o 0
set_option maxHeartbeats 4000000 in
set_option maxRecDepth 100000 in
theorem u_X5_silence (l : Launch) (hst : l.stackTraces = false) (D : va_G) (cI cJ cZ cMic cSrc cSt cAI cAJ : ClassId) (ad : Nat → Nat) (T : AT) (o : Nat) {T1 : AT} (h : g_X5_silence T o = some T1) : kCv l yX5_silence (Cond.code yX5_silence cX5_silence 2 none :: wsA) 2 23 cI cJ cZ cMic cSrc cSt cAI cAJ D ad T [.ref (ad o)] (fun T9 => T9 = T1) := by
  intro sz
  refine Met.ofW (cc := cX5_silence) (maxL := 2) (ret := none) (by decide) rfl ?_
  intro p e s m args below meth c s₁ B hml hv
  obtain ⟨rfl, hsz, hP, hK, hD0, hX, hN⟩ := hv
  have hx := B.exec
  have hb := B.bytes
  have hr := B.returns
  have hts := atoms_spec (ws := (Cond.code yX5_silence cX5_silence 2 none :: wsA)) B.pre
  have hown : s.vm.findClass RX5 = some m.cls := findClass_of_methodNamed B.named
  have hlocks := B.notSynchronized
  subst hsz
  have hD := hD0.self (sz := s.heap.size)
  generalize hAe : va_A (cW ad T.1 (cc cI cJ cZ cMic cSrc cSt cAI cAJ ad T)) s.heap.size = A at hD hX ⊢
  have hA : ∀ q : Nat, s.heap.size ≤ q → A q := fun q h => by rw [← hAe]; exact Or.inr h
  have G : gC cI cJ cZ cMic cSrc cSt cAI cAJ D ad A s.heap s.heap [] T := ⟨hP, hD, va_S.rf⟩
  have E : cE p c cX5_silence s m ([.ref (ad o)] : List Value).toArray (Cond.code yX5_silence cX5_silence 2 none :: wsA) D RX5 (CT cI cJ cZ cMic cSrc cSt cAI cAJ) := ⟨hx, hb, hts, hown, hK⟩
  have hl := lv_entry ([.ref (ad o)]) (n := 2) (Nat.le_of_ble_eq_true rfl)
  rw [lg_entry_eq]
  generalize (lg_sl ([.ref (ad o)]) ++ List.replicate (2 - (lg_sl ([.ref (ad o)])).length) Slot.unset).toArray = ls at hl ⊢
  have hl : lv_has ls 2 [(0, .ref (ad o))] := hl
  unfold g_X5_silence at h
  refine lv_iconst (v := 0) hx hb dX5_silence_0 (by decide) ?_
  refine lv_istore_n (lv' := [(1, .int 0), (0, .ref (ad o))]) hx hb dX5_silence_1 rfl hl (by decide) rfl (fun ls hl => ?_)
  have hl := lv_sub hl [1, 0] rfl
  exact u_X5_silence_b2 E hA hX hN hml hst (fun H locs ls G => W.vret hx hb hr (fun t ht hW => ⟨⟨T1, rfl, rfl, ⟨by rw [ht]; exact G.1, va_K.moved hW.alike hK, G.2.1⟩⟩, G.2.2.F ht⟩) G.2.2.2.2 dX5_silence_24) _ _ _ _ _ _ _ h G hl
set_option maxHeartbeats 4000000 in
set_option maxRecDepth 100000 in
theorem s_X5_silence_b2 {T1 : AT} : ∀ n : Nat, ∀ (T : AT) (l0 : Nat) (l1 : Int32), g_X5_silence_b2 n T l0 l1 = some T1 → SP T T1 := by
  intro n
  induction n with
  | zero =>
    intro T l0 l1 h
    have h : (none : Option (AT)) = some T1 := h
    cases h
  | succ n ih =>
    intro T l0 l1 h
    have p0 := SP.rf T
    unfold g_X5_silence_b2 at h
    rcases oif_or h with ⟨c2, h⟩ | ⟨c2, h⟩
    · have h := h
      rw [← osome1 h]
      exact p0
    · have h := h
      obtain ⟨g3, h⟩ := oif_some h
      obtain ⟨n4, en4, h⟩ := obind_some h
      obtain ⟨g5, h⟩ := oif_some h
      obtain ⟨g6, h⟩ := oif_some h
      obtain ⟨n7, en7, h⟩ := obind_some h
      obtain ⟨T8, eT8, h⟩ := obind_some h
      have p1 : SP T T8 := SP.tr p0 (s_J7_fill_53178 eT8)
      obtain ⟨v10, ev10, h⟩ := elet_some h
      exact SP.tr p1 (ih _ _ _ h)
set_option maxHeartbeats 4000000 in
set_option maxRecDepth 100000 in
theorem s_X5_silence {T : AT} {o : Nat} {T1 : AT} (h : g_X5_silence T o = some T1) : SP T T1 := by
  have p0 := SP.rf T
  unfold g_X5_silence at h
  exact SP.tr p0 (s_X5_silence_b2 _ _ _ _ h)
def g_X5_raw_b49  (T : AT) (s0 : Int32) : Option (Int32 × AT) := some (s0, T)
set_option maxHeartbeats 4000000 in
set_option maxRecDepth 100000 in
theorem u_X5_raw_b49 {p : Program} {l : Launch} {e : Env} {s : State} {m : MethodId} {args : Array Value} {below : List Frame} {meth : Method} {c : Code} {Q : State → Prop} {D : va_G} {A : Nat → Prop} {cI cJ cZ cMic cSrc cSt cAI cAJ : ClassId} {ad : Nat → Nat} {r1 : Int32} {T1 : AT} (E : cE p c cX5_raw s m args (Cond.code yX5_raw cX5_raw 5 (some .int) :: wsA) D RX5 (CT cI cJ cZ cMic cSrc cSt cAI cAJ)) (hA : ∀ q : Nat, s.heap.size ≤ q → A q) (hX : xT A s) (hN : nX s) (hml : c.maxLocals = 5) (hst : l.stackTraces = false) (kr49 : ∀ (H : Heap) (locs : List Loc) (ls : Array Slot), gC cI cJ cZ cMic cSrc cSt cAI cAJ D ad A s.heap H locs T1 → W p l e { frames := 1, cells := 0, slots := 0, locals := 0 } s m args below meth c H locs 0 0 Q (F0 m 49 ls [.int r1])) : ∀ (T : AT) (H : Heap) (locs : List Loc) (ls : Array Slot) (s0 : Int32), g_X5_raw_b49 T s0 = some (r1, T1) → gC cI cJ cZ cMic cSrc cSt cAI cAJ D ad A s.heap H locs T → lv_has ls 5 [] → W p l e { frames := 1, cells := 0, slots := 0, locals := 0 } s m args below meth c H locs 0 0 Q (F0 m 49 ls [.int s0]) := by
  have hx := E.1
  have hb := E.2.1
  have hts := E.2.2.1
  have hown := E.2.2.2.1
  have hK := E.2.2.2.2
  intro T H locs ls s0 h G hl
  unfold g_X5_raw_b49 at h
  rw [(osome2 h).2] at G
  refine lv_to (osome2 h).1 ?_
  exact kr49 _ _ _ G
def g_X5_raw_b48  (T : AT)  : Option (Int32 × AT) := g_X5_raw_b49 T 0
set_option maxHeartbeats 4000000 in
set_option maxRecDepth 100000 in
theorem u_X5_raw_b48 {p : Program} {l : Launch} {e : Env} {s : State} {m : MethodId} {args : Array Value} {below : List Frame} {meth : Method} {c : Code} {Q : State → Prop} {D : va_G} {A : Nat → Prop} {cI cJ cZ cMic cSrc cSt cAI cAJ : ClassId} {ad : Nat → Nat} {r1 : Int32} {T1 : AT} (E : cE p c cX5_raw s m args (Cond.code yX5_raw cX5_raw 5 (some .int) :: wsA) D RX5 (CT cI cJ cZ cMic cSrc cSt cAI cAJ)) (hA : ∀ q : Nat, s.heap.size ≤ q → A q) (hX : xT A s) (hN : nX s) (hml : c.maxLocals = 5) (hst : l.stackTraces = false) (kr49 : ∀ (H : Heap) (locs : List Loc) (ls : Array Slot), gC cI cJ cZ cMic cSrc cSt cAI cAJ D ad A s.heap H locs T1 → W p l e { frames := 1, cells := 0, slots := 0, locals := 0 } s m args below meth c H locs 0 0 Q (F0 m 49 ls [.int r1])) : ∀ (T : AT) (H : Heap) (locs : List Loc) (ls : Array Slot), g_X5_raw_b48 T = some (r1, T1) → gC cI cJ cZ cMic cSrc cSt cAI cAJ D ad A s.heap H locs T → lv_has ls 5 [] → W p l e { frames := 1, cells := 0, slots := 0, locals := 0 } s m args below meth c H locs 0 0 Q (F0 m 48 ls []) := by
  have hx := E.1
  have hb := E.2.1
  have hts := E.2.2.1
  have hown := E.2.2.2.1
  have hK := E.2.2.2.2
  intro T H locs ls h G hl
  unfold g_X5_raw_b48 at h
  refine lv_iconst (v := 0) hx hb dX5_raw_48 (by decide) ?_
  have hl := lv_sub hl [] rfl
  exact u_X5_raw_b49 E hA hX hN hml hst kr49 _ _ _ _ _ h G hl
def g_X5_raw (T : AT) (o : Nat) (a0 : Nat) (a1 : Int32) (a2 : Int32) : Option (Int32 × AT) := oif (oO T a0 6 = true) <| obind (T.2.2.2.2 a0 4) fun n3 => oif (aA T n3 103 = true) <| oif (inb a1 (T.2.1 n3).2 = true) <| obind (T.2.2.2.2 n3 a1.toNatClampNeg) fun n6 => oif (oO T n6 2 = true) <| elet (T.2.2.1 n6 3) fun v8 => elet (a2 - v8) fun v9 => if v9 < 0 then (g_X5_raw_b48 T) else (if 200 ≤ v9 then (g_X5_raw_b48 T) else (oif (oO T a0 6 = true) <| obind (T.2.2.2.2 a0 4) fun n13 => oif (aA T n13 103 = true) <| oif (inb a1 (T.2.1 n13).2 = true) <| obind (T.2.2.2.2 n13 a1.toNatClampNeg) fun n16 => oif (oO T n16 2 = true) <| elet (T.2.2.1 n16 2) fun v18 => oif (oO T o 5 = true) <| obind (T.2.2.2.2 o 0) fun n20 => oif (aA T n20 106 = true) <| oif (inb a1 (T.2.1 n20).2 = true) <| obind (T.2.2.2.2 n20 a1.toNatClampNeg) fun n23 => oif (aA T n23 100 = true) <| oif (inb v9 (T.2.1 n23).2 = true) <| elet (T.2.2.1 n23 v9.toNatClampNeg) fun v26 => elet (v18 * v26) fun v27 => g_X5_raw_b49 T v27))
set_option maxHeartbeats 4000000 in
set_option maxRecDepth 100000 in
theorem u_X5_raw (l : Launch) (hst : l.stackTraces = false) (D : va_G) (cI cJ cZ cMic cSrc cSt cAI cAJ : ClassId) (ad : Nat → Nat) (T : AT) (o : Nat) (a0 : Nat) (a1 : Int32) (a2 : Int32) {r1 : Int32} {T1 : AT} (h : g_X5_raw T o a0 a1 a2 = some (r1, T1)) : kCi l yX5_raw (Cond.code yX5_raw cX5_raw 5 (some .int) :: wsA) 1 0 cI cJ cZ cMic cSrc cSt cAI cAJ D ad T [.ref (ad o), .ref (ad a0), .int a1, .int a2] (fun r T9 => r = r1 ∧ T9 = T1) := by
  intro sz
  refine Met.ofW (cc := cX5_raw) (maxL := 5) (ret := (some .int)) (by decide) rfl ?_
  intro p e s m args below meth c s₁ B hml hv
  obtain ⟨rfl, hsz, hP, hK, hD0, hX, hN⟩ := hv
  have hx := B.exec
  have hb := B.bytes
  have hr := B.returns
  have hts := atoms_spec (ws := (Cond.code yX5_raw cX5_raw 5 (some .int) :: wsA)) B.pre
  have hown : s.vm.findClass RX5 = some m.cls := findClass_of_methodNamed B.named
  have hlocks := B.notSynchronized
  subst hsz
  have hD := hD0.self (sz := s.heap.size)
  generalize hAe : va_A (cW ad T.1 (cc cI cJ cZ cMic cSrc cSt cAI cAJ ad T)) s.heap.size = A at hD hX ⊢
  have hA : ∀ q : Nat, s.heap.size ≤ q → A q := fun q h => by rw [← hAe]; exact Or.inr h
  have G : gC cI cJ cZ cMic cSrc cSt cAI cAJ D ad A s.heap s.heap [] T := ⟨hP, hD, va_S.rf⟩
  have E : cE p c cX5_raw s m ([.ref (ad o), .ref (ad a0), .int a1, .int a2] : List Value).toArray (Cond.code yX5_raw cX5_raw 5 (some .int) :: wsA) D RX5 (CT cI cJ cZ cMic cSrc cSt cAI cAJ) := ⟨hx, hb, hts, hown, hK⟩
  have hl := lv_entry ([.ref (ad o), .ref (ad a0), .int a1, .int a2]) (n := 5) (Nat.le_of_ble_eq_true rfl)
  rw [lg_entry_eq]
  generalize (lg_sl ([.ref (ad o), .ref (ad a0), .int a1, .int a2]) ++ List.replicate (5 - (lg_sl ([.ref (ad o), .ref (ad a0), .int a1, .int a2])).length) Slot.unset).toArray = ls at hl ⊢
  have hl : lv_has ls 5 [(0, .ref (ad o)), (1, .ref (ad a0)), (2, .int a1), (3, .int a2)] := hl
  unfold g_X5_raw at h
  refine lv_iload_n hx hb dX5_raw_0 rfl (lv_at hl 3 rfl) ?_
  refine lv_aload_n hx hb dX5_raw_1 rfl (lv_at hl 1 rfl) ?_
  obtain ⟨g2, h⟩ := oif_some h
  obtain ⟨n3, en3, h⟩ := obind_some h
  refine c_get E G a0 4 (v := .ref (ad n3)) (oO_k g2).1 (cc_o6 (oO_k g2).2) rfl (fun w h => .tail _ (iA_14 h)) (by decide) (.tail _ qA_488) rfl (by rw [en3]; rfl) dX5_raw_2 ?_
  clear en3
  refine lv_iload_n hx hb dX5_raw_5 rfl (lv_at hl 2 rfl) ?_
  obtain ⟨g4, h⟩ := oif_some h
  obtain ⟨g5, h⟩ := oif_some h
  obtain ⟨n6, en6, h⟩ := obind_some h
  refine c_aldq E G n3 3 (k := a1.toNatClampNeg) (v := .ref (ad n6)) (aA_k g4).1 (cc_a103 (aA_k g4).2.1) rfl (inb_k g5).1 (inb_k g5).2 (aA_k g4).2.2 (by show va_rf ((T.2.2.2.2 n3 a1.toNatClampNeg).map ad) = _; rw [en6]; rfl) dX5_raw_6 ?_
  clear en6
  obtain ⟨g7, h⟩ := oif_some h
  refine c_get E G n6 3 (oO_k g7).1 (cc_o2 (oO_k g7).2) rfl (fun w h => .tail _ (iA_19 h)) (by decide) (.tail _ qA_539) rfl rfl dX5_raw_7 ?_
  refine lv_topi (fun v8 ev8 => ?_)
  have h := elet_at ev8 h
  clear ev8
  refine lv_isub hx hb dX5_raw_10 ?_
  refine lv_topi (fun v9 ev9 => ?_)
  have h := elet_at ev9 h
  clear ev9
  refine lv_istore (lv' := [(4, .int v9), (0, .ref (ad o)), (1, .ref (ad a0)), (2, .int a1), (3, .int a2)]) hx hb dX5_raw_11 hl (by decide) rfl (fun ls hl => ?_)
  refine lv_iload hx hb dX5_raw_13 (lv_at hl 0 rfl) ?_
  refine lv_if_lt (tgt := 48) hx hb dX5_raw_15 (by decide) (fun c10 => ?_) (fun c10 => ?_)
  · have h := oif_pos c10 h
    have hl := lv_sub hl [] rfl
    exact u_X5_raw_b48 E hA hX hN hml hst (fun H locs ls G => W.iret (v := r1) hx hb hr (fun t ht hW => ⟨⟨r1, T1, rfl, ⟨rfl, rfl⟩, ⟨by rw [ht]; exact G.1, va_K.moved hW.alike hK, G.2.1⟩⟩, G.2.2.F ht⟩) G.2.2.2.2 dX5_raw_49) _ _ _ _ h G hl
  · have h := oif_neg c10 h
    refine lv_iload hx hb dX5_raw_18 (lv_at hl 0 rfl) ?_
    refine lv_sipush (v := 200) hx hb dX5_raw_20 (by decide) ?_
    refine lv_icmp_ge (tgt := 48) hx hb dX5_raw_23 (by decide) (fun c11 => ?_) (fun c11 => ?_)
    · have h := oif_pos c11 h
      have hl := lv_sub hl [] rfl
      exact u_X5_raw_b48 E hA hX hN hml hst (fun H locs ls G => W.iret (v := r1) hx hb hr (fun t ht hW => ⟨⟨r1, T1, rfl, ⟨rfl, rfl⟩, ⟨by rw [ht]; exact G.1, va_K.moved hW.alike hK, G.2.1⟩⟩, G.2.2.F ht⟩) G.2.2.2.2 dX5_raw_49) _ _ _ _ h G hl
    · have h := oif_neg c11 h
      refine lv_aload_n hx hb dX5_raw_26 rfl (lv_at hl 2 rfl) ?_
      obtain ⟨g12, h⟩ := oif_some h
      obtain ⟨n13, en13, h⟩ := obind_some h
      refine c_get E G a0 4 (v := .ref (ad n13)) (oO_k g12).1 (cc_o6 (oO_k g12).2) rfl (fun w h => .tail _ (iA_14 h)) (by decide) (.tail _ qA_488) rfl (by rw [en13]; rfl) dX5_raw_27 ?_
      clear en13
      refine lv_iload_n hx hb dX5_raw_30 rfl (lv_at hl 3 rfl) ?_
      obtain ⟨g14, h⟩ := oif_some h
      obtain ⟨g15, h⟩ := oif_some h
      obtain ⟨n16, en16, h⟩ := obind_some h
      refine c_aldq E G n13 3 (k := a1.toNatClampNeg) (v := .ref (ad n16)) (aA_k g14).1 (cc_a103 (aA_k g14).2.1) rfl (inb_k g15).1 (inb_k g15).2 (aA_k g14).2.2 (by show va_rf ((T.2.2.2.2 n13 a1.toNatClampNeg).map ad) = _; rw [en16]; rfl) dX5_raw_31 ?_
      clear en16
      obtain ⟨g17, h⟩ := oif_some h
      refine c_get E G n16 2 (oO_k g17).1 (cc_o2 (oO_k g17).2) rfl (fun w h => .tail _ (iA_19 h)) (by decide) (.tail _ qA_540) rfl rfl dX5_raw_32 ?_
      refine lv_topi (fun v18 ev18 => ?_)
      have h := elet_at ev18 h
      clear ev18
      refine lv_aload_n hx hb dX5_raw_35 rfl (lv_at hl 1 rfl) ?_
      obtain ⟨g19, h⟩ := oif_some h
      obtain ⟨n20, en20, h⟩ := obind_some h
      refine c_get E G o 0 (v := .ref (ad n20)) (oO_k g19).1 (cc_o5 (oO_k g19).2) rfl (fun w h => .tail _ (iA_22 h)) (by decide) (.tail _ qA_455) rfl (by rw [en20]; rfl) dX5_raw_36 ?_
      clear en20
      refine lv_iload_n hx hb dX5_raw_39 rfl (lv_at hl 3 rfl) ?_
      obtain ⟨g21, h⟩ := oif_some h
      obtain ⟨g22, h⟩ := oif_some h
      obtain ⟨n23, en23, h⟩ := obind_some h
      refine c_alda E G n20 6 (k := a1.toNatClampNeg) (v := .ref (ad n23)) (aA_k g21).1 (cc_a106 (aA_k g21).2.1) rfl (inb_k g22).1 (inb_k g22).2 (aA_k g21).2.2 (by show va_rf ((T.2.2.2.2 n20 a1.toNatClampNeg).map ad) = _; rw [en23]; rfl) dX5_raw_40 ?_
      clear en23
      refine lv_iload hx hb dX5_raw_41 (lv_at hl 0 rfl) ?_
      obtain ⟨g24, h⟩ := oif_some h
      obtain ⟨g25, h⟩ := oif_some h
      refine c_iald E G n23 0 (k := v9.toNatClampNeg) (aA_k g24).1 (cc_a100 (aA_k g24).2.1) rfl (inb_k g25).1 (inb_k g25).2 (aA_k g24).2.2 dX5_raw_43 ?_
      refine lv_topi (fun v26 ev26 => ?_)
      have h := elet_at ev26 h
      clear ev26
      refine lv_imul hx hb dX5_raw_44 ?_
      refine lv_topi (fun v27 ev27 => ?_)
      have h := elet_at ev27 h
      clear ev27
      refine lv_goto (tgt := 49) hx hb dX5_raw_45 (by decide) ?_
      have hl := lv_sub hl [] rfl
      exact u_X5_raw_b49 E hA hX hN hml hst (fun H locs ls G => W.iret (v := r1) hx hb hr (fun t ht hW => ⟨⟨r1, T1, rfl, ⟨rfl, rfl⟩, ⟨by rw [ht]; exact G.1, va_K.moved hW.alike hK, G.2.1⟩⟩, G.2.2.F ht⟩) G.2.2.2.2 dX5_raw_49) _ _ _ _ _ h G hl
set_option maxHeartbeats 4000000 in
set_option maxRecDepth 100000 in
theorem s_X5_raw_b49 {r1 : Int32} {T1 : AT} : ∀ (T : AT) (s0 : Int32), g_X5_raw_b49 T s0 = some (r1, T1) → SP T T1 := by
  intro T s0 h
  have p0 := SP.rf T
  unfold g_X5_raw_b49 at h
  rw [← (osome2 h).2]
  exact p0
set_option maxHeartbeats 4000000 in
set_option maxRecDepth 100000 in
theorem s_X5_raw_b48 {r1 : Int32} {T1 : AT} : ∀ (T : AT), g_X5_raw_b48 T = some (r1, T1) → SP T T1 := by
  intro T h
  have p0 := SP.rf T
  unfold g_X5_raw_b48 at h
  exact SP.tr p0 (s_X5_raw_b49 _ _ h)
set_option maxHeartbeats 4000000 in
set_option maxRecDepth 100000 in
theorem s_X5_raw {T : AT} {o : Nat} {a0 : Nat} {a1 : Int32} {a2 : Int32} {r1 : Int32} {T1 : AT} (h : g_X5_raw T o a0 a1 a2 = some (r1, T1)) : SP T T1 := by
  have p0 := SP.rf T
  unfold g_X5_raw at h
  obtain ⟨g2, h⟩ := oif_some h
  obtain ⟨n3, en3, h⟩ := obind_some h
  obtain ⟨g4, h⟩ := oif_some h
  obtain ⟨g5, h⟩ := oif_some h
  obtain ⟨n6, en6, h⟩ := obind_some h
  obtain ⟨g7, h⟩ := oif_some h
  obtain ⟨v8, -, h⟩ := elet_some h
  obtain ⟨v9, -, h⟩ := elet_some h
  rcases oif_or h with ⟨c10, h⟩ | ⟨c10, h⟩
  · have h := h
    exact SP.tr p0 (s_X5_raw_b48 _ h)
  · have h := h
    rcases oif_or h with ⟨c11, h⟩ | ⟨c11, h⟩
    · have h := h
      exact SP.tr p0 (s_X5_raw_b48 _ h)
    · have h := h
      obtain ⟨g12, h⟩ := oif_some h
      obtain ⟨n13, en13, h⟩ := obind_some h
      obtain ⟨g14, h⟩ := oif_some h
      obtain ⟨g15, h⟩ := oif_some h
      obtain ⟨n16, en16, h⟩ := obind_some h
      obtain ⟨g17, h⟩ := oif_some h
      obtain ⟨v18, -, h⟩ := elet_some h
      obtain ⟨g19, h⟩ := oif_some h
      obtain ⟨n20, en20, h⟩ := obind_some h
      obtain ⟨g21, h⟩ := oif_some h
      obtain ⟨g22, h⟩ := oif_some h
      obtain ⟨n23, en23, h⟩ := obind_some h
      obtain ⟨g24, h⟩ := oif_some h
      obtain ⟨g25, h⟩ := oif_some h
      obtain ⟨v26, -, h⟩ := elet_some h
      obtain ⟨v27, -, h⟩ := elet_some h
      exact SP.tr p0 (s_X5_raw_b49 _ _ h)
def g_X5_filtered_b6  : Nat → AT → Nat → Nat → Int32 → Int32 → Int32 → Int32 → Option (Int32 × AT)
  | 0, _, _, _, _, _, _, _ => none
  | n + 1, T, l0, l1, l2, l3, l4, l5 => oif (oO T l1 6 = true) <| elet (T.2.2.1 l1 14) fun v3 => if v3 ≤ l5 then (some (l4, T)) else (oif (oO T l1 6 = true) <| obind (T.2.2.2.2 l1 13) fun n6 => oif (aA T n6 100 = true) <| oif (inb l5 (T.2.1 n6).2 = true) <| elet (T.2.2.1 n6 l5.toNatClampNeg) fun v9 => elet (l3 - l5) fun v10 => oif (oO T l0 5 = true) <| obind2 (g_X5_raw T l0 l1 l2 v10) fun r14 T12 => elet (v9 * r14) fun v16 => elet (l4 + v16) fun v17 => elet (l5 + Int32.ofInt (1)) fun v18 => g_X5_filtered_b6 n T12 l0 l1 l2 l3 v17 v18)
set_option maxHeartbeats 4000000 in
set_option maxRecDepth 100000 in
theorem u_X5_filtered_b6 {p : Program} {l : Launch} {e : Env} {s : State} {m : MethodId} {args : Array Value} {below : List Frame} {meth : Method} {c : Code} {Q : State → Prop} {D : va_G} {A : Nat → Prop} {cI cJ cZ cMic cSrc cSt cAI cAJ : ClassId} {ad : Nat → Nat} {r1 : Int32} {T1 : AT} (E : cE p c cX5_filtered s m args (Cond.code yX5_filtered cX5_filtered 6 (some .int) :: wsA) D RX5 (CT cI cJ cZ cMic cSrc cSt cAI cAJ)) (hA : ∀ q : Nat, s.heap.size ≤ q → A q) (hX : xT A s) (hN : nX s) (hml : c.maxLocals = 6) (hst : l.stackTraces = false) (kr46 : ∀ (H : Heap) (locs : List Loc) (ls : Array Slot), gC cI cJ cZ cMic cSrc cSt cAI cAJ D ad A s.heap H locs T1 → W p l e { frames := 2, cells := 0, slots := 0, locals := 24 } s m args below meth c H locs 0 0 Q (F0 m 46 ls [.int r1])) : ∀ n : Nat, ∀ (T : AT) (H : Heap) (locs : List Loc) (ls : Array Slot) (l0 : Nat) (l1 : Nat) (l2 : Int32) (l3 : Int32) (l4 : Int32) (l5 : Int32), g_X5_filtered_b6 n T l0 l1 l2 l3 l4 l5 = some (r1, T1) → gC cI cJ cZ cMic cSrc cSt cAI cAJ D ad A s.heap H locs T → lv_has ls 6 [(0, .ref (ad l0)), (1, .ref (ad l1)), (2, .int l2), (3, .int l3), (4, .int l4), (5, .int l5)] → W p l e { frames := 2, cells := 0, slots := 0, locals := 24 } s m args below meth c H locs 0 0 Q (F0 m 6 ls []) := by
  have hx := E.1
  have hb := E.2.1
  have hts := E.2.2.1
  have hown := E.2.2.2.1
  have hK := E.2.2.2.2
  intro n
  induction n with
  | zero =>
    intro T H locs ls l0 l1 l2 l3 l4 l5 h
    have h : (none : Option (Int32 × AT)) = some (r1, T1) := h
    cases h
  | succ n ih =>
    intro T H locs ls l0 l1 l2 l3 l4 l5 h G hl
    unfold g_X5_filtered_b6 at h
    refine lv_iload hx hb dX5_filtered_6 (lv_at hl 5 rfl) ?_
    refine lv_aload_n hx hb dX5_filtered_8 rfl (lv_at hl 1 rfl) ?_
    obtain ⟨g2, h⟩ := oif_some h
    refine c_get E G l1 14 (oO_k g2).1 (cc_o6 (oO_k g2).2) rfl (fun w h => .tail _ (iA_14 h)) (by decide) (.tail _ qA_524) rfl rfl dX5_filtered_9 ?_
    refine lv_topi (fun v3 ev3 => ?_)
    have h := elet_at ev3 h
    clear ev3
    refine lv_icmp_ge (tgt := 44) hx hb dX5_filtered_12 (by decide) (fun c4 => ?_) (fun c4 => ?_)
    · have h := oif_pos c4 h
      refine lv_iload hx hb dX5_filtered_44 (lv_at hl 4 rfl) ?_
      rw [(osome2 h).2] at G
      refine lv_to (osome2 h).1 ?_
      exact kr46 _ _ _ G
    · have h := oif_neg c4 h
      refine lv_iload hx hb dX5_filtered_15 (lv_at hl 4 rfl) ?_
      refine lv_aload_n hx hb dX5_filtered_17 rfl (lv_at hl 1 rfl) ?_
      obtain ⟨g5, h⟩ := oif_some h
      obtain ⟨n6, en6, h⟩ := obind_some h
      refine c_get E G l1 13 (v := .ref (ad n6)) (oO_k g5).1 (cc_o6 (oO_k g5).2) rfl (fun w h => .tail _ (iA_14 h)) (by decide) (.tail _ qA_534) rfl (by rw [en6]; rfl) dX5_filtered_18 ?_
      clear en6
      refine lv_iload hx hb dX5_filtered_21 (lv_at hl 5 rfl) ?_
      obtain ⟨g7, h⟩ := oif_some h
      obtain ⟨g8, h⟩ := oif_some h
      refine c_iald E G n6 0 (k := l5.toNatClampNeg) (aA_k g7).1 (cc_a100 (aA_k g7).2.1) rfl (inb_k g8).1 (inb_k g8).2 (aA_k g7).2.2 dX5_filtered_23 ?_
      refine lv_topi (fun v9 ev9 => ?_)
      have h := elet_at ev9 h
      clear ev9
      refine lv_aload_n hx hb dX5_filtered_24 rfl (lv_at hl 0 rfl) ?_
      refine lv_aload_n hx hb dX5_filtered_25 rfl (lv_at hl 1 rfl) ?_
      refine lv_iload_n hx hb dX5_filtered_26 rfl (lv_at hl 2 rfl) ?_
      refine lv_iload_n hx hb dX5_filtered_27 rfl (lv_at hl 3 rfl) ?_
      refine lv_iload hx hb dX5_filtered_28 (lv_at hl 5 rfl) ?_
      refine lv_isub hx hb dX5_filtered_30 ?_
      refine lv_topi (fun v10 ev10 => ?_)
      have h := elet_at ev10 h
      clear ev10
      obtain ⟨g11, h⟩ := oif_some h
      obtain ⟨r14, T12, eT12, h⟩ := obind2_some h
      refine q_cvi (As := [.ref (ad l1), .int l2, .int v10]) (rest := [.int v9, .int l4]) E G hA hX hN hml (u_X5_raw l hst D cI cJ cZ cMic cSrc cSt cAI cAJ ad T l0 l1 l2 v10 eT12) (cwV 3 hts (gaV qA_535 qA_536 qA_537 qA_475 qA_538) rfl rfl rfl (by decide +kernel) ⟨Nat.le_of_ble_eq_true rfl, Nat.le_of_ble_eq_true rfl⟩) (oO_k g11).1 (cc_o5 (oO_k g11).2) rfl rfl hl.1 rfl (lv_room (Nat.le_of_ble_eq_true rfl)) dX5_filtered_31 ⟨Nat.zero_le _, Nat.zero_le _⟩ (fun q15 T13 H locs hq G => ?_)
      obtain ⟨hq1, hq2⟩ := hq
      rw [hq2] at G
      refine lv_to hq1 ?_
      clear hq1 hq2 eT12
      refine lv_imul hx hb dX5_filtered_34 ?_
      refine lv_topi (fun v16 ev16 => ?_)
      have h := elet_at ev16 h
      clear ev16
      refine lv_iadd hx hb dX5_filtered_35 ?_
      refine lv_topi (fun v17 ev17 => ?_)
      have h := elet_at ev17 h
      clear ev17
      refine lv_istore (lv' := [(4, .int v17), (0, .ref (ad l0)), (1, .ref (ad l1)), (2, .int l2), (3, .int l3), (5, .int l5)]) hx hb dX5_filtered_36 hl (by decide) rfl (fun ls hl => ?_)
      obtain ⟨v18, ev18, h⟩ := elet_some h
      refine lv_iinc (v := v18) (lv' := [(5, .int v18), (4, .int v17), (0, .ref (ad l0)), (1, .ref (ad l1)), (2, .int l2), (3, .int l3)]) hx hb dX5_filtered_38 hl (k := 5) rfl ev18.symm (by decide) rfl (fun ls hl => ?_)
      refine lv_goto (tgt := 6) hx hb dX5_filtered_41 (by decide) ?_
      have hl := lv_sub hl [2, 3, 4, 5, 1, 0] rfl
      exact ih _ _ _ _ _ _ _ _ _ _ h G hl
def g_X5_filtered (T : AT) (o : Nat) (a0 : Nat) (a1 : Int32) (a2 : Int32) : Option (Int32 × AT) := g_X5_filtered_b6 16384 T o a0 a1 a2 0 0
set_option maxHeartbeats 4000000 in
set_option maxRecDepth 100000 in
theorem u_X5_filtered (l : Launch) (hst : l.stackTraces = false) (D : va_G) (cI cJ cZ cMic cSrc cSt cAI cAJ : ClassId) (ad : Nat → Nat) (T : AT) (o : Nat) (a0 : Nat) (a1 : Int32) (a2 : Int32) {r1 : Int32} {T1 : AT} (h : g_X5_filtered T o a0 a1 a2 = some (r1, T1)) : kCi l yX5_filtered (Cond.code yX5_filtered cX5_filtered 6 (some .int) :: wsA) 2 24 cI cJ cZ cMic cSrc cSt cAI cAJ D ad T [.ref (ad o), .ref (ad a0), .int a1, .int a2] (fun r T9 => r = r1 ∧ T9 = T1) := by
  intro sz
  refine Met.ofW (cc := cX5_filtered) (maxL := 6) (ret := (some .int)) (by decide) rfl ?_
  intro p e s m args below meth c s₁ B hml hv
  obtain ⟨rfl, hsz, hP, hK, hD0, hX, hN⟩ := hv
  have hx := B.exec
  have hb := B.bytes
  have hr := B.returns
  have hts := atoms_spec (ws := (Cond.code yX5_filtered cX5_filtered 6 (some .int) :: wsA)) B.pre
  have hown : s.vm.findClass RX5 = some m.cls := findClass_of_methodNamed B.named
  have hlocks := B.notSynchronized
  subst hsz
  have hD := hD0.self (sz := s.heap.size)
  generalize hAe : va_A (cW ad T.1 (cc cI cJ cZ cMic cSrc cSt cAI cAJ ad T)) s.heap.size = A at hD hX ⊢
  have hA : ∀ q : Nat, s.heap.size ≤ q → A q := fun q h => by rw [← hAe]; exact Or.inr h
  have G : gC cI cJ cZ cMic cSrc cSt cAI cAJ D ad A s.heap s.heap [] T := ⟨hP, hD, va_S.rf⟩
  have E : cE p c cX5_filtered s m ([.ref (ad o), .ref (ad a0), .int a1, .int a2] : List Value).toArray (Cond.code yX5_filtered cX5_filtered 6 (some .int) :: wsA) D RX5 (CT cI cJ cZ cMic cSrc cSt cAI cAJ) := ⟨hx, hb, hts, hown, hK⟩
  have hl := lv_entry ([.ref (ad o), .ref (ad a0), .int a1, .int a2]) (n := 6) (Nat.le_of_ble_eq_true rfl)
  rw [lg_entry_eq]
  generalize (lg_sl ([.ref (ad o), .ref (ad a0), .int a1, .int a2]) ++ List.replicate (6 - (lg_sl ([.ref (ad o), .ref (ad a0), .int a1, .int a2])).length) Slot.unset).toArray = ls at hl ⊢
  have hl : lv_has ls 6 [(0, .ref (ad o)), (1, .ref (ad a0)), (2, .int a1), (3, .int a2)] := hl
  unfold g_X5_filtered at h
  refine lv_iconst (v := 0) hx hb dX5_filtered_0 (by decide) ?_
  refine lv_istore (lv' := [(4, .int 0), (0, .ref (ad o)), (1, .ref (ad a0)), (2, .int a1), (3, .int a2)]) hx hb dX5_filtered_1 hl (by decide) rfl (fun ls hl => ?_)
  refine lv_iconst (v := 0) hx hb dX5_filtered_3 (by decide) ?_
  refine lv_istore (lv' := [(5, .int 0), (4, .int 0), (0, .ref (ad o)), (1, .ref (ad a0)), (2, .int a1), (3, .int a2)]) hx hb dX5_filtered_4 hl (by decide) rfl (fun ls hl => ?_)
  have hl := lv_sub hl [2, 3, 4, 5, 1, 0] rfl
  exact u_X5_filtered_b6 E hA hX hN hml hst (fun H locs ls G => W.iret (v := r1) hx hb hr (fun t ht hW => ⟨⟨r1, T1, rfl, ⟨rfl, rfl⟩, ⟨by rw [ht]; exact G.1, va_K.moved hW.alike hK, G.2.1⟩⟩, G.2.2.F ht⟩) G.2.2.2.2 dX5_filtered_46) _ _ _ _ _ _ _ _ _ _ _ h G hl
set_option maxHeartbeats 4000000 in
set_option maxRecDepth 100000 in
theorem s_X5_filtered_b6 {r1 : Int32} {T1 : AT} : ∀ n : Nat, ∀ (T : AT) (l0 : Nat) (l1 : Nat) (l2 : Int32) (l3 : Int32) (l4 : Int32) (l5 : Int32), g_X5_filtered_b6 n T l0 l1 l2 l3 l4 l5 = some (r1, T1) → SP T T1 := by
  intro n
  induction n with
  | zero =>
    intro T l0 l1 l2 l3 l4 l5 h
    have h : (none : Option (Int32 × AT)) = some (r1, T1) := h
    cases h
  | succ n ih =>
    intro T l0 l1 l2 l3 l4 l5 h
    have p0 := SP.rf T
    unfold g_X5_filtered_b6 at h
    obtain ⟨g2, h⟩ := oif_some h
    obtain ⟨v3, -, h⟩ := elet_some h
    rcases oif_or h with ⟨c4, h⟩ | ⟨c4, h⟩
    · have h := h
      rw [← (osome2 h).2]
      exact p0
    · have h := h
      obtain ⟨g5, h⟩ := oif_some h
      obtain ⟨n6, en6, h⟩ := obind_some h
      obtain ⟨g7, h⟩ := oif_some h
      obtain ⟨g8, h⟩ := oif_some h
      obtain ⟨v9, -, h⟩ := elet_some h
      obtain ⟨v10, -, h⟩ := elet_some h
      obtain ⟨g11, h⟩ := oif_some h
      obtain ⟨r13, T12, eT12, h⟩ := obind2_some h
      have p1 : SP T T12 := SP.tr p0 (s_X5_raw eT12)
      obtain ⟨v14, -, h⟩ := elet_some h
      obtain ⟨v15, -, h⟩ := elet_some h
      obtain ⟨v16, ev16, h⟩ := elet_some h
      exact SP.tr p1 (ih _ _ _ _ _ _ _ h)
set_option maxHeartbeats 4000000 in
set_option maxRecDepth 100000 in
theorem s_X5_filtered {T : AT} {o : Nat} {a0 : Nat} {a1 : Int32} {a2 : Int32} {r1 : Int32} {T1 : AT} (h : g_X5_filtered T o a0 a1 a2 = some (r1, T1)) : SP T T1 := by
  have p0 := SP.rf T
  unfold g_X5_filtered at h
  exact SP.tr p0 (s_X5_filtered_b6 _ _ _ _ _ _ _ _ h)
end
