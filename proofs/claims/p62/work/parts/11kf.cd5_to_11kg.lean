section
/-! 11kf.cd5.lean.txt -/
def g_X3_parseClock_b41  (T : AT) (l0 : Nat) (l1 : Nat) (l2 : Int32) : Option (Nat × Int32 × AT) := oif (oO T l1 6 = true) <| obind (T.2.2.2.2 l1 4) fun n3 => oif (aA T n3 103 = true) <| oif (inb l2 (T.2.1 n3).2 = true) <| obind (T.2.2.2.2 n3 l2.toNatClampNeg) fun n6 => oif (oO T l0 3 = true) <| othr (g_X3_number T l0 (1 : Int32) (31 : Int32)) 0 fun r10 T8 => oif (oO T8 n6 2 = true) <| elet (uI T8 n6 3 r10) fun T13 => some (0, 0, T13)
set_option maxHeartbeats 4000000 in
set_option maxRecDepth 100000 in
theorem u_X3_parseClock_b41 {p : Program} {l : Launch} {e : Env} {s : State} {m : MethodId} {args : Array Value} {below : List Frame} {meth : Method} {c : Code} {Q : State → Prop} {D : va_G} {A : Nat → Prop} {cI cJ cZ cMic cSrc cSt cAI cAJ : ClassId} {ad : Nat → Nat} {r1 : Int32} {T1 : AT} (E : cE p c cX3_parseClock s m args (Cond.code yX3_parseClock cX3_parseClock 3 none :: wsA) D RX3 (CT cI cJ cZ cMic cSrc cSt cAI cAJ)) (hA : ∀ q : Nat, s.heap.size ≤ q → A q) (hX : xT A s) (hN : nX s) (hml : c.maxLocals = 3) (hst : l.stackTraces = false) (kr57 : ∀ (H : Heap) (locs : List Loc) (ls : Array Slot), gC cI cJ cZ cMic cSrc cSt cAI cAJ D ad A s.heap H locs T1 → W p l e { frames := 8, cells := 0, slots := 0, locals := 126 } s m args below meth c H locs 0 0 Q (F0 m 57 ls [])) : ∀ (T : AT) (H : Heap) (locs : List Loc) (ls : Array Slot) (l0 : Nat) (l1 : Nat) (l2 : Int32), g_X3_parseClock_b41 T l0 l1 l2 = some (0, r1, T1) → gC cI cJ cZ cMic cSrc cSt cAI cAJ D ad A s.heap H locs T → lv_has ls 3 [(0, .ref (ad l0)), (1, .ref (ad l1)), (2, .int l2)] → W p l e { frames := 8, cells := 0, slots := 0, locals := 126 } s m args below meth c H locs 0 0 Q (F0 m 41 ls []) := by
  have hx := E.1
  have hb := E.2.1
  have hts := E.2.2.1
  have hown := E.2.2.2.1
  have hK := E.2.2.2.2
  intro T H locs ls l0 l1 l2 h G hl
  unfold g_X3_parseClock_b41 at h
  refine lv_aload_n hx hb dX3_parseClock_41 rfl (lv_at hl 1 rfl) ?_
  obtain ⟨g2, h⟩ := oif_some h
  obtain ⟨n3, en3, h⟩ := obind_some h
  refine c_get E G l1 4 (v := .ref (ad n3)) (oO_k g2).1 (cc_o6 (oO_k g2).2) rfl (fun w h => .tail _ (iA_14 h)) (by decide) (.tail _ qA_316) rfl (by rw [en3]; rfl) dX3_parseClock_42 ?_
  clear en3
  refine lv_iload_n hx hb dX3_parseClock_45 rfl (lv_at hl 2 rfl) ?_
  obtain ⟨g4, h⟩ := oif_some h
  obtain ⟨g5, h⟩ := oif_some h
  obtain ⟨n6, en6, h⟩ := obind_some h
  refine c_aldq E G n3 3 (k := l2.toNatClampNeg) (v := .ref (ad n6)) (aA_k g4).1 (cc_a103 (aA_k g4).2.1) rfl (inb_k g5).1 (inb_k g5).2 (aA_k g4).2.2 (by show va_rf ((T.2.2.2.2 n3 l2.toNatClampNeg).map ad) = _; rw [en6]; rfl) dX3_parseClock_46 ?_
  clear en6
  refine lv_aload_n hx hb dX3_parseClock_47 rfl (lv_at hl 0 rfl) ?_
  refine lv_iconst (v := 1) hx hb dX3_parseClock_48 (by decide) ?_
  refine lv_bipush (v := 31) hx hb dX3_parseClock_49 (by decide) ?_
  obtain ⟨g7, h⟩ := oif_some h
  obtain ⟨r10, T8, eT8, h⟩ := othr_n h
  refine q_cvi (As := [.int 1, .int 31]) (rest := [.ref (ad n6)]) E G hA hX hN hml (u_X3_number l hst D cI cJ cZ cMic cSrc cSt cAI cAJ ad T l0 (1 : Int32) (31 : Int32) eT8) (cwV 2 hts (gaV qA_299 qA_300 qA_301 qA_222 qA_302) rfl rfl rfl (by decide +kernel) ⟨Nat.le_of_ble_eq_true rfl, Nat.le_of_ble_eq_true rfl⟩) (oO_k g7).1 (cc_o3 (oO_k g7).2) rfl rfl hl.1 rfl (lv_room (Nat.le_of_ble_eq_true rfl)) dX3_parseClock_51 ⟨Nat.zero_le _, Nat.zero_le _⟩ (fun q11 T9 H locs hq G => ?_)
  obtain ⟨hq1, hq2⟩ := hq
  rw [hq2] at G
  refine lv_to hq1 ?_
  clear hq1 hq2 eT8
  obtain ⟨g12, h⟩ := oif_some h
  refine c_put E G n6 3 (v := .int r10) (oO_k g12).1 (cc_o2 (oO_k g12).2) rfl (fun w h => .tail _ (iA_19 h)) tyX2 tyX2_ok nmX2 (by decide) (.tail _ qA_320) ⟨rfl, rfl, rfl⟩ rfl rfl (Nat.le_of_ble_eq_true rfl) dX3_parseClock_54 (fun H locs G => ?_)
  have G := gC_up_i (f := upd (T8.2.2.1 n6) 3 r10) (by rw [(oO_k g12).2]; rfl) G
  obtain ⟨T13, eT13, h⟩ := elet_some h
  have G : gC cI cJ cZ cMic cSrc cSt cAI cAJ D ad A s.heap H locs T13 := by rw [eT13]; exact G
  clear eT13
  rw [(osome3 h).2.2] at G
  exact kr57 _ _ _ G
def g_X3_parseClock (T : AT) (o : Nat) (a0 : Nat) : Option (Nat × Int32 × AT) := oif (oO T o 3 = true) <| othr (g_X3_startLine T o (0 : Int32) (3 : Int32)) 0 fun r5 T3 => oif (oO T3 a0 6 = true) <| elet (T3.2.2.1 a0 5) fun v8 => elet (v8 - 1) fun v9 => oif (oO T3 o 3 = true) <| othr (g_X3_number T3 o (0 : Int32) v9) 0 fun r13 T11 => oif (oO T11 a0 6 = true) <| obind (T11.2.2.2.2 a0 4) fun n16 => oif (aA T11 n16 103 = true) <| oif (inb r13 (T11.2.1 n16).2 = true) <| obind (T11.2.2.2.2 n16 r13.toNatClampNeg) fun n19 => oif (oO T11 n19 2 = true) <| elet (T11.2.2.1 n19 3) fun v21 => if v21 ≤ 0 then (g_X3_parseClock_b41 T11 o a0 r13) else (oif (oO T11 o 3 = true) <| elet (T11.2.2.1 o 1) fun v24 => elet (v24 - 1) fun v25 => oif (oO T11 o 3 = true) <| othr (g_X3_failAt T11 o v25 (3 : Int32)) 0 fun r29 T27 => g_X3_parseClock_b41 T27 o a0 r13)
set_option maxHeartbeats 4000000 in
set_option maxRecDepth 100000 in
theorem u_X3_parseClock (l : Launch) (hst : l.stackTraces = false) (D : va_G) (cI cJ cZ cMic cSrc cSt cAI cAJ : ClassId) (ad : Nat → Nat) (T : AT) (o : Nat) (a0 : Nat) {r1 : Int32} {T1 : AT} (h : g_X3_parseClock T o a0 = some (0, r1, T1)) : kCv l yX3_parseClock (Cond.code yX3_parseClock cX3_parseClock 3 none :: wsA) 8 126 cI cJ cZ cMic cSrc cSt cAI cAJ D ad T [.ref (ad o), .ref (ad a0)] (fun T9 => T9 = T1) := by
  intro sz
  refine Met.ofW (cc := cX3_parseClock) (maxL := 3) (ret := none) (by decide) rfl ?_
  intro p e s m args below meth c s₁ B hml hv
  obtain ⟨rfl, hsz, hP, hK, hD0, hX, hN⟩ := hv
  have hx := B.exec
  have hb := B.bytes
  have hr := B.returns
  have hts := atoms_spec (ws := (Cond.code yX3_parseClock cX3_parseClock 3 none :: wsA)) B.pre
  have hown : s.vm.findClass RX3 = some m.cls := findClass_of_methodNamed B.named
  have hlocks := B.notSynchronized
  subst hsz
  have hD := hD0.self (sz := s.heap.size)
  generalize hAe : va_A (cW ad T.1 (cc cI cJ cZ cMic cSrc cSt cAI cAJ ad T)) s.heap.size = A at hD hX ⊢
  have hA : ∀ q : Nat, s.heap.size ≤ q → A q := fun q h => by rw [← hAe]; exact Or.inr h
  have G : gC cI cJ cZ cMic cSrc cSt cAI cAJ D ad A s.heap s.heap [] T := ⟨hP, hD, va_S.rf⟩
  have E : cE p c cX3_parseClock s m ([.ref (ad o), .ref (ad a0)] : List Value).toArray (Cond.code yX3_parseClock cX3_parseClock 3 none :: wsA) D RX3 (CT cI cJ cZ cMic cSrc cSt cAI cAJ) := ⟨hx, hb, hts, hown, hK⟩
  have hl := lv_entry ([.ref (ad o), .ref (ad a0)]) (n := 3) (Nat.le_of_ble_eq_true rfl)
  rw [lg_entry_eq]
  generalize (lg_sl ([.ref (ad o), .ref (ad a0)]) ++ List.replicate (3 - (lg_sl ([.ref (ad o), .ref (ad a0)])).length) Slot.unset).toArray = ls at hl ⊢
  have hl : lv_has ls 3 [(0, .ref (ad o)), (1, .ref (ad a0))] := hl
  unfold g_X3_parseClock at h
  refine lv_aload_n hx hb dX3_parseClock_0 rfl (lv_at hl 0 rfl) ?_
  refine lv_iconst (v := 0) hx hb dX3_parseClock_1 (by decide) ?_
  refine lv_iconst (v := 3) hx hb dX3_parseClock_2 (by decide) ?_
  obtain ⟨g2, h⟩ := oif_some h
  obtain ⟨r5, T3, eT3, h⟩ := othr_n h
  refine q_cvv (As := [.int 0, .int 3]) (rest := []) E G hA hX hN hml (u_X3_startLine l hst D cI cJ cZ cMic cSrc cSt cAI cAJ ad T o (0 : Int32) (3 : Int32) eT3) (cwV 2 hts (gaV qA_321 qA_322 qA_323 qA_222 qA_324) rfl rfl rfl (by decide +kernel) ⟨Nat.le_of_ble_eq_true rfl, Nat.le_of_ble_eq_true rfl⟩) (oO_k g2).1 (cc_o3 (oO_k g2).2) rfl rfl hl.1 rfl (lv_room (Nat.le_of_ble_eq_true rfl)) dX3_parseClock_3 ⟨Nat.zero_le _, Nat.zero_le _⟩ (fun T4 H locs hq G => ?_)
  rw [hq] at G
  clear hq eT3
  refine lv_aload_n hx hb dX3_parseClock_6 rfl (lv_at hl 0 rfl) ?_
  refine lv_iconst (v := 0) hx hb dX3_parseClock_7 (by decide) ?_
  refine lv_aload_n hx hb dX3_parseClock_8 rfl (lv_at hl 1 rfl) ?_
  obtain ⟨g7, h⟩ := oif_some h
  refine c_get E G a0 5 (oO_k g7).1 (cc_o6 (oO_k g7).2) rfl (fun w h => .tail _ (iA_14 h)) (by decide) (.tail _ qA_178) rfl rfl dX3_parseClock_9 ?_
  refine lv_topi (fun v8 ev8 => ?_)
  have h := elet_at ev8 h
  clear ev8
  refine lv_iconst (v := 1) hx hb dX3_parseClock_12 (by decide) ?_
  refine lv_isub hx hb dX3_parseClock_13 ?_
  refine lv_topi (fun v9 ev9 => ?_)
  have h := elet_at ev9 h
  clear ev9
  obtain ⟨g10, h⟩ := oif_some h
  obtain ⟨r13, T11, eT11, h⟩ := othr_n h
  refine q_cvi (As := [.int 0, .int v9]) (rest := []) E G hA hX hN hml (u_X3_number l hst D cI cJ cZ cMic cSrc cSt cAI cAJ ad T3 o (0 : Int32) v9 eT11) (cwV 2 hts (gaV qA_299 qA_300 qA_301 qA_222 qA_302) rfl rfl rfl (by decide +kernel) ⟨Nat.le_of_ble_eq_true rfl, Nat.le_of_ble_eq_true rfl⟩) (oO_k g10).1 (cc_o3 (oO_k g10).2) rfl rfl hl.1 rfl (lv_room (Nat.le_of_ble_eq_true rfl)) dX3_parseClock_14 ⟨Nat.zero_le _, Nat.zero_le _⟩ (fun q14 T12 H locs hq G => ?_)
  obtain ⟨hq1, hq2⟩ := hq
  rw [hq2] at G
  refine lv_to hq1 ?_
  clear hq1 hq2 eT11
  refine lv_istore_n (lv' := [(2, .int r13), (0, .ref (ad o)), (1, .ref (ad a0))]) hx hb dX3_parseClock_17 rfl hl (by decide) rfl (fun ls hl => ?_)
  refine lv_aload_n hx hb dX3_parseClock_18 rfl (lv_at hl 2 rfl) ?_
  obtain ⟨g15, h⟩ := oif_some h
  obtain ⟨n16, en16, h⟩ := obind_some h
  refine c_get E G a0 4 (v := .ref (ad n16)) (oO_k g15).1 (cc_o6 (oO_k g15).2) rfl (fun w h => .tail _ (iA_14 h)) (by decide) (.tail _ qA_316) rfl (by rw [en16]; rfl) dX3_parseClock_19 ?_
  clear en16
  refine lv_iload_n hx hb dX3_parseClock_22 rfl (lv_at hl 0 rfl) ?_
  obtain ⟨g17, h⟩ := oif_some h
  obtain ⟨g18, h⟩ := oif_some h
  obtain ⟨n19, en19, h⟩ := obind_some h
  refine c_aldq E G n16 3 (k := r13.toNatClampNeg) (v := .ref (ad n19)) (aA_k g17).1 (cc_a103 (aA_k g17).2.1) rfl (inb_k g18).1 (inb_k g18).2 (aA_k g17).2.2 (by show va_rf ((T11.2.2.2.2 n16 r13.toNatClampNeg).map ad) = _; rw [en19]; rfl) dX3_parseClock_23 ?_
  clear en19
  obtain ⟨g20, h⟩ := oif_some h
  refine c_get E G n19 3 (oO_k g20).1 (cc_o2 (oO_k g20).2) rfl (fun w h => .tail _ (iA_19 h)) (by decide) (.tail _ qA_320) rfl rfl dX3_parseClock_24 ?_
  refine lv_topi (fun v21 ev21 => ?_)
  have h := elet_at ev21 h
  clear ev21
  refine lv_if_le (tgt := 41) hx hb dX3_parseClock_27 (by decide) (fun c22 => ?_) (fun c22 => ?_)
  · have h := oif_pos c22 h
    have hl := lv_sub hl [1, 2, 0] rfl
    exact u_X3_parseClock_b41 E hA hX hN hml hst (fun H locs ls G => W.vret hx hb hr (fun t ht hW => ⟨⟨T1, rfl, rfl, ⟨by rw [ht]; exact G.1, va_K.moved hW.alike hK, G.2.1⟩⟩, G.2.2.F ht⟩) G.2.2.2.2 dX3_parseClock_57) _ _ _ _ _ _ _ h G hl
  · have h := oif_neg c22 h
    refine lv_aload_n hx hb dX3_parseClock_30 rfl (lv_at hl 1 rfl) ?_
    refine lv_aload_n hx hb dX3_parseClock_31 rfl (lv_at hl 1 rfl) ?_
    obtain ⟨g23, h⟩ := oif_some h
    refine c_get E G o 1 (oO_k g23).1 (cc_o3 (oO_k g23).2) rfl (fun w h => .tail _ (iA_17 h)) (by decide) (.tail _ qA_176) rfl rfl dX3_parseClock_32 ?_
    refine lv_topi (fun v24 ev24 => ?_)
    have h := elet_at ev24 h
    clear ev24
    refine lv_iconst (v := 1) hx hb dX3_parseClock_35 (by decide) ?_
    refine lv_isub hx hb dX3_parseClock_36 ?_
    refine lv_topi (fun v25 ev25 => ?_)
    have h := elet_at ev25 h
    clear ev25
    refine lv_iconst (v := 3) hx hb dX3_parseClock_37 (by decide) ?_
    obtain ⟨g26, h⟩ := oif_some h
    obtain ⟨r29, T27, eT27, h⟩ := othr_n h
    refine q_cvv (As := [.int v25, .int 3]) (rest := []) E G hA hX hN hml (u_X3_failAt l hst D cI cJ cZ cMic cSrc cSt cAI cAJ ad T11 o v25 (3 : Int32) eT27) (cwV 2 hts (gaV qA_293 qA_294 qA_295 qA_222 qA_296) rfl rfl rfl (by decide +kernel) ⟨Nat.le_of_ble_eq_true rfl, Nat.le_of_ble_eq_true rfl⟩) (oO_k g26).1 (cc_o3 (oO_k g26).2) rfl rfl hl.1 rfl (lv_room (Nat.le_of_ble_eq_true rfl)) dX3_parseClock_38 ⟨Nat.zero_le _, Nat.zero_le _⟩ (fun T28 H locs hq G => ?_)
    rw [hq] at G
    clear hq eT27
    have hl := lv_sub hl [1, 2, 0] rfl
    exact u_X3_parseClock_b41 E hA hX hN hml hst (fun H locs ls G => W.vret hx hb hr (fun t ht hW => ⟨⟨T1, rfl, rfl, ⟨by rw [ht]; exact G.1, va_K.moved hW.alike hK, G.2.1⟩⟩, G.2.2.F ht⟩) G.2.2.2.2 dX3_parseClock_57) _ _ _ _ _ _ _ h G hl
set_option maxHeartbeats 4000000 in
set_option maxRecDepth 100000 in
theorem s_X3_parseClock_b41 {e1 : Nat} {r1 : Int32} {T1 : AT} : ∀ (T : AT) (l0 : Nat) (l1 : Nat) (l2 : Int32), g_X3_parseClock_b41 T l0 l1 l2 = some (e1, r1, T1) → SP T T1 := by
  intro T l0 l1 l2 h
  have p0 := SP.rf T
  unfold g_X3_parseClock_b41 at h
  obtain ⟨g2, h⟩ := oif_some h
  obtain ⟨n3, en3, h⟩ := obind_some h
  obtain ⟨g4, h⟩ := oif_some h
  obtain ⟨g5, h⟩ := oif_some h
  obtain ⟨n6, en6, h⟩ := obind_some h
  obtain ⟨g7, h⟩ := oif_some h
  rcases othr_s h with ⟨k9, r9, e9, -⟩ | ⟨r9, T8, eT8, h⟩
  · exact SP.tr p0 (s_X3_number e9)
  have p1 : SP T T8 := SP.tr p0 (s_X3_number eT8)
  obtain ⟨g10, h⟩ := oif_some h
  obtain ⟨T11, eT11, h⟩ := elet_some h
  have p2 : SP T T11 := SP.tr p1 (by rw [eT11]; exact sp_uI)
  rw [← (osome3 h).2.2]
  exact p2
set_option maxHeartbeats 4000000 in
set_option maxRecDepth 100000 in
theorem s_X3_parseClock {T : AT} {o : Nat} {a0 : Nat} {e1 : Nat} {r1 : Int32} {T1 : AT} (h : g_X3_parseClock T o a0 = some (e1, r1, T1)) : SP T T1 := by
  have p0 := SP.rf T
  unfold g_X3_parseClock at h
  obtain ⟨g2, h⟩ := oif_some h
  rcases othr_s h with ⟨k9, r9, e9, -⟩ | ⟨r4, T3, eT3, h⟩
  · exact SP.tr p0 (s_X3_startLine e9)
  have p1 : SP T T3 := SP.tr p0 (s_X3_startLine eT3)
  obtain ⟨g5, h⟩ := oif_some h
  obtain ⟨v6, -, h⟩ := elet_some h
  obtain ⟨v7, -, h⟩ := elet_some h
  obtain ⟨g8, h⟩ := oif_some h
  rcases othr_s h with ⟨k9, r9, e9, -⟩ | ⟨r10, T9, eT9, h⟩
  · exact SP.tr p1 (s_X3_number e9)
  have p2 : SP T T9 := SP.tr p1 (s_X3_number eT9)
  obtain ⟨g11, h⟩ := oif_some h
  obtain ⟨n12, en12, h⟩ := obind_some h
  obtain ⟨g13, h⟩ := oif_some h
  obtain ⟨g14, h⟩ := oif_some h
  obtain ⟨n15, en15, h⟩ := obind_some h
  obtain ⟨g16, h⟩ := oif_some h
  obtain ⟨v17, -, h⟩ := elet_some h
  rcases oif_or h with ⟨c18, h⟩ | ⟨c18, h⟩
  · have h := h
    exact SP.tr p2 (s_X3_parseClock_b41 _ _ _ _ h)
  · have h := h
    obtain ⟨g19, h⟩ := oif_some h
    obtain ⟨v20, -, h⟩ := elet_some h
    obtain ⟨v21, -, h⟩ := elet_some h
    obtain ⟨g22, h⟩ := oif_some h
    rcases othr_s h with ⟨k9, r9, e9, -⟩ | ⟨r24, T23, eT23, h⟩
    · exact SP.tr p2 (s_X3_failAt e9)
    have p3 : SP T T23 := SP.tr p2 (s_X3_failAt eT23)
    exact SP.tr p3 (s_X3_parseClock_b41 _ _ _ _ h)
set_option maxHeartbeats 4000000 in
set_option maxRecDepth 100000 in
theorem x_X3_parseClock_b41 {p : Program} {l : Launch} {e : Env} {s : State} {m : MethodId} {args : Array Value} {below : List Frame} {meth : Method} {c : Code} {Qc : Array Value → State → Outcome → State → Prop} {XC : String → State → State → Prop} {D : va_G} {A : Nat → Prop} {cI cJ cZ cMic cSrc cSt cAI cAJ : ClassId} {ad : Nat → Nat} {e1 : Nat} {r1 : Int32} {T1 : AT} (E : cE p c cX3_parseClock s m args (Cond.code yX3_parseClock cX3_parseClock 3 none :: wsA) D RX3 (CT cI cJ cZ cMic cSrc cSt cAI cAJ)) (hA : ∀ q : Nat, s.heap.size ≤ q → A q) (hX : xT A s) (hN : nX s) (hml : c.maxLocals = 3) (hz9 : True) (hst : l.stackTraces = false) (htab : ∀ x ∈ c.exceptionTable.toList, False) (hlocks : meth.locks = false) (kx : ∀ (H : Heap) (locs : List Loc) (t : State), gC cI cJ cZ cMic cSrc cSt cAI cAJ D ad A s.heap H locs T1 → s.vm.Alike t.vm → H.size ≤ t.heap.size → (∀ q, q < H.size → t.heap[q]? = H[q]?) → XC (exn e1) s t) : ∀ (T : AT) (H : Heap) (locs : List Loc) (ls : Array Slot) (l0 : Nat) (l1 : Nat) (l2 : Int32), g_X3_parseClock_b41 T l0 l1 l2 = some (e1 + 1, r1, T1) → gC cI cJ cZ cMic cSrc cSt cAI cAJ D ad A s.heap H locs T → lv_has ls 3 [(0, .ref (ad l0)), (1, .ref (ad l1)), (2, .int l2)] → W p l e { frames := 8, cells := 1, slots := 6, locals := 126 } s m args below meth c H locs 0 0 (vx_MQ below Qc XC args s 1 6 A) (F0 m 41 ls []) := by
  have hx := E.1
  have hb := E.2.1
  have hts := E.2.2.1
  have hown := E.2.2.2.1
  have hK := E.2.2.2.2
  intro T H locs ls l0 l1 l2 h G hl
  unfold g_X3_parseClock_b41 at h
  refine lv_aload_n hx hb dX3_parseClock_41 rfl (lv_at hl 1 rfl) ?_
  obtain ⟨g2, h⟩ := oif_some h
  obtain ⟨n3, en3, h⟩ := obind_some h
  refine c_get E G l1 4 (v := .ref (ad n3)) (oO_k g2).1 (cc_o6 (oO_k g2).2) rfl (fun w h => .tail _ (iA_14 h)) (by decide) (.tail _ qA_316) rfl (by rw [en3]; rfl) dX3_parseClock_42 ?_
  clear en3
  refine lv_iload_n hx hb dX3_parseClock_45 rfl (lv_at hl 2 rfl) ?_
  obtain ⟨g4, h⟩ := oif_some h
  obtain ⟨g5, h⟩ := oif_some h
  obtain ⟨n6, en6, h⟩ := obind_some h
  refine c_aldq E G n3 3 (k := l2.toNatClampNeg) (v := .ref (ad n6)) (aA_k g4).1 (cc_a103 (aA_k g4).2.1) rfl (inb_k g5).1 (inb_k g5).2 (aA_k g4).2.2 (by show va_rf ((T.2.2.2.2 n3 l2.toNatClampNeg).map ad) = _; rw [en6]; rfl) dX3_parseClock_46 ?_
  clear en6
  refine lv_aload_n hx hb dX3_parseClock_47 rfl (lv_at hl 0 rfl) ?_
  refine lv_iconst (v := 1) hx hb dX3_parseClock_48 (by decide) ?_
  refine lv_bipush (v := 31) hx hb dX3_parseClock_49 (by decide) ?_
  obtain ⟨g7, h⟩ := oif_some h
  rcases othr_t h with ⟨r0, eT8⟩ | ⟨r10, T8, eT8, h⟩
  · refine q_xvi (As := [.int 1, .int 31]) (rest := [.ref (ad n6)]) E G hA hX hN hml (x_X3_number l hst D cI cJ cZ cMic cSrc cSt cAI cAJ ad T l0 (1 : Int32) (31 : Int32) eT8) (cwV 2 hts (gaV qA_299 qA_300 qA_301 qA_222 qA_302) rfl rfl rfl (by decide +kernel) ⟨Nat.le_of_ble_eq_true rfl, Nat.le_of_ble_eq_true rfl⟩) (oO_k g7).1 (cc_o3 (oO_k g7).2) rfl rfl hl.1 rfl (lv_room (Nat.le_of_ble_eq_true rfl)) dX3_parseClock_51 ⟨Nat.le_of_ble_eq_true rfl, Nat.le_of_ble_eq_true rfl⟩ (fun E9 ce q9 T9 H locs hp G hce hcv hcl => ?_)
    obtain ⟨hE, hT⟩ := hp
    subst hE
    rw [hT] at G
    exact vx_out (fun x hx => (htab x hx).elim) hlocks hce hcv hcl (fun t ht hvm => kx _ _ _ G hvm (by rw [ht]; exact Nat.le_refl _) (fun q hq => by rw [ht])) G.2.2.2.2 (Nat.le_refl _) (Nat.le_refl _)
  refine q_cvi (As := [.int 1, .int 31]) (rest := [.ref (ad n6)]) E G hA hX hN hml (u_X3_number l hst D cI cJ cZ cMic cSrc cSt cAI cAJ ad T l0 (1 : Int32) (31 : Int32) eT8) (cwV 2 hts (gaV qA_299 qA_300 qA_301 qA_222 qA_302) rfl rfl rfl (by decide +kernel) ⟨Nat.le_of_ble_eq_true rfl, Nat.le_of_ble_eq_true rfl⟩) (oO_k g7).1 (cc_o3 (oO_k g7).2) rfl rfl hl.1 rfl (lv_room (Nat.le_of_ble_eq_true rfl)) dX3_parseClock_51 ⟨Nat.zero_le _, Nat.zero_le _⟩ (fun q11 T9 H locs hq G => ?_)
  obtain ⟨hq1, hq2⟩ := hq
  rw [hq2] at G
  refine lv_to hq1 ?_
  clear hq1 hq2 eT8
  obtain ⟨g12, h⟩ := oif_some h
  refine c_put E G n6 3 (v := .int r10) (oO_k g12).1 (cc_o2 (oO_k g12).2) rfl (fun w h => .tail _ (iA_19 h)) tyX2 tyX2_ok nmX2 (by decide) (.tail _ qA_320) ⟨rfl, rfl, rfl⟩ rfl rfl (Nat.le_of_ble_eq_true rfl) dX3_parseClock_54 (fun H locs G => ?_)
  have G := gC_up_i (f := upd (T8.2.2.1 n6) 3 r10) (by rw [(oO_k g12).2]; rfl) G
  obtain ⟨T13, eT13, h⟩ := elet_some h
  have G : gC cI cJ cZ cMic cSrc cSt cAI cAJ D ad A s.heap H locs T13 := by rw [eT13]; exact G
  clear eT13
  exact (Nat.succ_ne_zero _ (congrArg Prod.fst (Option.some.inj h)).symm).elim
set_option maxHeartbeats 4000000 in
set_option maxRecDepth 100000 in
theorem x_X3_parseClock (l : Launch) (hst : l.stackTraces = false) (D : va_G) (cI cJ cZ cMic cSrc cSt cAI cAJ : ClassId) (ad : Nat → Nat) (T : AT) (o : Nat) (a0 : Nat) {e1 : Nat} {r1 : Int32} {T1 : AT} (h : g_X3_parseClock T o a0 = some (e1 + 1, r1, T1)) : kXv l yX3_parseClock (Cond.code yX3_parseClock cX3_parseClock 3 none :: wsA) 8 126 cI cJ cZ cMic cSrc cSt cAI cAJ D ad T [.ref (ad o), .ref (ad a0)] e1 T1 := by
  intro sz
  refine vx_ofW (cc := cX3_parseClock) (maxL := 3) (ret := none) (by decide) rfl ?_
  intro p e s m args below meth c s₁ B hml htab hv
  obtain ⟨rfl, hsz, hP, hK, hD0, hX, hN⟩ := hv
  have hx := B.exec
  have hb := B.bytes
  have hr := B.returns
  have hts := atoms_spec (ws := (Cond.code yX3_parseClock cX3_parseClock 3 none :: wsA)) B.pre
  have hown : s.vm.findClass RX3 = some m.cls := findClass_of_methodNamed B.named
  have hlocks := B.notSynchronized
  subst hsz
  have hD := hD0.self (sz := s.heap.size)
  generalize hAe : va_A (cW ad T.1 (cc cI cJ cZ cMic cSrc cSt cAI cAJ ad T)) s.heap.size = A at hD hX ⊢
  have hA : ∀ q : Nat, s.heap.size ≤ q → A q := fun q h => by rw [← hAe]; exact Or.inr h
  have G : gC cI cJ cZ cMic cSrc cSt cAI cAJ D ad A s.heap s.heap [] T := ⟨hP, hD, va_S.rf⟩
  have E : cE p c cX3_parseClock s m ([.ref (ad o), .ref (ad a0)] : List Value).toArray (Cond.code yX3_parseClock cX3_parseClock 3 none :: wsA) D RX3 (CT cI cJ cZ cMic cSrc cSt cAI cAJ) := ⟨hx, hb, hts, hown, hK⟩
  have htab : ∀ x ∈ c.exceptionTable.toList, False := fun x hx => htab x hx
  have hl := lv_entry ([.ref (ad o), .ref (ad a0)]) (n := 3) (Nat.le_of_ble_eq_true rfl)
  rw [lg_entry_eq]
  generalize (lg_sl ([.ref (ad o), .ref (ad a0)]) ++ List.replicate (3 - (lg_sl ([.ref (ad o), .ref (ad a0)])).length) Slot.unset).toArray = ls at hl ⊢
  have hl : lv_has ls 3 [(0, .ref (ad o)), (1, .ref (ad a0))] := hl
  unfold g_X3_parseClock at h
  refine lv_aload_n hx hb dX3_parseClock_0 rfl (lv_at hl 0 rfl) ?_
  refine lv_iconst (v := 0) hx hb dX3_parseClock_1 (by decide) ?_
  refine lv_iconst (v := 3) hx hb dX3_parseClock_2 (by decide) ?_
  obtain ⟨g2, h⟩ := oif_some h
  rcases othr_t h with ⟨r0, eT3⟩ | ⟨r5, T3, eT3, h⟩
  · refine q_xvv (As := [.int 0, .int 3]) (rest := []) E G hA hX hN hml (x_X3_startLine l hst D cI cJ cZ cMic cSrc cSt cAI cAJ ad T o (0 : Int32) (3 : Int32) eT3) (cwV 2 hts (gaV qA_321 qA_322 qA_323 qA_222 qA_324) rfl rfl rfl (by decide +kernel) ⟨Nat.le_of_ble_eq_true rfl, Nat.le_of_ble_eq_true rfl⟩) (oO_k g2).1 (cc_o3 (oO_k g2).2) rfl rfl hl.1 rfl (lv_room (Nat.le_of_ble_eq_true rfl)) dX3_parseClock_3 ⟨Nat.le_of_ble_eq_true rfl, Nat.le_of_ble_eq_true rfl⟩ (fun E9 ce q9 T9 H locs hp G hce hcv hcl => ?_)
    obtain ⟨hE, hT⟩ := hp
    subst hE
    rw [hT] at G
    exact vx_out (fun x hx => (htab x hx).elim) hlocks hce hcv hcl (fun t ht hvm => ⟨T1, trivial, ⟨⟨rfl, rfl⟩, by rw [ht]; exact G.1, va_K.moved hvm hK, G.2.1⟩, G.2.2.F ht⟩) G.2.2.2.2 (Nat.le_refl _) (Nat.le_refl _)
  refine q_cvv (As := [.int 0, .int 3]) (rest := []) E G hA hX hN hml (u_X3_startLine l hst D cI cJ cZ cMic cSrc cSt cAI cAJ ad T o (0 : Int32) (3 : Int32) eT3) (cwV 2 hts (gaV qA_321 qA_322 qA_323 qA_222 qA_324) rfl rfl rfl (by decide +kernel) ⟨Nat.le_of_ble_eq_true rfl, Nat.le_of_ble_eq_true rfl⟩) (oO_k g2).1 (cc_o3 (oO_k g2).2) rfl rfl hl.1 rfl (lv_room (Nat.le_of_ble_eq_true rfl)) dX3_parseClock_3 ⟨Nat.zero_le _, Nat.zero_le _⟩ (fun T4 H locs hq G => ?_)
  rw [hq] at G
  clear hq eT3
  refine lv_aload_n hx hb dX3_parseClock_6 rfl (lv_at hl 0 rfl) ?_
  refine lv_iconst (v := 0) hx hb dX3_parseClock_7 (by decide) ?_
  refine lv_aload_n hx hb dX3_parseClock_8 rfl (lv_at hl 1 rfl) ?_
  obtain ⟨g7, h⟩ := oif_some h
  refine c_get E G a0 5 (oO_k g7).1 (cc_o6 (oO_k g7).2) rfl (fun w h => .tail _ (iA_14 h)) (by decide) (.tail _ qA_178) rfl rfl dX3_parseClock_9 ?_
  refine lv_topi (fun v8 ev8 => ?_)
  have h := elet_at ev8 h
  clear ev8
  refine lv_iconst (v := 1) hx hb dX3_parseClock_12 (by decide) ?_
  refine lv_isub hx hb dX3_parseClock_13 ?_
  refine lv_topi (fun v9 ev9 => ?_)
  have h := elet_at ev9 h
  clear ev9
  obtain ⟨g10, h⟩ := oif_some h
  rcases othr_t h with ⟨r0, eT11⟩ | ⟨r13, T11, eT11, h⟩
  · refine q_xvi (As := [.int 0, .int v9]) (rest := []) E G hA hX hN hml (x_X3_number l hst D cI cJ cZ cMic cSrc cSt cAI cAJ ad T3 o (0 : Int32) v9 eT11) (cwV 2 hts (gaV qA_299 qA_300 qA_301 qA_222 qA_302) rfl rfl rfl (by decide +kernel) ⟨Nat.le_of_ble_eq_true rfl, Nat.le_of_ble_eq_true rfl⟩) (oO_k g10).1 (cc_o3 (oO_k g10).2) rfl rfl hl.1 rfl (lv_room (Nat.le_of_ble_eq_true rfl)) dX3_parseClock_14 ⟨Nat.le_of_ble_eq_true rfl, Nat.le_of_ble_eq_true rfl⟩ (fun E9 ce q9 T9 H locs hp G hce hcv hcl => ?_)
    obtain ⟨hE, hT⟩ := hp
    subst hE
    rw [hT] at G
    exact vx_out (fun x hx => (htab x hx).elim) hlocks hce hcv hcl (fun t ht hvm => ⟨T1, trivial, ⟨⟨rfl, rfl⟩, by rw [ht]; exact G.1, va_K.moved hvm hK, G.2.1⟩, G.2.2.F ht⟩) G.2.2.2.2 (Nat.le_refl _) (Nat.le_refl _)
  refine q_cvi (As := [.int 0, .int v9]) (rest := []) E G hA hX hN hml (u_X3_number l hst D cI cJ cZ cMic cSrc cSt cAI cAJ ad T3 o (0 : Int32) v9 eT11) (cwV 2 hts (gaV qA_299 qA_300 qA_301 qA_222 qA_302) rfl rfl rfl (by decide +kernel) ⟨Nat.le_of_ble_eq_true rfl, Nat.le_of_ble_eq_true rfl⟩) (oO_k g10).1 (cc_o3 (oO_k g10).2) rfl rfl hl.1 rfl (lv_room (Nat.le_of_ble_eq_true rfl)) dX3_parseClock_14 ⟨Nat.zero_le _, Nat.zero_le _⟩ (fun q14 T12 H locs hq G => ?_)
  obtain ⟨hq1, hq2⟩ := hq
  rw [hq2] at G
  refine lv_to hq1 ?_
  clear hq1 hq2 eT11
  refine lv_istore_n (lv' := [(2, .int r13), (0, .ref (ad o)), (1, .ref (ad a0))]) hx hb dX3_parseClock_17 rfl hl (by decide) rfl (fun ls hl => ?_)
  refine lv_aload_n hx hb dX3_parseClock_18 rfl (lv_at hl 2 rfl) ?_
  obtain ⟨g15, h⟩ := oif_some h
  obtain ⟨n16, en16, h⟩ := obind_some h
  refine c_get E G a0 4 (v := .ref (ad n16)) (oO_k g15).1 (cc_o6 (oO_k g15).2) rfl (fun w h => .tail _ (iA_14 h)) (by decide) (.tail _ qA_316) rfl (by rw [en16]; rfl) dX3_parseClock_19 ?_
  clear en16
  refine lv_iload_n hx hb dX3_parseClock_22 rfl (lv_at hl 0 rfl) ?_
  obtain ⟨g17, h⟩ := oif_some h
  obtain ⟨g18, h⟩ := oif_some h
  obtain ⟨n19, en19, h⟩ := obind_some h
  refine c_aldq E G n16 3 (k := r13.toNatClampNeg) (v := .ref (ad n19)) (aA_k g17).1 (cc_a103 (aA_k g17).2.1) rfl (inb_k g18).1 (inb_k g18).2 (aA_k g17).2.2 (by show va_rf ((T11.2.2.2.2 n16 r13.toNatClampNeg).map ad) = _; rw [en19]; rfl) dX3_parseClock_23 ?_
  clear en19
  obtain ⟨g20, h⟩ := oif_some h
  refine c_get E G n19 3 (oO_k g20).1 (cc_o2 (oO_k g20).2) rfl (fun w h => .tail _ (iA_19 h)) (by decide) (.tail _ qA_320) rfl rfl dX3_parseClock_24 ?_
  refine lv_topi (fun v21 ev21 => ?_)
  have h := elet_at ev21 h
  clear ev21
  refine lv_if_le (tgt := 41) hx hb dX3_parseClock_27 (by decide) (fun c22 => ?_) (fun c22 => ?_)
  · have h := oif_pos c22 h
    have hl := lv_sub hl [1, 2, 0] rfl
    exact x_X3_parseClock_b41 E hA hX hN hml trivial hst htab hlocks (fun H locs t G hvm h1 h2 => ⟨T1, trivial, ⟨⟨rfl, rfl⟩, (c_thrown G hK hvm h1 h2).1⟩, (c_thrown G hK hvm h1 h2).2⟩) _ _ _ _ _ _ _ h G hl
  · have h := oif_neg c22 h
    refine lv_aload_n hx hb dX3_parseClock_30 rfl (lv_at hl 1 rfl) ?_
    refine lv_aload_n hx hb dX3_parseClock_31 rfl (lv_at hl 1 rfl) ?_
    obtain ⟨g23, h⟩ := oif_some h
    refine c_get E G o 1 (oO_k g23).1 (cc_o3 (oO_k g23).2) rfl (fun w h => .tail _ (iA_17 h)) (by decide) (.tail _ qA_176) rfl rfl dX3_parseClock_32 ?_
    refine lv_topi (fun v24 ev24 => ?_)
    have h := elet_at ev24 h
    clear ev24
    refine lv_iconst (v := 1) hx hb dX3_parseClock_35 (by decide) ?_
    refine lv_isub hx hb dX3_parseClock_36 ?_
    refine lv_topi (fun v25 ev25 => ?_)
    have h := elet_at ev25 h
    clear ev25
    refine lv_iconst (v := 3) hx hb dX3_parseClock_37 (by decide) ?_
    obtain ⟨g26, h⟩ := oif_some h
    rcases othr_t h with ⟨r0, eT27⟩ | ⟨r29, T27, eT27, h⟩
    · refine q_xvv (As := [.int v25, .int 3]) (rest := []) E G hA hX hN hml (x_X3_failAt l hst D cI cJ cZ cMic cSrc cSt cAI cAJ ad T11 o v25 (3 : Int32) eT27) (cwV 2 hts (gaV qA_293 qA_294 qA_295 qA_222 qA_296) rfl rfl rfl (by decide +kernel) ⟨Nat.le_of_ble_eq_true rfl, Nat.le_of_ble_eq_true rfl⟩) (oO_k g26).1 (cc_o3 (oO_k g26).2) rfl rfl hl.1 rfl (lv_room (Nat.le_of_ble_eq_true rfl)) dX3_parseClock_38 ⟨Nat.le_of_ble_eq_true rfl, Nat.le_of_ble_eq_true rfl⟩ (fun E9 ce q9 T9 H locs hp G hce hcv hcl => ?_)
      obtain ⟨hE, hT⟩ := hp
      subst hE
      rw [hT] at G
      exact vx_out (fun x hx => (htab x hx).elim) hlocks hce hcv hcl (fun t ht hvm => ⟨T1, trivial, ⟨⟨rfl, rfl⟩, by rw [ht]; exact G.1, va_K.moved hvm hK, G.2.1⟩, G.2.2.F ht⟩) G.2.2.2.2 (Nat.le_refl _) (Nat.le_refl _)
    refine q_cvv (As := [.int v25, .int 3]) (rest := []) E G hA hX hN hml (u_X3_failAt l hst D cI cJ cZ cMic cSrc cSt cAI cAJ ad T11 o v25 (3 : Int32) eT27) (cwV 2 hts (gaV qA_293 qA_294 qA_295 qA_222 qA_296) rfl rfl rfl (by decide +kernel) ⟨Nat.le_of_ble_eq_true rfl, Nat.le_of_ble_eq_true rfl⟩) (oO_k g26).1 (cc_o3 (oO_k g26).2) rfl rfl hl.1 rfl (lv_room (Nat.le_of_ble_eq_true rfl)) dX3_parseClock_38 ⟨Nat.zero_le _, Nat.zero_le _⟩ (fun T28 H locs hq G => ?_)
    rw [hq] at G
    clear hq eT27
    have hl := lv_sub hl [1, 2, 0] rfl
    exact x_X3_parseClock_b41 E hA hX hN hml trivial hst htab hlocks (fun H locs t G hvm h1 h2 => ⟨T1, trivial, ⟨⟨rfl, rfl⟩, (c_thrown G hK hvm h1 h2).1⟩, (c_thrown G hK hvm h1 h2).2⟩) _ _ _ _ _ _ _ h G hl
def g_X3_signed (T : AT) (o : Nat) (a0 : Int32) (a1 : Int32) : Option (Nat × Int32 × AT) := oif (oO T o 3 = true) <| obind2 (g_X3_kind T o) fun r5 T3 => if r5 = 3 then (oif (oO T3 o 3 = true) <| elet (T3.2.2.1 o 1) fun v9 => elet (v9 + 1) fun v10 => oif (oO T3 o 3 = true) <| elet (uI T3 o 1 v10) fun T12 => elet (-a1) fun v13 => elet (-a0) fun v14 => oif (oO T12 o 3 = true) <| othr (g_X3_number T12 o v13 v14) 0 fun r18 T16 => elet (-r18) fun v20 => some (0, v20, T16)) else (oif (oO T3 o 3 = true) <| othr (g_X3_number T3 o a0 a1) 0 fun r24 T22 => some (0, r24, T22))
set_option maxHeartbeats 4000000 in
set_option maxRecDepth 100000 in
theorem u_X3_signed (l : Launch) (hst : l.stackTraces = false) (D : va_G) (cI cJ cZ cMic cSrc cSt cAI cAJ : ClassId) (ad : Nat → Nat) (T : AT) (o : Nat) (a0 : Int32) (a1 : Int32) {r1 : Int32} {T1 : AT} (h : g_X3_signed T o a0 a1 = some (0, r1, T1)) : kCi l yX3_signed (Cond.code yX3_signed cX3_signed 3 (some .int) :: wsA) 8 126 cI cJ cZ cMic cSrc cSt cAI cAJ D ad T [.ref (ad o), .int a0, .int a1] (fun r T9 => r = r1 ∧ T9 = T1) := by
  intro sz
  refine Met.ofW (cc := cX3_signed) (maxL := 3) (ret := (some .int)) (by decide) rfl ?_
  intro p e s m args below meth c s₁ B hml hv
  obtain ⟨rfl, hsz, hP, hK, hD0, hX, hN⟩ := hv
  have hx := B.exec
  have hb := B.bytes
  have hr := B.returns
  have hts := atoms_spec (ws := (Cond.code yX3_signed cX3_signed 3 (some .int) :: wsA)) B.pre
  have hown : s.vm.findClass RX3 = some m.cls := findClass_of_methodNamed B.named
  have hlocks := B.notSynchronized
  subst hsz
  have hD := hD0.self (sz := s.heap.size)
  generalize hAe : va_A (cW ad T.1 (cc cI cJ cZ cMic cSrc cSt cAI cAJ ad T)) s.heap.size = A at hD hX ⊢
  have hA : ∀ q : Nat, s.heap.size ≤ q → A q := fun q h => by rw [← hAe]; exact Or.inr h
  have G : gC cI cJ cZ cMic cSrc cSt cAI cAJ D ad A s.heap s.heap [] T := ⟨hP, hD, va_S.rf⟩
  have E : cE p c cX3_signed s m ([.ref (ad o), .int a0, .int a1] : List Value).toArray (Cond.code yX3_signed cX3_signed 3 (some .int) :: wsA) D RX3 (CT cI cJ cZ cMic cSrc cSt cAI cAJ) := ⟨hx, hb, hts, hown, hK⟩
  have hl := lv_entry ([.ref (ad o), .int a0, .int a1]) (n := 3) (Nat.le_of_ble_eq_true rfl)
  rw [lg_entry_eq]
  generalize (lg_sl ([.ref (ad o), .int a0, .int a1]) ++ List.replicate (3 - (lg_sl ([.ref (ad o), .int a0, .int a1])).length) Slot.unset).toArray = ls at hl ⊢
  have hl : lv_has ls 3 [(0, .ref (ad o)), (1, .int a0), (2, .int a1)] := hl
  unfold g_X3_signed at h
  refine lv_aload_n hx hb dX3_signed_0 rfl (lv_at hl 0 rfl) ?_
  obtain ⟨g2, h⟩ := oif_some h
  obtain ⟨r5, T3, eT3, h⟩ := obind2_some h
  refine q_cvi (As := []) (rest := []) E G hA hX hN hml (u_X3_kind l hst D cI cJ cZ cMic cSrc cSt cAI cAJ ad T o eT3) (cwV 0 hts (gaV qA_239 qA_240 qA_241 qA_222 qA_242) rfl rfl rfl (by decide +kernel) ⟨Nat.le_of_ble_eq_true rfl, Nat.le_of_ble_eq_true rfl⟩) (oO_k g2).1 (cc_o3 (oO_k g2).2) rfl rfl hl.1 rfl (lv_room (Nat.le_of_ble_eq_true rfl)) dX3_signed_1 ⟨Nat.zero_le _, Nat.zero_le _⟩ (fun q6 T4 H locs hq G => ?_)
  obtain ⟨hq1, hq2⟩ := hq
  rw [hq2] at G
  refine lv_to hq1 ?_
  clear hq1 hq2 eT3
  refine lv_iconst (v := 3) hx hb dX3_signed_4 (by decide) ?_
  refine lv_icmp_eq (tgt := 15) hx hb dX3_signed_5 (by decide) (fun c7 => ?_) (fun c7 => ?_)
  · have h := oif_pos c7 h
    refine lv_aload_n hx hb dX3_signed_15 rfl (lv_at hl 0 rfl) ?_
    refine lv_dup hx hb dX3_signed_16 rfl ?_
    obtain ⟨g8, h⟩ := oif_some h
    refine c_get E G o 1 (oO_k g8).1 (cc_o3 (oO_k g8).2) rfl (fun w h => .tail _ (iA_17 h)) (by decide) (.tail _ qA_176) rfl rfl dX3_signed_17 ?_
    refine lv_topi (fun v9 ev9 => ?_)
    have h := elet_at ev9 h
    clear ev9
    refine lv_iconst (v := 1) hx hb dX3_signed_20 (by decide) ?_
    refine lv_iadd hx hb dX3_signed_21 ?_
    refine lv_topi (fun v10 ev10 => ?_)
    have h := elet_at ev10 h
    clear ev10
    obtain ⟨g11, h⟩ := oif_some h
    refine c_put E G o 1 (v := .int v10) (oO_k g11).1 (cc_o3 (oO_k g11).2) rfl (fun w h => .tail _ (iA_17 h)) tyX3 tyX3_ok nmX3 (by decide) (.tail _ qA_176) ⟨rfl, rfl, rfl⟩ rfl rfl (Nat.le_of_ble_eq_true rfl) dX3_signed_22 (fun H locs G => ?_)
    have G := gC_up_i (f := upd (T3.2.2.1 o) 1 v10) (by rw [(oO_k g11).2]; rfl) G
    obtain ⟨T12, eT12, h⟩ := elet_some h
    have G : gC cI cJ cZ cMic cSrc cSt cAI cAJ D ad A s.heap H locs T12 := by rw [eT12]; exact G
    clear eT12
    refine lv_aload_n hx hb dX3_signed_25 rfl (lv_at hl 0 rfl) ?_
    refine lv_iload_n hx hb dX3_signed_26 rfl (lv_at hl 2 rfl) ?_
    refine lv_ineg hx hb dX3_signed_27 ?_
    refine lv_topi (fun v13 ev13 => ?_)
    have h := elet_at ev13 h
    clear ev13
    refine lv_iload_n hx hb dX3_signed_28 rfl (lv_at hl 1 rfl) ?_
    refine lv_ineg hx hb dX3_signed_29 ?_
    refine lv_topi (fun v14 ev14 => ?_)
    have h := elet_at ev14 h
    clear ev14
    obtain ⟨g15, h⟩ := oif_some h
    obtain ⟨r18, T16, eT16, h⟩ := othr_n h
    refine q_cvi (As := [.int v13, .int v14]) (rest := []) E G hA hX hN hml (u_X3_number l hst D cI cJ cZ cMic cSrc cSt cAI cAJ ad T12 o v13 v14 eT16) (cwV 2 hts (gaV qA_299 qA_300 qA_301 qA_222 qA_302) rfl rfl rfl (by decide +kernel) ⟨Nat.le_of_ble_eq_true rfl, Nat.le_of_ble_eq_true rfl⟩) (oO_k g15).1 (cc_o3 (oO_k g15).2) rfl rfl hl.1 rfl (lv_room (Nat.le_of_ble_eq_true rfl)) dX3_signed_30 ⟨Nat.zero_le _, Nat.zero_le _⟩ (fun q19 T17 H locs hq G => ?_)
    obtain ⟨hq1, hq2⟩ := hq
    rw [hq2] at G
    refine lv_to hq1 ?_
    clear hq1 hq2 eT16
    refine lv_ineg hx hb dX3_signed_33 ?_
    refine lv_topi (fun v20 ev20 => ?_)
    have h := elet_at ev20 h
    clear ev20
    exact W.iret (v := v20) hx hb hr (fun t ht hW => ⟨⟨v20, T16, rfl, (osome3 h).2, ⟨by rw [ht]; exact G.1, va_K.moved hW.alike hK, G.2.1⟩⟩, G.2.2.F ht⟩) G.2.2.2.2 dX3_signed_34
  · have h := oif_neg c7 h
    refine lv_aload_n hx hb dX3_signed_8 rfl (lv_at hl 0 rfl) ?_
    refine lv_iload_n hx hb dX3_signed_9 rfl (lv_at hl 1 rfl) ?_
    refine lv_iload_n hx hb dX3_signed_10 rfl (lv_at hl 2 rfl) ?_
    obtain ⟨g21, h⟩ := oif_some h
    obtain ⟨r24, T22, eT22, h⟩ := othr_n h
    refine q_cvi (As := [.int a0, .int a1]) (rest := []) E G hA hX hN hml (u_X3_number l hst D cI cJ cZ cMic cSrc cSt cAI cAJ ad T3 o a0 a1 eT22) (cwV 2 hts (gaV qA_299 qA_300 qA_301 qA_222 qA_302) rfl rfl rfl (by decide +kernel) ⟨Nat.le_of_ble_eq_true rfl, Nat.le_of_ble_eq_true rfl⟩) (oO_k g21).1 (cc_o3 (oO_k g21).2) rfl rfl hl.1 rfl (lv_room (Nat.le_of_ble_eq_true rfl)) dX3_signed_11 ⟨Nat.zero_le _, Nat.zero_le _⟩ (fun q25 T23 H locs hq G => ?_)
    obtain ⟨hq1, hq2⟩ := hq
    rw [hq2] at G
    refine lv_to hq1 ?_
    clear hq1 hq2 eT22
    exact W.iret (v := r24) hx hb hr (fun t ht hW => ⟨⟨r24, T22, rfl, (osome3 h).2, ⟨by rw [ht]; exact G.1, va_K.moved hW.alike hK, G.2.1⟩⟩, G.2.2.F ht⟩) G.2.2.2.2 dX3_signed_14
set_option maxHeartbeats 4000000 in
set_option maxRecDepth 100000 in
theorem s_X3_signed {T : AT} {o : Nat} {a0 : Int32} {a1 : Int32} {e1 : Nat} {r1 : Int32} {T1 : AT} (h : g_X3_signed T o a0 a1 = some (e1, r1, T1)) : SP T T1 := by
  have p0 := SP.rf T
  unfold g_X3_signed at h
  obtain ⟨g2, h⟩ := oif_some h
  obtain ⟨r4, T3, eT3, h⟩ := obind2_some h
  have p1 : SP T T3 := SP.tr p0 (s_X3_kind eT3)
  rcases oif_or h with ⟨c5, h⟩ | ⟨c5, h⟩
  · have h := h
    obtain ⟨g6, h⟩ := oif_some h
    obtain ⟨v7, -, h⟩ := elet_some h
    obtain ⟨v8, -, h⟩ := elet_some h
    obtain ⟨g9, h⟩ := oif_some h
    obtain ⟨T10, eT10, h⟩ := elet_some h
    have p2 : SP T T10 := SP.tr p1 (by rw [eT10]; exact sp_uI)
    obtain ⟨v11, -, h⟩ := elet_some h
    obtain ⟨v12, -, h⟩ := elet_some h
    obtain ⟨g13, h⟩ := oif_some h
    rcases othr_s h with ⟨k9, r9, e9, -⟩ | ⟨r15, T14, eT14, h⟩
    · exact SP.tr p2 (s_X3_number e9)
    have p3 : SP T T14 := SP.tr p2 (s_X3_number eT14)
    obtain ⟨v16, -, h⟩ := elet_some h
    rw [← (osome3 h).2.2]
    exact p3
  · have h := h
    obtain ⟨g17, h⟩ := oif_some h
    rcases othr_s h with ⟨k9, r9, e9, -⟩ | ⟨r19, T18, eT18, h⟩
    · exact SP.tr p1 (s_X3_number e9)
    have p2 : SP T T18 := SP.tr p1 (s_X3_number eT18)
    rw [← (osome3 h).2.2]
    exact p2
set_option maxHeartbeats 4000000 in
set_option maxRecDepth 100000 in
theorem x_X3_signed (l : Launch) (hst : l.stackTraces = false) (D : va_G) (cI cJ cZ cMic cSrc cSt cAI cAJ : ClassId) (ad : Nat → Nat) (T : AT) (o : Nat) (a0 : Int32) (a1 : Int32) {e1 : Nat} {r1 : Int32} {T1 : AT} (h : g_X3_signed T o a0 a1 = some (e1 + 1, r1, T1)) : kXi l yX3_signed (Cond.code yX3_signed cX3_signed 3 (some .int) :: wsA) 8 126 cI cJ cZ cMic cSrc cSt cAI cAJ D ad T [.ref (ad o), .int a0, .int a1] e1 T1 := by
  intro sz
  refine vx_ofW (cc := cX3_signed) (maxL := 3) (ret := (some .int)) (by decide) rfl ?_
  intro p e s m args below meth c s₁ B hml htab hv
  obtain ⟨rfl, hsz, hP, hK, hD0, hX, hN⟩ := hv
  have hx := B.exec
  have hb := B.bytes
  have hr := B.returns
  have hts := atoms_spec (ws := (Cond.code yX3_signed cX3_signed 3 (some .int) :: wsA)) B.pre
  have hown : s.vm.findClass RX3 = some m.cls := findClass_of_methodNamed B.named
  have hlocks := B.notSynchronized
  subst hsz
  have hD := hD0.self (sz := s.heap.size)
  generalize hAe : va_A (cW ad T.1 (cc cI cJ cZ cMic cSrc cSt cAI cAJ ad T)) s.heap.size = A at hD hX ⊢
  have hA : ∀ q : Nat, s.heap.size ≤ q → A q := fun q h => by rw [← hAe]; exact Or.inr h
  have G : gC cI cJ cZ cMic cSrc cSt cAI cAJ D ad A s.heap s.heap [] T := ⟨hP, hD, va_S.rf⟩
  have E : cE p c cX3_signed s m ([.ref (ad o), .int a0, .int a1] : List Value).toArray (Cond.code yX3_signed cX3_signed 3 (some .int) :: wsA) D RX3 (CT cI cJ cZ cMic cSrc cSt cAI cAJ) := ⟨hx, hb, hts, hown, hK⟩
  have htab : ∀ x ∈ c.exceptionTable.toList, False := fun x hx => htab x hx
  have hl := lv_entry ([.ref (ad o), .int a0, .int a1]) (n := 3) (Nat.le_of_ble_eq_true rfl)
  rw [lg_entry_eq]
  generalize (lg_sl ([.ref (ad o), .int a0, .int a1]) ++ List.replicate (3 - (lg_sl ([.ref (ad o), .int a0, .int a1])).length) Slot.unset).toArray = ls at hl ⊢
  have hl : lv_has ls 3 [(0, .ref (ad o)), (1, .int a0), (2, .int a1)] := hl
  unfold g_X3_signed at h
  refine lv_aload_n hx hb dX3_signed_0 rfl (lv_at hl 0 rfl) ?_
  obtain ⟨g2, h⟩ := oif_some h
  obtain ⟨r5, T3, eT3, h⟩ := obind2_some h
  refine q_cvi (As := []) (rest := []) E G hA hX hN hml (u_X3_kind l hst D cI cJ cZ cMic cSrc cSt cAI cAJ ad T o eT3) (cwV 0 hts (gaV qA_239 qA_240 qA_241 qA_222 qA_242) rfl rfl rfl (by decide +kernel) ⟨Nat.le_of_ble_eq_true rfl, Nat.le_of_ble_eq_true rfl⟩) (oO_k g2).1 (cc_o3 (oO_k g2).2) rfl rfl hl.1 rfl (lv_room (Nat.le_of_ble_eq_true rfl)) dX3_signed_1 ⟨Nat.zero_le _, Nat.zero_le _⟩ (fun q6 T4 H locs hq G => ?_)
  obtain ⟨hq1, hq2⟩ := hq
  rw [hq2] at G
  refine lv_to hq1 ?_
  clear hq1 hq2 eT3
  refine lv_iconst (v := 3) hx hb dX3_signed_4 (by decide) ?_
  refine lv_icmp_eq (tgt := 15) hx hb dX3_signed_5 (by decide) (fun c7 => ?_) (fun c7 => ?_)
  · have h := oif_pos c7 h
    refine lv_aload_n hx hb dX3_signed_15 rfl (lv_at hl 0 rfl) ?_
    refine lv_dup hx hb dX3_signed_16 rfl ?_
    obtain ⟨g8, h⟩ := oif_some h
    refine c_get E G o 1 (oO_k g8).1 (cc_o3 (oO_k g8).2) rfl (fun w h => .tail _ (iA_17 h)) (by decide) (.tail _ qA_176) rfl rfl dX3_signed_17 ?_
    refine lv_topi (fun v9 ev9 => ?_)
    have h := elet_at ev9 h
    clear ev9
    refine lv_iconst (v := 1) hx hb dX3_signed_20 (by decide) ?_
    refine lv_iadd hx hb dX3_signed_21 ?_
    refine lv_topi (fun v10 ev10 => ?_)
    have h := elet_at ev10 h
    clear ev10
    obtain ⟨g11, h⟩ := oif_some h
    refine c_put E G o 1 (v := .int v10) (oO_k g11).1 (cc_o3 (oO_k g11).2) rfl (fun w h => .tail _ (iA_17 h)) tyX3 tyX3_ok nmX3 (by decide) (.tail _ qA_176) ⟨rfl, rfl, rfl⟩ rfl rfl (Nat.le_of_ble_eq_true rfl) dX3_signed_22 (fun H locs G => ?_)
    have G := gC_up_i (f := upd (T3.2.2.1 o) 1 v10) (by rw [(oO_k g11).2]; rfl) G
    obtain ⟨T12, eT12, h⟩ := elet_some h
    have G : gC cI cJ cZ cMic cSrc cSt cAI cAJ D ad A s.heap H locs T12 := by rw [eT12]; exact G
    clear eT12
    refine lv_aload_n hx hb dX3_signed_25 rfl (lv_at hl 0 rfl) ?_
    refine lv_iload_n hx hb dX3_signed_26 rfl (lv_at hl 2 rfl) ?_
    refine lv_ineg hx hb dX3_signed_27 ?_
    refine lv_topi (fun v13 ev13 => ?_)
    have h := elet_at ev13 h
    clear ev13
    refine lv_iload_n hx hb dX3_signed_28 rfl (lv_at hl 1 rfl) ?_
    refine lv_ineg hx hb dX3_signed_29 ?_
    refine lv_topi (fun v14 ev14 => ?_)
    have h := elet_at ev14 h
    clear ev14
    obtain ⟨g15, h⟩ := oif_some h
    rcases othr_t h with ⟨r0, eT16⟩ | ⟨r18, T16, eT16, h⟩
    · refine q_xvi (As := [.int v13, .int v14]) (rest := []) E G hA hX hN hml (x_X3_number l hst D cI cJ cZ cMic cSrc cSt cAI cAJ ad T12 o v13 v14 eT16) (cwV 2 hts (gaV qA_299 qA_300 qA_301 qA_222 qA_302) rfl rfl rfl (by decide +kernel) ⟨Nat.le_of_ble_eq_true rfl, Nat.le_of_ble_eq_true rfl⟩) (oO_k g15).1 (cc_o3 (oO_k g15).2) rfl rfl hl.1 rfl (lv_room (Nat.le_of_ble_eq_true rfl)) dX3_signed_30 ⟨Nat.le_of_ble_eq_true rfl, Nat.le_of_ble_eq_true rfl⟩ (fun E9 ce q9 T9 H locs hp G hce hcv hcl => ?_)
      obtain ⟨hE, hT⟩ := hp
      subst hE
      rw [hT] at G
      exact vx_out (fun x hx => (htab x hx).elim) hlocks hce hcv hcl (fun t ht hvm => ⟨T1, trivial, ⟨⟨rfl, rfl⟩, by rw [ht]; exact G.1, va_K.moved hvm hK, G.2.1⟩, G.2.2.F ht⟩) G.2.2.2.2 (Nat.le_refl _) (Nat.le_refl _)
    refine q_cvi (As := [.int v13, .int v14]) (rest := []) E G hA hX hN hml (u_X3_number l hst D cI cJ cZ cMic cSrc cSt cAI cAJ ad T12 o v13 v14 eT16) (cwV 2 hts (gaV qA_299 qA_300 qA_301 qA_222 qA_302) rfl rfl rfl (by decide +kernel) ⟨Nat.le_of_ble_eq_true rfl, Nat.le_of_ble_eq_true rfl⟩) (oO_k g15).1 (cc_o3 (oO_k g15).2) rfl rfl hl.1 rfl (lv_room (Nat.le_of_ble_eq_true rfl)) dX3_signed_30 ⟨Nat.zero_le _, Nat.zero_le _⟩ (fun q19 T17 H locs hq G => ?_)
    obtain ⟨hq1, hq2⟩ := hq
    rw [hq2] at G
    refine lv_to hq1 ?_
    clear hq1 hq2 eT16
    refine lv_ineg hx hb dX3_signed_33 ?_
    refine lv_topi (fun v20 ev20 => ?_)
    have h := elet_at ev20 h
    clear ev20
    exact (Nat.succ_ne_zero _ (congrArg Prod.fst (Option.some.inj h)).symm).elim
  · have h := oif_neg c7 h
    refine lv_aload_n hx hb dX3_signed_8 rfl (lv_at hl 0 rfl) ?_
    refine lv_iload_n hx hb dX3_signed_9 rfl (lv_at hl 1 rfl) ?_
    refine lv_iload_n hx hb dX3_signed_10 rfl (lv_at hl 2 rfl) ?_
    obtain ⟨g21, h⟩ := oif_some h
    rcases othr_t h with ⟨r0, eT22⟩ | ⟨r24, T22, eT22, h⟩
    · refine q_xvi (As := [.int a0, .int a1]) (rest := []) E G hA hX hN hml (x_X3_number l hst D cI cJ cZ cMic cSrc cSt cAI cAJ ad T3 o a0 a1 eT22) (cwV 2 hts (gaV qA_299 qA_300 qA_301 qA_222 qA_302) rfl rfl rfl (by decide +kernel) ⟨Nat.le_of_ble_eq_true rfl, Nat.le_of_ble_eq_true rfl⟩) (oO_k g21).1 (cc_o3 (oO_k g21).2) rfl rfl hl.1 rfl (lv_room (Nat.le_of_ble_eq_true rfl)) dX3_signed_11 ⟨Nat.le_of_ble_eq_true rfl, Nat.le_of_ble_eq_true rfl⟩ (fun E9 ce q9 T9 H locs hp G hce hcv hcl => ?_)
      obtain ⟨hE, hT⟩ := hp
      subst hE
      rw [hT] at G
      exact vx_out (fun x hx => (htab x hx).elim) hlocks hce hcv hcl (fun t ht hvm => ⟨T1, trivial, ⟨⟨rfl, rfl⟩, by rw [ht]; exact G.1, va_K.moved hvm hK, G.2.1⟩, G.2.2.F ht⟩) G.2.2.2.2 (Nat.le_refl _) (Nat.le_refl _)
    refine q_cvi (As := [.int a0, .int a1]) (rest := []) E G hA hX hN hml (u_X3_number l hst D cI cJ cZ cMic cSrc cSt cAI cAJ ad T3 o a0 a1 eT22) (cwV 2 hts (gaV qA_299 qA_300 qA_301 qA_222 qA_302) rfl rfl rfl (by decide +kernel) ⟨Nat.le_of_ble_eq_true rfl, Nat.le_of_ble_eq_true rfl⟩) (oO_k g21).1 (cc_o3 (oO_k g21).2) rfl rfl hl.1 rfl (lv_room (Nat.le_of_ble_eq_true rfl)) dX3_signed_11 ⟨Nat.zero_le _, Nat.zero_le _⟩ (fun q25 T23 H locs hq G => ?_)
    obtain ⟨hq1, hq2⟩ := hq
    rw [hq2] at G
    refine lv_to hq1 ?_
    clear hq1 hq2 eT22
    exact (Nat.succ_ne_zero _ (congrArg Prod.fst (Option.some.inj h)).symm).elim
def g_X6_addTap_b28  (T : AT)  : Option (AT) := some T
set_option maxHeartbeats 4000000 in
set_option maxRecDepth 100000 in
theorem u_X6_addTap_b28 {p : Program} {l : Launch} {e : Env} {s : State} {m : MethodId} {args : Array Value} {below : List Frame} {meth : Method} {c : Code} {Q : State → Prop} {D : va_G} {A : Nat → Prop} {cI cJ cZ cMic cSrc cSt cAI cAJ : ClassId} {ad : Nat → Nat} {T1 : AT} (E : cE p c cX6_addTap s m args (Cond.code yX6_addTap cX6_addTap 2 none :: wsA) D RX6 (CT cI cJ cZ cMic cSrc cSt cAI cAJ)) (hA : ∀ q : Nat, s.heap.size ≤ q → A q) (hX : xT A s) (hN : nX s) (hml : c.maxLocals = 2) (hst : l.stackTraces = false) (kr28 : ∀ (H : Heap) (locs : List Loc) (ls : Array Slot), gC cI cJ cZ cMic cSrc cSt cAI cAJ D ad A s.heap H locs T1 → W p l e { frames := 1, cells := 0, slots := 0, locals := 0 } s m args below meth c H locs 0 0 Q (F0 m 28 ls [])) : ∀ (T : AT) (H : Heap) (locs : List Loc) (ls : Array Slot), g_X6_addTap_b28 T = some T1 → gC cI cJ cZ cMic cSrc cSt cAI cAJ D ad A s.heap H locs T → lv_has ls 2 [] → W p l e { frames := 1, cells := 0, slots := 0, locals := 0 } s m args below meth c H locs 0 0 Q (F0 m 28 ls []) := by
  have hx := E.1
  have hb := E.2.1
  have hts := E.2.2.1
  have hown := E.2.2.2.1
  have hK := E.2.2.2.2
  intro T H locs ls h G hl
  unfold g_X6_addTap_b28 at h
  rw [osome1 h] at G
  exact kr28 _ _ _ G
def g_X6_addTap (T : AT) (o : Nat) (a0 : Int32) : Option (AT) := oif (oO T o 6 = true) <| elet (T.2.2.1 o 14) fun v3 => if 5 ≤ v3 then (g_X6_addTap_b28 T) else (oif (oO T o 6 = true) <| obind (T.2.2.2.2 o 13) fun n6 => oif (oO T o 6 = true) <| elet (T.2.2.1 o 14) fun v8 => oif (aA T n6 100 = true) <| oif (inb v8 (T.2.1 n6).2 = true) <| elet (uI T n6 v8.toNatClampNeg a0) fun T11 => oif (oO T11 o 6 = true) <| elet (T11.2.2.1 o 14) fun v13 => elet (v13 + 1) fun v14 => oif (oO T11 o 6 = true) <| elet (uI T11 o 14 v14) fun T16 => g_X6_addTap_b28 T16)
set_option maxHeartbeats 4000000 in
set_option maxRecDepth 100000 in
theorem u_X6_addTap (l : Launch) (hst : l.stackTraces = false) (D : va_G) (cI cJ cZ cMic cSrc cSt cAI cAJ : ClassId) (ad : Nat → Nat) (T : AT) (o : Nat) (a0 : Int32) {T1 : AT} (h : g_X6_addTap T o a0 = some T1) : kCv l yX6_addTap (Cond.code yX6_addTap cX6_addTap 2 none :: wsA) 1 0 cI cJ cZ cMic cSrc cSt cAI cAJ D ad T [.ref (ad o), .int a0] (fun T9 => T9 = T1) := by
  intro sz
  refine Met.ofW (cc := cX6_addTap) (maxL := 2) (ret := none) (by decide) rfl ?_
  intro p e s m args below meth c s₁ B hml hv
  obtain ⟨rfl, hsz, hP, hK, hD0, hX, hN⟩ := hv
  have hx := B.exec
  have hb := B.bytes
  have hr := B.returns
  have hts := atoms_spec (ws := (Cond.code yX6_addTap cX6_addTap 2 none :: wsA)) B.pre
  have hown : s.vm.findClass RX6 = some m.cls := findClass_of_methodNamed B.named
  have hlocks := B.notSynchronized
  subst hsz
  have hD := hD0.self (sz := s.heap.size)
  generalize hAe : va_A (cW ad T.1 (cc cI cJ cZ cMic cSrc cSt cAI cAJ ad T)) s.heap.size = A at hD hX ⊢
  have hA : ∀ q : Nat, s.heap.size ≤ q → A q := fun q h => by rw [← hAe]; exact Or.inr h
  have G : gC cI cJ cZ cMic cSrc cSt cAI cAJ D ad A s.heap s.heap [] T := ⟨hP, hD, va_S.rf⟩
  have E : cE p c cX6_addTap s m ([.ref (ad o), .int a0] : List Value).toArray (Cond.code yX6_addTap cX6_addTap 2 none :: wsA) D RX6 (CT cI cJ cZ cMic cSrc cSt cAI cAJ) := ⟨hx, hb, hts, hown, hK⟩
  have hl := lv_entry ([.ref (ad o), .int a0]) (n := 2) (Nat.le_of_ble_eq_true rfl)
  rw [lg_entry_eq]
  generalize (lg_sl ([.ref (ad o), .int a0]) ++ List.replicate (2 - (lg_sl ([.ref (ad o), .int a0])).length) Slot.unset).toArray = ls at hl ⊢
  have hl : lv_has ls 2 [(0, .ref (ad o)), (1, .int a0)] := hl
  unfold g_X6_addTap at h
  refine lv_aload_n hx hb dX6_addTap_0 rfl (lv_at hl 0 rfl) ?_
  obtain ⟨g2, h⟩ := oif_some h
  refine c_get E G o 14 (oO_k g2).1 (cc_o6 (oO_k g2).2) rfl (fun w h => .tail _ (iA_14 h)) (by decide) (.tail _ qA_214) rfl rfl dX6_addTap_1 ?_
  refine lv_topi (fun v3 ev3 => ?_)
  have h := elet_at ev3 h
  clear ev3
  refine lv_iconst (v := 5) hx hb dX6_addTap_4 (by decide) ?_
  refine lv_icmp_ge (tgt := 28) hx hb dX6_addTap_5 (by decide) (fun c4 => ?_) (fun c4 => ?_)
  · have h := oif_pos c4 h
    have hl := lv_sub hl [] rfl
    exact u_X6_addTap_b28 E hA hX hN hml hst (fun H locs ls G => W.vret hx hb hr (fun t ht hW => ⟨⟨T1, rfl, rfl, ⟨by rw [ht]; exact G.1, va_K.moved hW.alike hK, G.2.1⟩⟩, G.2.2.F ht⟩) G.2.2.2.2 dX6_addTap_28) _ _ _ _ h G hl
  · have h := oif_neg c4 h
    refine lv_aload_n hx hb dX6_addTap_8 rfl (lv_at hl 0 rfl) ?_
    obtain ⟨g5, h⟩ := oif_some h
    obtain ⟨n6, en6, h⟩ := obind_some h
    refine c_get E G o 13 (v := .ref (ad n6)) (oO_k g5).1 (cc_o6 (oO_k g5).2) rfl (fun w h => .tail _ (iA_14 h)) (by decide) (.tail _ qA_375) rfl (by rw [en6]; rfl) dX6_addTap_9 ?_
    clear en6
    refine lv_aload_n hx hb dX6_addTap_12 rfl (lv_at hl 0 rfl) ?_
    obtain ⟨g7, h⟩ := oif_some h
    refine c_get E G o 14 (oO_k g7).1 (cc_o6 (oO_k g7).2) rfl (fun w h => .tail _ (iA_14 h)) (by decide) (.tail _ qA_214) rfl rfl dX6_addTap_13 ?_
    refine lv_topi (fun v8 ev8 => ?_)
    have h := elet_at ev8 h
    clear ev8
    refine lv_iload_n hx hb dX6_addTap_16 rfl (lv_at hl 1 rfl) ?_
    obtain ⟨g9, h⟩ := oif_some h
    obtain ⟨g10, h⟩ := oif_some h
    refine c_iast E G n6 0 (k := v8.toNatClampNeg) (v := a0) (aA_k g9).1 (cc_a100 (aA_k g9).2.1) rfl (inb_k g10).1 (inb_k g10).2 (aA_k g9).2.2 dX6_addTap_17 (fun H locs G => ?_)
    have G := gC_up_i (f := upd (T.2.2.1 n6) v8.toNatClampNeg a0) (ccv_100 (aA_k g9).2.1) G
    obtain ⟨T11, eT11, h⟩ := elet_some h
    have G : gC cI cJ cZ cMic cSrc cSt cAI cAJ D ad A s.heap H locs T11 := by rw [eT11]; exact G
    clear eT11
    refine lv_aload_n hx hb dX6_addTap_18 rfl (lv_at hl 0 rfl) ?_
    refine lv_dup hx hb dX6_addTap_19 rfl ?_
    obtain ⟨g12, h⟩ := oif_some h
    refine c_get E G o 14 (oO_k g12).1 (cc_o6 (oO_k g12).2) rfl (fun w h => .tail _ (iA_14 h)) (by decide) (.tail _ qA_214) rfl rfl dX6_addTap_20 ?_
    refine lv_topi (fun v13 ev13 => ?_)
    have h := elet_at ev13 h
    clear ev13
    refine lv_iconst (v := 1) hx hb dX6_addTap_23 (by decide) ?_
    refine lv_iadd hx hb dX6_addTap_24 ?_
    refine lv_topi (fun v14 ev14 => ?_)
    have h := elet_at ev14 h
    clear ev14
    obtain ⟨g15, h⟩ := oif_some h
    refine c_put E G o 14 (v := .int v14) (oO_k g15).1 (cc_o6 (oO_k g15).2) rfl (fun w h => .tail _ (iA_14 h)) tyX6 tyX6_ok nmX6 (by decide) (.tail _ qA_214) ⟨rfl, rfl, rfl⟩ rfl rfl (Nat.le_of_ble_eq_true rfl) dX6_addTap_25 (fun H locs G => ?_)
    have G := gC_up_i (f := upd (T11.2.2.1 o) 14 v14) (by rw [(oO_k g15).2]; rfl) G
    obtain ⟨T16, eT16, h⟩ := elet_some h
    have G : gC cI cJ cZ cMic cSrc cSt cAI cAJ D ad A s.heap H locs T16 := by rw [eT16]; exact G
    clear eT16
    have hl := lv_sub hl [] rfl
    exact u_X6_addTap_b28 E hA hX hN hml hst (fun H locs ls G => W.vret hx hb hr (fun t ht hW => ⟨⟨T1, rfl, rfl, ⟨by rw [ht]; exact G.1, va_K.moved hW.alike hK, G.2.1⟩⟩, G.2.2.F ht⟩) G.2.2.2.2 dX6_addTap_28) _ _ _ _ h G hl
set_option maxHeartbeats 4000000 in
set_option maxRecDepth 100000 in
theorem s_X6_addTap_b28 {T1 : AT} : ∀ (T : AT), g_X6_addTap_b28 T = some T1 → SP T T1 := by
  intro T h
  have p0 := SP.rf T
  unfold g_X6_addTap_b28 at h
  rw [← osome1 h]
  exact p0
set_option maxHeartbeats 4000000 in
set_option maxRecDepth 100000 in
theorem s_X6_addTap {T : AT} {o : Nat} {a0 : Int32} {T1 : AT} (h : g_X6_addTap T o a0 = some T1) : SP T T1 := by
  have p0 := SP.rf T
  unfold g_X6_addTap at h
  obtain ⟨g2, h⟩ := oif_some h
  obtain ⟨v3, -, h⟩ := elet_some h
  rcases oif_or h with ⟨c4, h⟩ | ⟨c4, h⟩
  · have h := h
    exact SP.tr p0 (s_X6_addTap_b28 _ h)
  · have h := h
    obtain ⟨g5, h⟩ := oif_some h
    obtain ⟨n6, en6, h⟩ := obind_some h
    obtain ⟨g7, h⟩ := oif_some h
    obtain ⟨v8, -, h⟩ := elet_some h
    obtain ⟨g9, h⟩ := oif_some h
    obtain ⟨g10, h⟩ := oif_some h
    obtain ⟨T11, eT11, h⟩ := elet_some h
    have p1 : SP T T11 := SP.tr p0 (by rw [eT11]; exact sp_uI)
    obtain ⟨g12, h⟩ := oif_some h
    obtain ⟨v13, -, h⟩ := elet_some h
    obtain ⟨v14, -, h⟩ := elet_some h
    obtain ⟨g15, h⟩ := oif_some h
    obtain ⟨T16, eT16, h⟩ := elet_some h
    have p2 : SP T T16 := SP.tr p1 (by rw [eT16]; exact sp_uI)
    exact SP.tr p2 (s_X6_addTap_b28 _ h)
def g_X3_parseFilter_b81  (T : AT)  : Option (Nat × Int32 × AT) := some (0, 0, T)
set_option maxHeartbeats 4000000 in
set_option maxRecDepth 100000 in
theorem u_X3_parseFilter_b81 {p : Program} {l : Launch} {e : Env} {s : State} {m : MethodId} {args : Array Value} {below : List Frame} {meth : Method} {c : Code} {Q : State → Prop} {D : va_G} {A : Nat → Prop} {cI cJ cZ cMic cSrc cSt cAI cAJ : ClassId} {ad : Nat → Nat} {r1 : Int32} {T1 : AT} (E : cE p c cX3_parseFilter s m args (Cond.code yX3_parseFilter cX3_parseFilter 3 none :: wsA) D RX3 (CT cI cJ cZ cMic cSrc cSt cAI cAJ)) (hA : ∀ q : Nat, s.heap.size ≤ q → A q) (hX : xT A s) (hN : nX s) (hml : c.maxLocals = 3) (hst : l.stackTraces = false) (kr81 : ∀ (H : Heap) (locs : List Loc) (ls : Array Slot), gC cI cJ cZ cMic cSrc cSt cAI cAJ D ad A s.heap H locs T1 → W p l e { frames := 9, cells := 0, slots := 0, locals := 148 } s m args below meth c H locs 0 0 Q (F0 m 81 ls [])) : ∀ (T : AT) (H : Heap) (locs : List Loc) (ls : Array Slot), g_X3_parseFilter_b81 T = some (0, r1, T1) → gC cI cJ cZ cMic cSrc cSt cAI cAJ D ad A s.heap H locs T → lv_has ls 3 [] → W p l e { frames := 9, cells := 0, slots := 0, locals := 148 } s m args below meth c H locs 0 0 Q (F0 m 81 ls []) := by
  have hx := E.1
  have hb := E.2.1
  have hts := E.2.2.1
  have hown := E.2.2.2.1
  have hK := E.2.2.2.2
  intro T H locs ls h G hl
  unfold g_X3_parseFilter_b81 at h
  rw [(osome3 h).2.2] at G
  exact kr81 _ _ _ G
def g_X3_parseFilter_b63 (k31 : AT → Nat → Nat → Int32 → Option (Nat × Int32 × AT)) (T : AT) (l0 : Nat) (l1 : Nat) (l2 : Int32) : Option (Nat × Int32 × AT) := oif (oO T l0 3 = true) <| othr (g_X3_signed T l0 ((-9) : Int32) (9 : Int32)) 0 fun r5 T3 => oif (oO T3 l1 6 = true) <| obind (g_X6_addTap T3 l1 r5) fun T8 => elet (l2 + Int32.ofInt (1)) fun v10 => k31 T8 l0 l1 v10
set_option maxHeartbeats 4000000 in
set_option maxRecDepth 100000 in
theorem u_X3_parseFilter_b63 {p : Program} {l : Launch} {e : Env} {s : State} {m : MethodId} {args : Array Value} {below : List Frame} {meth : Method} {c : Code} {Q : State → Prop} {D : va_G} {A : Nat → Prop} {cI cJ cZ cMic cSrc cSt cAI cAJ : ClassId} {ad : Nat → Nat} {r1 : Int32} {T1 : AT} (E : cE p c cX3_parseFilter s m args (Cond.code yX3_parseFilter cX3_parseFilter 3 none :: wsA) D RX3 (CT cI cJ cZ cMic cSrc cSt cAI cAJ)) (hA : ∀ q : Nat, s.heap.size ≤ q → A q) (hX : xT A s) (hN : nX s) (hml : c.maxLocals = 3) (hst : l.stackTraces = false) (kr81 : ∀ (H : Heap) (locs : List Loc) (ls : Array Slot), gC cI cJ cZ cMic cSrc cSt cAI cAJ D ad A s.heap H locs T1 → W p l e { frames := 9, cells := 0, slots := 0, locals := 148 } s m args below meth c H locs 0 0 Q (F0 m 81 ls [])) {k31 : AT → Nat → Nat → Int32 → Option (Nat × Int32 × AT)} (hk31 : ∀ (T : AT) (H : Heap) (locs : List Loc) (ls : Array Slot) (l0 : Nat) (l1 : Nat) (l2 : Int32), k31 T l0 l1 l2 = some (0, r1, T1) → gC cI cJ cZ cMic cSrc cSt cAI cAJ D ad A s.heap H locs T → lv_has ls 3 [(0, .ref (ad l0)), (1, .ref (ad l1)), (2, .int l2)] → W p l e { frames := 9, cells := 0, slots := 0, locals := 148 } s m args below meth c H locs 0 0 Q (F0 m 31 ls [])) : ∀ (T : AT) (H : Heap) (locs : List Loc) (ls : Array Slot) (l0 : Nat) (l1 : Nat) (l2 : Int32), g_X3_parseFilter_b63 k31 T l0 l1 l2 = some (0, r1, T1) → gC cI cJ cZ cMic cSrc cSt cAI cAJ D ad A s.heap H locs T → lv_has ls 3 [(0, .ref (ad l0)), (1, .ref (ad l1)), (2, .int l2)] → W p l e { frames := 9, cells := 0, slots := 0, locals := 148 } s m args below meth c H locs 0 0 Q (F0 m 63 ls []) := by
  have hx := E.1
  have hb := E.2.1
  have hts := E.2.2.1
  have hown := E.2.2.2.1
  have hK := E.2.2.2.2
  intro T H locs ls l0 l1 l2 h G hl
  unfold g_X3_parseFilter_b63 at h
  refine lv_aload_n hx hb dX3_parseFilter_63 rfl (lv_at hl 1 rfl) ?_
  refine lv_aload_n hx hb dX3_parseFilter_64 rfl (lv_at hl 0 rfl) ?_
  refine lv_bipush (v := (-9)) hx hb dX3_parseFilter_65 (by decide) ?_
  refine lv_bipush (v := 9) hx hb dX3_parseFilter_67 (by decide) ?_
  obtain ⟨g2, h⟩ := oif_some h
  obtain ⟨r5, T3, eT3, h⟩ := othr_n h
  refine q_cvi (As := [.int (-9), .int 9]) (rest := [.ref (ad l1)]) E G hA hX hN hml (u_X3_signed l hst D cI cJ cZ cMic cSrc cSt cAI cAJ ad T l0 ((-9) : Int32) (9 : Int32) eT3) (cwV 2 hts (gaV qA_325 qA_326 qA_327 qA_222 qA_328) rfl rfl rfl (by decide +kernel) ⟨Nat.le_of_ble_eq_true rfl, Nat.le_of_ble_eq_true rfl⟩) (oO_k g2).1 (cc_o3 (oO_k g2).2) rfl rfl hl.1 rfl (lv_room (Nat.le_of_ble_eq_true rfl)) dX3_parseFilter_69 ⟨Nat.zero_le _, Nat.zero_le _⟩ (fun q6 T4 H locs hq G => ?_)
  obtain ⟨hq1, hq2⟩ := hq
  rw [hq2] at G
  refine lv_to hq1 ?_
  clear hq1 hq2 eT3
  obtain ⟨g7, h⟩ := oif_some h
  obtain ⟨T8, eT8, h⟩ := obind_some h
  refine q_cvv (As := [.int r5]) (rest := []) E G hA hX hN hml (u_X6_addTap l hst D cI cJ cZ cMic cSrc cSt cAI cAJ ad T3 l1 r5 eT8) (cwV 1 hts (gaV qA_371 qA_372 qA_373 qA_207 qA_374) rfl rfl rfl (by decide +kernel) ⟨Nat.le_of_ble_eq_true rfl, Nat.le_of_ble_eq_true rfl⟩) (oO_k g7).1 (cc_o6 (oO_k g7).2) rfl rfl hl.1 rfl (lv_room (Nat.le_of_ble_eq_true rfl)) dX3_parseFilter_72 ⟨Nat.zero_le _, Nat.zero_le _⟩ (fun T9 H locs hq G => ?_)
  rw [hq] at G
  clear hq eT8
  obtain ⟨v10, ev10, h⟩ := elet_some h
  refine lv_iinc (v := v10) (lv' := [(2, .int v10), (0, .ref (ad l0)), (1, .ref (ad l1))]) hx hb dX3_parseFilter_75 hl (k := 2) rfl ev10.symm (by decide) rfl (fun ls hl => ?_)
  refine lv_goto (tgt := 31) hx hb dX3_parseFilter_78 (by decide) ?_
  have hl := lv_sub hl [1, 2, 0] rfl
  exact hk31 _ _ _ _ _ _ _ h G hl
def g_X3_parseFilter_b52 (k31 : AT → Nat → Nat → Int32 → Option (Nat × Int32 × AT)) (T : AT) (l0 : Nat) (l1 : Nat) (l2 : Int32) : Option (Nat × Int32 × AT) := if l2 = 5 then (oif (oO T l0 3 = true) <| othr (g_X3_failAsTooMany T l0 (9 : Int32)) 0 fun r6 T4 => g_X3_parseFilter_b63 k31 T4 l0 l1 l2) else (g_X3_parseFilter_b63 k31 T l0 l1 l2)
set_option maxHeartbeats 4000000 in
set_option maxRecDepth 100000 in
theorem u_X3_parseFilter_b52 {p : Program} {l : Launch} {e : Env} {s : State} {m : MethodId} {args : Array Value} {below : List Frame} {meth : Method} {c : Code} {Q : State → Prop} {D : va_G} {A : Nat → Prop} {cI cJ cZ cMic cSrc cSt cAI cAJ : ClassId} {ad : Nat → Nat} {r1 : Int32} {T1 : AT} (E : cE p c cX3_parseFilter s m args (Cond.code yX3_parseFilter cX3_parseFilter 3 none :: wsA) D RX3 (CT cI cJ cZ cMic cSrc cSt cAI cAJ)) (hA : ∀ q : Nat, s.heap.size ≤ q → A q) (hX : xT A s) (hN : nX s) (hml : c.maxLocals = 3) (hst : l.stackTraces = false) (kr81 : ∀ (H : Heap) (locs : List Loc) (ls : Array Slot), gC cI cJ cZ cMic cSrc cSt cAI cAJ D ad A s.heap H locs T1 → W p l e { frames := 9, cells := 0, slots := 0, locals := 148 } s m args below meth c H locs 0 0 Q (F0 m 81 ls [])) {k31 : AT → Nat → Nat → Int32 → Option (Nat × Int32 × AT)} (hk31 : ∀ (T : AT) (H : Heap) (locs : List Loc) (ls : Array Slot) (l0 : Nat) (l1 : Nat) (l2 : Int32), k31 T l0 l1 l2 = some (0, r1, T1) → gC cI cJ cZ cMic cSrc cSt cAI cAJ D ad A s.heap H locs T → lv_has ls 3 [(0, .ref (ad l0)), (1, .ref (ad l1)), (2, .int l2)] → W p l e { frames := 9, cells := 0, slots := 0, locals := 148 } s m args below meth c H locs 0 0 Q (F0 m 31 ls [])) : ∀ (T : AT) (H : Heap) (locs : List Loc) (ls : Array Slot) (l0 : Nat) (l1 : Nat) (l2 : Int32), g_X3_parseFilter_b52 k31 T l0 l1 l2 = some (0, r1, T1) → gC cI cJ cZ cMic cSrc cSt cAI cAJ D ad A s.heap H locs T → lv_has ls 3 [(0, .ref (ad l0)), (1, .ref (ad l1)), (2, .int l2)] → W p l e { frames := 9, cells := 0, slots := 0, locals := 148 } s m args below meth c H locs 0 0 Q (F0 m 52 ls []) := by
  have hx := E.1
  have hb := E.2.1
  have hts := E.2.2.1
  have hown := E.2.2.2.1
  have hK := E.2.2.2.2
  intro T H locs ls l0 l1 l2 h G hl
  unfold g_X3_parseFilter_b52 at h
  refine lv_iload_n hx hb dX3_parseFilter_52 rfl (lv_at hl 2 rfl) ?_
  refine lv_iconst (v := 5) hx hb dX3_parseFilter_53 (by decide) ?_
  refine lv_icmp_ne (tgt := 63) hx hb dX3_parseFilter_54 (by decide) (fun c2 => ?_) (fun c2 => ?_)
  · have h := oif_neg c2 h
    have hl := lv_sub hl [0, 1, 2] rfl
    exact u_X3_parseFilter_b63 E hA hX hN hml hst kr81 hk31 _ _ _ _ _ _ _ h G hl
  · have h := oif_pos c2 h
    refine lv_aload_n hx hb dX3_parseFilter_57 rfl (lv_at hl 0 rfl) ?_
    refine lv_bipush (v := 9) hx hb dX3_parseFilter_58 (by decide) ?_
    obtain ⟨g3, h⟩ := oif_some h
    obtain ⟨r6, T4, eT4, h⟩ := othr_n h
    refine q_cvv (As := [.int 9]) (rest := []) E G hA hX hN hml (u_X3_failAsTooMany l hst D cI cJ cZ cMic cSrc cSt cAI cAJ ad T l0 (9 : Int32) eT4) (cwV 1 hts (gaV qA_376 qA_377 qA_378 qA_222 qA_379) rfl rfl rfl (by decide +kernel) ⟨Nat.le_of_ble_eq_true rfl, Nat.le_of_ble_eq_true rfl⟩) (oO_k g3).1 (cc_o3 (oO_k g3).2) rfl rfl hl.1 rfl (lv_room (Nat.le_of_ble_eq_true rfl)) dX3_parseFilter_60 ⟨Nat.zero_le _, Nat.zero_le _⟩ (fun T5 H locs hq G => ?_)
    rw [hq] at G
    clear hq eT4
    have hl := lv_sub hl [0, 1, 2] rfl
    exact u_X3_parseFilter_b63 E hA hX hN hml hst kr81 hk31 _ _ _ _ _ _ _ h G hl
def g_X3_parseFilter_b31  : Nat → AT → Nat → Nat → Int32 → Option (Nat × Int32 × AT)
  | 0, _, _, _, _ => none
  | n + 1, T, l0, l1, l2 => if 5 < l2 then (g_X3_parseFilter_b81 T) else (oif (oO T l0 3 = true) <| obind2 (g_X3_kind T l0) fun r6 T4 => if r6 = 2 then (g_X3_parseFilter_b52 (g_X3_parseFilter_b31 n) T4 l0 l1 l2) else (oif (oO T4 l0 3 = true) <| obind2 (g_X3_kind T4 l0) fun r12 T10 => if r12 = 3 then (g_X3_parseFilter_b52 (g_X3_parseFilter_b31 n) T10 l0 l1 l2) else (g_X3_parseFilter_b81 T10)))
set_option maxHeartbeats 4000000 in
set_option maxRecDepth 100000 in
theorem u_X3_parseFilter_b31 {p : Program} {l : Launch} {e : Env} {s : State} {m : MethodId} {args : Array Value} {below : List Frame} {meth : Method} {c : Code} {Q : State → Prop} {D : va_G} {A : Nat → Prop} {cI cJ cZ cMic cSrc cSt cAI cAJ : ClassId} {ad : Nat → Nat} {r1 : Int32} {T1 : AT} (E : cE p c cX3_parseFilter s m args (Cond.code yX3_parseFilter cX3_parseFilter 3 none :: wsA) D RX3 (CT cI cJ cZ cMic cSrc cSt cAI cAJ)) (hA : ∀ q : Nat, s.heap.size ≤ q → A q) (hX : xT A s) (hN : nX s) (hml : c.maxLocals = 3) (hst : l.stackTraces = false) (kr81 : ∀ (H : Heap) (locs : List Loc) (ls : Array Slot), gC cI cJ cZ cMic cSrc cSt cAI cAJ D ad A s.heap H locs T1 → W p l e { frames := 9, cells := 0, slots := 0, locals := 148 } s m args below meth c H locs 0 0 Q (F0 m 81 ls [])) : ∀ n : Nat, ∀ (T : AT) (H : Heap) (locs : List Loc) (ls : Array Slot) (l0 : Nat) (l1 : Nat) (l2 : Int32), g_X3_parseFilter_b31 n T l0 l1 l2 = some (0, r1, T1) → gC cI cJ cZ cMic cSrc cSt cAI cAJ D ad A s.heap H locs T → lv_has ls 3 [(0, .ref (ad l0)), (1, .ref (ad l1)), (2, .int l2)] → W p l e { frames := 9, cells := 0, slots := 0, locals := 148 } s m args below meth c H locs 0 0 Q (F0 m 31 ls []) := by
  have hx := E.1
  have hb := E.2.1
  have hts := E.2.2.1
  have hown := E.2.2.2.1
  have hK := E.2.2.2.2
  intro n
  induction n with
  | zero =>
    intro T H locs ls l0 l1 l2 h
    have h : (none : Option (Nat × Int32 × AT)) = some (0, r1, T1) := h
    cases h
  | succ n ih =>
    intro T H locs ls l0 l1 l2 h G hl
    unfold g_X3_parseFilter_b31 at h
    refine lv_iload_n hx hb dX3_parseFilter_31 rfl (lv_at hl 2 rfl) ?_
    refine lv_iconst (v := 5) hx hb dX3_parseFilter_32 (by decide) ?_
    refine lv_icmp_gt (tgt := 81) hx hb dX3_parseFilter_33 (by decide) (fun c2 => ?_) (fun c2 => ?_)
    · have h := oif_pos c2 h
      have hl := lv_sub hl [] rfl
      exact u_X3_parseFilter_b81 E hA hX hN hml hst kr81 _ _ _ _ h G hl
    · have h := oif_neg c2 h
      refine lv_aload_n hx hb dX3_parseFilter_36 rfl (lv_at hl 0 rfl) ?_
      obtain ⟨g3, h⟩ := oif_some h
      obtain ⟨r6, T4, eT4, h⟩ := obind2_some h
      refine q_cvi (As := []) (rest := []) E G hA hX hN hml (u_X3_kind l hst D cI cJ cZ cMic cSrc cSt cAI cAJ ad T l0 eT4) (cwV 0 hts (gaV qA_239 qA_240 qA_241 qA_222 qA_242) rfl rfl rfl (by decide +kernel) ⟨Nat.le_of_ble_eq_true rfl, Nat.le_of_ble_eq_true rfl⟩) (oO_k g3).1 (cc_o3 (oO_k g3).2) rfl rfl hl.1 rfl (lv_room (Nat.le_of_ble_eq_true rfl)) dX3_parseFilter_37 ⟨Nat.zero_le _, Nat.zero_le _⟩ (fun q7 T5 H locs hq G => ?_)
      obtain ⟨hq1, hq2⟩ := hq
      rw [hq2] at G
      refine lv_to hq1 ?_
      clear hq1 hq2 eT4
      refine lv_iconst (v := 2) hx hb dX3_parseFilter_40 (by decide) ?_
      refine lv_icmp_eq (tgt := 52) hx hb dX3_parseFilter_41 (by decide) (fun c8 => ?_) (fun c8 => ?_)
      · have h := oif_pos c8 h
        have hl := lv_sub hl [0, 1, 2] rfl
        exact u_X3_parseFilter_b52 E hA hX hN hml hst kr81 ih _ _ _ _ _ _ _ h G hl
      · have h := oif_neg c8 h
        refine lv_aload_n hx hb dX3_parseFilter_44 rfl (lv_at hl 0 rfl) ?_
        obtain ⟨g9, h⟩ := oif_some h
        obtain ⟨r12, T10, eT10, h⟩ := obind2_some h
        refine q_cvi (As := []) (rest := []) E G hA hX hN hml (u_X3_kind l hst D cI cJ cZ cMic cSrc cSt cAI cAJ ad T4 l0 eT10) (cwV 0 hts (gaV qA_239 qA_240 qA_241 qA_222 qA_242) rfl rfl rfl (by decide +kernel) ⟨Nat.le_of_ble_eq_true rfl, Nat.le_of_ble_eq_true rfl⟩) (oO_k g9).1 (cc_o3 (oO_k g9).2) rfl rfl hl.1 rfl (lv_room (Nat.le_of_ble_eq_true rfl)) dX3_parseFilter_45 ⟨Nat.zero_le _, Nat.zero_le _⟩ (fun q13 T11 H locs hq G => ?_)
        obtain ⟨hq1, hq2⟩ := hq
        rw [hq2] at G
        refine lv_to hq1 ?_
        clear hq1 hq2 eT10
        refine lv_iconst (v := 3) hx hb dX3_parseFilter_48 (by decide) ?_
        refine lv_icmp_ne (tgt := 81) hx hb dX3_parseFilter_49 (by decide) (fun c14 => ?_) (fun c14 => ?_)
        · have h := oif_neg c14 h
          have hl := lv_sub hl [] rfl
          exact u_X3_parseFilter_b81 E hA hX hN hml hst kr81 _ _ _ _ h G hl
        · have h := oif_pos c14 h
          have hl := lv_sub hl [0, 1, 2] rfl
          exact u_X3_parseFilter_b52 E hA hX hN hml hst kr81 ih _ _ _ _ _ _ _ h G hl
def g_X3_parseFilter_b13  (T : AT) (s0 : Int32) (s1 : Nat) (l0 : Nat) (l1 : Nat) : Option (Nat × Int32 × AT) := oif (oO T s1 3 = true) <| othr (g_X3_startLine T s1 s0 (3 : Int32)) 0 fun r5 T3 => oif (oO T3 l0 3 = true) <| othr (g_X3_signed T3 l0 ((-9) : Int32) (9 : Int32)) 0 fun r10 T8 => oif (oO T8 l1 6 = true) <| obind (g_X6_addTap T8 l1 r10) fun T13 => g_X3_parseFilter_b31 16384 T13 l0 l1 1
set_option maxHeartbeats 4000000 in
set_option maxRecDepth 100000 in
theorem u_X3_parseFilter_b13 {p : Program} {l : Launch} {e : Env} {s : State} {m : MethodId} {args : Array Value} {below : List Frame} {meth : Method} {c : Code} {Q : State → Prop} {D : va_G} {A : Nat → Prop} {cI cJ cZ cMic cSrc cSt cAI cAJ : ClassId} {ad : Nat → Nat} {r1 : Int32} {T1 : AT} (E : cE p c cX3_parseFilter s m args (Cond.code yX3_parseFilter cX3_parseFilter 3 none :: wsA) D RX3 (CT cI cJ cZ cMic cSrc cSt cAI cAJ)) (hA : ∀ q : Nat, s.heap.size ≤ q → A q) (hX : xT A s) (hN : nX s) (hml : c.maxLocals = 3) (hst : l.stackTraces = false) (kr81 : ∀ (H : Heap) (locs : List Loc) (ls : Array Slot), gC cI cJ cZ cMic cSrc cSt cAI cAJ D ad A s.heap H locs T1 → W p l e { frames := 9, cells := 0, slots := 0, locals := 148 } s m args below meth c H locs 0 0 Q (F0 m 81 ls [])) : ∀ (T : AT) (H : Heap) (locs : List Loc) (ls : Array Slot) (s0 : Int32) (s1 : Nat) (l0 : Nat) (l1 : Nat), g_X3_parseFilter_b13 T s0 s1 l0 l1 = some (0, r1, T1) → gC cI cJ cZ cMic cSrc cSt cAI cAJ D ad A s.heap H locs T → lv_has ls 3 [(0, .ref (ad l0)), (1, .ref (ad l1))] → W p l e { frames := 9, cells := 0, slots := 0, locals := 148 } s m args below meth c H locs 0 0 Q (F0 m 13 ls [.int s0, .ref (ad s1)]) := by
  have hx := E.1
  have hb := E.2.1
  have hts := E.2.2.1
  have hown := E.2.2.2.1
  have hK := E.2.2.2.2
  intro T H locs ls s0 s1 l0 l1 h G hl
  unfold g_X3_parseFilter_b13 at h
  refine lv_iconst (v := 3) hx hb dX3_parseFilter_13 (by decide) ?_
  obtain ⟨g2, h⟩ := oif_some h
  obtain ⟨r5, T3, eT3, h⟩ := othr_n h
  refine q_cvv (As := [.int s0, .int 3]) (rest := []) E G hA hX hN hml (u_X3_startLine l hst D cI cJ cZ cMic cSrc cSt cAI cAJ ad T s1 s0 (3 : Int32) eT3) (cwV 2 hts (gaV qA_321 qA_322 qA_323 qA_222 qA_324) rfl rfl rfl (by decide +kernel) ⟨Nat.le_of_ble_eq_true rfl, Nat.le_of_ble_eq_true rfl⟩) (oO_k g2).1 (cc_o3 (oO_k g2).2) rfl rfl hl.1 rfl (lv_room (Nat.le_of_ble_eq_true rfl)) dX3_parseFilter_14 ⟨Nat.zero_le _, Nat.zero_le _⟩ (fun T4 H locs hq G => ?_)
  rw [hq] at G
  clear hq eT3
  refine lv_aload_n hx hb dX3_parseFilter_17 rfl (lv_at hl 1 rfl) ?_
  refine lv_aload_n hx hb dX3_parseFilter_18 rfl (lv_at hl 0 rfl) ?_
  refine lv_bipush (v := (-9)) hx hb dX3_parseFilter_19 (by decide) ?_
  refine lv_bipush (v := 9) hx hb dX3_parseFilter_21 (by decide) ?_
  obtain ⟨g7, h⟩ := oif_some h
  obtain ⟨r10, T8, eT8, h⟩ := othr_n h
  refine q_cvi (As := [.int (-9), .int 9]) (rest := [.ref (ad l1)]) E G hA hX hN hml (u_X3_signed l hst D cI cJ cZ cMic cSrc cSt cAI cAJ ad T3 l0 ((-9) : Int32) (9 : Int32) eT8) (cwV 2 hts (gaV qA_325 qA_326 qA_327 qA_222 qA_328) rfl rfl rfl (by decide +kernel) ⟨Nat.le_of_ble_eq_true rfl, Nat.le_of_ble_eq_true rfl⟩) (oO_k g7).1 (cc_o3 (oO_k g7).2) rfl rfl hl.1 rfl (lv_room (Nat.le_of_ble_eq_true rfl)) dX3_parseFilter_23 ⟨Nat.zero_le _, Nat.zero_le _⟩ (fun q11 T9 H locs hq G => ?_)
  obtain ⟨hq1, hq2⟩ := hq
  rw [hq2] at G
  refine lv_to hq1 ?_
  clear hq1 hq2 eT8
  obtain ⟨g12, h⟩ := oif_some h
  obtain ⟨T13, eT13, h⟩ := obind_some h
  refine q_cvv (As := [.int r10]) (rest := []) E G hA hX hN hml (u_X6_addTap l hst D cI cJ cZ cMic cSrc cSt cAI cAJ ad T8 l1 r10 eT13) (cwV 1 hts (gaV qA_371 qA_372 qA_373 qA_207 qA_374) rfl rfl rfl (by decide +kernel) ⟨Nat.le_of_ble_eq_true rfl, Nat.le_of_ble_eq_true rfl⟩) (oO_k g12).1 (cc_o6 (oO_k g12).2) rfl rfl hl.1 rfl (lv_room (Nat.le_of_ble_eq_true rfl)) dX3_parseFilter_26 ⟨Nat.zero_le _, Nat.zero_le _⟩ (fun T14 H locs hq G => ?_)
  rw [hq] at G
  clear hq eT13
  refine lv_iconst (v := 1) hx hb dX3_parseFilter_29 (by decide) ?_
  refine lv_istore_n (lv' := [(2, .int 1), (0, .ref (ad l0)), (1, .ref (ad l1))]) hx hb dX3_parseFilter_30 rfl hl (by decide) rfl (fun ls hl => ?_)
  have hl := lv_sub hl [1, 2, 0] rfl
  exact u_X3_parseFilter_b31 E hA hX hN hml hst kr81 _ _ _ _ _ _ _ _ h G hl
def g_X3_parseFilter (T : AT) (o : Nat) (a0 : Nat) : Option (Nat × Int32 × AT) := oif (oO T a0 6 = true) <| elet (T.2.2.1 a0 14) fun v3 => if v3 ≤ 0 then (g_X3_parseFilter_b13 T 0 o o a0) else (g_X3_parseFilter_b13 T 1 o o a0)
set_option maxHeartbeats 4000000 in
set_option maxRecDepth 100000 in
theorem u_X3_parseFilter (l : Launch) (hst : l.stackTraces = false) (D : va_G) (cI cJ cZ cMic cSrc cSt cAI cAJ : ClassId) (ad : Nat → Nat) (T : AT) (o : Nat) (a0 : Nat) {r1 : Int32} {T1 : AT} (h : g_X3_parseFilter T o a0 = some (0, r1, T1)) : kCv l yX3_parseFilter (Cond.code yX3_parseFilter cX3_parseFilter 3 none :: wsA) 9 148 cI cJ cZ cMic cSrc cSt cAI cAJ D ad T [.ref (ad o), .ref (ad a0)] (fun T9 => T9 = T1) := by
  intro sz
  refine Met.ofW (cc := cX3_parseFilter) (maxL := 3) (ret := none) (by decide) rfl ?_
  intro p e s m args below meth c s₁ B hml hv
  obtain ⟨rfl, hsz, hP, hK, hD0, hX, hN⟩ := hv
  have hx := B.exec
  have hb := B.bytes
  have hr := B.returns
  have hts := atoms_spec (ws := (Cond.code yX3_parseFilter cX3_parseFilter 3 none :: wsA)) B.pre
  have hown : s.vm.findClass RX3 = some m.cls := findClass_of_methodNamed B.named
  have hlocks := B.notSynchronized
  subst hsz
  have hD := hD0.self (sz := s.heap.size)
  generalize hAe : va_A (cW ad T.1 (cc cI cJ cZ cMic cSrc cSt cAI cAJ ad T)) s.heap.size = A at hD hX ⊢
  have hA : ∀ q : Nat, s.heap.size ≤ q → A q := fun q h => by rw [← hAe]; exact Or.inr h
  have G : gC cI cJ cZ cMic cSrc cSt cAI cAJ D ad A s.heap s.heap [] T := ⟨hP, hD, va_S.rf⟩
  have E : cE p c cX3_parseFilter s m ([.ref (ad o), .ref (ad a0)] : List Value).toArray (Cond.code yX3_parseFilter cX3_parseFilter 3 none :: wsA) D RX3 (CT cI cJ cZ cMic cSrc cSt cAI cAJ) := ⟨hx, hb, hts, hown, hK⟩
  have hl := lv_entry ([.ref (ad o), .ref (ad a0)]) (n := 3) (Nat.le_of_ble_eq_true rfl)
  rw [lg_entry_eq]
  generalize (lg_sl ([.ref (ad o), .ref (ad a0)]) ++ List.replicate (3 - (lg_sl ([.ref (ad o), .ref (ad a0)])).length) Slot.unset).toArray = ls at hl ⊢
  have hl : lv_has ls 3 [(0, .ref (ad o)), (1, .ref (ad a0))] := hl
  unfold g_X3_parseFilter at h
  refine lv_aload_n hx hb dX3_parseFilter_0 rfl (lv_at hl 0 rfl) ?_
  refine lv_aload_n hx hb dX3_parseFilter_1 rfl (lv_at hl 1 rfl) ?_
  obtain ⟨g2, h⟩ := oif_some h
  refine c_get E G a0 14 (oO_k g2).1 (cc_o6 (oO_k g2).2) rfl (fun w h => .tail _ (iA_14 h)) (by decide) (.tail _ qA_370) rfl rfl dX3_parseFilter_2 ?_
  refine lv_topi (fun v3 ev3 => ?_)
  have h := elet_at ev3 h
  clear ev3
  refine lv_if_le (tgt := 12) hx hb dX3_parseFilter_5 (by decide) (fun c4 => ?_) (fun c4 => ?_)
  · have h := oif_pos c4 h
    refine lv_iconst (v := 0) hx hb dX3_parseFilter_12 (by decide) ?_
    have hl := lv_sub hl [0, 1] rfl
    exact u_X3_parseFilter_b13 E hA hX hN hml hst (fun H locs ls G => W.vret hx hb hr (fun t ht hW => ⟨⟨T1, rfl, rfl, ⟨by rw [ht]; exact G.1, va_K.moved hW.alike hK, G.2.1⟩⟩, G.2.2.F ht⟩) G.2.2.2.2 dX3_parseFilter_81) _ _ _ _ _ _ _ _ h G hl
  · have h := oif_neg c4 h
    refine lv_iconst (v := 1) hx hb dX3_parseFilter_8 (by decide) ?_
    refine lv_goto (tgt := 13) hx hb dX3_parseFilter_9 (by decide) ?_
    have hl := lv_sub hl [0, 1] rfl
    exact u_X3_parseFilter_b13 E hA hX hN hml hst (fun H locs ls G => W.vret hx hb hr (fun t ht hW => ⟨⟨T1, rfl, rfl, ⟨by rw [ht]; exact G.1, va_K.moved hW.alike hK, G.2.1⟩⟩, G.2.2.F ht⟩) G.2.2.2.2 dX3_parseFilter_81) _ _ _ _ _ _ _ _ h G hl
set_option maxHeartbeats 4000000 in
set_option maxRecDepth 100000 in
theorem s_X3_parseFilter_b81 {e1 : Nat} {r1 : Int32} {T1 : AT} : ∀ (T : AT), g_X3_parseFilter_b81 T = some (e1, r1, T1) → SP T T1 := by
  intro T h
  have p0 := SP.rf T
  unfold g_X3_parseFilter_b81 at h
  rw [← (osome3 h).2.2]
  exact p0
set_option maxHeartbeats 4000000 in
set_option maxRecDepth 100000 in
theorem s_X3_parseFilter_b63 {e1 : Nat} {r1 : Int32} {T1 : AT} {k31 : AT → Nat → Nat → Int32 → Option (Nat × Int32 × AT)} (hk31 : ∀ (T : AT) (l0 : Nat) (l1 : Nat) (l2 : Int32), k31 T l0 l1 l2 = some (e1, r1, T1) → SP T T1) : ∀ (T : AT) (l0 : Nat) (l1 : Nat) (l2 : Int32), g_X3_parseFilter_b63 k31 T l0 l1 l2 = some (e1, r1, T1) → SP T T1 := by
  intro T l0 l1 l2 h
  have p0 := SP.rf T
  unfold g_X3_parseFilter_b63 at h
  obtain ⟨g2, h⟩ := oif_some h
  rcases othr_s h with ⟨k9, r9, e9, -⟩ | ⟨r4, T3, eT3, h⟩
  · exact SP.tr p0 (s_X3_signed e9)
  have p1 : SP T T3 := SP.tr p0 (s_X3_signed eT3)
  obtain ⟨g5, h⟩ := oif_some h
  obtain ⟨T6, eT6, h⟩ := obind_some h
  have p2 : SP T T6 := SP.tr p1 (s_X6_addTap eT6)
  obtain ⟨v8, ev8, h⟩ := elet_some h
  exact SP.tr p2 (hk31 _ _ _ _ h)
set_option maxHeartbeats 4000000 in
set_option maxRecDepth 100000 in
theorem s_X3_parseFilter_b52 {e1 : Nat} {r1 : Int32} {T1 : AT} {k31 : AT → Nat → Nat → Int32 → Option (Nat × Int32 × AT)} (hk31 : ∀ (T : AT) (l0 : Nat) (l1 : Nat) (l2 : Int32), k31 T l0 l1 l2 = some (e1, r1, T1) → SP T T1) : ∀ (T : AT) (l0 : Nat) (l1 : Nat) (l2 : Int32), g_X3_parseFilter_b52 k31 T l0 l1 l2 = some (e1, r1, T1) → SP T T1 := by
  intro T l0 l1 l2 h
  have p0 := SP.rf T
  unfold g_X3_parseFilter_b52 at h
  rcases oif_or h with ⟨c2, h⟩ | ⟨c2, h⟩
  · have h := h
    obtain ⟨g3, h⟩ := oif_some h
    rcases othr_s h with ⟨k9, r9, e9, -⟩ | ⟨r5, T4, eT4, h⟩
    · exact SP.tr p0 (s_X3_failAsTooMany e9)
    have p1 : SP T T4 := SP.tr p0 (s_X3_failAsTooMany eT4)
    exact SP.tr p1 (s_X3_parseFilter_b63 hk31 _ _ _ _ h)
  · have h := h
    exact SP.tr p0 (s_X3_parseFilter_b63 hk31 _ _ _ _ h)
set_option maxHeartbeats 4000000 in
set_option maxRecDepth 100000 in
theorem s_X3_parseFilter_b31 {e1 : Nat} {r1 : Int32} {T1 : AT} : ∀ n : Nat, ∀ (T : AT) (l0 : Nat) (l1 : Nat) (l2 : Int32), g_X3_parseFilter_b31 n T l0 l1 l2 = some (e1, r1, T1) → SP T T1 := by
  intro n
  induction n with
  | zero =>
    intro T l0 l1 l2 h
    have h : (none : Option (Nat × Int32 × AT)) = some (e1, r1, T1) := h
    cases h
  | succ n ih =>
    intro T l0 l1 l2 h
    have p0 := SP.rf T
    unfold g_X3_parseFilter_b31 at h
    rcases oif_or h with ⟨c2, h⟩ | ⟨c2, h⟩
    · have h := h
      exact SP.tr p0 (s_X3_parseFilter_b81 _ h)
    · have h := h
      obtain ⟨g3, h⟩ := oif_some h
      obtain ⟨r5, T4, eT4, h⟩ := obind2_some h
      have p1 : SP T T4 := SP.tr p0 (s_X3_kind eT4)
      rcases oif_or h with ⟨c6, h⟩ | ⟨c6, h⟩
      · have h := h
        exact SP.tr p1 (s_X3_parseFilter_b52 ih _ _ _ _ h)
      · have h := h
        obtain ⟨g7, h⟩ := oif_some h
        obtain ⟨r9, T8, eT8, h⟩ := obind2_some h
        have p2 : SP T T8 := SP.tr p1 (s_X3_kind eT8)
        rcases oif_or h with ⟨c10, h⟩ | ⟨c10, h⟩
        · have h := h
          exact SP.tr p2 (s_X3_parseFilter_b52 ih _ _ _ _ h)
        · have h := h
          exact SP.tr p2 (s_X3_parseFilter_b81 _ h)
set_option maxHeartbeats 4000000 in
set_option maxRecDepth 100000 in
theorem s_X3_parseFilter_b13 {e1 : Nat} {r1 : Int32} {T1 : AT} : ∀ (T : AT) (s0 : Int32) (s1 : Nat) (l0 : Nat) (l1 : Nat), g_X3_parseFilter_b13 T s0 s1 l0 l1 = some (e1, r1, T1) → SP T T1 := by
  intro T s0 s1 l0 l1 h
  have p0 := SP.rf T
  unfold g_X3_parseFilter_b13 at h
  obtain ⟨g2, h⟩ := oif_some h
  rcases othr_s h with ⟨k9, r9, e9, -⟩ | ⟨r4, T3, eT3, h⟩
  · exact SP.tr p0 (s_X3_startLine e9)
  have p1 : SP T T3 := SP.tr p0 (s_X3_startLine eT3)
  obtain ⟨g5, h⟩ := oif_some h
  rcases othr_s h with ⟨k9, r9, e9, -⟩ | ⟨r7, T6, eT6, h⟩
  · exact SP.tr p1 (s_X3_signed e9)
  have p2 : SP T T6 := SP.tr p1 (s_X3_signed eT6)
  obtain ⟨g8, h⟩ := oif_some h
  obtain ⟨T9, eT9, h⟩ := obind_some h
  have p3 : SP T T9 := SP.tr p2 (s_X6_addTap eT9)
  exact SP.tr p3 (s_X3_parseFilter_b31 _ _ _ _ _ h)
set_option maxHeartbeats 4000000 in
set_option maxRecDepth 100000 in
theorem s_X3_parseFilter {T : AT} {o : Nat} {a0 : Nat} {e1 : Nat} {r1 : Int32} {T1 : AT} (h : g_X3_parseFilter T o a0 = some (e1, r1, T1)) : SP T T1 := by
  have p0 := SP.rf T
  unfold g_X3_parseFilter at h
  obtain ⟨g2, h⟩ := oif_some h
  obtain ⟨v3, -, h⟩ := elet_some h
  rcases oif_or h with ⟨c4, h⟩ | ⟨c4, h⟩
  · have h := h
    exact SP.tr p0 (s_X3_parseFilter_b13 _ _ _ _ _ h)
  · have h := h
    exact SP.tr p0 (s_X3_parseFilter_b13 _ _ _ _ _ h)
set_option maxHeartbeats 4000000 in
set_option maxRecDepth 100000 in
theorem x_X3_parseFilter_b81 {p : Program} {l : Launch} {e : Env} {s : State} {m : MethodId} {args : Array Value} {below : List Frame} {meth : Method} {c : Code} {Qc : Array Value → State → Outcome → State → Prop} {XC : String → State → State → Prop} {D : va_G} {A : Nat → Prop} {cI cJ cZ cMic cSrc cSt cAI cAJ : ClassId} {ad : Nat → Nat} {e1 : Nat} {r1 : Int32} {T1 : AT} (E : cE p c cX3_parseFilter s m args (Cond.code yX3_parseFilter cX3_parseFilter 3 none :: wsA) D RX3 (CT cI cJ cZ cMic cSrc cSt cAI cAJ)) (hA : ∀ q : Nat, s.heap.size ≤ q → A q) (hX : xT A s) (hN : nX s) (hml : c.maxLocals = 3) (hz9 : True) (hst : l.stackTraces = false) (htab : ∀ x ∈ c.exceptionTable.toList, False) (hlocks : meth.locks = false) (kx : ∀ (H : Heap) (locs : List Loc) (t : State), gC cI cJ cZ cMic cSrc cSt cAI cAJ D ad A s.heap H locs T1 → s.vm.Alike t.vm → H.size ≤ t.heap.size → (∀ q, q < H.size → t.heap[q]? = H[q]?) → XC (exn e1) s t) : ∀ (T : AT) (H : Heap) (locs : List Loc) (ls : Array Slot), g_X3_parseFilter_b81 T = some (e1 + 1, r1, T1) → gC cI cJ cZ cMic cSrc cSt cAI cAJ D ad A s.heap H locs T → lv_has ls 3 [] → W p l e { frames := 9, cells := 1, slots := 6, locals := 148 } s m args below meth c H locs 0 0 (vx_MQ below Qc XC args s 1 6 A) (F0 m 81 ls []) := by
  have hx := E.1
  have hb := E.2.1
  have hts := E.2.2.1
  have hown := E.2.2.2.1
  have hK := E.2.2.2.2
  intro T H locs ls h G hl
  unfold g_X3_parseFilter_b81 at h
  exact (Nat.succ_ne_zero _ (congrArg Prod.fst (Option.some.inj h)).symm).elim
set_option maxHeartbeats 4000000 in
set_option maxRecDepth 100000 in
theorem x_X3_parseFilter_b63 {p : Program} {l : Launch} {e : Env} {s : State} {m : MethodId} {args : Array Value} {below : List Frame} {meth : Method} {c : Code} {Qc : Array Value → State → Outcome → State → Prop} {XC : String → State → State → Prop} {D : va_G} {A : Nat → Prop} {cI cJ cZ cMic cSrc cSt cAI cAJ : ClassId} {ad : Nat → Nat} {e1 : Nat} {r1 : Int32} {T1 : AT} (E : cE p c cX3_parseFilter s m args (Cond.code yX3_parseFilter cX3_parseFilter 3 none :: wsA) D RX3 (CT cI cJ cZ cMic cSrc cSt cAI cAJ)) (hA : ∀ q : Nat, s.heap.size ≤ q → A q) (hX : xT A s) (hN : nX s) (hml : c.maxLocals = 3) (hz9 : True) (hst : l.stackTraces = false) (htab : ∀ x ∈ c.exceptionTable.toList, False) (hlocks : meth.locks = false) (kx : ∀ (H : Heap) (locs : List Loc) (t : State), gC cI cJ cZ cMic cSrc cSt cAI cAJ D ad A s.heap H locs T1 → s.vm.Alike t.vm → H.size ≤ t.heap.size → (∀ q, q < H.size → t.heap[q]? = H[q]?) → XC (exn e1) s t) {k31 : AT → Nat → Nat → Int32 → Option (Nat × Int32 × AT)} (hk31 : ∀ (T : AT) (H : Heap) (locs : List Loc) (ls : Array Slot) (l0 : Nat) (l1 : Nat) (l2 : Int32), k31 T l0 l1 l2 = some (e1 + 1, r1, T1) → gC cI cJ cZ cMic cSrc cSt cAI cAJ D ad A s.heap H locs T → lv_has ls 3 [(0, .ref (ad l0)), (1, .ref (ad l1)), (2, .int l2)] → W p l e { frames := 9, cells := 1, slots := 6, locals := 148 } s m args below meth c H locs 0 0 (vx_MQ below Qc XC args s 1 6 A) (F0 m 31 ls [])) : ∀ (T : AT) (H : Heap) (locs : List Loc) (ls : Array Slot) (l0 : Nat) (l1 : Nat) (l2 : Int32), g_X3_parseFilter_b63 k31 T l0 l1 l2 = some (e1 + 1, r1, T1) → gC cI cJ cZ cMic cSrc cSt cAI cAJ D ad A s.heap H locs T → lv_has ls 3 [(0, .ref (ad l0)), (1, .ref (ad l1)), (2, .int l2)] → W p l e { frames := 9, cells := 1, slots := 6, locals := 148 } s m args below meth c H locs 0 0 (vx_MQ below Qc XC args s 1 6 A) (F0 m 63 ls []) := by
  have hx := E.1
  have hb := E.2.1
  have hts := E.2.2.1
  have hown := E.2.2.2.1
  have hK := E.2.2.2.2
  intro T H locs ls l0 l1 l2 h G hl
  unfold g_X3_parseFilter_b63 at h
  refine lv_aload_n hx hb dX3_parseFilter_63 rfl (lv_at hl 1 rfl) ?_
  refine lv_aload_n hx hb dX3_parseFilter_64 rfl (lv_at hl 0 rfl) ?_
  refine lv_bipush (v := (-9)) hx hb dX3_parseFilter_65 (by decide) ?_
  refine lv_bipush (v := 9) hx hb dX3_parseFilter_67 (by decide) ?_
  obtain ⟨g2, h⟩ := oif_some h
  rcases othr_t h with ⟨r0, eT3⟩ | ⟨r5, T3, eT3, h⟩
  · refine q_xvi (As := [.int (-9), .int 9]) (rest := [.ref (ad l1)]) E G hA hX hN hml (x_X3_signed l hst D cI cJ cZ cMic cSrc cSt cAI cAJ ad T l0 ((-9) : Int32) (9 : Int32) eT3) (cwV 2 hts (gaV qA_325 qA_326 qA_327 qA_222 qA_328) rfl rfl rfl (by decide +kernel) ⟨Nat.le_of_ble_eq_true rfl, Nat.le_of_ble_eq_true rfl⟩) (oO_k g2).1 (cc_o3 (oO_k g2).2) rfl rfl hl.1 rfl (lv_room (Nat.le_of_ble_eq_true rfl)) dX3_parseFilter_69 ⟨Nat.le_of_ble_eq_true rfl, Nat.le_of_ble_eq_true rfl⟩ (fun E9 ce q9 T9 H locs hp G hce hcv hcl => ?_)
    obtain ⟨hE, hT⟩ := hp
    subst hE
    rw [hT] at G
    exact vx_out (fun x hx => (htab x hx).elim) hlocks hce hcv hcl (fun t ht hvm => kx _ _ _ G hvm (by rw [ht]; exact Nat.le_refl _) (fun q hq => by rw [ht])) G.2.2.2.2 (Nat.le_refl _) (Nat.le_refl _)
  refine q_cvi (As := [.int (-9), .int 9]) (rest := [.ref (ad l1)]) E G hA hX hN hml (u_X3_signed l hst D cI cJ cZ cMic cSrc cSt cAI cAJ ad T l0 ((-9) : Int32) (9 : Int32) eT3) (cwV 2 hts (gaV qA_325 qA_326 qA_327 qA_222 qA_328) rfl rfl rfl (by decide +kernel) ⟨Nat.le_of_ble_eq_true rfl, Nat.le_of_ble_eq_true rfl⟩) (oO_k g2).1 (cc_o3 (oO_k g2).2) rfl rfl hl.1 rfl (lv_room (Nat.le_of_ble_eq_true rfl)) dX3_parseFilter_69 ⟨Nat.zero_le _, Nat.zero_le _⟩ (fun q6 T4 H locs hq G => ?_)
  obtain ⟨hq1, hq2⟩ := hq
  rw [hq2] at G
  refine lv_to hq1 ?_
  clear hq1 hq2 eT3
  obtain ⟨g7, h⟩ := oif_some h
  obtain ⟨T8, eT8, h⟩ := obind_some h
  refine q_cvv (As := [.int r5]) (rest := []) E G hA hX hN hml (u_X6_addTap l hst D cI cJ cZ cMic cSrc cSt cAI cAJ ad T3 l1 r5 eT8) (cwV 1 hts (gaV qA_371 qA_372 qA_373 qA_207 qA_374) rfl rfl rfl (by decide +kernel) ⟨Nat.le_of_ble_eq_true rfl, Nat.le_of_ble_eq_true rfl⟩) (oO_k g7).1 (cc_o6 (oO_k g7).2) rfl rfl hl.1 rfl (lv_room (Nat.le_of_ble_eq_true rfl)) dX3_parseFilter_72 ⟨Nat.zero_le _, Nat.zero_le _⟩ (fun T9 H locs hq G => ?_)
  rw [hq] at G
  clear hq eT8
  obtain ⟨v10, ev10, h⟩ := elet_some h
  refine lv_iinc (v := v10) (lv' := [(2, .int v10), (0, .ref (ad l0)), (1, .ref (ad l1))]) hx hb dX3_parseFilter_75 hl (k := 2) rfl ev10.symm (by decide) rfl (fun ls hl => ?_)
  refine lv_goto (tgt := 31) hx hb dX3_parseFilter_78 (by decide) ?_
  have hl := lv_sub hl [1, 2, 0] rfl
  exact hk31 _ _ _ _ _ _ _ h G hl
set_option maxHeartbeats 4000000 in
set_option maxRecDepth 100000 in
theorem x_X3_parseFilter_b52 {p : Program} {l : Launch} {e : Env} {s : State} {m : MethodId} {args : Array Value} {below : List Frame} {meth : Method} {c : Code} {Qc : Array Value → State → Outcome → State → Prop} {XC : String → State → State → Prop} {D : va_G} {A : Nat → Prop} {cI cJ cZ cMic cSrc cSt cAI cAJ : ClassId} {ad : Nat → Nat} {e1 : Nat} {r1 : Int32} {T1 : AT} (E : cE p c cX3_parseFilter s m args (Cond.code yX3_parseFilter cX3_parseFilter 3 none :: wsA) D RX3 (CT cI cJ cZ cMic cSrc cSt cAI cAJ)) (hA : ∀ q : Nat, s.heap.size ≤ q → A q) (hX : xT A s) (hN : nX s) (hml : c.maxLocals = 3) (hz9 : True) (hst : l.stackTraces = false) (htab : ∀ x ∈ c.exceptionTable.toList, False) (hlocks : meth.locks = false) (kx : ∀ (H : Heap) (locs : List Loc) (t : State), gC cI cJ cZ cMic cSrc cSt cAI cAJ D ad A s.heap H locs T1 → s.vm.Alike t.vm → H.size ≤ t.heap.size → (∀ q, q < H.size → t.heap[q]? = H[q]?) → XC (exn e1) s t) {k31 : AT → Nat → Nat → Int32 → Option (Nat × Int32 × AT)} (hk31 : ∀ (T : AT) (H : Heap) (locs : List Loc) (ls : Array Slot) (l0 : Nat) (l1 : Nat) (l2 : Int32), k31 T l0 l1 l2 = some (e1 + 1, r1, T1) → gC cI cJ cZ cMic cSrc cSt cAI cAJ D ad A s.heap H locs T → lv_has ls 3 [(0, .ref (ad l0)), (1, .ref (ad l1)), (2, .int l2)] → W p l e { frames := 9, cells := 1, slots := 6, locals := 148 } s m args below meth c H locs 0 0 (vx_MQ below Qc XC args s 1 6 A) (F0 m 31 ls [])) : ∀ (T : AT) (H : Heap) (locs : List Loc) (ls : Array Slot) (l0 : Nat) (l1 : Nat) (l2 : Int32), g_X3_parseFilter_b52 k31 T l0 l1 l2 = some (e1 + 1, r1, T1) → gC cI cJ cZ cMic cSrc cSt cAI cAJ D ad A s.heap H locs T → lv_has ls 3 [(0, .ref (ad l0)), (1, .ref (ad l1)), (2, .int l2)] → W p l e { frames := 9, cells := 1, slots := 6, locals := 148 } s m args below meth c H locs 0 0 (vx_MQ below Qc XC args s 1 6 A) (F0 m 52 ls []) := by
  have hx := E.1
  have hb := E.2.1
  have hts := E.2.2.1
  have hown := E.2.2.2.1
  have hK := E.2.2.2.2
  intro T H locs ls l0 l1 l2 h G hl
  unfold g_X3_parseFilter_b52 at h
  refine lv_iload_n hx hb dX3_parseFilter_52 rfl (lv_at hl 2 rfl) ?_
  refine lv_iconst (v := 5) hx hb dX3_parseFilter_53 (by decide) ?_
  refine lv_icmp_ne (tgt := 63) hx hb dX3_parseFilter_54 (by decide) (fun c2 => ?_) (fun c2 => ?_)
  · have h := oif_neg c2 h
    have hl := lv_sub hl [0, 1, 2] rfl
    exact x_X3_parseFilter_b63 E hA hX hN hml trivial hst htab hlocks kx hk31 _ _ _ _ _ _ _ h G hl
  · have h := oif_pos c2 h
    refine lv_aload_n hx hb dX3_parseFilter_57 rfl (lv_at hl 0 rfl) ?_
    refine lv_bipush (v := 9) hx hb dX3_parseFilter_58 (by decide) ?_
    obtain ⟨g3, h⟩ := oif_some h
    rcases othr_t h with ⟨r0, eT4⟩ | ⟨r6, T4, eT4, h⟩
    · refine q_xvv (As := [.int 9]) (rest := []) E G hA hX hN hml (x_X3_failAsTooMany l hst D cI cJ cZ cMic cSrc cSt cAI cAJ ad T l0 (9 : Int32) eT4) (cwV 1 hts (gaV qA_376 qA_377 qA_378 qA_222 qA_379) rfl rfl rfl (by decide +kernel) ⟨Nat.le_of_ble_eq_true rfl, Nat.le_of_ble_eq_true rfl⟩) (oO_k g3).1 (cc_o3 (oO_k g3).2) rfl rfl hl.1 rfl (lv_room (Nat.le_of_ble_eq_true rfl)) dX3_parseFilter_60 ⟨Nat.le_of_ble_eq_true rfl, Nat.le_of_ble_eq_true rfl⟩ (fun E9 ce q9 T9 H locs hp G hce hcv hcl => ?_)
      obtain ⟨hE, hT⟩ := hp
      subst hE
      rw [hT] at G
      exact vx_out (fun x hx => (htab x hx).elim) hlocks hce hcv hcl (fun t ht hvm => kx _ _ _ G hvm (by rw [ht]; exact Nat.le_refl _) (fun q hq => by rw [ht])) G.2.2.2.2 (Nat.le_refl _) (Nat.le_refl _)
    refine q_cvv (As := [.int 9]) (rest := []) E G hA hX hN hml (u_X3_failAsTooMany l hst D cI cJ cZ cMic cSrc cSt cAI cAJ ad T l0 (9 : Int32) eT4) (cwV 1 hts (gaV qA_376 qA_377 qA_378 qA_222 qA_379) rfl rfl rfl (by decide +kernel) ⟨Nat.le_of_ble_eq_true rfl, Nat.le_of_ble_eq_true rfl⟩) (oO_k g3).1 (cc_o3 (oO_k g3).2) rfl rfl hl.1 rfl (lv_room (Nat.le_of_ble_eq_true rfl)) dX3_parseFilter_60 ⟨Nat.zero_le _, Nat.zero_le _⟩ (fun T5 H locs hq G => ?_)
    rw [hq] at G
    clear hq eT4
    have hl := lv_sub hl [0, 1, 2] rfl
    exact x_X3_parseFilter_b63 E hA hX hN hml trivial hst htab hlocks kx hk31 _ _ _ _ _ _ _ h G hl
set_option maxHeartbeats 4000000 in
set_option maxRecDepth 100000 in
theorem x_X3_parseFilter_b31 {p : Program} {l : Launch} {e : Env} {s : State} {m : MethodId} {args : Array Value} {below : List Frame} {meth : Method} {c : Code} {Qc : Array Value → State → Outcome → State → Prop} {XC : String → State → State → Prop} {D : va_G} {A : Nat → Prop} {cI cJ cZ cMic cSrc cSt cAI cAJ : ClassId} {ad : Nat → Nat} {e1 : Nat} {r1 : Int32} {T1 : AT} (E : cE p c cX3_parseFilter s m args (Cond.code yX3_parseFilter cX3_parseFilter 3 none :: wsA) D RX3 (CT cI cJ cZ cMic cSrc cSt cAI cAJ)) (hA : ∀ q : Nat, s.heap.size ≤ q → A q) (hX : xT A s) (hN : nX s) (hml : c.maxLocals = 3) (hz9 : True) (hst : l.stackTraces = false) (htab : ∀ x ∈ c.exceptionTable.toList, False) (hlocks : meth.locks = false) (kx : ∀ (H : Heap) (locs : List Loc) (t : State), gC cI cJ cZ cMic cSrc cSt cAI cAJ D ad A s.heap H locs T1 → s.vm.Alike t.vm → H.size ≤ t.heap.size → (∀ q, q < H.size → t.heap[q]? = H[q]?) → XC (exn e1) s t) : ∀ n : Nat, ∀ (T : AT) (H : Heap) (locs : List Loc) (ls : Array Slot) (l0 : Nat) (l1 : Nat) (l2 : Int32), g_X3_parseFilter_b31 n T l0 l1 l2 = some (e1 + 1, r1, T1) → gC cI cJ cZ cMic cSrc cSt cAI cAJ D ad A s.heap H locs T → lv_has ls 3 [(0, .ref (ad l0)), (1, .ref (ad l1)), (2, .int l2)] → W p l e { frames := 9, cells := 1, slots := 6, locals := 148 } s m args below meth c H locs 0 0 (vx_MQ below Qc XC args s 1 6 A) (F0 m 31 ls []) := by
  have hx := E.1
  have hb := E.2.1
  have hts := E.2.2.1
  have hown := E.2.2.2.1
  have hK := E.2.2.2.2
  intro n
  induction n with
  | zero =>
    intro T H locs ls l0 l1 l2 h
    have h : (none : Option (Nat × Int32 × AT)) = some (e1 + 1, r1, T1) := h
    cases h
  | succ n ih =>
    intro T H locs ls l0 l1 l2 h G hl
    unfold g_X3_parseFilter_b31 at h
    refine lv_iload_n hx hb dX3_parseFilter_31 rfl (lv_at hl 2 rfl) ?_
    refine lv_iconst (v := 5) hx hb dX3_parseFilter_32 (by decide) ?_
    refine lv_icmp_gt (tgt := 81) hx hb dX3_parseFilter_33 (by decide) (fun c2 => ?_) (fun c2 => ?_)
    · have h := oif_pos c2 h
      have hl := lv_sub hl [] rfl
      exact x_X3_parseFilter_b81 E hA hX hN hml trivial hst htab hlocks kx _ _ _ _ h G hl
    · have h := oif_neg c2 h
      refine lv_aload_n hx hb dX3_parseFilter_36 rfl (lv_at hl 0 rfl) ?_
      obtain ⟨g3, h⟩ := oif_some h
      obtain ⟨r6, T4, eT4, h⟩ := obind2_some h
      refine q_cvi (As := []) (rest := []) E G hA hX hN hml (u_X3_kind l hst D cI cJ cZ cMic cSrc cSt cAI cAJ ad T l0 eT4) (cwV 0 hts (gaV qA_239 qA_240 qA_241 qA_222 qA_242) rfl rfl rfl (by decide +kernel) ⟨Nat.le_of_ble_eq_true rfl, Nat.le_of_ble_eq_true rfl⟩) (oO_k g3).1 (cc_o3 (oO_k g3).2) rfl rfl hl.1 rfl (lv_room (Nat.le_of_ble_eq_true rfl)) dX3_parseFilter_37 ⟨Nat.zero_le _, Nat.zero_le _⟩ (fun q7 T5 H locs hq G => ?_)
      obtain ⟨hq1, hq2⟩ := hq
      rw [hq2] at G
      refine lv_to hq1 ?_
      clear hq1 hq2 eT4
      refine lv_iconst (v := 2) hx hb dX3_parseFilter_40 (by decide) ?_
      refine lv_icmp_eq (tgt := 52) hx hb dX3_parseFilter_41 (by decide) (fun c8 => ?_) (fun c8 => ?_)
      · have h := oif_pos c8 h
        have hl := lv_sub hl [0, 1, 2] rfl
        exact x_X3_parseFilter_b52 E hA hX hN hml trivial hst htab hlocks kx ih _ _ _ _ _ _ _ h G hl
      · have h := oif_neg c8 h
        refine lv_aload_n hx hb dX3_parseFilter_44 rfl (lv_at hl 0 rfl) ?_
        obtain ⟨g9, h⟩ := oif_some h
        obtain ⟨r12, T10, eT10, h⟩ := obind2_some h
        refine q_cvi (As := []) (rest := []) E G hA hX hN hml (u_X3_kind l hst D cI cJ cZ cMic cSrc cSt cAI cAJ ad T4 l0 eT10) (cwV 0 hts (gaV qA_239 qA_240 qA_241 qA_222 qA_242) rfl rfl rfl (by decide +kernel) ⟨Nat.le_of_ble_eq_true rfl, Nat.le_of_ble_eq_true rfl⟩) (oO_k g9).1 (cc_o3 (oO_k g9).2) rfl rfl hl.1 rfl (lv_room (Nat.le_of_ble_eq_true rfl)) dX3_parseFilter_45 ⟨Nat.zero_le _, Nat.zero_le _⟩ (fun q13 T11 H locs hq G => ?_)
        obtain ⟨hq1, hq2⟩ := hq
        rw [hq2] at G
        refine lv_to hq1 ?_
        clear hq1 hq2 eT10
        refine lv_iconst (v := 3) hx hb dX3_parseFilter_48 (by decide) ?_
        refine lv_icmp_ne (tgt := 81) hx hb dX3_parseFilter_49 (by decide) (fun c14 => ?_) (fun c14 => ?_)
        · have h := oif_neg c14 h
          have hl := lv_sub hl [] rfl
          exact x_X3_parseFilter_b81 E hA hX hN hml trivial hst htab hlocks kx _ _ _ _ h G hl
        · have h := oif_pos c14 h
          have hl := lv_sub hl [0, 1, 2] rfl
          exact x_X3_parseFilter_b52 E hA hX hN hml trivial hst htab hlocks kx ih _ _ _ _ _ _ _ h G hl
set_option maxHeartbeats 4000000 in
set_option maxRecDepth 100000 in
theorem x_X3_parseFilter_b13 {p : Program} {l : Launch} {e : Env} {s : State} {m : MethodId} {args : Array Value} {below : List Frame} {meth : Method} {c : Code} {Qc : Array Value → State → Outcome → State → Prop} {XC : String → State → State → Prop} {D : va_G} {A : Nat → Prop} {cI cJ cZ cMic cSrc cSt cAI cAJ : ClassId} {ad : Nat → Nat} {e1 : Nat} {r1 : Int32} {T1 : AT} (E : cE p c cX3_parseFilter s m args (Cond.code yX3_parseFilter cX3_parseFilter 3 none :: wsA) D RX3 (CT cI cJ cZ cMic cSrc cSt cAI cAJ)) (hA : ∀ q : Nat, s.heap.size ≤ q → A q) (hX : xT A s) (hN : nX s) (hml : c.maxLocals = 3) (hz9 : True) (hst : l.stackTraces = false) (htab : ∀ x ∈ c.exceptionTable.toList, False) (hlocks : meth.locks = false) (kx : ∀ (H : Heap) (locs : List Loc) (t : State), gC cI cJ cZ cMic cSrc cSt cAI cAJ D ad A s.heap H locs T1 → s.vm.Alike t.vm → H.size ≤ t.heap.size → (∀ q, q < H.size → t.heap[q]? = H[q]?) → XC (exn e1) s t) : ∀ (T : AT) (H : Heap) (locs : List Loc) (ls : Array Slot) (s0 : Int32) (s1 : Nat) (l0 : Nat) (l1 : Nat), g_X3_parseFilter_b13 T s0 s1 l0 l1 = some (e1 + 1, r1, T1) → gC cI cJ cZ cMic cSrc cSt cAI cAJ D ad A s.heap H locs T → lv_has ls 3 [(0, .ref (ad l0)), (1, .ref (ad l1))] → W p l e { frames := 9, cells := 1, slots := 6, locals := 148 } s m args below meth c H locs 0 0 (vx_MQ below Qc XC args s 1 6 A) (F0 m 13 ls [.int s0, .ref (ad s1)]) := by
  have hx := E.1
  have hb := E.2.1
  have hts := E.2.2.1
  have hown := E.2.2.2.1
  have hK := E.2.2.2.2
  intro T H locs ls s0 s1 l0 l1 h G hl
  unfold g_X3_parseFilter_b13 at h
  refine lv_iconst (v := 3) hx hb dX3_parseFilter_13 (by decide) ?_
  obtain ⟨g2, h⟩ := oif_some h
  rcases othr_t h with ⟨r0, eT3⟩ | ⟨r5, T3, eT3, h⟩
  · refine q_xvv (As := [.int s0, .int 3]) (rest := []) E G hA hX hN hml (x_X3_startLine l hst D cI cJ cZ cMic cSrc cSt cAI cAJ ad T s1 s0 (3 : Int32) eT3) (cwV 2 hts (gaV qA_321 qA_322 qA_323 qA_222 qA_324) rfl rfl rfl (by decide +kernel) ⟨Nat.le_of_ble_eq_true rfl, Nat.le_of_ble_eq_true rfl⟩) (oO_k g2).1 (cc_o3 (oO_k g2).2) rfl rfl hl.1 rfl (lv_room (Nat.le_of_ble_eq_true rfl)) dX3_parseFilter_14 ⟨Nat.le_of_ble_eq_true rfl, Nat.le_of_ble_eq_true rfl⟩ (fun E9 ce q9 T9 H locs hp G hce hcv hcl => ?_)
    obtain ⟨hE, hT⟩ := hp
    subst hE
    rw [hT] at G
    exact vx_out (fun x hx => (htab x hx).elim) hlocks hce hcv hcl (fun t ht hvm => kx _ _ _ G hvm (by rw [ht]; exact Nat.le_refl _) (fun q hq => by rw [ht])) G.2.2.2.2 (Nat.le_refl _) (Nat.le_refl _)
  refine q_cvv (As := [.int s0, .int 3]) (rest := []) E G hA hX hN hml (u_X3_startLine l hst D cI cJ cZ cMic cSrc cSt cAI cAJ ad T s1 s0 (3 : Int32) eT3) (cwV 2 hts (gaV qA_321 qA_322 qA_323 qA_222 qA_324) rfl rfl rfl (by decide +kernel) ⟨Nat.le_of_ble_eq_true rfl, Nat.le_of_ble_eq_true rfl⟩) (oO_k g2).1 (cc_o3 (oO_k g2).2) rfl rfl hl.1 rfl (lv_room (Nat.le_of_ble_eq_true rfl)) dX3_parseFilter_14 ⟨Nat.zero_le _, Nat.zero_le _⟩ (fun T4 H locs hq G => ?_)
  rw [hq] at G
  clear hq eT3
  refine lv_aload_n hx hb dX3_parseFilter_17 rfl (lv_at hl 1 rfl) ?_
  refine lv_aload_n hx hb dX3_parseFilter_18 rfl (lv_at hl 0 rfl) ?_
  refine lv_bipush (v := (-9)) hx hb dX3_parseFilter_19 (by decide) ?_
  refine lv_bipush (v := 9) hx hb dX3_parseFilter_21 (by decide) ?_
  obtain ⟨g7, h⟩ := oif_some h
  rcases othr_t h with ⟨r0, eT8⟩ | ⟨r10, T8, eT8, h⟩
  · refine q_xvi (As := [.int (-9), .int 9]) (rest := [.ref (ad l1)]) E G hA hX hN hml (x_X3_signed l hst D cI cJ cZ cMic cSrc cSt cAI cAJ ad T3 l0 ((-9) : Int32) (9 : Int32) eT8) (cwV 2 hts (gaV qA_325 qA_326 qA_327 qA_222 qA_328) rfl rfl rfl (by decide +kernel) ⟨Nat.le_of_ble_eq_true rfl, Nat.le_of_ble_eq_true rfl⟩) (oO_k g7).1 (cc_o3 (oO_k g7).2) rfl rfl hl.1 rfl (lv_room (Nat.le_of_ble_eq_true rfl)) dX3_parseFilter_23 ⟨Nat.le_of_ble_eq_true rfl, Nat.le_of_ble_eq_true rfl⟩ (fun E9 ce q9 T9 H locs hp G hce hcv hcl => ?_)
    obtain ⟨hE, hT⟩ := hp
    subst hE
    rw [hT] at G
    exact vx_out (fun x hx => (htab x hx).elim) hlocks hce hcv hcl (fun t ht hvm => kx _ _ _ G hvm (by rw [ht]; exact Nat.le_refl _) (fun q hq => by rw [ht])) G.2.2.2.2 (Nat.le_refl _) (Nat.le_refl _)
  refine q_cvi (As := [.int (-9), .int 9]) (rest := [.ref (ad l1)]) E G hA hX hN hml (u_X3_signed l hst D cI cJ cZ cMic cSrc cSt cAI cAJ ad T3 l0 ((-9) : Int32) (9 : Int32) eT8) (cwV 2 hts (gaV qA_325 qA_326 qA_327 qA_222 qA_328) rfl rfl rfl (by decide +kernel) ⟨Nat.le_of_ble_eq_true rfl, Nat.le_of_ble_eq_true rfl⟩) (oO_k g7).1 (cc_o3 (oO_k g7).2) rfl rfl hl.1 rfl (lv_room (Nat.le_of_ble_eq_true rfl)) dX3_parseFilter_23 ⟨Nat.zero_le _, Nat.zero_le _⟩ (fun q11 T9 H locs hq G => ?_)
  obtain ⟨hq1, hq2⟩ := hq
  rw [hq2] at G
  refine lv_to hq1 ?_
  clear hq1 hq2 eT8
  obtain ⟨g12, h⟩ := oif_some h
  obtain ⟨T13, eT13, h⟩ := obind_some h
  refine q_cvv (As := [.int r10]) (rest := []) E G hA hX hN hml (u_X6_addTap l hst D cI cJ cZ cMic cSrc cSt cAI cAJ ad T8 l1 r10 eT13) (cwV 1 hts (gaV qA_371 qA_372 qA_373 qA_207 qA_374) rfl rfl rfl (by decide +kernel) ⟨Nat.le_of_ble_eq_true rfl, Nat.le_of_ble_eq_true rfl⟩) (oO_k g12).1 (cc_o6 (oO_k g12).2) rfl rfl hl.1 rfl (lv_room (Nat.le_of_ble_eq_true rfl)) dX3_parseFilter_26 ⟨Nat.zero_le _, Nat.zero_le _⟩ (fun T14 H locs hq G => ?_)
  rw [hq] at G
  clear hq eT13
  refine lv_iconst (v := 1) hx hb dX3_parseFilter_29 (by decide) ?_
  refine lv_istore_n (lv' := [(2, .int 1), (0, .ref (ad l0)), (1, .ref (ad l1))]) hx hb dX3_parseFilter_30 rfl hl (by decide) rfl (fun ls hl => ?_)
  have hl := lv_sub hl [1, 2, 0] rfl
  exact x_X3_parseFilter_b31 E hA hX hN hml trivial hst htab hlocks kx _ _ _ _ _ _ _ _ h G hl
set_option maxHeartbeats 4000000 in
set_option maxRecDepth 100000 in
theorem x_X3_parseFilter (l : Launch) (hst : l.stackTraces = false) (D : va_G) (cI cJ cZ cMic cSrc cSt cAI cAJ : ClassId) (ad : Nat → Nat) (T : AT) (o : Nat) (a0 : Nat) {e1 : Nat} {r1 : Int32} {T1 : AT} (h : g_X3_parseFilter T o a0 = some (e1 + 1, r1, T1)) : kXv l yX3_parseFilter (Cond.code yX3_parseFilter cX3_parseFilter 3 none :: wsA) 9 148 cI cJ cZ cMic cSrc cSt cAI cAJ D ad T [.ref (ad o), .ref (ad a0)] e1 T1 := by
  intro sz
  refine vx_ofW (cc := cX3_parseFilter) (maxL := 3) (ret := none) (by decide) rfl ?_
  intro p e s m args below meth c s₁ B hml htab hv
  obtain ⟨rfl, hsz, hP, hK, hD0, hX, hN⟩ := hv
  have hx := B.exec
  have hb := B.bytes
  have hr := B.returns
  have hts := atoms_spec (ws := (Cond.code yX3_parseFilter cX3_parseFilter 3 none :: wsA)) B.pre
  have hown : s.vm.findClass RX3 = some m.cls := findClass_of_methodNamed B.named
  have hlocks := B.notSynchronized
  subst hsz
  have hD := hD0.self (sz := s.heap.size)
  generalize hAe : va_A (cW ad T.1 (cc cI cJ cZ cMic cSrc cSt cAI cAJ ad T)) s.heap.size = A at hD hX ⊢
  have hA : ∀ q : Nat, s.heap.size ≤ q → A q := fun q h => by rw [← hAe]; exact Or.inr h
  have G : gC cI cJ cZ cMic cSrc cSt cAI cAJ D ad A s.heap s.heap [] T := ⟨hP, hD, va_S.rf⟩
  have E : cE p c cX3_parseFilter s m ([.ref (ad o), .ref (ad a0)] : List Value).toArray (Cond.code yX3_parseFilter cX3_parseFilter 3 none :: wsA) D RX3 (CT cI cJ cZ cMic cSrc cSt cAI cAJ) := ⟨hx, hb, hts, hown, hK⟩
  have htab : ∀ x ∈ c.exceptionTable.toList, False := fun x hx => htab x hx
  have hl := lv_entry ([.ref (ad o), .ref (ad a0)]) (n := 3) (Nat.le_of_ble_eq_true rfl)
  rw [lg_entry_eq]
  generalize (lg_sl ([.ref (ad o), .ref (ad a0)]) ++ List.replicate (3 - (lg_sl ([.ref (ad o), .ref (ad a0)])).length) Slot.unset).toArray = ls at hl ⊢
  have hl : lv_has ls 3 [(0, .ref (ad o)), (1, .ref (ad a0))] := hl
  unfold g_X3_parseFilter at h
  refine lv_aload_n hx hb dX3_parseFilter_0 rfl (lv_at hl 0 rfl) ?_
  refine lv_aload_n hx hb dX3_parseFilter_1 rfl (lv_at hl 1 rfl) ?_
  obtain ⟨g2, h⟩ := oif_some h
  refine c_get E G a0 14 (oO_k g2).1 (cc_o6 (oO_k g2).2) rfl (fun w h => .tail _ (iA_14 h)) (by decide) (.tail _ qA_370) rfl rfl dX3_parseFilter_2 ?_
  refine lv_topi (fun v3 ev3 => ?_)
  have h := elet_at ev3 h
  clear ev3
  refine lv_if_le (tgt := 12) hx hb dX3_parseFilter_5 (by decide) (fun c4 => ?_) (fun c4 => ?_)
  · have h := oif_pos c4 h
    refine lv_iconst (v := 0) hx hb dX3_parseFilter_12 (by decide) ?_
    have hl := lv_sub hl [0, 1] rfl
    exact x_X3_parseFilter_b13 E hA hX hN hml trivial hst htab hlocks (fun H locs t G hvm h1 h2 => ⟨T1, trivial, ⟨⟨rfl, rfl⟩, (c_thrown G hK hvm h1 h2).1⟩, (c_thrown G hK hvm h1 h2).2⟩) _ _ _ _ _ _ _ _ h G hl
  · have h := oif_neg c4 h
    refine lv_iconst (v := 1) hx hb dX3_parseFilter_8 (by decide) ?_
    refine lv_goto (tgt := 13) hx hb dX3_parseFilter_9 (by decide) ?_
    have hl := lv_sub hl [0, 1] rfl
    exact x_X3_parseFilter_b13 E hA hX hN hml trivial hst htab hlocks (fun H locs t G hvm h1 h2 => ⟨T1, trivial, ⟨⟨rfl, rfl⟩, (c_thrown G hK hvm h1 h2).1⟩, (c_thrown G hK hvm h1 h2).2⟩) _ _ _ _ _ _ _ _ h G hl
def g_X3_parseWall_b14  (T : AT) (s0 : Int32) (s1 : Nat) (l0 : Nat) (l1 : Nat) : Option (Nat × Int32 × AT) := oif (oO T s1 3 = true) <| othr (g_X3_startLine T s1 s0 (4 : Int32)) 0 fun r5 T3 => oif (oO T3 l1 6 = true) <| obind (T3.2.2.2.2 l1 9) fun n8 => oif (oO T3 l1 6 = true) <| elet (T3.2.2.1 l1 11) fun v10 => oif (oO T3 l0 3 = true) <| othr (g_X3_signed T3 l0 ((-2000) : Int32) (2000 : Int32)) 0 fun r14 T12 => oif (aA T12 n8 100 = true) <| oif (inb v10 (T12.2.1 n8).2 = true) <| elet (uI T12 n8 v10.toNatClampNeg r14) fun T18 => oif (oO T18 l1 6 = true) <| obind (T18.2.2.2.2 l1 10) fun n20 => oif (oO T18 l1 6 = true) <| elet (T18.2.2.1 l1 11) fun v22 => oif (oO T18 l0 3 = true) <| othr (g_X3_number T18 l0 (1 : Int32) (100 : Int32)) 0 fun r26 T24 => oif (aA T24 n20 100 = true) <| oif (inb v22 (T24.2.1 n20).2 = true) <| elet (uI T24 n20 v22.toNatClampNeg r26) fun T30 => oif (oO T30 l1 6 = true) <| elet (T30.2.2.1 l1 11) fun v32 => elet (v32 + 1) fun v33 => oif (oO T30 l1 6 = true) <| elet (uI T30 l1 11 v33) fun T35 => some (0, 0, T35)
set_option maxHeartbeats 4000000 in
set_option maxRecDepth 100000 in
theorem u_X3_parseWall_b14 {p : Program} {l : Launch} {e : Env} {s : State} {m : MethodId} {args : Array Value} {below : List Frame} {meth : Method} {c : Code} {Q : State → Prop} {D : va_G} {A : Nat → Prop} {cI cJ cZ cMic cSrc cSt cAI cAJ : ClassId} {ad : Nat → Nat} {r1 : Int32} {T1 : AT} (E : cE p c cX3_parseWall s m args (Cond.code yX3_parseWall cX3_parseWall 2 none :: wsA) D RX3 (CT cI cJ cZ cMic cSrc cSt cAI cAJ)) (hA : ∀ q : Nat, s.heap.size ≤ q → A q) (hX : xT A s) (hN : nX s) (hml : c.maxLocals = 2) (hst : l.stackTraces = false) (kr63 : ∀ (H : Heap) (locs : List Loc) (ls : Array Slot), gC cI cJ cZ cMic cSrc cSt cAI cAJ D ad A s.heap H locs T1 → W p l e { frames := 9, cells := 0, slots := 0, locals := 148 } s m args below meth c H locs 0 0 Q (F0 m 63 ls [])) : ∀ (T : AT) (H : Heap) (locs : List Loc) (ls : Array Slot) (s0 : Int32) (s1 : Nat) (l0 : Nat) (l1 : Nat), g_X3_parseWall_b14 T s0 s1 l0 l1 = some (0, r1, T1) → gC cI cJ cZ cMic cSrc cSt cAI cAJ D ad A s.heap H locs T → lv_has ls 2 [(0, .ref (ad l0)), (1, .ref (ad l1))] → W p l e { frames := 9, cells := 0, slots := 0, locals := 148 } s m args below meth c H locs 0 0 Q (F0 m 14 ls [.int s0, .ref (ad s1)]) := by
  have hx := E.1
  have hb := E.2.1
  have hts := E.2.2.1
  have hown := E.2.2.2.1
  have hK := E.2.2.2.2
  intro T H locs ls s0 s1 l0 l1 h G hl
  unfold g_X3_parseWall_b14 at h
  refine lv_iconst (v := 4) hx hb dX3_parseWall_14 (by decide) ?_
  obtain ⟨g2, h⟩ := oif_some h
  obtain ⟨r5, T3, eT3, h⟩ := othr_n h
  refine q_cvv (As := [.int s0, .int 4]) (rest := []) E G hA hX hN hml (u_X3_startLine l hst D cI cJ cZ cMic cSrc cSt cAI cAJ ad T s1 s0 (4 : Int32) eT3) (cwV 2 hts (gaV qA_321 qA_322 qA_323 qA_222 qA_324) rfl rfl rfl (by decide +kernel) ⟨Nat.le_of_ble_eq_true rfl, Nat.le_of_ble_eq_true rfl⟩) (oO_k g2).1 (cc_o3 (oO_k g2).2) rfl rfl hl.1 rfl (lv_room (Nat.le_of_ble_eq_true rfl)) dX3_parseWall_15 ⟨Nat.zero_le _, Nat.zero_le _⟩ (fun T4 H locs hq G => ?_)
  rw [hq] at G
  clear hq eT3
  refine lv_aload_n hx hb dX3_parseWall_18 rfl (lv_at hl 1 rfl) ?_
  obtain ⟨g7, h⟩ := oif_some h
  obtain ⟨n8, en8, h⟩ := obind_some h
  refine c_get E G l1 9 (v := .ref (ad n8)) (oO_k g7).1 (cc_o6 (oO_k g7).2) rfl (fun w h => .tail _ (iA_14 h)) (by decide) (.tail _ qA_364) rfl (by rw [en8]; rfl) dX3_parseWall_19 ?_
  clear en8
  refine lv_aload_n hx hb dX3_parseWall_22 rfl (lv_at hl 1 rfl) ?_
  obtain ⟨g9, h⟩ := oif_some h
  refine c_get E G l1 11 (oO_k g9).1 (cc_o6 (oO_k g9).2) rfl (fun w h => .tail _ (iA_14 h)) (by decide) (.tail _ qA_363) rfl rfl dX3_parseWall_23 ?_
  refine lv_topi (fun v10 ev10 => ?_)
  have h := elet_at ev10 h
  clear ev10
  refine lv_aload_n hx hb dX3_parseWall_26 rfl (lv_at hl 0 rfl) ?_
  refine lv_sipush (v := (-2000)) hx hb dX3_parseWall_27 (by decide) ?_
  refine lv_sipush (v := 2000) hx hb dX3_parseWall_30 (by decide) ?_
  obtain ⟨g11, h⟩ := oif_some h
  obtain ⟨r14, T12, eT12, h⟩ := othr_n h
  refine q_cvi (As := [.int (-2000), .int 2000]) (rest := [.int v10, .ref (ad n8)]) E G hA hX hN hml (u_X3_signed l hst D cI cJ cZ cMic cSrc cSt cAI cAJ ad T3 l0 ((-2000) : Int32) (2000 : Int32) eT12) (cwV 2 hts (gaV qA_325 qA_326 qA_327 qA_222 qA_328) rfl rfl rfl (by decide +kernel) ⟨Nat.le_of_ble_eq_true rfl, Nat.le_of_ble_eq_true rfl⟩) (oO_k g11).1 (cc_o3 (oO_k g11).2) rfl rfl hl.1 rfl (lv_room (Nat.le_of_ble_eq_true rfl)) dX3_parseWall_33 ⟨Nat.zero_le _, Nat.zero_le _⟩ (fun q15 T13 H locs hq G => ?_)
  obtain ⟨hq1, hq2⟩ := hq
  rw [hq2] at G
  refine lv_to hq1 ?_
  clear hq1 hq2 eT12
  obtain ⟨g16, h⟩ := oif_some h
  obtain ⟨g17, h⟩ := oif_some h
  refine c_iast E G n8 0 (k := v10.toNatClampNeg) (v := r14) (aA_k g16).1 (cc_a100 (aA_k g16).2.1) rfl (inb_k g17).1 (inb_k g17).2 (aA_k g16).2.2 dX3_parseWall_36 (fun H locs G => ?_)
  have G := gC_up_i (f := upd (T12.2.2.1 n8) v10.toNatClampNeg r14) (ccv_100 (aA_k g16).2.1) G
  obtain ⟨T18, eT18, h⟩ := elet_some h
  have G : gC cI cJ cZ cMic cSrc cSt cAI cAJ D ad A s.heap H locs T18 := by rw [eT18]; exact G
  clear eT18
  refine lv_aload_n hx hb dX3_parseWall_37 rfl (lv_at hl 1 rfl) ?_
  obtain ⟨g19, h⟩ := oif_some h
  obtain ⟨n20, en20, h⟩ := obind_some h
  refine c_get E G l1 10 (v := .ref (ad n20)) (oO_k g19).1 (cc_o6 (oO_k g19).2) rfl (fun w h => .tail _ (iA_14 h)) (by decide) (.tail _ qA_365) rfl (by rw [en20]; rfl) dX3_parseWall_38 ?_
  clear en20
  refine lv_aload_n hx hb dX3_parseWall_41 rfl (lv_at hl 1 rfl) ?_
  obtain ⟨g21, h⟩ := oif_some h
  refine c_get E G l1 11 (oO_k g21).1 (cc_o6 (oO_k g21).2) rfl (fun w h => .tail _ (iA_14 h)) (by decide) (.tail _ qA_363) rfl rfl dX3_parseWall_42 ?_
  refine lv_topi (fun v22 ev22 => ?_)
  have h := elet_at ev22 h
  clear ev22
  refine lv_aload_n hx hb dX3_parseWall_45 rfl (lv_at hl 0 rfl) ?_
  refine lv_iconst (v := 1) hx hb dX3_parseWall_46 (by decide) ?_
  refine lv_bipush (v := 100) hx hb dX3_parseWall_47 (by decide) ?_
  obtain ⟨g23, h⟩ := oif_some h
  obtain ⟨r26, T24, eT24, h⟩ := othr_n h
  refine q_cvi (As := [.int 1, .int 100]) (rest := [.int v22, .ref (ad n20)]) E G hA hX hN hml (u_X3_number l hst D cI cJ cZ cMic cSrc cSt cAI cAJ ad T18 l0 (1 : Int32) (100 : Int32) eT24) (cwV 2 hts (gaV qA_299 qA_300 qA_301 qA_222 qA_302) rfl rfl rfl (by decide +kernel) ⟨Nat.le_of_ble_eq_true rfl, Nat.le_of_ble_eq_true rfl⟩) (oO_k g23).1 (cc_o3 (oO_k g23).2) rfl rfl hl.1 rfl (lv_room (Nat.le_of_ble_eq_true rfl)) dX3_parseWall_49 ⟨Nat.zero_le _, Nat.zero_le _⟩ (fun q27 T25 H locs hq G => ?_)
  obtain ⟨hq1, hq2⟩ := hq
  rw [hq2] at G
  refine lv_to hq1 ?_
  clear hq1 hq2 eT24
  obtain ⟨g28, h⟩ := oif_some h
  obtain ⟨g29, h⟩ := oif_some h
  refine c_iast E G n20 0 (k := v22.toNatClampNeg) (v := r26) (aA_k g28).1 (cc_a100 (aA_k g28).2.1) rfl (inb_k g29).1 (inb_k g29).2 (aA_k g28).2.2 dX3_parseWall_52 (fun H locs G => ?_)
  have G := gC_up_i (f := upd (T24.2.2.1 n20) v22.toNatClampNeg r26) (ccv_100 (aA_k g28).2.1) G
  obtain ⟨T30, eT30, h⟩ := elet_some h
  have G : gC cI cJ cZ cMic cSrc cSt cAI cAJ D ad A s.heap H locs T30 := by rw [eT30]; exact G
  clear eT30
  refine lv_aload_n hx hb dX3_parseWall_53 rfl (lv_at hl 1 rfl) ?_
  refine lv_dup hx hb dX3_parseWall_54 rfl ?_
  obtain ⟨g31, h⟩ := oif_some h
  refine c_get E G l1 11 (oO_k g31).1 (cc_o6 (oO_k g31).2) rfl (fun w h => .tail _ (iA_14 h)) (by decide) (.tail _ qA_363) rfl rfl dX3_parseWall_55 ?_
  refine lv_topi (fun v32 ev32 => ?_)
  have h := elet_at ev32 h
  clear ev32
  refine lv_iconst (v := 1) hx hb dX3_parseWall_58 (by decide) ?_
  refine lv_iadd hx hb dX3_parseWall_59 ?_
  refine lv_topi (fun v33 ev33 => ?_)
  have h := elet_at ev33 h
  clear ev33
  obtain ⟨g34, h⟩ := oif_some h
  refine c_put E G l1 11 (v := .int v33) (oO_k g34).1 (cc_o6 (oO_k g34).2) rfl (fun w h => .tail _ (iA_14 h)) tyX6 tyX6_ok nmX6 (by decide) (.tail _ qA_363) ⟨rfl, rfl, rfl⟩ rfl rfl (Nat.le_of_ble_eq_true rfl) dX3_parseWall_60 (fun H locs G => ?_)
  have G := gC_up_i (f := upd (T30.2.2.1 l1) 11 v33) (by rw [(oO_k g34).2]; rfl) G
  obtain ⟨T35, eT35, h⟩ := elet_some h
  have G : gC cI cJ cZ cMic cSrc cSt cAI cAJ D ad A s.heap H locs T35 := by rw [eT35]; exact G
  clear eT35
  rw [(osome3 h).2.2] at G
  exact kr63 _ _ _ G
def g_X3_parseWall (T : AT) (o : Nat) (a0 : Nat) : Option (Nat × Int32 × AT) := oif (oO T a0 6 = true) <| elet (T.2.2.1 a0 11) fun v3 => if v3 < 2 then (g_X3_parseWall_b14 T 0 o o a0) else (g_X3_parseWall_b14 T 1 o o a0)
set_option maxHeartbeats 4000000 in
set_option maxRecDepth 100000 in
theorem u_X3_parseWall (l : Launch) (hst : l.stackTraces = false) (D : va_G) (cI cJ cZ cMic cSrc cSt cAI cAJ : ClassId) (ad : Nat → Nat) (T : AT) (o : Nat) (a0 : Nat) {r1 : Int32} {T1 : AT} (h : g_X3_parseWall T o a0 = some (0, r1, T1)) : kCv l yX3_parseWall (Cond.code yX3_parseWall cX3_parseWall 2 none :: wsA) 9 148 cI cJ cZ cMic cSrc cSt cAI cAJ D ad T [.ref (ad o), .ref (ad a0)] (fun T9 => T9 = T1) := by
  intro sz
  refine Met.ofW (cc := cX3_parseWall) (maxL := 2) (ret := none) (by decide) rfl ?_
  intro p e s m args below meth c s₁ B hml hv
  obtain ⟨rfl, hsz, hP, hK, hD0, hX, hN⟩ := hv
  have hx := B.exec
  have hb := B.bytes
  have hr := B.returns
  have hts := atoms_spec (ws := (Cond.code yX3_parseWall cX3_parseWall 2 none :: wsA)) B.pre
  have hown : s.vm.findClass RX3 = some m.cls := findClass_of_methodNamed B.named
  have hlocks := B.notSynchronized
  subst hsz
  have hD := hD0.self (sz := s.heap.size)
  generalize hAe : va_A (cW ad T.1 (cc cI cJ cZ cMic cSrc cSt cAI cAJ ad T)) s.heap.size = A at hD hX ⊢
  have hA : ∀ q : Nat, s.heap.size ≤ q → A q := fun q h => by rw [← hAe]; exact Or.inr h
  have G : gC cI cJ cZ cMic cSrc cSt cAI cAJ D ad A s.heap s.heap [] T := ⟨hP, hD, va_S.rf⟩
  have E : cE p c cX3_parseWall s m ([.ref (ad o), .ref (ad a0)] : List Value).toArray (Cond.code yX3_parseWall cX3_parseWall 2 none :: wsA) D RX3 (CT cI cJ cZ cMic cSrc cSt cAI cAJ) := ⟨hx, hb, hts, hown, hK⟩
  have hl := lv_entry ([.ref (ad o), .ref (ad a0)]) (n := 2) (Nat.le_of_ble_eq_true rfl)
  rw [lg_entry_eq]
  generalize (lg_sl ([.ref (ad o), .ref (ad a0)]) ++ List.replicate (2 - (lg_sl ([.ref (ad o), .ref (ad a0)])).length) Slot.unset).toArray = ls at hl ⊢
  have hl : lv_has ls 2 [(0, .ref (ad o)), (1, .ref (ad a0))] := hl
  unfold g_X3_parseWall at h
  refine lv_aload_n hx hb dX3_parseWall_0 rfl (lv_at hl 0 rfl) ?_
  refine lv_aload_n hx hb dX3_parseWall_1 rfl (lv_at hl 1 rfl) ?_
  obtain ⟨g2, h⟩ := oif_some h
  refine c_get E G a0 11 (oO_k g2).1 (cc_o6 (oO_k g2).2) rfl (fun w h => .tail _ (iA_14 h)) (by decide) (.tail _ qA_363) rfl rfl dX3_parseWall_2 ?_
  refine lv_topi (fun v3 ev3 => ?_)
  have h := elet_at ev3 h
  clear ev3
  refine lv_iconst (v := 2) hx hb dX3_parseWall_5 (by decide) ?_
  refine lv_icmp_lt (tgt := 13) hx hb dX3_parseWall_6 (by decide) (fun c4 => ?_) (fun c4 => ?_)
  · have h := oif_pos c4 h
    refine lv_iconst (v := 0) hx hb dX3_parseWall_13 (by decide) ?_
    have hl := lv_sub hl [0, 1] rfl
    exact u_X3_parseWall_b14 E hA hX hN hml hst (fun H locs ls G => W.vret hx hb hr (fun t ht hW => ⟨⟨T1, rfl, rfl, ⟨by rw [ht]; exact G.1, va_K.moved hW.alike hK, G.2.1⟩⟩, G.2.2.F ht⟩) G.2.2.2.2 dX3_parseWall_63) _ _ _ _ _ _ _ _ h G hl
  · have h := oif_neg c4 h
    refine lv_iconst (v := 1) hx hb dX3_parseWall_9 (by decide) ?_
    refine lv_goto (tgt := 14) hx hb dX3_parseWall_10 (by decide) ?_
    have hl := lv_sub hl [0, 1] rfl
    exact u_X3_parseWall_b14 E hA hX hN hml hst (fun H locs ls G => W.vret hx hb hr (fun t ht hW => ⟨⟨T1, rfl, rfl, ⟨by rw [ht]; exact G.1, va_K.moved hW.alike hK, G.2.1⟩⟩, G.2.2.F ht⟩) G.2.2.2.2 dX3_parseWall_63) _ _ _ _ _ _ _ _ h G hl
set_option maxHeartbeats 4000000 in
set_option maxRecDepth 100000 in
theorem s_X3_parseWall_b14 {e1 : Nat} {r1 : Int32} {T1 : AT} : ∀ (T : AT) (s0 : Int32) (s1 : Nat) (l0 : Nat) (l1 : Nat), g_X3_parseWall_b14 T s0 s1 l0 l1 = some (e1, r1, T1) → SP T T1 := by
  intro T s0 s1 l0 l1 h
  have p0 := SP.rf T
  unfold g_X3_parseWall_b14 at h
  obtain ⟨g2, h⟩ := oif_some h
  rcases othr_s h with ⟨k9, r9, e9, -⟩ | ⟨r4, T3, eT3, h⟩
  · exact SP.tr p0 (s_X3_startLine e9)
  have p1 : SP T T3 := SP.tr p0 (s_X3_startLine eT3)
  obtain ⟨g5, h⟩ := oif_some h
  obtain ⟨n6, en6, h⟩ := obind_some h
  obtain ⟨g7, h⟩ := oif_some h
  obtain ⟨v8, -, h⟩ := elet_some h
  obtain ⟨g9, h⟩ := oif_some h
  rcases othr_s h with ⟨k9, r9, e9, -⟩ | ⟨r11, T10, eT10, h⟩
  · exact SP.tr p1 (s_X3_signed e9)
  have p2 : SP T T10 := SP.tr p1 (s_X3_signed eT10)
  obtain ⟨g12, h⟩ := oif_some h
  obtain ⟨g13, h⟩ := oif_some h
  obtain ⟨T14, eT14, h⟩ := elet_some h
  have p3 : SP T T14 := SP.tr p2 (by rw [eT14]; exact sp_uI)
  obtain ⟨g15, h⟩ := oif_some h
  obtain ⟨n16, en16, h⟩ := obind_some h
  obtain ⟨g17, h⟩ := oif_some h
  obtain ⟨v18, -, h⟩ := elet_some h
  obtain ⟨g19, h⟩ := oif_some h
  rcases othr_s h with ⟨k9, r9, e9, -⟩ | ⟨r21, T20, eT20, h⟩
  · exact SP.tr p3 (s_X3_number e9)
  have p4 : SP T T20 := SP.tr p3 (s_X3_number eT20)
  obtain ⟨g22, h⟩ := oif_some h
  obtain ⟨g23, h⟩ := oif_some h
  obtain ⟨T24, eT24, h⟩ := elet_some h
  have p5 : SP T T24 := SP.tr p4 (by rw [eT24]; exact sp_uI)
  obtain ⟨g25, h⟩ := oif_some h
  obtain ⟨v26, -, h⟩ := elet_some h
  obtain ⟨v27, -, h⟩ := elet_some h
  obtain ⟨g28, h⟩ := oif_some h
  obtain ⟨T29, eT29, h⟩ := elet_some h
  have p6 : SP T T29 := SP.tr p5 (by rw [eT29]; exact sp_uI)
  rw [← (osome3 h).2.2]
  exact p6
set_option maxHeartbeats 4000000 in
set_option maxRecDepth 100000 in
theorem s_X3_parseWall {T : AT} {o : Nat} {a0 : Nat} {e1 : Nat} {r1 : Int32} {T1 : AT} (h : g_X3_parseWall T o a0 = some (e1, r1, T1)) : SP T T1 := by
  have p0 := SP.rf T
  unfold g_X3_parseWall at h
  obtain ⟨g2, h⟩ := oif_some h
  obtain ⟨v3, -, h⟩ := elet_some h
  rcases oif_or h with ⟨c4, h⟩ | ⟨c4, h⟩
  · have h := h
    exact SP.tr p0 (s_X3_parseWall_b14 _ _ _ _ _ h)
  · have h := h
    exact SP.tr p0 (s_X3_parseWall_b14 _ _ _ _ _ h)
set_option maxHeartbeats 4000000 in
set_option maxRecDepth 100000 in
theorem x_X3_parseWall_b14 {p : Program} {l : Launch} {e : Env} {s : State} {m : MethodId} {args : Array Value} {below : List Frame} {meth : Method} {c : Code} {Qc : Array Value → State → Outcome → State → Prop} {XC : String → State → State → Prop} {D : va_G} {A : Nat → Prop} {cI cJ cZ cMic cSrc cSt cAI cAJ : ClassId} {ad : Nat → Nat} {e1 : Nat} {r1 : Int32} {T1 : AT} (E : cE p c cX3_parseWall s m args (Cond.code yX3_parseWall cX3_parseWall 2 none :: wsA) D RX3 (CT cI cJ cZ cMic cSrc cSt cAI cAJ)) (hA : ∀ q : Nat, s.heap.size ≤ q → A q) (hX : xT A s) (hN : nX s) (hml : c.maxLocals = 2) (hz9 : True) (hst : l.stackTraces = false) (htab : ∀ x ∈ c.exceptionTable.toList, False) (hlocks : meth.locks = false) (kx : ∀ (H : Heap) (locs : List Loc) (t : State), gC cI cJ cZ cMic cSrc cSt cAI cAJ D ad A s.heap H locs T1 → s.vm.Alike t.vm → H.size ≤ t.heap.size → (∀ q, q < H.size → t.heap[q]? = H[q]?) → XC (exn e1) s t) : ∀ (T : AT) (H : Heap) (locs : List Loc) (ls : Array Slot) (s0 : Int32) (s1 : Nat) (l0 : Nat) (l1 : Nat), g_X3_parseWall_b14 T s0 s1 l0 l1 = some (e1 + 1, r1, T1) → gC cI cJ cZ cMic cSrc cSt cAI cAJ D ad A s.heap H locs T → lv_has ls 2 [(0, .ref (ad l0)), (1, .ref (ad l1))] → W p l e { frames := 9, cells := 1, slots := 6, locals := 148 } s m args below meth c H locs 0 0 (vx_MQ below Qc XC args s 1 6 A) (F0 m 14 ls [.int s0, .ref (ad s1)]) := by
  have hx := E.1
  have hb := E.2.1
  have hts := E.2.2.1
  have hown := E.2.2.2.1
  have hK := E.2.2.2.2
  intro T H locs ls s0 s1 l0 l1 h G hl
  unfold g_X3_parseWall_b14 at h
  refine lv_iconst (v := 4) hx hb dX3_parseWall_14 (by decide) ?_
  obtain ⟨g2, h⟩ := oif_some h
  rcases othr_t h with ⟨r0, eT3⟩ | ⟨r5, T3, eT3, h⟩
  · refine q_xvv (As := [.int s0, .int 4]) (rest := []) E G hA hX hN hml (x_X3_startLine l hst D cI cJ cZ cMic cSrc cSt cAI cAJ ad T s1 s0 (4 : Int32) eT3) (cwV 2 hts (gaV qA_321 qA_322 qA_323 qA_222 qA_324) rfl rfl rfl (by decide +kernel) ⟨Nat.le_of_ble_eq_true rfl, Nat.le_of_ble_eq_true rfl⟩) (oO_k g2).1 (cc_o3 (oO_k g2).2) rfl rfl hl.1 rfl (lv_room (Nat.le_of_ble_eq_true rfl)) dX3_parseWall_15 ⟨Nat.le_of_ble_eq_true rfl, Nat.le_of_ble_eq_true rfl⟩ (fun E9 ce q9 T9 H locs hp G hce hcv hcl => ?_)
    obtain ⟨hE, hT⟩ := hp
    subst hE
    rw [hT] at G
    exact vx_out (fun x hx => (htab x hx).elim) hlocks hce hcv hcl (fun t ht hvm => kx _ _ _ G hvm (by rw [ht]; exact Nat.le_refl _) (fun q hq => by rw [ht])) G.2.2.2.2 (Nat.le_refl _) (Nat.le_refl _)
  refine q_cvv (As := [.int s0, .int 4]) (rest := []) E G hA hX hN hml (u_X3_startLine l hst D cI cJ cZ cMic cSrc cSt cAI cAJ ad T s1 s0 (4 : Int32) eT3) (cwV 2 hts (gaV qA_321 qA_322 qA_323 qA_222 qA_324) rfl rfl rfl (by decide +kernel) ⟨Nat.le_of_ble_eq_true rfl, Nat.le_of_ble_eq_true rfl⟩) (oO_k g2).1 (cc_o3 (oO_k g2).2) rfl rfl hl.1 rfl (lv_room (Nat.le_of_ble_eq_true rfl)) dX3_parseWall_15 ⟨Nat.zero_le _, Nat.zero_le _⟩ (fun T4 H locs hq G => ?_)
  rw [hq] at G
  clear hq eT3
  refine lv_aload_n hx hb dX3_parseWall_18 rfl (lv_at hl 1 rfl) ?_
  obtain ⟨g7, h⟩ := oif_some h
  obtain ⟨n8, en8, h⟩ := obind_some h
  refine c_get E G l1 9 (v := .ref (ad n8)) (oO_k g7).1 (cc_o6 (oO_k g7).2) rfl (fun w h => .tail _ (iA_14 h)) (by decide) (.tail _ qA_364) rfl (by rw [en8]; rfl) dX3_parseWall_19 ?_
  clear en8
  refine lv_aload_n hx hb dX3_parseWall_22 rfl (lv_at hl 1 rfl) ?_
  obtain ⟨g9, h⟩ := oif_some h
  refine c_get E G l1 11 (oO_k g9).1 (cc_o6 (oO_k g9).2) rfl (fun w h => .tail _ (iA_14 h)) (by decide) (.tail _ qA_363) rfl rfl dX3_parseWall_23 ?_
  refine lv_topi (fun v10 ev10 => ?_)
  have h := elet_at ev10 h
  clear ev10
  refine lv_aload_n hx hb dX3_parseWall_26 rfl (lv_at hl 0 rfl) ?_
  refine lv_sipush (v := (-2000)) hx hb dX3_parseWall_27 (by decide) ?_
  refine lv_sipush (v := 2000) hx hb dX3_parseWall_30 (by decide) ?_
  obtain ⟨g11, h⟩ := oif_some h
  rcases othr_t h with ⟨r0, eT12⟩ | ⟨r14, T12, eT12, h⟩
  · refine q_xvi (As := [.int (-2000), .int 2000]) (rest := [.int v10, .ref (ad n8)]) E G hA hX hN hml (x_X3_signed l hst D cI cJ cZ cMic cSrc cSt cAI cAJ ad T3 l0 ((-2000) : Int32) (2000 : Int32) eT12) (cwV 2 hts (gaV qA_325 qA_326 qA_327 qA_222 qA_328) rfl rfl rfl (by decide +kernel) ⟨Nat.le_of_ble_eq_true rfl, Nat.le_of_ble_eq_true rfl⟩) (oO_k g11).1 (cc_o3 (oO_k g11).2) rfl rfl hl.1 rfl (lv_room (Nat.le_of_ble_eq_true rfl)) dX3_parseWall_33 ⟨Nat.le_of_ble_eq_true rfl, Nat.le_of_ble_eq_true rfl⟩ (fun E9 ce q9 T9 H locs hp G hce hcv hcl => ?_)
    obtain ⟨hE, hT⟩ := hp
    subst hE
    rw [hT] at G
    exact vx_out (fun x hx => (htab x hx).elim) hlocks hce hcv hcl (fun t ht hvm => kx _ _ _ G hvm (by rw [ht]; exact Nat.le_refl _) (fun q hq => by rw [ht])) G.2.2.2.2 (Nat.le_refl _) (Nat.le_refl _)
  refine q_cvi (As := [.int (-2000), .int 2000]) (rest := [.int v10, .ref (ad n8)]) E G hA hX hN hml (u_X3_signed l hst D cI cJ cZ cMic cSrc cSt cAI cAJ ad T3 l0 ((-2000) : Int32) (2000 : Int32) eT12) (cwV 2 hts (gaV qA_325 qA_326 qA_327 qA_222 qA_328) rfl rfl rfl (by decide +kernel) ⟨Nat.le_of_ble_eq_true rfl, Nat.le_of_ble_eq_true rfl⟩) (oO_k g11).1 (cc_o3 (oO_k g11).2) rfl rfl hl.1 rfl (lv_room (Nat.le_of_ble_eq_true rfl)) dX3_parseWall_33 ⟨Nat.zero_le _, Nat.zero_le _⟩ (fun q15 T13 H locs hq G => ?_)
  obtain ⟨hq1, hq2⟩ := hq
  rw [hq2] at G
  refine lv_to hq1 ?_
  clear hq1 hq2 eT12
  obtain ⟨g16, h⟩ := oif_some h
  obtain ⟨g17, h⟩ := oif_some h
  refine c_iast E G n8 0 (k := v10.toNatClampNeg) (v := r14) (aA_k g16).1 (cc_a100 (aA_k g16).2.1) rfl (inb_k g17).1 (inb_k g17).2 (aA_k g16).2.2 dX3_parseWall_36 (fun H locs G => ?_)
  have G := gC_up_i (f := upd (T12.2.2.1 n8) v10.toNatClampNeg r14) (ccv_100 (aA_k g16).2.1) G
  obtain ⟨T18, eT18, h⟩ := elet_some h
  have G : gC cI cJ cZ cMic cSrc cSt cAI cAJ D ad A s.heap H locs T18 := by rw [eT18]; exact G
  clear eT18
  refine lv_aload_n hx hb dX3_parseWall_37 rfl (lv_at hl 1 rfl) ?_
  obtain ⟨g19, h⟩ := oif_some h
  obtain ⟨n20, en20, h⟩ := obind_some h
  refine c_get E G l1 10 (v := .ref (ad n20)) (oO_k g19).1 (cc_o6 (oO_k g19).2) rfl (fun w h => .tail _ (iA_14 h)) (by decide) (.tail _ qA_365) rfl (by rw [en20]; rfl) dX3_parseWall_38 ?_
  clear en20
  refine lv_aload_n hx hb dX3_parseWall_41 rfl (lv_at hl 1 rfl) ?_
  obtain ⟨g21, h⟩ := oif_some h
  refine c_get E G l1 11 (oO_k g21).1 (cc_o6 (oO_k g21).2) rfl (fun w h => .tail _ (iA_14 h)) (by decide) (.tail _ qA_363) rfl rfl dX3_parseWall_42 ?_
  refine lv_topi (fun v22 ev22 => ?_)
  have h := elet_at ev22 h
  clear ev22
  refine lv_aload_n hx hb dX3_parseWall_45 rfl (lv_at hl 0 rfl) ?_
  refine lv_iconst (v := 1) hx hb dX3_parseWall_46 (by decide) ?_
  refine lv_bipush (v := 100) hx hb dX3_parseWall_47 (by decide) ?_
  obtain ⟨g23, h⟩ := oif_some h
  rcases othr_t h with ⟨r0, eT24⟩ | ⟨r26, T24, eT24, h⟩
  · refine q_xvi (As := [.int 1, .int 100]) (rest := [.int v22, .ref (ad n20)]) E G hA hX hN hml (x_X3_number l hst D cI cJ cZ cMic cSrc cSt cAI cAJ ad T18 l0 (1 : Int32) (100 : Int32) eT24) (cwV 2 hts (gaV qA_299 qA_300 qA_301 qA_222 qA_302) rfl rfl rfl (by decide +kernel) ⟨Nat.le_of_ble_eq_true rfl, Nat.le_of_ble_eq_true rfl⟩) (oO_k g23).1 (cc_o3 (oO_k g23).2) rfl rfl hl.1 rfl (lv_room (Nat.le_of_ble_eq_true rfl)) dX3_parseWall_49 ⟨Nat.le_of_ble_eq_true rfl, Nat.le_of_ble_eq_true rfl⟩ (fun E9 ce q9 T9 H locs hp G hce hcv hcl => ?_)
    obtain ⟨hE, hT⟩ := hp
    subst hE
    rw [hT] at G
    exact vx_out (fun x hx => (htab x hx).elim) hlocks hce hcv hcl (fun t ht hvm => kx _ _ _ G hvm (by rw [ht]; exact Nat.le_refl _) (fun q hq => by rw [ht])) G.2.2.2.2 (Nat.le_refl _) (Nat.le_refl _)
  refine q_cvi (As := [.int 1, .int 100]) (rest := [.int v22, .ref (ad n20)]) E G hA hX hN hml (u_X3_number l hst D cI cJ cZ cMic cSrc cSt cAI cAJ ad T18 l0 (1 : Int32) (100 : Int32) eT24) (cwV 2 hts (gaV qA_299 qA_300 qA_301 qA_222 qA_302) rfl rfl rfl (by decide +kernel) ⟨Nat.le_of_ble_eq_true rfl, Nat.le_of_ble_eq_true rfl⟩) (oO_k g23).1 (cc_o3 (oO_k g23).2) rfl rfl hl.1 rfl (lv_room (Nat.le_of_ble_eq_true rfl)) dX3_parseWall_49 ⟨Nat.zero_le _, Nat.zero_le _⟩ (fun q27 T25 H locs hq G => ?_)
  obtain ⟨hq1, hq2⟩ := hq
  rw [hq2] at G
  refine lv_to hq1 ?_
  clear hq1 hq2 eT24
  obtain ⟨g28, h⟩ := oif_some h
  obtain ⟨g29, h⟩ := oif_some h
  refine c_iast E G n20 0 (k := v22.toNatClampNeg) (v := r26) (aA_k g28).1 (cc_a100 (aA_k g28).2.1) rfl (inb_k g29).1 (inb_k g29).2 (aA_k g28).2.2 dX3_parseWall_52 (fun H locs G => ?_)
  have G := gC_up_i (f := upd (T24.2.2.1 n20) v22.toNatClampNeg r26) (ccv_100 (aA_k g28).2.1) G
  obtain ⟨T30, eT30, h⟩ := elet_some h
  have G : gC cI cJ cZ cMic cSrc cSt cAI cAJ D ad A s.heap H locs T30 := by rw [eT30]; exact G
  clear eT30
  refine lv_aload_n hx hb dX3_parseWall_53 rfl (lv_at hl 1 rfl) ?_
  refine lv_dup hx hb dX3_parseWall_54 rfl ?_
  obtain ⟨g31, h⟩ := oif_some h
  refine c_get E G l1 11 (oO_k g31).1 (cc_o6 (oO_k g31).2) rfl (fun w h => .tail _ (iA_14 h)) (by decide) (.tail _ qA_363) rfl rfl dX3_parseWall_55 ?_
  refine lv_topi (fun v32 ev32 => ?_)
  have h := elet_at ev32 h
  clear ev32
  refine lv_iconst (v := 1) hx hb dX3_parseWall_58 (by decide) ?_
  refine lv_iadd hx hb dX3_parseWall_59 ?_
  refine lv_topi (fun v33 ev33 => ?_)
  have h := elet_at ev33 h
  clear ev33
  obtain ⟨g34, h⟩ := oif_some h
  refine c_put E G l1 11 (v := .int v33) (oO_k g34).1 (cc_o6 (oO_k g34).2) rfl (fun w h => .tail _ (iA_14 h)) tyX6 tyX6_ok nmX6 (by decide) (.tail _ qA_363) ⟨rfl, rfl, rfl⟩ rfl rfl (Nat.le_of_ble_eq_true rfl) dX3_parseWall_60 (fun H locs G => ?_)
  have G := gC_up_i (f := upd (T30.2.2.1 l1) 11 v33) (by rw [(oO_k g34).2]; rfl) G
  obtain ⟨T35, eT35, h⟩ := elet_some h
  have G : gC cI cJ cZ cMic cSrc cSt cAI cAJ D ad A s.heap H locs T35 := by rw [eT35]; exact G
  clear eT35
  exact (Nat.succ_ne_zero _ (congrArg Prod.fst (Option.some.inj h)).symm).elim
set_option maxHeartbeats 4000000 in
set_option maxRecDepth 100000 in
theorem x_X3_parseWall (l : Launch) (hst : l.stackTraces = false) (D : va_G) (cI cJ cZ cMic cSrc cSt cAI cAJ : ClassId) (ad : Nat → Nat) (T : AT) (o : Nat) (a0 : Nat) {e1 : Nat} {r1 : Int32} {T1 : AT} (h : g_X3_parseWall T o a0 = some (e1 + 1, r1, T1)) : kXv l yX3_parseWall (Cond.code yX3_parseWall cX3_parseWall 2 none :: wsA) 9 148 cI cJ cZ cMic cSrc cSt cAI cAJ D ad T [.ref (ad o), .ref (ad a0)] e1 T1 := by
  intro sz
  refine vx_ofW (cc := cX3_parseWall) (maxL := 2) (ret := none) (by decide) rfl ?_
  intro p e s m args below meth c s₁ B hml htab hv
  obtain ⟨rfl, hsz, hP, hK, hD0, hX, hN⟩ := hv
  have hx := B.exec
  have hb := B.bytes
  have hr := B.returns
  have hts := atoms_spec (ws := (Cond.code yX3_parseWall cX3_parseWall 2 none :: wsA)) B.pre
  have hown : s.vm.findClass RX3 = some m.cls := findClass_of_methodNamed B.named
  have hlocks := B.notSynchronized
  subst hsz
  have hD := hD0.self (sz := s.heap.size)
  generalize hAe : va_A (cW ad T.1 (cc cI cJ cZ cMic cSrc cSt cAI cAJ ad T)) s.heap.size = A at hD hX ⊢
  have hA : ∀ q : Nat, s.heap.size ≤ q → A q := fun q h => by rw [← hAe]; exact Or.inr h
  have G : gC cI cJ cZ cMic cSrc cSt cAI cAJ D ad A s.heap s.heap [] T := ⟨hP, hD, va_S.rf⟩
  have E : cE p c cX3_parseWall s m ([.ref (ad o), .ref (ad a0)] : List Value).toArray (Cond.code yX3_parseWall cX3_parseWall 2 none :: wsA) D RX3 (CT cI cJ cZ cMic cSrc cSt cAI cAJ) := ⟨hx, hb, hts, hown, hK⟩
  have htab : ∀ x ∈ c.exceptionTable.toList, False := fun x hx => htab x hx
  have hl := lv_entry ([.ref (ad o), .ref (ad a0)]) (n := 2) (Nat.le_of_ble_eq_true rfl)
  rw [lg_entry_eq]
  generalize (lg_sl ([.ref (ad o), .ref (ad a0)]) ++ List.replicate (2 - (lg_sl ([.ref (ad o), .ref (ad a0)])).length) Slot.unset).toArray = ls at hl ⊢
  have hl : lv_has ls 2 [(0, .ref (ad o)), (1, .ref (ad a0))] := hl
  unfold g_X3_parseWall at h
  refine lv_aload_n hx hb dX3_parseWall_0 rfl (lv_at hl 0 rfl) ?_
  refine lv_aload_n hx hb dX3_parseWall_1 rfl (lv_at hl 1 rfl) ?_
  obtain ⟨g2, h⟩ := oif_some h
  refine c_get E G a0 11 (oO_k g2).1 (cc_o6 (oO_k g2).2) rfl (fun w h => .tail _ (iA_14 h)) (by decide) (.tail _ qA_363) rfl rfl dX3_parseWall_2 ?_
  refine lv_topi (fun v3 ev3 => ?_)
  have h := elet_at ev3 h
  clear ev3
  refine lv_iconst (v := 2) hx hb dX3_parseWall_5 (by decide) ?_
  refine lv_icmp_lt (tgt := 13) hx hb dX3_parseWall_6 (by decide) (fun c4 => ?_) (fun c4 => ?_)
  · have h := oif_pos c4 h
    refine lv_iconst (v := 0) hx hb dX3_parseWall_13 (by decide) ?_
    have hl := lv_sub hl [0, 1] rfl
    exact x_X3_parseWall_b14 E hA hX hN hml trivial hst htab hlocks (fun H locs t G hvm h1 h2 => ⟨T1, trivial, ⟨⟨rfl, rfl⟩, (c_thrown G hK hvm h1 h2).1⟩, (c_thrown G hK hvm h1 h2).2⟩) _ _ _ _ _ _ _ _ h G hl
  · have h := oif_neg c4 h
    refine lv_iconst (v := 1) hx hb dX3_parseWall_9 (by decide) ?_
    refine lv_goto (tgt := 14) hx hb dX3_parseWall_10 (by decide) ?_
    have hl := lv_sub hl [0, 1] rfl
    exact x_X3_parseWall_b14 E hA hX hN hml trivial hst htab hlocks (fun H locs t G hvm h1 h2 => ⟨T1, trivial, ⟨⟨rfl, rfl⟩, (c_thrown G hK hvm h1 h2).1⟩, (c_thrown G hK hvm h1 h2).2⟩) _ _ _ _ _ _ _ _ h G hl
def g_X3_shape_b62  (T : AT) (l0 : Nat) (l1 : Int32) : Option (Nat × Int32 × AT) := oif (oO T l0 3 = true) <| elet (T.2.2.1 l0 1) fun v3 => elet (v3 + 1) fun v4 => oif (oO T l0 3 = true) <| elet (uI T l0 1 v4) fun T6 => some (0, l1, T6)
set_option maxHeartbeats 4000000 in
set_option maxRecDepth 100000 in
theorem u_X3_shape_b62 {p : Program} {l : Launch} {e : Env} {s : State} {m : MethodId} {args : Array Value} {below : List Frame} {meth : Method} {c : Code} {Q : State → Prop} {D : va_G} {A : Nat → Prop} {cI cJ cZ cMic cSrc cSt cAI cAJ : ClassId} {ad : Nat → Nat} {r1 : Int32} {T1 : AT} (E : cE p c cX3_shape s m args (Cond.code yX3_shape cX3_shape 2 (some .int) :: wsA) D RX3 (CT cI cJ cZ cMic cSrc cSt cAI cAJ)) (hA : ∀ q : Nat, s.heap.size ≤ q → A q) (hX : xT A s) (hN : nX s) (hml : c.maxLocals = 2) (hst : l.stackTraces = false) {h0 : Nat} (hA0 : ∀ a : Nat, A a → h0 ≤ a) (hT : sAll h0 s) (kr73 : ∀ (H : Heap) (locs : List Loc) (ls : Array Slot), gC cI cJ cZ cMic cSrc cSt cAI cAJ D ad A s.heap H locs T1 → W p l e { frames := 7, cells := 0, slots := 0, locals := 111 } s m args below meth c H locs 0 0 Q (F0 m 73 ls [.int r1])) : ∀ (T : AT) (H : Heap) (locs : List Loc) (ls : Array Slot) (l0 : Nat) (l1 : Int32), g_X3_shape_b62 T l0 l1 = some (0, r1, T1) → gC cI cJ cZ cMic cSrc cSt cAI cAJ D ad A s.heap H locs T → lv_has ls 2 [(0, .ref (ad l0)), (1, .int l1)] → W p l e { frames := 7, cells := 0, slots := 0, locals := 111 } s m args below meth c H locs 0 0 Q (F0 m 62 ls []) := by
  have hx := E.1
  have hb := E.2.1
  have hts := E.2.2.1
  have hown := E.2.2.2.1
  have hK := E.2.2.2.2
  intro T H locs ls l0 l1 h G hl
  unfold g_X3_shape_b62 at h
  refine lv_aload_n hx hb dX3_shape_62 rfl (lv_at hl 0 rfl) ?_
  refine lv_dup hx hb dX3_shape_63 rfl ?_
  obtain ⟨g2, h⟩ := oif_some h
  refine c_get E G l0 1 (oO_k g2).1 (cc_o3 (oO_k g2).2) rfl (fun w h => .tail _ (iA_17 h)) (by decide) (.tail _ qA_176) rfl rfl dX3_shape_64 ?_
  refine lv_topi (fun v3 ev3 => ?_)
  have h := elet_at ev3 h
  clear ev3
  refine lv_iconst (v := 1) hx hb dX3_shape_67 (by decide) ?_
  refine lv_iadd hx hb dX3_shape_68 ?_
  refine lv_topi (fun v4 ev4 => ?_)
  have h := elet_at ev4 h
  clear ev4
  obtain ⟨g5, h⟩ := oif_some h
  refine c_put E G l0 1 (v := .int v4) (oO_k g5).1 (cc_o3 (oO_k g5).2) rfl (fun w h => .tail _ (iA_17 h)) tyX3 tyX3_ok nmX3 (by decide) (.tail _ qA_176) ⟨rfl, rfl, rfl⟩ rfl rfl (Nat.le_of_ble_eq_true rfl) dX3_shape_69 (fun H locs G => ?_)
  have G := gC_up_i (f := upd (T.2.2.1 l0) 1 v4) (by rw [(oO_k g5).2]; rfl) G
  obtain ⟨T6, eT6, h⟩ := elet_some h
  have G : gC cI cJ cZ cMic cSrc cSt cAI cAJ D ad A s.heap H locs T6 := by rw [eT6]; exact G
  clear eT6
  refine lv_iload_n hx hb dX3_shape_72 rfl (lv_at hl 1 rfl) ?_
  rw [(osome3 h).2.2] at G
  refine lv_to (osome3 h).2.1 ?_
  exact kr73 _ _ _ G
def g_X3_shape (T : AT) (o : Nat) : Option (Nat × Int32 × AT) := oif (oO T o 3 = true) <| obind2 (g_X3_isWord T (sTx "triangle") o) fun r6 T4 => if r6 = 0 then (oif (oO T4 o 3 = true) <| obind2 (g_X3_isWord T4 (sTx "pulse") o) fun r13 T11 => if r13 = 0 then (oif (oO T11 o 3 = true) <| obind2 (g_X3_isWord T11 (sTx "noise") o) fun r20 T18 => if r20 = 0 then (oif (oO T18 o 3 = true) <| obind2 (g_X3_isWord T18 (sTx "square") o) fun r27 T25 => if r27 = 0 then (oif (oO T25 o 3 = true) <| elet (T25.2.2.1 o 1) fun v31 => oif (oO T25 o 3 = true) <| othr (g_X3_failAt T25 o v31 (1 : Int32)) 0 fun r35 T33 => g_X3_shape_b62 T33 o 0) else (g_X3_shape_b62 T25 o 0)) else (g_X3_shape_b62 T18 o 3)) else (g_X3_shape_b62 T11 o 2)) else (g_X3_shape_b62 T4 o 1)
set_option maxHeartbeats 4000000 in
set_option maxRecDepth 100000 in
theorem u_X3_shape (l : Launch) (hst : l.stackTraces = false) (D : va_G) (cI cJ cZ cMic cSrc cSt cAI cAJ : ClassId) (ad : Nat → Nat) (T : AT) (h0 : Nat) (o : Nat) {r1 : Int32} {T1 : AT} (h : g_X3_shape T o = some (0, r1, T1)) : kCiX l yX3_shape (Cond.code yX3_shape cX3_shape 2 (some .int) :: wsA) 7 111 cI cJ cZ cMic cSrc cSt cAI cAJ D ad T [.ref (ad o)] (yT0 cI cJ cZ cMic cSrc cSt cAI cAJ h0 ad T) (fun r T9 => r = r1 ∧ T9 = T1) := by
  intro sz
  refine Met.ofW (cc := cX3_shape) (maxL := 2) (ret := (some .int)) (by decide) rfl ?_
  intro p e s m args below meth c s₁ B hml hv
  obtain ⟨rfl, ⟨hsz, hP, hK, hD0, hX, hN⟩, hA1, hT⟩ := hv
  have hx := B.exec
  have hb := B.bytes
  have hr := B.returns
  have hts := atoms_spec (ws := (Cond.code yX3_shape cX3_shape 2 (some .int) :: wsA)) B.pre
  have hown : s.vm.findClass RX3 = some m.cls := findClass_of_methodNamed B.named
  have hlocks := B.notSynchronized
  subst hsz
  have hD := hD0.self (sz := s.heap.size)
  generalize hAe : va_A (cW ad T.1 (cc cI cJ cZ cMic cSrc cSt cAI cAJ ad T)) s.heap.size = A at hD hX hA1 ⊢
  have hA : ∀ q : Nat, s.heap.size ≤ q → A q := fun q h => by rw [← hAe]; exact Or.inr h
  have G : gC cI cJ cZ cMic cSrc cSt cAI cAJ D ad A s.heap s.heap [] T := ⟨hP, hD, va_S.rf⟩
  have E : cE p c cX3_shape s m ([.ref (ad o)] : List Value).toArray (Cond.code yX3_shape cX3_shape 2 (some .int) :: wsA) D RX3 (CT cI cJ cZ cMic cSrc cSt cAI cAJ) := ⟨hx, hb, hts, hown, hK⟩
  have hA0 : ∀ a : Nat, A a → h0 ≤ a := hA1
  have hl := lv_entry ([.ref (ad o)]) (n := 2) (Nat.le_of_ble_eq_true rfl)
  rw [lg_entry_eq]
  generalize (lg_sl ([.ref (ad o)]) ++ List.replicate (2 - (lg_sl ([.ref (ad o)])).length) Slot.unset).toArray = ls at hl ⊢
  have hl : lv_has ls 2 [(0, .ref (ad o))] := hl
  unfold g_X3_shape at h
  refine lv_iconst (v := 0) hx hb dX3_shape_0 (by decide) ?_
  refine lv_istore_n (lv' := [(1, .int 0), (0, .ref (ad o))]) hx hb dX3_shape_1 rfl hl (by decide) rfl (fun ls hl => ?_)
  refine lv_aload_n hx hb dX3_shape_2 rfl (lv_at hl 1 rfl) ?_
  obtain ⟨w2, hw2, ow2⟩ := hT.1 ("AcousticCamera$Parser", 217, "triangle") (List.mem_of_getElem? (i := 8) rfl)
  refine va_ldcS hx hb hown hw2 dX3_shape_3 ?_
  obtain ⟨g3, h⟩ := oif_some h
  obtain ⟨r6, T4, eT4, h⟩ := obind2_some h
  refine q_cviX (As := [.ref w2]) (rest := []) E G hA hX hN hml (u_X3_isWord l hst D cI cJ cZ cMic cSrc cSt cAI cAJ ad T h0 (q := w2) (sTx_ok (by decide +kernel)) o eT4) (cwV 1 hts (gaV qA_232 qA_233 qA_234 qA_222 qA_235) rfl rfl rfl (by decide +kernel) ⟨Nat.le_of_ble_eq_true rfl, Nat.le_of_ble_eq_true rfl⟩) (oO_k g3).1 (cc_o3 (oO_k g3).2) rfl rfl hl.1 rfl (lv_room (Nat.le_of_ble_eq_true rfl)) dX3_shape_5 ⟨Nat.zero_le _, Nat.zero_le _⟩ (yT1.blind) (yT1.go hT hA0 hA G ow2) (fun q7 T5 H locs hq G => ?_)
  obtain ⟨hq1, hq2⟩ := hq
  rw [hq2] at G
  refine lv_to hq1 ?_
  clear hq1 hq2 eT4
  refine lv_if_eq (tgt := 16) hx hb dX3_shape_8 (by decide) (fun c8 => ?_) (fun c8 => ?_)
  · have h := oif_pos c8 h
    refine lv_aload_n hx hb dX3_shape_16 rfl (lv_at hl 1 rfl) ?_
    obtain ⟨w9, hw9, ow9⟩ := hT.1 ("AcousticCamera$Parser", 219, "pulse") (List.mem_of_getElem? (i := 9) rfl)
    refine va_ldcS hx hb hown hw9 dX3_shape_17 ?_
    obtain ⟨g10, h⟩ := oif_some h
    obtain ⟨r13, T11, eT11, h⟩ := obind2_some h
    refine q_cviX (As := [.ref w9]) (rest := []) E G hA hX hN hml (u_X3_isWord l hst D cI cJ cZ cMic cSrc cSt cAI cAJ ad T4 h0 (q := w9) (sTx_ok (by decide +kernel)) o eT11) (cwV 1 hts (gaV qA_232 qA_233 qA_234 qA_222 qA_235) rfl rfl rfl (by decide +kernel) ⟨Nat.le_of_ble_eq_true rfl, Nat.le_of_ble_eq_true rfl⟩) (oO_k g10).1 (cc_o3 (oO_k g10).2) rfl rfl hl.1 rfl (lv_room (Nat.le_of_ble_eq_true rfl)) dX3_shape_19 ⟨Nat.zero_le _, Nat.zero_le _⟩ (yT1.blind) (yT1.go hT hA0 hA G ow9) (fun q14 T12 H locs hq G => ?_)
    obtain ⟨hq1, hq2⟩ := hq
    rw [hq2] at G
    refine lv_to hq1 ?_
    clear hq1 hq2 eT11
    refine lv_if_eq (tgt := 30) hx hb dX3_shape_22 (by decide) (fun c15 => ?_) (fun c15 => ?_)
    · have h := oif_pos c15 h
      refine lv_aload_n hx hb dX3_shape_30 rfl (lv_at hl 1 rfl) ?_
      obtain ⟨w16, hw16, ow16⟩ := hT.1 ("AcousticCamera$Parser", 221, "noise") (List.mem_of_getElem? (i := 10) rfl)
      refine va_ldcS hx hb hown hw16 dX3_shape_31 ?_
      obtain ⟨g17, h⟩ := oif_some h
      obtain ⟨r20, T18, eT18, h⟩ := obind2_some h
      refine q_cviX (As := [.ref w16]) (rest := []) E G hA hX hN hml (u_X3_isWord l hst D cI cJ cZ cMic cSrc cSt cAI cAJ ad T11 h0 (q := w16) (sTx_ok (by decide +kernel)) o eT18) (cwV 1 hts (gaV qA_232 qA_233 qA_234 qA_222 qA_235) rfl rfl rfl (by decide +kernel) ⟨Nat.le_of_ble_eq_true rfl, Nat.le_of_ble_eq_true rfl⟩) (oO_k g17).1 (cc_o3 (oO_k g17).2) rfl rfl hl.1 rfl (lv_room (Nat.le_of_ble_eq_true rfl)) dX3_shape_33 ⟨Nat.zero_le _, Nat.zero_le _⟩ (yT1.blind) (yT1.go hT hA0 hA G ow16) (fun q21 T19 H locs hq G => ?_)
      obtain ⟨hq1, hq2⟩ := hq
      rw [hq2] at G
      refine lv_to hq1 ?_
      clear hq1 hq2 eT18
      refine lv_if_eq (tgt := 44) hx hb dX3_shape_36 (by decide) (fun c22 => ?_) (fun c22 => ?_)
      · have h := oif_pos c22 h
        refine lv_aload_n hx hb dX3_shape_44 rfl (lv_at hl 1 rfl) ?_
        obtain ⟨w23, hw23, ow23⟩ := hT.1 ("AcousticCamera$Parser", 223, "square") (List.mem_of_getElem? (i := 11) rfl)
        refine va_ldcS hx hb hown hw23 dX3_shape_45 ?_
        obtain ⟨g24, h⟩ := oif_some h
        obtain ⟨r27, T25, eT25, h⟩ := obind2_some h
        refine q_cviX (As := [.ref w23]) (rest := []) E G hA hX hN hml (u_X3_isWord l hst D cI cJ cZ cMic cSrc cSt cAI cAJ ad T18 h0 (q := w23) (sTx_ok (by decide +kernel)) o eT25) (cwV 1 hts (gaV qA_232 qA_233 qA_234 qA_222 qA_235) rfl rfl rfl (by decide +kernel) ⟨Nat.le_of_ble_eq_true rfl, Nat.le_of_ble_eq_true rfl⟩) (oO_k g24).1 (cc_o3 (oO_k g24).2) rfl rfl hl.1 rfl (lv_room (Nat.le_of_ble_eq_true rfl)) dX3_shape_47 ⟨Nat.zero_le _, Nat.zero_le _⟩ (yT1.blind) (yT1.go hT hA0 hA G ow23) (fun q28 T26 H locs hq G => ?_)
        obtain ⟨hq1, hq2⟩ := hq
        rw [hq2] at G
        refine lv_to hq1 ?_
        clear hq1 hq2 eT25
        refine lv_if_ne (tgt := 62) hx hb dX3_shape_50 (by decide) (fun c29 => ?_) (fun c29 => ?_)
        · have h := oif_neg c29 h
          have hl := lv_sub hl [1, 0] rfl
          exact u_X3_shape_b62 E hA hX hN hml hst hA0 hT (fun H locs ls G => W.iret (v := r1) hx hb hr (fun t ht hW => ⟨⟨r1, T1, rfl, ⟨rfl, rfl⟩, ⟨by rw [ht]; exact G.1, va_K.moved hW.alike hK, G.2.1⟩⟩, G.2.2.F ht⟩) G.2.2.2.2 dX3_shape_73) _ _ _ _ _ _ h G hl
        · have h := oif_pos c29 h
          refine lv_aload_n hx hb dX3_shape_53 rfl (lv_at hl 1 rfl) ?_
          refine lv_aload_n hx hb dX3_shape_54 rfl (lv_at hl 1 rfl) ?_
          obtain ⟨g30, h⟩ := oif_some h
          refine c_get E G o 1 (oO_k g30).1 (cc_o3 (oO_k g30).2) rfl (fun w h => .tail _ (iA_17 h)) (by decide) (.tail _ qA_176) rfl rfl dX3_shape_55 ?_
          refine lv_topi (fun v31 ev31 => ?_)
          have h := elet_at ev31 h
          clear ev31
          refine lv_iconst (v := 1) hx hb dX3_shape_58 (by decide) ?_
          obtain ⟨g32, h⟩ := oif_some h
          obtain ⟨r35, T33, eT33, h⟩ := othr_n h
          refine q_cvv (As := [.int v31, .int 1]) (rest := []) E G hA hX hN hml (u_X3_failAt l hst D cI cJ cZ cMic cSrc cSt cAI cAJ ad T25 o v31 (1 : Int32) eT33) (cwV 2 hts (gaV qA_293 qA_294 qA_295 qA_222 qA_296) rfl rfl rfl (by decide +kernel) ⟨Nat.le_of_ble_eq_true rfl, Nat.le_of_ble_eq_true rfl⟩) (oO_k g32).1 (cc_o3 (oO_k g32).2) rfl rfl hl.1 rfl (lv_room (Nat.le_of_ble_eq_true rfl)) dX3_shape_59 ⟨Nat.zero_le _, Nat.zero_le _⟩ (fun T34 H locs hq G => ?_)
          rw [hq] at G
          clear hq eT33
          have hl := lv_sub hl [1, 0] rfl
          exact u_X3_shape_b62 E hA hX hN hml hst hA0 hT (fun H locs ls G => W.iret (v := r1) hx hb hr (fun t ht hW => ⟨⟨r1, T1, rfl, ⟨rfl, rfl⟩, ⟨by rw [ht]; exact G.1, va_K.moved hW.alike hK, G.2.1⟩⟩, G.2.2.F ht⟩) G.2.2.2.2 dX3_shape_73) _ _ _ _ _ _ h G hl
      · have h := oif_neg c22 h
        refine lv_iconst (v := 3) hx hb dX3_shape_39 (by decide) ?_
        refine lv_istore_n (lv' := [(1, .int 3), (0, .ref (ad o))]) hx hb dX3_shape_40 rfl hl (by decide) rfl (fun ls hl => ?_)
        refine lv_goto (tgt := 62) hx hb dX3_shape_41 (by decide) ?_
        have hl := lv_sub hl [1, 0] rfl
        exact u_X3_shape_b62 E hA hX hN hml hst hA0 hT (fun H locs ls G => W.iret (v := r1) hx hb hr (fun t ht hW => ⟨⟨r1, T1, rfl, ⟨rfl, rfl⟩, ⟨by rw [ht]; exact G.1, va_K.moved hW.alike hK, G.2.1⟩⟩, G.2.2.F ht⟩) G.2.2.2.2 dX3_shape_73) _ _ _ _ _ _ h G hl
    · have h := oif_neg c15 h
      refine lv_iconst (v := 2) hx hb dX3_shape_25 (by decide) ?_
      refine lv_istore_n (lv' := [(1, .int 2), (0, .ref (ad o))]) hx hb dX3_shape_26 rfl hl (by decide) rfl (fun ls hl => ?_)
      refine lv_goto (tgt := 62) hx hb dX3_shape_27 (by decide) ?_
      have hl := lv_sub hl [1, 0] rfl
      exact u_X3_shape_b62 E hA hX hN hml hst hA0 hT (fun H locs ls G => W.iret (v := r1) hx hb hr (fun t ht hW => ⟨⟨r1, T1, rfl, ⟨rfl, rfl⟩, ⟨by rw [ht]; exact G.1, va_K.moved hW.alike hK, G.2.1⟩⟩, G.2.2.F ht⟩) G.2.2.2.2 dX3_shape_73) _ _ _ _ _ _ h G hl
  · have h := oif_neg c8 h
    refine lv_iconst (v := 1) hx hb dX3_shape_11 (by decide) ?_
    refine lv_istore_n (lv' := [(1, .int 1), (0, .ref (ad o))]) hx hb dX3_shape_12 rfl hl (by decide) rfl (fun ls hl => ?_)
    refine lv_goto (tgt := 62) hx hb dX3_shape_13 (by decide) ?_
    have hl := lv_sub hl [1, 0] rfl
    exact u_X3_shape_b62 E hA hX hN hml hst hA0 hT (fun H locs ls G => W.iret (v := r1) hx hb hr (fun t ht hW => ⟨⟨r1, T1, rfl, ⟨rfl, rfl⟩, ⟨by rw [ht]; exact G.1, va_K.moved hW.alike hK, G.2.1⟩⟩, G.2.2.F ht⟩) G.2.2.2.2 dX3_shape_73) _ _ _ _ _ _ h G hl
set_option maxHeartbeats 4000000 in
set_option maxRecDepth 100000 in
theorem s_X3_shape_b62 {e1 : Nat} {r1 : Int32} {T1 : AT} : ∀ (T : AT) (l0 : Nat) (l1 : Int32), g_X3_shape_b62 T l0 l1 = some (e1, r1, T1) → SP T T1 := by
  intro T l0 l1 h
  have p0 := SP.rf T
  unfold g_X3_shape_b62 at h
  obtain ⟨g2, h⟩ := oif_some h
  obtain ⟨v3, -, h⟩ := elet_some h
  obtain ⟨v4, -, h⟩ := elet_some h
  obtain ⟨g5, h⟩ := oif_some h
  obtain ⟨T6, eT6, h⟩ := elet_some h
  have p1 : SP T T6 := SP.tr p0 (by rw [eT6]; exact sp_uI)
  rw [← (osome3 h).2.2]
  exact p1
set_option maxHeartbeats 4000000 in
set_option maxRecDepth 100000 in
theorem s_X3_shape {T : AT} {o : Nat} {e1 : Nat} {r1 : Int32} {T1 : AT} (h : g_X3_shape T o = some (e1, r1, T1)) : SP T T1 := by
  have p0 := SP.rf T
  unfold g_X3_shape at h
  obtain ⟨g3, h⟩ := oif_some h
  obtain ⟨r5, T4, eT4, h⟩ := obind2_some h
  have p1 : SP T T4 := SP.tr p0 (s_X3_isWord eT4)
  rcases oif_or h with ⟨c6, h⟩ | ⟨c6, h⟩
  · have h := h
    obtain ⟨g8, h⟩ := oif_some h
    obtain ⟨r10, T9, eT9, h⟩ := obind2_some h
    have p2 : SP T T9 := SP.tr p1 (s_X3_isWord eT9)
    rcases oif_or h with ⟨c11, h⟩ | ⟨c11, h⟩
    · have h := h
      obtain ⟨g13, h⟩ := oif_some h
      obtain ⟨r15, T14, eT14, h⟩ := obind2_some h
      have p3 : SP T T14 := SP.tr p2 (s_X3_isWord eT14)
      rcases oif_or h with ⟨c16, h⟩ | ⟨c16, h⟩
      · have h := h
        obtain ⟨g18, h⟩ := oif_some h
        obtain ⟨r20, T19, eT19, h⟩ := obind2_some h
        have p4 : SP T T19 := SP.tr p3 (s_X3_isWord eT19)
        rcases oif_or h with ⟨c21, h⟩ | ⟨c21, h⟩
        · have h := h
          obtain ⟨g22, h⟩ := oif_some h
          obtain ⟨v23, -, h⟩ := elet_some h
          obtain ⟨g24, h⟩ := oif_some h
          rcases othr_s h with ⟨k9, r9, e9, -⟩ | ⟨r26, T25, eT25, h⟩
          · exact SP.tr p4 (s_X3_failAt e9)
          have p5 : SP T T25 := SP.tr p4 (s_X3_failAt eT25)
          exact SP.tr p5 (s_X3_shape_b62 _ _ _ h)
        · have h := h
          exact SP.tr p4 (s_X3_shape_b62 _ _ _ h)
      · have h := h
        exact SP.tr p3 (s_X3_shape_b62 _ _ _ h)
    · have h := h
      exact SP.tr p2 (s_X3_shape_b62 _ _ _ h)
  · have h := h
    exact SP.tr p1 (s_X3_shape_b62 _ _ _ h)
set_option maxHeartbeats 4000000 in
set_option maxRecDepth 100000 in
theorem x_X3_shape_b62 {p : Program} {l : Launch} {e : Env} {s : State} {m : MethodId} {args : Array Value} {below : List Frame} {meth : Method} {c : Code} {Qc : Array Value → State → Outcome → State → Prop} {XC : String → State → State → Prop} {D : va_G} {A : Nat → Prop} {cI cJ cZ cMic cSrc cSt cAI cAJ : ClassId} {ad : Nat → Nat} {e1 : Nat} {r1 : Int32} {T1 : AT} (E : cE p c cX3_shape s m args (Cond.code yX3_shape cX3_shape 2 (some .int) :: wsA) D RX3 (CT cI cJ cZ cMic cSrc cSt cAI cAJ)) (hA : ∀ q : Nat, s.heap.size ≤ q → A q) (hX : xT A s) (hN : nX s) (hml : c.maxLocals = 2) {h0 : Nat} (hA0 : ∀ a : Nat, A a → h0 ≤ a) (hT : sAll h0 s) (hz9 : True) (hst : l.stackTraces = false) (htab : ∀ x ∈ c.exceptionTable.toList, False) (hlocks : meth.locks = false) (kx : ∀ (H : Heap) (locs : List Loc) (t : State), gC cI cJ cZ cMic cSrc cSt cAI cAJ D ad A s.heap H locs T1 → s.vm.Alike t.vm → H.size ≤ t.heap.size → (∀ q, q < H.size → t.heap[q]? = H[q]?) → XC (exn e1) s t) : ∀ (T : AT) (H : Heap) (locs : List Loc) (ls : Array Slot) (l0 : Nat) (l1 : Int32), g_X3_shape_b62 T l0 l1 = some (e1 + 1, r1, T1) → gC cI cJ cZ cMic cSrc cSt cAI cAJ D ad A s.heap H locs T → lv_has ls 2 [(0, .ref (ad l0)), (1, .int l1)] → W p l e { frames := 7, cells := 1, slots := 6, locals := 111 } s m args below meth c H locs 0 0 (vx_MQ below Qc XC args s 1 6 A) (F0 m 62 ls []) := by
  have hx := E.1
  have hb := E.2.1
  have hts := E.2.2.1
  have hown := E.2.2.2.1
  have hK := E.2.2.2.2
  intro T H locs ls l0 l1 h G hl
  unfold g_X3_shape_b62 at h
  refine lv_aload_n hx hb dX3_shape_62 rfl (lv_at hl 0 rfl) ?_
  refine lv_dup hx hb dX3_shape_63 rfl ?_
  obtain ⟨g2, h⟩ := oif_some h
  refine c_get E G l0 1 (oO_k g2).1 (cc_o3 (oO_k g2).2) rfl (fun w h => .tail _ (iA_17 h)) (by decide) (.tail _ qA_176) rfl rfl dX3_shape_64 ?_
  refine lv_topi (fun v3 ev3 => ?_)
  have h := elet_at ev3 h
  clear ev3
  refine lv_iconst (v := 1) hx hb dX3_shape_67 (by decide) ?_
  refine lv_iadd hx hb dX3_shape_68 ?_
  refine lv_topi (fun v4 ev4 => ?_)
  have h := elet_at ev4 h
  clear ev4
  obtain ⟨g5, h⟩ := oif_some h
  refine c_put E G l0 1 (v := .int v4) (oO_k g5).1 (cc_o3 (oO_k g5).2) rfl (fun w h => .tail _ (iA_17 h)) tyX3 tyX3_ok nmX3 (by decide) (.tail _ qA_176) ⟨rfl, rfl, rfl⟩ rfl rfl (Nat.le_of_ble_eq_true rfl) dX3_shape_69 (fun H locs G => ?_)
  have G := gC_up_i (f := upd (T.2.2.1 l0) 1 v4) (by rw [(oO_k g5).2]; rfl) G
  obtain ⟨T6, eT6, h⟩ := elet_some h
  have G : gC cI cJ cZ cMic cSrc cSt cAI cAJ D ad A s.heap H locs T6 := by rw [eT6]; exact G
  clear eT6
  refine lv_iload_n hx hb dX3_shape_72 rfl (lv_at hl 1 rfl) ?_
  exact (Nat.succ_ne_zero _ (congrArg Prod.fst (Option.some.inj h)).symm).elim
set_option maxHeartbeats 4000000 in
set_option maxRecDepth 100000 in
theorem x_X3_shape (l : Launch) (hst : l.stackTraces = false) (D : va_G) (cI cJ cZ cMic cSrc cSt cAI cAJ : ClassId) (ad : Nat → Nat) (T : AT) (h0 : Nat) (o : Nat) {e1 : Nat} {r1 : Int32} {T1 : AT} (h : g_X3_shape T o = some (e1 + 1, r1, T1)) : kXiX l yX3_shape (Cond.code yX3_shape cX3_shape 2 (some .int) :: wsA) 7 111 cI cJ cZ cMic cSrc cSt cAI cAJ D ad T [.ref (ad o)] (yT0 cI cJ cZ cMic cSrc cSt cAI cAJ h0 ad T) e1 T1 := by
  intro sz
  refine vx_ofW (cc := cX3_shape) (maxL := 2) (ret := (some .int)) (by decide) rfl ?_
  intro p e s m args below meth c s₁ B hml htab hv
  obtain ⟨rfl, ⟨hsz, hP, hK, hD0, hX, hN⟩, hA1, hT⟩ := hv
  have hx := B.exec
  have hb := B.bytes
  have hr := B.returns
  have hts := atoms_spec (ws := (Cond.code yX3_shape cX3_shape 2 (some .int) :: wsA)) B.pre
  have hown : s.vm.findClass RX3 = some m.cls := findClass_of_methodNamed B.named
  have hlocks := B.notSynchronized
  subst hsz
  have hD := hD0.self (sz := s.heap.size)
  generalize hAe : va_A (cW ad T.1 (cc cI cJ cZ cMic cSrc cSt cAI cAJ ad T)) s.heap.size = A at hD hX hA1 ⊢
  have hA : ∀ q : Nat, s.heap.size ≤ q → A q := fun q h => by rw [← hAe]; exact Or.inr h
  have G : gC cI cJ cZ cMic cSrc cSt cAI cAJ D ad A s.heap s.heap [] T := ⟨hP, hD, va_S.rf⟩
  have E : cE p c cX3_shape s m ([.ref (ad o)] : List Value).toArray (Cond.code yX3_shape cX3_shape 2 (some .int) :: wsA) D RX3 (CT cI cJ cZ cMic cSrc cSt cAI cAJ) := ⟨hx, hb, hts, hown, hK⟩
  have htab : ∀ x ∈ c.exceptionTable.toList, False := fun x hx => htab x hx
  have hA0 : ∀ a : Nat, A a → h0 ≤ a := hA1
  have hl := lv_entry ([.ref (ad o)]) (n := 2) (Nat.le_of_ble_eq_true rfl)
  rw [lg_entry_eq]
  generalize (lg_sl ([.ref (ad o)]) ++ List.replicate (2 - (lg_sl ([.ref (ad o)])).length) Slot.unset).toArray = ls at hl ⊢
  have hl : lv_has ls 2 [(0, .ref (ad o))] := hl
  unfold g_X3_shape at h
  refine lv_iconst (v := 0) hx hb dX3_shape_0 (by decide) ?_
  refine lv_istore_n (lv' := [(1, .int 0), (0, .ref (ad o))]) hx hb dX3_shape_1 rfl hl (by decide) rfl (fun ls hl => ?_)
  refine lv_aload_n hx hb dX3_shape_2 rfl (lv_at hl 1 rfl) ?_
  obtain ⟨w2, hw2, ow2⟩ := hT.1 ("AcousticCamera$Parser", 217, "triangle") (List.mem_of_getElem? (i := 8) rfl)
  refine va_ldcS hx hb hown hw2 dX3_shape_3 ?_
  obtain ⟨g3, h⟩ := oif_some h
  obtain ⟨r6, T4, eT4, h⟩ := obind2_some h
  refine q_cviX (As := [.ref w2]) (rest := []) E G hA hX hN hml (u_X3_isWord l hst D cI cJ cZ cMic cSrc cSt cAI cAJ ad T h0 (q := w2) (sTx_ok (by decide +kernel)) o eT4) (cwV 1 hts (gaV qA_232 qA_233 qA_234 qA_222 qA_235) rfl rfl rfl (by decide +kernel) ⟨Nat.le_of_ble_eq_true rfl, Nat.le_of_ble_eq_true rfl⟩) (oO_k g3).1 (cc_o3 (oO_k g3).2) rfl rfl hl.1 rfl (lv_room (Nat.le_of_ble_eq_true rfl)) dX3_shape_5 ⟨Nat.zero_le _, Nat.zero_le _⟩ (yT1.blind) (yT1.go hT hA0 hA G ow2) (fun q7 T5 H locs hq G => ?_)
  obtain ⟨hq1, hq2⟩ := hq
  rw [hq2] at G
  refine lv_to hq1 ?_
  clear hq1 hq2 eT4
  refine lv_if_eq (tgt := 16) hx hb dX3_shape_8 (by decide) (fun c8 => ?_) (fun c8 => ?_)
  · have h := oif_pos c8 h
    refine lv_aload_n hx hb dX3_shape_16 rfl (lv_at hl 1 rfl) ?_
    obtain ⟨w9, hw9, ow9⟩ := hT.1 ("AcousticCamera$Parser", 219, "pulse") (List.mem_of_getElem? (i := 9) rfl)
    refine va_ldcS hx hb hown hw9 dX3_shape_17 ?_
    obtain ⟨g10, h⟩ := oif_some h
    obtain ⟨r13, T11, eT11, h⟩ := obind2_some h
    refine q_cviX (As := [.ref w9]) (rest := []) E G hA hX hN hml (u_X3_isWord l hst D cI cJ cZ cMic cSrc cSt cAI cAJ ad T4 h0 (q := w9) (sTx_ok (by decide +kernel)) o eT11) (cwV 1 hts (gaV qA_232 qA_233 qA_234 qA_222 qA_235) rfl rfl rfl (by decide +kernel) ⟨Nat.le_of_ble_eq_true rfl, Nat.le_of_ble_eq_true rfl⟩) (oO_k g10).1 (cc_o3 (oO_k g10).2) rfl rfl hl.1 rfl (lv_room (Nat.le_of_ble_eq_true rfl)) dX3_shape_19 ⟨Nat.zero_le _, Nat.zero_le _⟩ (yT1.blind) (yT1.go hT hA0 hA G ow9) (fun q14 T12 H locs hq G => ?_)
    obtain ⟨hq1, hq2⟩ := hq
    rw [hq2] at G
    refine lv_to hq1 ?_
    clear hq1 hq2 eT11
    refine lv_if_eq (tgt := 30) hx hb dX3_shape_22 (by decide) (fun c15 => ?_) (fun c15 => ?_)
    · have h := oif_pos c15 h
      refine lv_aload_n hx hb dX3_shape_30 rfl (lv_at hl 1 rfl) ?_
      obtain ⟨w16, hw16, ow16⟩ := hT.1 ("AcousticCamera$Parser", 221, "noise") (List.mem_of_getElem? (i := 10) rfl)
      refine va_ldcS hx hb hown hw16 dX3_shape_31 ?_
      obtain ⟨g17, h⟩ := oif_some h
      obtain ⟨r20, T18, eT18, h⟩ := obind2_some h
      refine q_cviX (As := [.ref w16]) (rest := []) E G hA hX hN hml (u_X3_isWord l hst D cI cJ cZ cMic cSrc cSt cAI cAJ ad T11 h0 (q := w16) (sTx_ok (by decide +kernel)) o eT18) (cwV 1 hts (gaV qA_232 qA_233 qA_234 qA_222 qA_235) rfl rfl rfl (by decide +kernel) ⟨Nat.le_of_ble_eq_true rfl, Nat.le_of_ble_eq_true rfl⟩) (oO_k g17).1 (cc_o3 (oO_k g17).2) rfl rfl hl.1 rfl (lv_room (Nat.le_of_ble_eq_true rfl)) dX3_shape_33 ⟨Nat.zero_le _, Nat.zero_le _⟩ (yT1.blind) (yT1.go hT hA0 hA G ow16) (fun q21 T19 H locs hq G => ?_)
      obtain ⟨hq1, hq2⟩ := hq
      rw [hq2] at G
      refine lv_to hq1 ?_
      clear hq1 hq2 eT18
      refine lv_if_eq (tgt := 44) hx hb dX3_shape_36 (by decide) (fun c22 => ?_) (fun c22 => ?_)
      · have h := oif_pos c22 h
        refine lv_aload_n hx hb dX3_shape_44 rfl (lv_at hl 1 rfl) ?_
        obtain ⟨w23, hw23, ow23⟩ := hT.1 ("AcousticCamera$Parser", 223, "square") (List.mem_of_getElem? (i := 11) rfl)
        refine va_ldcS hx hb hown hw23 dX3_shape_45 ?_
        obtain ⟨g24, h⟩ := oif_some h
        obtain ⟨r27, T25, eT25, h⟩ := obind2_some h
        refine q_cviX (As := [.ref w23]) (rest := []) E G hA hX hN hml (u_X3_isWord l hst D cI cJ cZ cMic cSrc cSt cAI cAJ ad T18 h0 (q := w23) (sTx_ok (by decide +kernel)) o eT25) (cwV 1 hts (gaV qA_232 qA_233 qA_234 qA_222 qA_235) rfl rfl rfl (by decide +kernel) ⟨Nat.le_of_ble_eq_true rfl, Nat.le_of_ble_eq_true rfl⟩) (oO_k g24).1 (cc_o3 (oO_k g24).2) rfl rfl hl.1 rfl (lv_room (Nat.le_of_ble_eq_true rfl)) dX3_shape_47 ⟨Nat.zero_le _, Nat.zero_le _⟩ (yT1.blind) (yT1.go hT hA0 hA G ow23) (fun q28 T26 H locs hq G => ?_)
        obtain ⟨hq1, hq2⟩ := hq
        rw [hq2] at G
        refine lv_to hq1 ?_
        clear hq1 hq2 eT25
        refine lv_if_ne (tgt := 62) hx hb dX3_shape_50 (by decide) (fun c29 => ?_) (fun c29 => ?_)
        · have h := oif_neg c29 h
          have hl := lv_sub hl [1, 0] rfl
          exact x_X3_shape_b62 E hA hX hN hml hA0 hT trivial hst htab hlocks (fun H locs t G hvm h1 h2 => ⟨T1, trivial, ⟨⟨rfl, rfl⟩, (c_thrown G hK hvm h1 h2).1⟩, (c_thrown G hK hvm h1 h2).2⟩) _ _ _ _ _ _ h G hl
        · have h := oif_pos c29 h
          refine lv_aload_n hx hb dX3_shape_53 rfl (lv_at hl 1 rfl) ?_
          refine lv_aload_n hx hb dX3_shape_54 rfl (lv_at hl 1 rfl) ?_
          obtain ⟨g30, h⟩ := oif_some h
          refine c_get E G o 1 (oO_k g30).1 (cc_o3 (oO_k g30).2) rfl (fun w h => .tail _ (iA_17 h)) (by decide) (.tail _ qA_176) rfl rfl dX3_shape_55 ?_
          refine lv_topi (fun v31 ev31 => ?_)
          have h := elet_at ev31 h
          clear ev31
          refine lv_iconst (v := 1) hx hb dX3_shape_58 (by decide) ?_
          obtain ⟨g32, h⟩ := oif_some h
          rcases othr_t h with ⟨r0, eT33⟩ | ⟨r35, T33, eT33, h⟩
          · refine q_xvv (As := [.int v31, .int 1]) (rest := []) E G hA hX hN hml (x_X3_failAt l hst D cI cJ cZ cMic cSrc cSt cAI cAJ ad T25 o v31 (1 : Int32) eT33) (cwV 2 hts (gaV qA_293 qA_294 qA_295 qA_222 qA_296) rfl rfl rfl (by decide +kernel) ⟨Nat.le_of_ble_eq_true rfl, Nat.le_of_ble_eq_true rfl⟩) (oO_k g32).1 (cc_o3 (oO_k g32).2) rfl rfl hl.1 rfl (lv_room (Nat.le_of_ble_eq_true rfl)) dX3_shape_59 ⟨Nat.le_of_ble_eq_true rfl, Nat.le_of_ble_eq_true rfl⟩ (fun E9 ce q9 T9 H locs hp G hce hcv hcl => ?_)
            obtain ⟨hE, hT⟩ := hp
            subst hE
            rw [hT] at G
            exact vx_out (fun x hx => (htab x hx).elim) hlocks hce hcv hcl (fun t ht hvm => ⟨T1, trivial, ⟨⟨rfl, rfl⟩, by rw [ht]; exact G.1, va_K.moved hvm hK, G.2.1⟩, G.2.2.F ht⟩) G.2.2.2.2 (Nat.le_refl _) (Nat.le_refl _)
          refine q_cvv (As := [.int v31, .int 1]) (rest := []) E G hA hX hN hml (u_X3_failAt l hst D cI cJ cZ cMic cSrc cSt cAI cAJ ad T25 o v31 (1 : Int32) eT33) (cwV 2 hts (gaV qA_293 qA_294 qA_295 qA_222 qA_296) rfl rfl rfl (by decide +kernel) ⟨Nat.le_of_ble_eq_true rfl, Nat.le_of_ble_eq_true rfl⟩) (oO_k g32).1 (cc_o3 (oO_k g32).2) rfl rfl hl.1 rfl (lv_room (Nat.le_of_ble_eq_true rfl)) dX3_shape_59 ⟨Nat.zero_le _, Nat.zero_le _⟩ (fun T34 H locs hq G => ?_)
          rw [hq] at G
          clear hq eT33
          have hl := lv_sub hl [1, 0] rfl
          exact x_X3_shape_b62 E hA hX hN hml hA0 hT trivial hst htab hlocks (fun H locs t G hvm h1 h2 => ⟨T1, trivial, ⟨⟨rfl, rfl⟩, (c_thrown G hK hvm h1 h2).1⟩, (c_thrown G hK hvm h1 h2).2⟩) _ _ _ _ _ _ h G hl
      · have h := oif_neg c22 h
        refine lv_iconst (v := 3) hx hb dX3_shape_39 (by decide) ?_
        refine lv_istore_n (lv' := [(1, .int 3), (0, .ref (ad o))]) hx hb dX3_shape_40 rfl hl (by decide) rfl (fun ls hl => ?_)
        refine lv_goto (tgt := 62) hx hb dX3_shape_41 (by decide) ?_
        have hl := lv_sub hl [1, 0] rfl
        exact x_X3_shape_b62 E hA hX hN hml hA0 hT trivial hst htab hlocks (fun H locs t G hvm h1 h2 => ⟨T1, trivial, ⟨⟨rfl, rfl⟩, (c_thrown G hK hvm h1 h2).1⟩, (c_thrown G hK hvm h1 h2).2⟩) _ _ _ _ _ _ h G hl
    · have h := oif_neg c15 h
      refine lv_iconst (v := 2) hx hb dX3_shape_25 (by decide) ?_
      refine lv_istore_n (lv' := [(1, .int 2), (0, .ref (ad o))]) hx hb dX3_shape_26 rfl hl (by decide) rfl (fun ls hl => ?_)
      refine lv_goto (tgt := 62) hx hb dX3_shape_27 (by decide) ?_
      have hl := lv_sub hl [1, 0] rfl
      exact x_X3_shape_b62 E hA hX hN hml hA0 hT trivial hst htab hlocks (fun H locs t G hvm h1 h2 => ⟨T1, trivial, ⟨⟨rfl, rfl⟩, (c_thrown G hK hvm h1 h2).1⟩, (c_thrown G hK hvm h1 h2).2⟩) _ _ _ _ _ _ h G hl
  · have h := oif_neg c8 h
    refine lv_iconst (v := 1) hx hb dX3_shape_11 (by decide) ?_
    refine lv_istore_n (lv' := [(1, .int 1), (0, .ref (ad o))]) hx hb dX3_shape_12 rfl hl (by decide) rfl (fun ls hl => ?_)
    refine lv_goto (tgt := 62) hx hb dX3_shape_13 (by decide) ?_
    have hl := lv_sub hl [1, 0] rfl
    exact x_X3_shape_b62 E hA hX hN hml hA0 hT trivial hst htab hlocks (fun H locs t G hvm h1 h2 => ⟨T1, trivial, ⟨⟨rfl, rfl⟩, (c_thrown G hK hvm h1 h2).1⟩, (c_thrown G hK hvm h1 h2).2⟩) _ _ _ _ _ _ h G hl
def g_X3_parseSource_b168  (T : AT) (l1 : Nat) : Option (Nat × Int32 × AT) := oif (oO T l1 6 = true) <| elet (T.2.2.1 l1 8) fun v3 => elet (v3 + 1) fun v4 => oif (oO T l1 6 = true) <| elet (uI T l1 8 v4) fun T6 => some (0, 0, T6)
set_option maxHeartbeats 4000000 in
set_option maxRecDepth 100000 in
theorem u_X3_parseSource_b168 {p : Program} {l : Launch} {e : Env} {s : State} {m : MethodId} {args : Array Value} {below : List Frame} {meth : Method} {c : Code} {Q : State → Prop} {D : va_G} {A : Nat → Prop} {cI cJ cZ cMic cSrc cSt cAI cAJ : ClassId} {ad : Nat → Nat} {r1 : Int32} {T1 : AT} (E : cE p c cX3_parseSource s m args (Cond.code yX3_parseSource cX3_parseSource 3 none :: wsA) D RX3 (CT cI cJ cZ cMic cSrc cSt cAI cAJ)) (hA : ∀ q : Nat, s.heap.size ≤ q → A q) (hX : xT A s) (hN : nX s) (hml : c.maxLocals = 3) (hst : l.stackTraces = false) {h0 : Nat} (hA0 : ∀ a : Nat, A a → h0 ≤ a) (hT : sAll h0 s) (kr178 : ∀ (H : Heap) (locs : List Loc) (ls : Array Slot), gC cI cJ cZ cMic cSrc cSt cAI cAJ D ad A s.heap H locs T1 → W p l e { frames := 9, cells := 0, slots := 0, locals := 148 } s m args below meth c H locs 0 0 Q (F0 m 178 ls [])) : ∀ (T : AT) (H : Heap) (locs : List Loc) (ls : Array Slot) (l1 : Nat), g_X3_parseSource_b168 T l1 = some (0, r1, T1) → gC cI cJ cZ cMic cSrc cSt cAI cAJ D ad A s.heap H locs T → lv_has ls 3 [(1, .ref (ad l1))] → W p l e { frames := 9, cells := 0, slots := 0, locals := 148 } s m args below meth c H locs 0 0 Q (F0 m 168 ls []) := by
  have hx := E.1
  have hb := E.2.1
  have hts := E.2.2.1
  have hown := E.2.2.2.1
  have hK := E.2.2.2.2
  intro T H locs ls l1 h G hl
  unfold g_X3_parseSource_b168 at h
  refine lv_aload_n hx hb dX3_parseSource_168 rfl (lv_at hl 0 rfl) ?_
  refine lv_dup hx hb dX3_parseSource_169 rfl ?_
  obtain ⟨g2, h⟩ := oif_some h
  refine c_get E G l1 8 (oO_k g2).1 (cc_o6 (oO_k g2).2) rfl (fun w h => .tail _ (iA_14 h)) (by decide) (.tail _ qA_343) rfl rfl dX3_parseSource_170 ?_
  refine lv_topi (fun v3 ev3 => ?_)
  have h := elet_at ev3 h
  clear ev3
  refine lv_iconst (v := 1) hx hb dX3_parseSource_173 (by decide) ?_
  refine lv_iadd hx hb dX3_parseSource_174 ?_
  refine lv_topi (fun v4 ev4 => ?_)
  have h := elet_at ev4 h
  clear ev4
  obtain ⟨g5, h⟩ := oif_some h
  refine c_put E G l1 8 (v := .int v4) (oO_k g5).1 (cc_o6 (oO_k g5).2) rfl (fun w h => .tail _ (iA_14 h)) tyX6 tyX6_ok nmX6 (by decide) (.tail _ qA_343) ⟨rfl, rfl, rfl⟩ rfl rfl (Nat.le_of_ble_eq_true rfl) dX3_parseSource_175 (fun H locs G => ?_)
  have G := gC_up_i (f := upd (T.2.2.1 l1) 8 v4) (by rw [(oO_k g5).2]; rfl) G
  obtain ⟨T6, eT6, h⟩ := elet_some h
  have G : gC cI cJ cZ cMic cSrc cSt cAI cAJ D ad A s.heap H locs T6 := by rw [eT6]; exact G
  clear eT6
  rw [(osome3 h).2.2] at G
  exact kr178 _ _ _ G
def g_X3_parseSource_b15  (T : AT) (s0 : Int32) (s1 : Nat) (l0 : Nat) (l1 : Nat) : Option (Nat × Int32 × AT) := oif (oO T s1 3 = true) <| othr (g_X3_startLine T s1 s0 (4 : Int32)) 0 fun r5 T3 => oif (oO T3 l1 6 = true) <| obind (T3.2.2.2.2 l1 7) fun n8 => oif (oO T3 l1 6 = true) <| elet (T3.2.2.1 l1 8) fun v10 => oif (aA T3 n8 104 = true) <| oif (inb v10 (T3.2.1 n8).2 = true) <| obind (T3.2.2.2.2 n8 v10.toNatClampNeg) fun n13 => oif (oO T3 l0 3 = true) <| othr (g_X3_shape T3 l0) 0 fun r17 T15 => oif (oO T15 n13 7 = true) <| elet (uI T15 n13 0 r17) fun T20 => oif (oO T20 l0 3 = true) <| othr (g_X3_signed T20 l0 ((-2000) : Int32) (2000 : Int32)) 0 fun r24 T22 => oif (oO T22 n13 7 = true) <| elet (uI T22 n13 1 r24) fun T27 => oif (oO T27 l0 3 = true) <| othr (g_X3_signed T27 l0 ((-2000) : Int32) (2000 : Int32)) 0 fun r31 T29 => oif (oO T29 n13 7 = true) <| elet (uI T29 n13 2 r31) fun T34 => oif (oO T34 l0 3 = true) <| othr (g_X3_signed T34 l0 ((-999) : Int32) (999 : Int32)) 0 fun r38 T36 => oif (oO T36 n13 7 = true) <| elet (uI T36 n13 3 r38) fun T41 => oif (oO T41 l0 3 = true) <| othr (g_X3_signed T41 l0 ((-999) : Int32) (999 : Int32)) 0 fun r45 T43 => oif (oO T43 n13 7 = true) <| elet (uI T43 n13 4 r45) fun T48 => oif (oO T48 l0 3 = true) <| othr (g_X3_number T48 l0 (1 : Int32) (999 : Int32)) 0 fun r52 T50 => oif (oO T50 n13 7 = true) <| elet (uI T50 n13 5 r52) fun T55 => oif (oO T55 l0 3 = true) <| othr (g_X3_number T55 l0 (2 : Int32) (99 : Int32)) 0 fun r59 T57 => oif (oO T57 n13 7 = true) <| elet (uI T57 n13 6 r59) fun T62 => oif (oO T62 l0 3 = true) <| othr (g_X3_number T62 l0 (0 : Int32) (99 : Int32)) 0 fun r66 T64 => oif (oO T64 n13 7 = true) <| elet (uI T64 n13 7 r66) fun T69 => oif (oO T69 n13 7 = true) <| elet (uI T69 n13 8 0) fun T71 => oif (oO T71 n13 7 = true) <| elet (uI T71 n13 9 0) fun T73 => oif (oO T73 l0 3 = true) <| obind2 (g_X3_isWord T73 (sTx "from") l0) fun r78 T76 => if r78 = 0 then (g_X3_parseSource_b168 T76 l1) else (oif (oO T76 l0 3 = true) <| elet (T76.2.2.1 l0 1) fun v82 => elet (v82 + 1) fun v83 => oif (oO T76 l0 3 = true) <| elet (uI T76 l0 1 v83) fun T85 => oif (oO T85 l0 3 = true) <| othr (g_X3_number T85 l0 (0 : Int32) (199 : Int32)) 0 fun r89 T87 => oif (oO T87 n13 7 = true) <| elet (uI T87 n13 8 r89) fun T92 => g_X3_parseSource_b168 T92 l1)
set_option maxHeartbeats 4000000 in
set_option maxRecDepth 100000 in
theorem u_X3_parseSource_b15 {p : Program} {l : Launch} {e : Env} {s : State} {m : MethodId} {args : Array Value} {below : List Frame} {meth : Method} {c : Code} {Q : State → Prop} {D : va_G} {A : Nat → Prop} {cI cJ cZ cMic cSrc cSt cAI cAJ : ClassId} {ad : Nat → Nat} {r1 : Int32} {T1 : AT} (E : cE p c cX3_parseSource s m args (Cond.code yX3_parseSource cX3_parseSource 3 none :: wsA) D RX3 (CT cI cJ cZ cMic cSrc cSt cAI cAJ)) (hA : ∀ q : Nat, s.heap.size ≤ q → A q) (hX : xT A s) (hN : nX s) (hml : c.maxLocals = 3) (hst : l.stackTraces = false) {h0 : Nat} (hA0 : ∀ a : Nat, A a → h0 ≤ a) (hT : sAll h0 s) (kr178 : ∀ (H : Heap) (locs : List Loc) (ls : Array Slot), gC cI cJ cZ cMic cSrc cSt cAI cAJ D ad A s.heap H locs T1 → W p l e { frames := 9, cells := 0, slots := 0, locals := 148 } s m args below meth c H locs 0 0 Q (F0 m 178 ls [])) : ∀ (T : AT) (H : Heap) (locs : List Loc) (ls : Array Slot) (s0 : Int32) (s1 : Nat) (l0 : Nat) (l1 : Nat), g_X3_parseSource_b15 T s0 s1 l0 l1 = some (0, r1, T1) → gC cI cJ cZ cMic cSrc cSt cAI cAJ D ad A s.heap H locs T → lv_has ls 3 [(0, .ref (ad l0)), (1, .ref (ad l1))] → W p l e { frames := 9, cells := 0, slots := 0, locals := 148 } s m args below meth c H locs 0 0 Q (F0 m 15 ls [.int s0, .ref (ad s1)]) := by
  have hx := E.1
  have hb := E.2.1
  have hts := E.2.2.1
  have hown := E.2.2.2.1
  have hK := E.2.2.2.2
  intro T H locs ls s0 s1 l0 l1 h G hl
  unfold g_X3_parseSource_b15 at h
  refine lv_iconst (v := 4) hx hb dX3_parseSource_15 (by decide) ?_
  obtain ⟨g2, h⟩ := oif_some h
  obtain ⟨r5, T3, eT3, h⟩ := othr_n h
  refine q_cvv (As := [.int s0, .int 4]) (rest := []) E G hA hX hN hml (u_X3_startLine l hst D cI cJ cZ cMic cSrc cSt cAI cAJ ad T s1 s0 (4 : Int32) eT3) (cwV 2 hts (gaV qA_321 qA_322 qA_323 qA_222 qA_324) rfl rfl rfl (by decide +kernel) ⟨Nat.le_of_ble_eq_true rfl, Nat.le_of_ble_eq_true rfl⟩) (oO_k g2).1 (cc_o3 (oO_k g2).2) rfl rfl hl.1 rfl (lv_room (Nat.le_of_ble_eq_true rfl)) dX3_parseSource_16 ⟨Nat.zero_le _, Nat.zero_le _⟩ (fun T4 H locs hq G => ?_)
  rw [hq] at G
  clear hq eT3
  refine lv_aload_n hx hb dX3_parseSource_19 rfl (lv_at hl 1 rfl) ?_
  obtain ⟨g7, h⟩ := oif_some h
  obtain ⟨n8, en8, h⟩ := obind_some h
  refine c_get E G l1 7 (v := .ref (ad n8)) (oO_k g7).1 (cc_o6 (oO_k g7).2) rfl (fun w h => .tail _ (iA_14 h)) (by decide) (.tail _ qA_344) rfl (by rw [en8]; rfl) dX3_parseSource_20 ?_
  clear en8
  refine lv_aload_n hx hb dX3_parseSource_23 rfl (lv_at hl 1 rfl) ?_
  obtain ⟨g9, h⟩ := oif_some h
  refine c_get E G l1 8 (oO_k g9).1 (cc_o6 (oO_k g9).2) rfl (fun w h => .tail _ (iA_14 h)) (by decide) (.tail _ qA_343) rfl rfl dX3_parseSource_24 ?_
  refine lv_topi (fun v10 ev10 => ?_)
  have h := elet_at ev10 h
  clear ev10
  obtain ⟨g11, h⟩ := oif_some h
  obtain ⟨g12, h⟩ := oif_some h
  obtain ⟨n13, en13, h⟩ := obind_some h
  refine c_aldq E G n8 4 (k := v10.toNatClampNeg) (v := .ref (ad n13)) (aA_k g11).1 (cc_a104 (aA_k g11).2.1) rfl (inb_k g12).1 (inb_k g12).2 (aA_k g11).2.2 (by show va_rf ((T3.2.2.2.2 n8 v10.toNatClampNeg).map ad) = _; rw [en13]; rfl) dX3_parseSource_27 ?_
  clear en13
  refine lv_astore_n (lv' := [(2, .ref (ad n13)), (0, .ref (ad l0)), (1, .ref (ad l1))]) hx hb dX3_parseSource_28 rfl hl (by decide) rfl (fun ls hl => ?_)
  refine lv_aload_n hx hb dX3_parseSource_29 rfl (lv_at hl 0 rfl) ?_
  refine lv_aload_n hx hb dX3_parseSource_30 rfl (lv_at hl 1 rfl) ?_
  obtain ⟨g14, h⟩ := oif_some h
  obtain ⟨r17, T15, eT15, h⟩ := othr_n h
  refine q_cviX (As := []) (rest := [.ref (ad n13)]) E G hA hX hN hml (u_X3_shape l hst D cI cJ cZ cMic cSrc cSt cAI cAJ ad T3 h0 l0 eT15) (cwV 0 hts (gaV qA_355 qA_356 qA_357 qA_222 qA_358) rfl rfl rfl (by decide +kernel) ⟨Nat.le_of_ble_eq_true rfl, Nat.le_of_ble_eq_true rfl⟩) (oO_k g14).1 (cc_o3 (oO_k g14).2) rfl rfl hl.1 rfl (lv_room (Nat.le_of_ble_eq_true rfl)) dX3_parseSource_31 ⟨Nat.zero_le _, Nat.zero_le _⟩ (yT0.blind) (yT0.go hT hA0 hA G) (fun q18 T16 H locs hq G => ?_)
  obtain ⟨hq1, hq2⟩ := hq
  rw [hq2] at G
  refine lv_to hq1 ?_
  clear hq1 hq2 eT15
  obtain ⟨g19, h⟩ := oif_some h
  refine c_put E G n13 0 (v := .int r17) (oO_k g19).1 (cc_o7 (oO_k g19).2) rfl (fun w h => .tail _ (iA_20 h)) tyX7 tyX7_ok nmX7 (by decide) (.tail _ qA_345) ⟨rfl, rfl, rfl⟩ rfl rfl (Nat.le_of_ble_eq_true rfl) dX3_parseSource_34 (fun H locs G => ?_)
  have G := gC_up_i (f := upd (T15.2.2.1 n13) 0 r17) (by rw [(oO_k g19).2]; rfl) G
  obtain ⟨T20, eT20, h⟩ := elet_some h
  have G : gC cI cJ cZ cMic cSrc cSt cAI cAJ D ad A s.heap H locs T20 := by rw [eT20]; exact G
  clear eT20
  refine lv_aload_n hx hb dX3_parseSource_37 rfl (lv_at hl 0 rfl) ?_
  refine lv_aload_n hx hb dX3_parseSource_38 rfl (lv_at hl 1 rfl) ?_
  refine lv_sipush (v := (-2000)) hx hb dX3_parseSource_39 (by decide) ?_
  refine lv_sipush (v := 2000) hx hb dX3_parseSource_42 (by decide) ?_
  obtain ⟨g21, h⟩ := oif_some h
  obtain ⟨r24, T22, eT22, h⟩ := othr_n h
  refine q_cvi (As := [.int (-2000), .int 2000]) (rest := [.ref (ad n13)]) E G hA hX hN hml (u_X3_signed l hst D cI cJ cZ cMic cSrc cSt cAI cAJ ad T20 l0 ((-2000) : Int32) (2000 : Int32) eT22) (cwV 2 hts (gaV qA_325 qA_326 qA_327 qA_222 qA_328) rfl rfl rfl (by decide +kernel) ⟨Nat.le_of_ble_eq_true rfl, Nat.le_of_ble_eq_true rfl⟩) (oO_k g21).1 (cc_o3 (oO_k g21).2) rfl rfl hl.1 rfl (lv_room (Nat.le_of_ble_eq_true rfl)) dX3_parseSource_45 ⟨Nat.zero_le _, Nat.zero_le _⟩ (fun q25 T23 H locs hq G => ?_)
  obtain ⟨hq1, hq2⟩ := hq
  rw [hq2] at G
  refine lv_to hq1 ?_
  clear hq1 hq2 eT22
  obtain ⟨g26, h⟩ := oif_some h
  refine c_put E G n13 1 (v := .int r24) (oO_k g26).1 (cc_o7 (oO_k g26).2) rfl (fun w h => .tail _ (iA_20 h)) tyX7 tyX7_ok nmX7 (by decide) (.tail _ qA_346) ⟨rfl, rfl, rfl⟩ rfl rfl (Nat.le_of_ble_eq_true rfl) dX3_parseSource_48 (fun H locs G => ?_)
  have G := gC_up_i (f := upd (T22.2.2.1 n13) 1 r24) (by rw [(oO_k g26).2]; rfl) G
  obtain ⟨T27, eT27, h⟩ := elet_some h
  have G : gC cI cJ cZ cMic cSrc cSt cAI cAJ D ad A s.heap H locs T27 := by rw [eT27]; exact G
  clear eT27
  refine lv_aload_n hx hb dX3_parseSource_51 rfl (lv_at hl 0 rfl) ?_
  refine lv_aload_n hx hb dX3_parseSource_52 rfl (lv_at hl 1 rfl) ?_
  refine lv_sipush (v := (-2000)) hx hb dX3_parseSource_53 (by decide) ?_
  refine lv_sipush (v := 2000) hx hb dX3_parseSource_56 (by decide) ?_
  obtain ⟨g28, h⟩ := oif_some h
  obtain ⟨r31, T29, eT29, h⟩ := othr_n h
  refine q_cvi (As := [.int (-2000), .int 2000]) (rest := [.ref (ad n13)]) E G hA hX hN hml (u_X3_signed l hst D cI cJ cZ cMic cSrc cSt cAI cAJ ad T27 l0 ((-2000) : Int32) (2000 : Int32) eT29) (cwV 2 hts (gaV qA_325 qA_326 qA_327 qA_222 qA_328) rfl rfl rfl (by decide +kernel) ⟨Nat.le_of_ble_eq_true rfl, Nat.le_of_ble_eq_true rfl⟩) (oO_k g28).1 (cc_o3 (oO_k g28).2) rfl rfl hl.1 rfl (lv_room (Nat.le_of_ble_eq_true rfl)) dX3_parseSource_59 ⟨Nat.zero_le _, Nat.zero_le _⟩ (fun q32 T30 H locs hq G => ?_)
  obtain ⟨hq1, hq2⟩ := hq
  rw [hq2] at G
  refine lv_to hq1 ?_
  clear hq1 hq2 eT29
  obtain ⟨g33, h⟩ := oif_some h
  refine c_put E G n13 2 (v := .int r31) (oO_k g33).1 (cc_o7 (oO_k g33).2) rfl (fun w h => .tail _ (iA_20 h)) tyX7 tyX7_ok nmX7 (by decide) (.tail _ qA_347) ⟨rfl, rfl, rfl⟩ rfl rfl (Nat.le_of_ble_eq_true rfl) dX3_parseSource_62 (fun H locs G => ?_)
  have G := gC_up_i (f := upd (T29.2.2.1 n13) 2 r31) (by rw [(oO_k g33).2]; rfl) G
  obtain ⟨T34, eT34, h⟩ := elet_some h
  have G : gC cI cJ cZ cMic cSrc cSt cAI cAJ D ad A s.heap H locs T34 := by rw [eT34]; exact G
  clear eT34
  refine lv_aload_n hx hb dX3_parseSource_65 rfl (lv_at hl 0 rfl) ?_
  refine lv_aload_n hx hb dX3_parseSource_66 rfl (lv_at hl 1 rfl) ?_
  refine lv_sipush (v := (-999)) hx hb dX3_parseSource_67 (by decide) ?_
  refine lv_sipush (v := 999) hx hb dX3_parseSource_70 (by decide) ?_
  obtain ⟨g35, h⟩ := oif_some h
  obtain ⟨r38, T36, eT36, h⟩ := othr_n h
  refine q_cvi (As := [.int (-999), .int 999]) (rest := [.ref (ad n13)]) E G hA hX hN hml (u_X3_signed l hst D cI cJ cZ cMic cSrc cSt cAI cAJ ad T34 l0 ((-999) : Int32) (999 : Int32) eT36) (cwV 2 hts (gaV qA_325 qA_326 qA_327 qA_222 qA_328) rfl rfl rfl (by decide +kernel) ⟨Nat.le_of_ble_eq_true rfl, Nat.le_of_ble_eq_true rfl⟩) (oO_k g35).1 (cc_o3 (oO_k g35).2) rfl rfl hl.1 rfl (lv_room (Nat.le_of_ble_eq_true rfl)) dX3_parseSource_73 ⟨Nat.zero_le _, Nat.zero_le _⟩ (fun q39 T37 H locs hq G => ?_)
  obtain ⟨hq1, hq2⟩ := hq
  rw [hq2] at G
  refine lv_to hq1 ?_
  clear hq1 hq2 eT36
  obtain ⟨g40, h⟩ := oif_some h
  refine c_put E G n13 3 (v := .int r38) (oO_k g40).1 (cc_o7 (oO_k g40).2) rfl (fun w h => .tail _ (iA_20 h)) tyX7 tyX7_ok nmX7 (by decide) (.tail _ qA_348) ⟨rfl, rfl, rfl⟩ rfl rfl (Nat.le_of_ble_eq_true rfl) dX3_parseSource_76 (fun H locs G => ?_)
  have G := gC_up_i (f := upd (T36.2.2.1 n13) 3 r38) (by rw [(oO_k g40).2]; rfl) G
  obtain ⟨T41, eT41, h⟩ := elet_some h
  have G : gC cI cJ cZ cMic cSrc cSt cAI cAJ D ad A s.heap H locs T41 := by rw [eT41]; exact G
  clear eT41
  refine lv_aload_n hx hb dX3_parseSource_79 rfl (lv_at hl 0 rfl) ?_
  refine lv_aload_n hx hb dX3_parseSource_80 rfl (lv_at hl 1 rfl) ?_
  refine lv_sipush (v := (-999)) hx hb dX3_parseSource_81 (by decide) ?_
  refine lv_sipush (v := 999) hx hb dX3_parseSource_84 (by decide) ?_
  obtain ⟨g42, h⟩ := oif_some h
  obtain ⟨r45, T43, eT43, h⟩ := othr_n h
  refine q_cvi (As := [.int (-999), .int 999]) (rest := [.ref (ad n13)]) E G hA hX hN hml (u_X3_signed l hst D cI cJ cZ cMic cSrc cSt cAI cAJ ad T41 l0 ((-999) : Int32) (999 : Int32) eT43) (cwV 2 hts (gaV qA_325 qA_326 qA_327 qA_222 qA_328) rfl rfl rfl (by decide +kernel) ⟨Nat.le_of_ble_eq_true rfl, Nat.le_of_ble_eq_true rfl⟩) (oO_k g42).1 (cc_o3 (oO_k g42).2) rfl rfl hl.1 rfl (lv_room (Nat.le_of_ble_eq_true rfl)) dX3_parseSource_87 ⟨Nat.zero_le _, Nat.zero_le _⟩ (fun q46 T44 H locs hq G => ?_)
  obtain ⟨hq1, hq2⟩ := hq
  rw [hq2] at G
  refine lv_to hq1 ?_
  clear hq1 hq2 eT43
  obtain ⟨g47, h⟩ := oif_some h
  refine c_put E G n13 4 (v := .int r45) (oO_k g47).1 (cc_o7 (oO_k g47).2) rfl (fun w h => .tail _ (iA_20 h)) tyX7 tyX7_ok nmX7 (by decide) (.tail _ qA_349) ⟨rfl, rfl, rfl⟩ rfl rfl (Nat.le_of_ble_eq_true rfl) dX3_parseSource_90 (fun H locs G => ?_)
  have G := gC_up_i (f := upd (T43.2.2.1 n13) 4 r45) (by rw [(oO_k g47).2]; rfl) G
  obtain ⟨T48, eT48, h⟩ := elet_some h
  have G : gC cI cJ cZ cMic cSrc cSt cAI cAJ D ad A s.heap H locs T48 := by rw [eT48]; exact G
  clear eT48
  refine lv_aload_n hx hb dX3_parseSource_93 rfl (lv_at hl 0 rfl) ?_
  refine lv_aload_n hx hb dX3_parseSource_94 rfl (lv_at hl 1 rfl) ?_
  refine lv_iconst (v := 1) hx hb dX3_parseSource_95 (by decide) ?_
  refine lv_sipush (v := 999) hx hb dX3_parseSource_96 (by decide) ?_
  obtain ⟨g49, h⟩ := oif_some h
  obtain ⟨r52, T50, eT50, h⟩ := othr_n h
  refine q_cvi (As := [.int 1, .int 999]) (rest := [.ref (ad n13)]) E G hA hX hN hml (u_X3_number l hst D cI cJ cZ cMic cSrc cSt cAI cAJ ad T48 l0 (1 : Int32) (999 : Int32) eT50) (cwV 2 hts (gaV qA_299 qA_300 qA_301 qA_222 qA_302) rfl rfl rfl (by decide +kernel) ⟨Nat.le_of_ble_eq_true rfl, Nat.le_of_ble_eq_true rfl⟩) (oO_k g49).1 (cc_o3 (oO_k g49).2) rfl rfl hl.1 rfl (lv_room (Nat.le_of_ble_eq_true rfl)) dX3_parseSource_99 ⟨Nat.zero_le _, Nat.zero_le _⟩ (fun q53 T51 H locs hq G => ?_)
  obtain ⟨hq1, hq2⟩ := hq
  rw [hq2] at G
  refine lv_to hq1 ?_
  clear hq1 hq2 eT50
  obtain ⟨g54, h⟩ := oif_some h
  refine c_put E G n13 5 (v := .int r52) (oO_k g54).1 (cc_o7 (oO_k g54).2) rfl (fun w h => .tail _ (iA_20 h)) tyX7 tyX7_ok nmX7 (by decide) (.tail _ qA_350) ⟨rfl, rfl, rfl⟩ rfl rfl (Nat.le_of_ble_eq_true rfl) dX3_parseSource_102 (fun H locs G => ?_)
  have G := gC_up_i (f := upd (T50.2.2.1 n13) 5 r52) (by rw [(oO_k g54).2]; rfl) G
  obtain ⟨T55, eT55, h⟩ := elet_some h
  have G : gC cI cJ cZ cMic cSrc cSt cAI cAJ D ad A s.heap H locs T55 := by rw [eT55]; exact G
  clear eT55
  refine lv_aload_n hx hb dX3_parseSource_105 rfl (lv_at hl 0 rfl) ?_
  refine lv_aload_n hx hb dX3_parseSource_106 rfl (lv_at hl 1 rfl) ?_
  refine lv_iconst (v := 2) hx hb dX3_parseSource_107 (by decide) ?_
  refine lv_bipush (v := 99) hx hb dX3_parseSource_108 (by decide) ?_
  obtain ⟨g56, h⟩ := oif_some h
  obtain ⟨r59, T57, eT57, h⟩ := othr_n h
  refine q_cvi (As := [.int 2, .int 99]) (rest := [.ref (ad n13)]) E G hA hX hN hml (u_X3_number l hst D cI cJ cZ cMic cSrc cSt cAI cAJ ad T55 l0 (2 : Int32) (99 : Int32) eT57) (cwV 2 hts (gaV qA_299 qA_300 qA_301 qA_222 qA_302) rfl rfl rfl (by decide +kernel) ⟨Nat.le_of_ble_eq_true rfl, Nat.le_of_ble_eq_true rfl⟩) (oO_k g56).1 (cc_o3 (oO_k g56).2) rfl rfl hl.1 rfl (lv_room (Nat.le_of_ble_eq_true rfl)) dX3_parseSource_110 ⟨Nat.zero_le _, Nat.zero_le _⟩ (fun q60 T58 H locs hq G => ?_)
  obtain ⟨hq1, hq2⟩ := hq
  rw [hq2] at G
  refine lv_to hq1 ?_
  clear hq1 hq2 eT57
  obtain ⟨g61, h⟩ := oif_some h
  refine c_put E G n13 6 (v := .int r59) (oO_k g61).1 (cc_o7 (oO_k g61).2) rfl (fun w h => .tail _ (iA_20 h)) tyX7 tyX7_ok nmX7 (by decide) (.tail _ qA_351) ⟨rfl, rfl, rfl⟩ rfl rfl (Nat.le_of_ble_eq_true rfl) dX3_parseSource_113 (fun H locs G => ?_)
  have G := gC_up_i (f := upd (T57.2.2.1 n13) 6 r59) (by rw [(oO_k g61).2]; rfl) G
  obtain ⟨T62, eT62, h⟩ := elet_some h
  have G : gC cI cJ cZ cMic cSrc cSt cAI cAJ D ad A s.heap H locs T62 := by rw [eT62]; exact G
  clear eT62
  refine lv_aload_n hx hb dX3_parseSource_116 rfl (lv_at hl 0 rfl) ?_
  refine lv_aload_n hx hb dX3_parseSource_117 rfl (lv_at hl 1 rfl) ?_
  refine lv_iconst (v := 0) hx hb dX3_parseSource_118 (by decide) ?_
  refine lv_bipush (v := 99) hx hb dX3_parseSource_119 (by decide) ?_
  obtain ⟨g63, h⟩ := oif_some h
  obtain ⟨r66, T64, eT64, h⟩ := othr_n h
  refine q_cvi (As := [.int 0, .int 99]) (rest := [.ref (ad n13)]) E G hA hX hN hml (u_X3_number l hst D cI cJ cZ cMic cSrc cSt cAI cAJ ad T62 l0 (0 : Int32) (99 : Int32) eT64) (cwV 2 hts (gaV qA_299 qA_300 qA_301 qA_222 qA_302) rfl rfl rfl (by decide +kernel) ⟨Nat.le_of_ble_eq_true rfl, Nat.le_of_ble_eq_true rfl⟩) (oO_k g63).1 (cc_o3 (oO_k g63).2) rfl rfl hl.1 rfl (lv_room (Nat.le_of_ble_eq_true rfl)) dX3_parseSource_121 ⟨Nat.zero_le _, Nat.zero_le _⟩ (fun q67 T65 H locs hq G => ?_)
  obtain ⟨hq1, hq2⟩ := hq
  rw [hq2] at G
  refine lv_to hq1 ?_
  clear hq1 hq2 eT64
  obtain ⟨g68, h⟩ := oif_some h
  refine c_put E G n13 7 (v := .int r66) (oO_k g68).1 (cc_o7 (oO_k g68).2) rfl (fun w h => .tail _ (iA_20 h)) tyX7 tyX7_ok nmX7 (by decide) (.tail _ qA_352) ⟨rfl, rfl, rfl⟩ rfl rfl (Nat.le_of_ble_eq_true rfl) dX3_parseSource_124 (fun H locs G => ?_)
  have G := gC_up_i (f := upd (T64.2.2.1 n13) 7 r66) (by rw [(oO_k g68).2]; rfl) G
  obtain ⟨T69, eT69, h⟩ := elet_some h
  have G : gC cI cJ cZ cMic cSrc cSt cAI cAJ D ad A s.heap H locs T69 := by rw [eT69]; exact G
  clear eT69
  refine lv_aload_n hx hb dX3_parseSource_127 rfl (lv_at hl 0 rfl) ?_
  refine lv_iconst (v := 0) hx hb dX3_parseSource_128 (by decide) ?_
  obtain ⟨g70, h⟩ := oif_some h
  refine c_put E G n13 8 (v := .int 0) (oO_k g70).1 (cc_o7 (oO_k g70).2) rfl (fun w h => .tail _ (iA_20 h)) tyX7 tyX7_ok nmX7 (by decide) (.tail _ qA_353) ⟨rfl, rfl, rfl⟩ rfl rfl (Nat.le_of_ble_eq_true rfl) dX3_parseSource_129 (fun H locs G => ?_)
  have G := gC_up_i (f := upd (T69.2.2.1 n13) 8 0) (by rw [(oO_k g70).2]; rfl) G
  obtain ⟨T71, eT71, h⟩ := elet_some h
  have G : gC cI cJ cZ cMic cSrc cSt cAI cAJ D ad A s.heap H locs T71 := by rw [eT71]; exact G
  clear eT71
  refine lv_aload_n hx hb dX3_parseSource_132 rfl (lv_at hl 0 rfl) ?_
  refine lv_iconst (v := 0) hx hb dX3_parseSource_133 (by decide) ?_
  obtain ⟨g72, h⟩ := oif_some h
  refine c_put E G n13 9 (v := .int 0) (oO_k g72).1 (cc_o7 (oO_k g72).2) rfl (fun w h => .tail _ (iA_20 h)) tyX7 tyX7_ok nmX7 (by decide) (.tail _ qA_354) ⟨rfl, rfl, rfl⟩ rfl rfl (Nat.le_of_ble_eq_true rfl) dX3_parseSource_134 (fun H locs G => ?_)
  have G := gC_up_i (f := upd (T71.2.2.1 n13) 9 0) (by rw [(oO_k g72).2]; rfl) G
  obtain ⟨T73, eT73, h⟩ := elet_some h
  have G : gC cI cJ cZ cMic cSrc cSt cAI cAJ D ad A s.heap H locs T73 := by rw [eT73]; exact G
  clear eT73
  refine lv_aload_n hx hb dX3_parseSource_137 rfl (lv_at hl 1 rfl) ?_
  obtain ⟨w74, hw74, ow74⟩ := hT.1 ("AcousticCamera$Parser", 216, "from") (List.mem_of_getElem? (i := 12) rfl)
  refine va_ldcS hx hb hown hw74 dX3_parseSource_138 ?_
  obtain ⟨g75, h⟩ := oif_some h
  obtain ⟨r78, T76, eT76, h⟩ := obind2_some h
  refine q_cviX (As := [.ref w74]) (rest := []) E G hA hX hN hml (u_X3_isWord l hst D cI cJ cZ cMic cSrc cSt cAI cAJ ad T73 h0 (q := w74) (sTx_ok (by decide +kernel)) l0 eT76) (cwV 1 hts (gaV qA_232 qA_233 qA_234 qA_222 qA_235) rfl rfl rfl (by decide +kernel) ⟨Nat.le_of_ble_eq_true rfl, Nat.le_of_ble_eq_true rfl⟩) (oO_k g75).1 (cc_o3 (oO_k g75).2) rfl rfl hl.1 rfl (lv_room (Nat.le_of_ble_eq_true rfl)) dX3_parseSource_140 ⟨Nat.zero_le _, Nat.zero_le _⟩ (yT1.blind) (yT1.go hT hA0 hA G ow74) (fun q79 T77 H locs hq G => ?_)
  obtain ⟨hq1, hq2⟩ := hq
  rw [hq2] at G
  refine lv_to hq1 ?_
  clear hq1 hq2 eT76
  refine lv_if_eq (tgt := 168) hx hb dX3_parseSource_143 (by decide) (fun c80 => ?_) (fun c80 => ?_)
  · have h := oif_pos c80 h
    have hl := lv_sub hl [2] rfl
    exact u_X3_parseSource_b168 E hA hX hN hml hst hA0 hT kr178 _ _ _ _ _ h G hl
  · have h := oif_neg c80 h
    refine lv_aload_n hx hb dX3_parseSource_146 rfl (lv_at hl 1 rfl) ?_
    refine lv_dup hx hb dX3_parseSource_147 rfl ?_
    obtain ⟨g81, h⟩ := oif_some h
    refine c_get E G l0 1 (oO_k g81).1 (cc_o3 (oO_k g81).2) rfl (fun w h => .tail _ (iA_17 h)) (by decide) (.tail _ qA_176) rfl rfl dX3_parseSource_148 ?_
    refine lv_topi (fun v82 ev82 => ?_)
    have h := elet_at ev82 h
    clear ev82
    refine lv_iconst (v := 1) hx hb dX3_parseSource_151 (by decide) ?_
    refine lv_iadd hx hb dX3_parseSource_152 ?_
    refine lv_topi (fun v83 ev83 => ?_)
    have h := elet_at ev83 h
    clear ev83
    obtain ⟨g84, h⟩ := oif_some h
    refine c_put E G l0 1 (v := .int v83) (oO_k g84).1 (cc_o3 (oO_k g84).2) rfl (fun w h => .tail _ (iA_17 h)) tyX3 tyX3_ok nmX3 (by decide) (.tail _ qA_176) ⟨rfl, rfl, rfl⟩ rfl rfl (Nat.le_of_ble_eq_true rfl) dX3_parseSource_153 (fun H locs G => ?_)
    have G := gC_up_i (f := upd (T76.2.2.1 l0) 1 v83) (by rw [(oO_k g84).2]; rfl) G
    obtain ⟨T85, eT85, h⟩ := elet_some h
    have G : gC cI cJ cZ cMic cSrc cSt cAI cAJ D ad A s.heap H locs T85 := by rw [eT85]; exact G
    clear eT85
    refine lv_aload_n hx hb dX3_parseSource_156 rfl (lv_at hl 0 rfl) ?_
    refine lv_aload_n hx hb dX3_parseSource_157 rfl (lv_at hl 1 rfl) ?_
    refine lv_iconst (v := 0) hx hb dX3_parseSource_158 (by decide) ?_
    refine lv_sipush (v := 199) hx hb dX3_parseSource_159 (by decide) ?_
    obtain ⟨g86, h⟩ := oif_some h
    obtain ⟨r89, T87, eT87, h⟩ := othr_n h
    refine q_cvi (As := [.int 0, .int 199]) (rest := [.ref (ad n13)]) E G hA hX hN hml (u_X3_number l hst D cI cJ cZ cMic cSrc cSt cAI cAJ ad T85 l0 (0 : Int32) (199 : Int32) eT87) (cwV 2 hts (gaV qA_299 qA_300 qA_301 qA_222 qA_302) rfl rfl rfl (by decide +kernel) ⟨Nat.le_of_ble_eq_true rfl, Nat.le_of_ble_eq_true rfl⟩) (oO_k g86).1 (cc_o3 (oO_k g86).2) rfl rfl hl.1 rfl (lv_room (Nat.le_of_ble_eq_true rfl)) dX3_parseSource_162 ⟨Nat.zero_le _, Nat.zero_le _⟩ (fun q90 T88 H locs hq G => ?_)
    obtain ⟨hq1, hq2⟩ := hq
    rw [hq2] at G
    refine lv_to hq1 ?_
    clear hq1 hq2 eT87
    obtain ⟨g91, h⟩ := oif_some h
    refine c_put E G n13 8 (v := .int r89) (oO_k g91).1 (cc_o7 (oO_k g91).2) rfl (fun w h => .tail _ (iA_20 h)) tyX7 tyX7_ok nmX7 (by decide) (.tail _ qA_353) ⟨rfl, rfl, rfl⟩ rfl rfl (Nat.le_of_ble_eq_true rfl) dX3_parseSource_165 (fun H locs G => ?_)
    have G := gC_up_i (f := upd (T87.2.2.1 n13) 8 r89) (by rw [(oO_k g91).2]; rfl) G
    obtain ⟨T92, eT92, h⟩ := elet_some h
    have G : gC cI cJ cZ cMic cSrc cSt cAI cAJ D ad A s.heap H locs T92 := by rw [eT92]; exact G
    clear eT92
    have hl := lv_sub hl [2] rfl
    exact u_X3_parseSource_b168 E hA hX hN hml hst hA0 hT kr178 _ _ _ _ _ h G hl
def g_X3_parseSource (T : AT) (o : Nat) (a0 : Nat) : Option (Nat × Int32 × AT) := oif (oO T a0 6 = true) <| elet (T.2.2.1 a0 8) fun v3 => if v3 < 6 then (g_X3_parseSource_b15 T 0 o o a0) else (g_X3_parseSource_b15 T 1 o o a0)
set_option maxHeartbeats 4000000 in
set_option maxRecDepth 100000 in
theorem u_X3_parseSource (l : Launch) (hst : l.stackTraces = false) (D : va_G) (cI cJ cZ cMic cSrc cSt cAI cAJ : ClassId) (ad : Nat → Nat) (T : AT) (h0 : Nat) (o : Nat) (a0 : Nat) {r1 : Int32} {T1 : AT} (h : g_X3_parseSource T o a0 = some (0, r1, T1)) : kCvX l yX3_parseSource (Cond.code yX3_parseSource cX3_parseSource 3 none :: wsA) 9 148 cI cJ cZ cMic cSrc cSt cAI cAJ D ad T [.ref (ad o), .ref (ad a0)] (yT0 cI cJ cZ cMic cSrc cSt cAI cAJ h0 ad T) (fun T9 => T9 = T1) := by
  intro sz
  refine Met.ofW (cc := cX3_parseSource) (maxL := 3) (ret := none) (by decide) rfl ?_
  intro p e s m args below meth c s₁ B hml hv
  obtain ⟨rfl, ⟨hsz, hP, hK, hD0, hX, hN⟩, hA1, hT⟩ := hv
  have hx := B.exec
  have hb := B.bytes
  have hr := B.returns
  have hts := atoms_spec (ws := (Cond.code yX3_parseSource cX3_parseSource 3 none :: wsA)) B.pre
  have hown : s.vm.findClass RX3 = some m.cls := findClass_of_methodNamed B.named
  have hlocks := B.notSynchronized
  subst hsz
  have hD := hD0.self (sz := s.heap.size)
  generalize hAe : va_A (cW ad T.1 (cc cI cJ cZ cMic cSrc cSt cAI cAJ ad T)) s.heap.size = A at hD hX hA1 ⊢
  have hA : ∀ q : Nat, s.heap.size ≤ q → A q := fun q h => by rw [← hAe]; exact Or.inr h
  have G : gC cI cJ cZ cMic cSrc cSt cAI cAJ D ad A s.heap s.heap [] T := ⟨hP, hD, va_S.rf⟩
  have E : cE p c cX3_parseSource s m ([.ref (ad o), .ref (ad a0)] : List Value).toArray (Cond.code yX3_parseSource cX3_parseSource 3 none :: wsA) D RX3 (CT cI cJ cZ cMic cSrc cSt cAI cAJ) := ⟨hx, hb, hts, hown, hK⟩
  have hA0 : ∀ a : Nat, A a → h0 ≤ a := hA1
  have hl := lv_entry ([.ref (ad o), .ref (ad a0)]) (n := 3) (Nat.le_of_ble_eq_true rfl)
  rw [lg_entry_eq]
  generalize (lg_sl ([.ref (ad o), .ref (ad a0)]) ++ List.replicate (3 - (lg_sl ([.ref (ad o), .ref (ad a0)])).length) Slot.unset).toArray = ls at hl ⊢
  have hl : lv_has ls 3 [(0, .ref (ad o)), (1, .ref (ad a0))] := hl
  unfold g_X3_parseSource at h
  refine lv_aload_n hx hb dX3_parseSource_0 rfl (lv_at hl 0 rfl) ?_
  refine lv_aload_n hx hb dX3_parseSource_1 rfl (lv_at hl 1 rfl) ?_
  obtain ⟨g2, h⟩ := oif_some h
  refine c_get E G a0 8 (oO_k g2).1 (cc_o6 (oO_k g2).2) rfl (fun w h => .tail _ (iA_14 h)) (by decide) (.tail _ qA_343) rfl rfl dX3_parseSource_2 ?_
  refine lv_topi (fun v3 ev3 => ?_)
  have h := elet_at ev3 h
  clear ev3
  refine lv_bipush (v := 6) hx hb dX3_parseSource_5 (by decide) ?_
  refine lv_icmp_lt (tgt := 14) hx hb dX3_parseSource_7 (by decide) (fun c4 => ?_) (fun c4 => ?_)
  · have h := oif_pos c4 h
    refine lv_iconst (v := 0) hx hb dX3_parseSource_14 (by decide) ?_
    have hl := lv_sub hl [0, 1] rfl
    exact u_X3_parseSource_b15 E hA hX hN hml hst hA0 hT (fun H locs ls G => W.vret hx hb hr (fun t ht hW => ⟨⟨T1, rfl, rfl, ⟨by rw [ht]; exact G.1, va_K.moved hW.alike hK, G.2.1⟩⟩, G.2.2.F ht⟩) G.2.2.2.2 dX3_parseSource_178) _ _ _ _ _ _ _ _ h G hl
  · have h := oif_neg c4 h
    refine lv_iconst (v := 1) hx hb dX3_parseSource_10 (by decide) ?_
    refine lv_goto (tgt := 15) hx hb dX3_parseSource_11 (by decide) ?_
    have hl := lv_sub hl [0, 1] rfl
    exact u_X3_parseSource_b15 E hA hX hN hml hst hA0 hT (fun H locs ls G => W.vret hx hb hr (fun t ht hW => ⟨⟨T1, rfl, rfl, ⟨by rw [ht]; exact G.1, va_K.moved hW.alike hK, G.2.1⟩⟩, G.2.2.F ht⟩) G.2.2.2.2 dX3_parseSource_178) _ _ _ _ _ _ _ _ h G hl
set_option maxHeartbeats 4000000 in
set_option maxRecDepth 100000 in
theorem s_X3_parseSource_b168 {e1 : Nat} {r1 : Int32} {T1 : AT} : ∀ (T : AT) (l1 : Nat), g_X3_parseSource_b168 T l1 = some (e1, r1, T1) → SP T T1 := by
  intro T l1 h
  have p0 := SP.rf T
  unfold g_X3_parseSource_b168 at h
  obtain ⟨g2, h⟩ := oif_some h
  obtain ⟨v3, -, h⟩ := elet_some h
  obtain ⟨v4, -, h⟩ := elet_some h
  obtain ⟨g5, h⟩ := oif_some h
  obtain ⟨T6, eT6, h⟩ := elet_some h
  have p1 : SP T T6 := SP.tr p0 (by rw [eT6]; exact sp_uI)
  rw [← (osome3 h).2.2]
  exact p1
set_option maxHeartbeats 4000000 in
set_option maxRecDepth 100000 in
theorem s_X3_parseSource_b15 {e1 : Nat} {r1 : Int32} {T1 : AT} : ∀ (T : AT) (s0 : Int32) (s1 : Nat) (l0 : Nat) (l1 : Nat), g_X3_parseSource_b15 T s0 s1 l0 l1 = some (e1, r1, T1) → SP T T1 := by
  intro T s0 s1 l0 l1 h
  have p0 := SP.rf T
  unfold g_X3_parseSource_b15 at h
  obtain ⟨g2, h⟩ := oif_some h
  rcases othr_s h with ⟨k9, r9, e9, -⟩ | ⟨r4, T3, eT3, h⟩
  · exact SP.tr p0 (s_X3_startLine e9)
  have p1 : SP T T3 := SP.tr p0 (s_X3_startLine eT3)
  obtain ⟨g5, h⟩ := oif_some h
  obtain ⟨n6, en6, h⟩ := obind_some h
  obtain ⟨g7, h⟩ := oif_some h
  obtain ⟨v8, -, h⟩ := elet_some h
  obtain ⟨g9, h⟩ := oif_some h
  obtain ⟨g10, h⟩ := oif_some h
  obtain ⟨n11, en11, h⟩ := obind_some h
  obtain ⟨g12, h⟩ := oif_some h
  rcases othr_s h with ⟨k9, r9, e9, -⟩ | ⟨r14, T13, eT13, h⟩
  · exact SP.tr p1 (s_X3_shape e9)
  have p2 : SP T T13 := SP.tr p1 (s_X3_shape eT13)
  obtain ⟨g15, h⟩ := oif_some h
  obtain ⟨T16, eT16, h⟩ := elet_some h
  have p3 : SP T T16 := SP.tr p2 (by rw [eT16]; exact sp_uI)
  obtain ⟨g17, h⟩ := oif_some h
  rcases othr_s h with ⟨k9, r9, e9, -⟩ | ⟨r19, T18, eT18, h⟩
  · exact SP.tr p3 (s_X3_signed e9)
  have p4 : SP T T18 := SP.tr p3 (s_X3_signed eT18)
  obtain ⟨g20, h⟩ := oif_some h
  obtain ⟨T21, eT21, h⟩ := elet_some h
  have p5 : SP T T21 := SP.tr p4 (by rw [eT21]; exact sp_uI)
  obtain ⟨g22, h⟩ := oif_some h
  rcases othr_s h with ⟨k9, r9, e9, -⟩ | ⟨r24, T23, eT23, h⟩
  · exact SP.tr p5 (s_X3_signed e9)
  have p6 : SP T T23 := SP.tr p5 (s_X3_signed eT23)
  obtain ⟨g25, h⟩ := oif_some h
  obtain ⟨T26, eT26, h⟩ := elet_some h
  have p7 : SP T T26 := SP.tr p6 (by rw [eT26]; exact sp_uI)
  obtain ⟨g27, h⟩ := oif_some h
  rcases othr_s h with ⟨k9, r9, e9, -⟩ | ⟨r29, T28, eT28, h⟩
  · exact SP.tr p7 (s_X3_signed e9)
  have p8 : SP T T28 := SP.tr p7 (s_X3_signed eT28)
  obtain ⟨g30, h⟩ := oif_some h
  obtain ⟨T31, eT31, h⟩ := elet_some h
  have p9 : SP T T31 := SP.tr p8 (by rw [eT31]; exact sp_uI)
  obtain ⟨g32, h⟩ := oif_some h
  rcases othr_s h with ⟨k9, r9, e9, -⟩ | ⟨r34, T33, eT33, h⟩
  · exact SP.tr p9 (s_X3_signed e9)
  have p10 : SP T T33 := SP.tr p9 (s_X3_signed eT33)
  obtain ⟨g35, h⟩ := oif_some h
  obtain ⟨T36, eT36, h⟩ := elet_some h
  have p11 : SP T T36 := SP.tr p10 (by rw [eT36]; exact sp_uI)
  obtain ⟨g37, h⟩ := oif_some h
  rcases othr_s h with ⟨k9, r9, e9, -⟩ | ⟨r39, T38, eT38, h⟩
  · exact SP.tr p11 (s_X3_number e9)
  have p12 : SP T T38 := SP.tr p11 (s_X3_number eT38)
  obtain ⟨g40, h⟩ := oif_some h
  obtain ⟨T41, eT41, h⟩ := elet_some h
  have p13 : SP T T41 := SP.tr p12 (by rw [eT41]; exact sp_uI)
  obtain ⟨g42, h⟩ := oif_some h
  rcases othr_s h with ⟨k9, r9, e9, -⟩ | ⟨r44, T43, eT43, h⟩
  · exact SP.tr p13 (s_X3_number e9)
  have p14 : SP T T43 := SP.tr p13 (s_X3_number eT43)
  obtain ⟨g45, h⟩ := oif_some h
  obtain ⟨T46, eT46, h⟩ := elet_some h
  have p15 : SP T T46 := SP.tr p14 (by rw [eT46]; exact sp_uI)
  obtain ⟨g47, h⟩ := oif_some h
  rcases othr_s h with ⟨k9, r9, e9, -⟩ | ⟨r49, T48, eT48, h⟩
  · exact SP.tr p15 (s_X3_number e9)
  have p16 : SP T T48 := SP.tr p15 (s_X3_number eT48)
  obtain ⟨g50, h⟩ := oif_some h
  obtain ⟨T51, eT51, h⟩ := elet_some h
  have p17 : SP T T51 := SP.tr p16 (by rw [eT51]; exact sp_uI)
  obtain ⟨g52, h⟩ := oif_some h
  obtain ⟨T53, eT53, h⟩ := elet_some h
  have p18 : SP T T53 := SP.tr p17 (by rw [eT53]; exact sp_uI)
  obtain ⟨g54, h⟩ := oif_some h
  obtain ⟨T55, eT55, h⟩ := elet_some h
  have p19 : SP T T55 := SP.tr p18 (by rw [eT55]; exact sp_uI)
  obtain ⟨g57, h⟩ := oif_some h
  obtain ⟨r59, T58, eT58, h⟩ := obind2_some h
  have p20 : SP T T58 := SP.tr p19 (s_X3_isWord eT58)
  rcases oif_or h with ⟨c60, h⟩ | ⟨c60, h⟩
  · have h := h
    exact SP.tr p20 (s_X3_parseSource_b168 _ _ h)
  · have h := h
    obtain ⟨g61, h⟩ := oif_some h
    obtain ⟨v62, -, h⟩ := elet_some h
    obtain ⟨v63, -, h⟩ := elet_some h
    obtain ⟨g64, h⟩ := oif_some h
    obtain ⟨T65, eT65, h⟩ := elet_some h
    have p21 : SP T T65 := SP.tr p20 (by rw [eT65]; exact sp_uI)
    obtain ⟨g66, h⟩ := oif_some h
    rcases othr_s h with ⟨k9, r9, e9, -⟩ | ⟨r68, T67, eT67, h⟩
    · exact SP.tr p21 (s_X3_number e9)
    have p22 : SP T T67 := SP.tr p21 (s_X3_number eT67)
    obtain ⟨g69, h⟩ := oif_some h
    obtain ⟨T70, eT70, h⟩ := elet_some h
    have p23 : SP T T70 := SP.tr p22 (by rw [eT70]; exact sp_uI)
    exact SP.tr p23 (s_X3_parseSource_b168 _ _ h)
set_option maxHeartbeats 4000000 in
set_option maxRecDepth 100000 in
theorem s_X3_parseSource {T : AT} {o : Nat} {a0 : Nat} {e1 : Nat} {r1 : Int32} {T1 : AT} (h : g_X3_parseSource T o a0 = some (e1, r1, T1)) : SP T T1 := by
  have p0 := SP.rf T
  unfold g_X3_parseSource at h
  obtain ⟨g2, h⟩ := oif_some h
  obtain ⟨v3, -, h⟩ := elet_some h
  rcases oif_or h with ⟨c4, h⟩ | ⟨c4, h⟩
  · have h := h
    exact SP.tr p0 (s_X3_parseSource_b15 _ _ _ _ _ h)
  · have h := h
    exact SP.tr p0 (s_X3_parseSource_b15 _ _ _ _ _ h)
set_option maxHeartbeats 4000000 in
set_option maxRecDepth 100000 in
theorem x_X3_parseSource_b168 {p : Program} {l : Launch} {e : Env} {s : State} {m : MethodId} {args : Array Value} {below : List Frame} {meth : Method} {c : Code} {Qc : Array Value → State → Outcome → State → Prop} {XC : String → State → State → Prop} {D : va_G} {A : Nat → Prop} {cI cJ cZ cMic cSrc cSt cAI cAJ : ClassId} {ad : Nat → Nat} {e1 : Nat} {r1 : Int32} {T1 : AT} (E : cE p c cX3_parseSource s m args (Cond.code yX3_parseSource cX3_parseSource 3 none :: wsA) D RX3 (CT cI cJ cZ cMic cSrc cSt cAI cAJ)) (hA : ∀ q : Nat, s.heap.size ≤ q → A q) (hX : xT A s) (hN : nX s) (hml : c.maxLocals = 3) {h0 : Nat} (hA0 : ∀ a : Nat, A a → h0 ≤ a) (hT : sAll h0 s) (hz9 : True) (hst : l.stackTraces = false) (htab : ∀ x ∈ c.exceptionTable.toList, False) (hlocks : meth.locks = false) (kx : ∀ (H : Heap) (locs : List Loc) (t : State), gC cI cJ cZ cMic cSrc cSt cAI cAJ D ad A s.heap H locs T1 → s.vm.Alike t.vm → H.size ≤ t.heap.size → (∀ q, q < H.size → t.heap[q]? = H[q]?) → XC (exn e1) s t) : ∀ (T : AT) (H : Heap) (locs : List Loc) (ls : Array Slot) (l1 : Nat), g_X3_parseSource_b168 T l1 = some (e1 + 1, r1, T1) → gC cI cJ cZ cMic cSrc cSt cAI cAJ D ad A s.heap H locs T → lv_has ls 3 [(1, .ref (ad l1))] → W p l e { frames := 9, cells := 1, slots := 6, locals := 148 } s m args below meth c H locs 0 0 (vx_MQ below Qc XC args s 1 6 A) (F0 m 168 ls []) := by
  have hx := E.1
  have hb := E.2.1
  have hts := E.2.2.1
  have hown := E.2.2.2.1
  have hK := E.2.2.2.2
  intro T H locs ls l1 h G hl
  unfold g_X3_parseSource_b168 at h
  refine lv_aload_n hx hb dX3_parseSource_168 rfl (lv_at hl 0 rfl) ?_
  refine lv_dup hx hb dX3_parseSource_169 rfl ?_
  obtain ⟨g2, h⟩ := oif_some h
  refine c_get E G l1 8 (oO_k g2).1 (cc_o6 (oO_k g2).2) rfl (fun w h => .tail _ (iA_14 h)) (by decide) (.tail _ qA_343) rfl rfl dX3_parseSource_170 ?_
  refine lv_topi (fun v3 ev3 => ?_)
  have h := elet_at ev3 h
  clear ev3
  refine lv_iconst (v := 1) hx hb dX3_parseSource_173 (by decide) ?_
  refine lv_iadd hx hb dX3_parseSource_174 ?_
  refine lv_topi (fun v4 ev4 => ?_)
  have h := elet_at ev4 h
  clear ev4
  obtain ⟨g5, h⟩ := oif_some h
  refine c_put E G l1 8 (v := .int v4) (oO_k g5).1 (cc_o6 (oO_k g5).2) rfl (fun w h => .tail _ (iA_14 h)) tyX6 tyX6_ok nmX6 (by decide) (.tail _ qA_343) ⟨rfl, rfl, rfl⟩ rfl rfl (Nat.le_of_ble_eq_true rfl) dX3_parseSource_175 (fun H locs G => ?_)
  have G := gC_up_i (f := upd (T.2.2.1 l1) 8 v4) (by rw [(oO_k g5).2]; rfl) G
  obtain ⟨T6, eT6, h⟩ := elet_some h
  have G : gC cI cJ cZ cMic cSrc cSt cAI cAJ D ad A s.heap H locs T6 := by rw [eT6]; exact G
  clear eT6
  exact (Nat.succ_ne_zero _ (congrArg Prod.fst (Option.some.inj h)).symm).elim
set_option maxHeartbeats 4000000 in
set_option maxRecDepth 100000 in
theorem x_X3_parseSource_b15 {p : Program} {l : Launch} {e : Env} {s : State} {m : MethodId} {args : Array Value} {below : List Frame} {meth : Method} {c : Code} {Qc : Array Value → State → Outcome → State → Prop} {XC : String → State → State → Prop} {D : va_G} {A : Nat → Prop} {cI cJ cZ cMic cSrc cSt cAI cAJ : ClassId} {ad : Nat → Nat} {e1 : Nat} {r1 : Int32} {T1 : AT} (E : cE p c cX3_parseSource s m args (Cond.code yX3_parseSource cX3_parseSource 3 none :: wsA) D RX3 (CT cI cJ cZ cMic cSrc cSt cAI cAJ)) (hA : ∀ q : Nat, s.heap.size ≤ q → A q) (hX : xT A s) (hN : nX s) (hml : c.maxLocals = 3) {h0 : Nat} (hA0 : ∀ a : Nat, A a → h0 ≤ a) (hT : sAll h0 s) (hz9 : True) (hst : l.stackTraces = false) (htab : ∀ x ∈ c.exceptionTable.toList, False) (hlocks : meth.locks = false) (kx : ∀ (H : Heap) (locs : List Loc) (t : State), gC cI cJ cZ cMic cSrc cSt cAI cAJ D ad A s.heap H locs T1 → s.vm.Alike t.vm → H.size ≤ t.heap.size → (∀ q, q < H.size → t.heap[q]? = H[q]?) → XC (exn e1) s t) : ∀ (T : AT) (H : Heap) (locs : List Loc) (ls : Array Slot) (s0 : Int32) (s1 : Nat) (l0 : Nat) (l1 : Nat), g_X3_parseSource_b15 T s0 s1 l0 l1 = some (e1 + 1, r1, T1) → gC cI cJ cZ cMic cSrc cSt cAI cAJ D ad A s.heap H locs T → lv_has ls 3 [(0, .ref (ad l0)), (1, .ref (ad l1))] → W p l e { frames := 9, cells := 1, slots := 6, locals := 148 } s m args below meth c H locs 0 0 (vx_MQ below Qc XC args s 1 6 A) (F0 m 15 ls [.int s0, .ref (ad s1)]) := by
  have hx := E.1
  have hb := E.2.1
  have hts := E.2.2.1
  have hown := E.2.2.2.1
  have hK := E.2.2.2.2
  intro T H locs ls s0 s1 l0 l1 h G hl
  unfold g_X3_parseSource_b15 at h
  refine lv_iconst (v := 4) hx hb dX3_parseSource_15 (by decide) ?_
  obtain ⟨g2, h⟩ := oif_some h
  rcases othr_t h with ⟨r0, eT3⟩ | ⟨r5, T3, eT3, h⟩
  · refine q_xvv (As := [.int s0, .int 4]) (rest := []) E G hA hX hN hml (x_X3_startLine l hst D cI cJ cZ cMic cSrc cSt cAI cAJ ad T s1 s0 (4 : Int32) eT3) (cwV 2 hts (gaV qA_321 qA_322 qA_323 qA_222 qA_324) rfl rfl rfl (by decide +kernel) ⟨Nat.le_of_ble_eq_true rfl, Nat.le_of_ble_eq_true rfl⟩) (oO_k g2).1 (cc_o3 (oO_k g2).2) rfl rfl hl.1 rfl (lv_room (Nat.le_of_ble_eq_true rfl)) dX3_parseSource_16 ⟨Nat.le_of_ble_eq_true rfl, Nat.le_of_ble_eq_true rfl⟩ (fun E9 ce q9 T9 H locs hp G hce hcv hcl => ?_)
    obtain ⟨hE, hT⟩ := hp
    subst hE
    rw [hT] at G
    exact vx_out (fun x hx => (htab x hx).elim) hlocks hce hcv hcl (fun t ht hvm => kx _ _ _ G hvm (by rw [ht]; exact Nat.le_refl _) (fun q hq => by rw [ht])) G.2.2.2.2 (Nat.le_refl _) (Nat.le_refl _)
  refine q_cvv (As := [.int s0, .int 4]) (rest := []) E G hA hX hN hml (u_X3_startLine l hst D cI cJ cZ cMic cSrc cSt cAI cAJ ad T s1 s0 (4 : Int32) eT3) (cwV 2 hts (gaV qA_321 qA_322 qA_323 qA_222 qA_324) rfl rfl rfl (by decide +kernel) ⟨Nat.le_of_ble_eq_true rfl, Nat.le_of_ble_eq_true rfl⟩) (oO_k g2).1 (cc_o3 (oO_k g2).2) rfl rfl hl.1 rfl (lv_room (Nat.le_of_ble_eq_true rfl)) dX3_parseSource_16 ⟨Nat.zero_le _, Nat.zero_le _⟩ (fun T4 H locs hq G => ?_)
  rw [hq] at G
  clear hq eT3
  refine lv_aload_n hx hb dX3_parseSource_19 rfl (lv_at hl 1 rfl) ?_
  obtain ⟨g7, h⟩ := oif_some h
  obtain ⟨n8, en8, h⟩ := obind_some h
  refine c_get E G l1 7 (v := .ref (ad n8)) (oO_k g7).1 (cc_o6 (oO_k g7).2) rfl (fun w h => .tail _ (iA_14 h)) (by decide) (.tail _ qA_344) rfl (by rw [en8]; rfl) dX3_parseSource_20 ?_
  clear en8
  refine lv_aload_n hx hb dX3_parseSource_23 rfl (lv_at hl 1 rfl) ?_
  obtain ⟨g9, h⟩ := oif_some h
  refine c_get E G l1 8 (oO_k g9).1 (cc_o6 (oO_k g9).2) rfl (fun w h => .tail _ (iA_14 h)) (by decide) (.tail _ qA_343) rfl rfl dX3_parseSource_24 ?_
  refine lv_topi (fun v10 ev10 => ?_)
  have h := elet_at ev10 h
  clear ev10
  obtain ⟨g11, h⟩ := oif_some h
  obtain ⟨g12, h⟩ := oif_some h
  obtain ⟨n13, en13, h⟩ := obind_some h
  refine c_aldq E G n8 4 (k := v10.toNatClampNeg) (v := .ref (ad n13)) (aA_k g11).1 (cc_a104 (aA_k g11).2.1) rfl (inb_k g12).1 (inb_k g12).2 (aA_k g11).2.2 (by show va_rf ((T3.2.2.2.2 n8 v10.toNatClampNeg).map ad) = _; rw [en13]; rfl) dX3_parseSource_27 ?_
  clear en13
  refine lv_astore_n (lv' := [(2, .ref (ad n13)), (0, .ref (ad l0)), (1, .ref (ad l1))]) hx hb dX3_parseSource_28 rfl hl (by decide) rfl (fun ls hl => ?_)
  refine lv_aload_n hx hb dX3_parseSource_29 rfl (lv_at hl 0 rfl) ?_
  refine lv_aload_n hx hb dX3_parseSource_30 rfl (lv_at hl 1 rfl) ?_
  obtain ⟨g14, h⟩ := oif_some h
  rcases othr_t h with ⟨r0, eT15⟩ | ⟨r17, T15, eT15, h⟩
  · refine q_xviX (As := []) (rest := [.ref (ad n13)]) E G hA hX hN hml (x_X3_shape l hst D cI cJ cZ cMic cSrc cSt cAI cAJ ad T3 h0 l0 eT15) (cwV 0 hts (gaV qA_355 qA_356 qA_357 qA_222 qA_358) rfl rfl rfl (by decide +kernel) ⟨Nat.le_of_ble_eq_true rfl, Nat.le_of_ble_eq_true rfl⟩) (oO_k g14).1 (cc_o3 (oO_k g14).2) rfl rfl hl.1 rfl (lv_room (Nat.le_of_ble_eq_true rfl)) dX3_parseSource_31 ⟨Nat.le_of_ble_eq_true rfl, Nat.le_of_ble_eq_true rfl⟩ (yT0.blind) (yT0.go hT hA0 hA G) (fun E9 ce q9 T9 H locs hp G hce hcv hcl => ?_)
    obtain ⟨hE, hT⟩ := hp
    subst hE
    rw [hT] at G
    exact vx_out (fun x hx => (htab x hx).elim) hlocks hce hcv hcl (fun t ht hvm => kx _ _ _ G hvm (by rw [ht]; exact Nat.le_refl _) (fun q hq => by rw [ht])) G.2.2.2.2 (Nat.le_refl _) (Nat.le_refl _)
  refine q_cviX (As := []) (rest := [.ref (ad n13)]) E G hA hX hN hml (u_X3_shape l hst D cI cJ cZ cMic cSrc cSt cAI cAJ ad T3 h0 l0 eT15) (cwV 0 hts (gaV qA_355 qA_356 qA_357 qA_222 qA_358) rfl rfl rfl (by decide +kernel) ⟨Nat.le_of_ble_eq_true rfl, Nat.le_of_ble_eq_true rfl⟩) (oO_k g14).1 (cc_o3 (oO_k g14).2) rfl rfl hl.1 rfl (lv_room (Nat.le_of_ble_eq_true rfl)) dX3_parseSource_31 ⟨Nat.zero_le _, Nat.zero_le _⟩ (yT0.blind) (yT0.go hT hA0 hA G) (fun q18 T16 H locs hq G => ?_)
  obtain ⟨hq1, hq2⟩ := hq
  rw [hq2] at G
  refine lv_to hq1 ?_
  clear hq1 hq2 eT15
  obtain ⟨g19, h⟩ := oif_some h
  refine c_put E G n13 0 (v := .int r17) (oO_k g19).1 (cc_o7 (oO_k g19).2) rfl (fun w h => .tail _ (iA_20 h)) tyX7 tyX7_ok nmX7 (by decide) (.tail _ qA_345) ⟨rfl, rfl, rfl⟩ rfl rfl (Nat.le_of_ble_eq_true rfl) dX3_parseSource_34 (fun H locs G => ?_)
  have G := gC_up_i (f := upd (T15.2.2.1 n13) 0 r17) (by rw [(oO_k g19).2]; rfl) G
  obtain ⟨T20, eT20, h⟩ := elet_some h
  have G : gC cI cJ cZ cMic cSrc cSt cAI cAJ D ad A s.heap H locs T20 := by rw [eT20]; exact G
  clear eT20
  refine lv_aload_n hx hb dX3_parseSource_37 rfl (lv_at hl 0 rfl) ?_
  refine lv_aload_n hx hb dX3_parseSource_38 rfl (lv_at hl 1 rfl) ?_
  refine lv_sipush (v := (-2000)) hx hb dX3_parseSource_39 (by decide) ?_
  refine lv_sipush (v := 2000) hx hb dX3_parseSource_42 (by decide) ?_
  obtain ⟨g21, h⟩ := oif_some h
  rcases othr_t h with ⟨r0, eT22⟩ | ⟨r24, T22, eT22, h⟩
  · refine q_xvi (As := [.int (-2000), .int 2000]) (rest := [.ref (ad n13)]) E G hA hX hN hml (x_X3_signed l hst D cI cJ cZ cMic cSrc cSt cAI cAJ ad T20 l0 ((-2000) : Int32) (2000 : Int32) eT22) (cwV 2 hts (gaV qA_325 qA_326 qA_327 qA_222 qA_328) rfl rfl rfl (by decide +kernel) ⟨Nat.le_of_ble_eq_true rfl, Nat.le_of_ble_eq_true rfl⟩) (oO_k g21).1 (cc_o3 (oO_k g21).2) rfl rfl hl.1 rfl (lv_room (Nat.le_of_ble_eq_true rfl)) dX3_parseSource_45 ⟨Nat.le_of_ble_eq_true rfl, Nat.le_of_ble_eq_true rfl⟩ (fun E9 ce q9 T9 H locs hp G hce hcv hcl => ?_)
    obtain ⟨hE, hT⟩ := hp
    subst hE
    rw [hT] at G
    exact vx_out (fun x hx => (htab x hx).elim) hlocks hce hcv hcl (fun t ht hvm => kx _ _ _ G hvm (by rw [ht]; exact Nat.le_refl _) (fun q hq => by rw [ht])) G.2.2.2.2 (Nat.le_refl _) (Nat.le_refl _)
  refine q_cvi (As := [.int (-2000), .int 2000]) (rest := [.ref (ad n13)]) E G hA hX hN hml (u_X3_signed l hst D cI cJ cZ cMic cSrc cSt cAI cAJ ad T20 l0 ((-2000) : Int32) (2000 : Int32) eT22) (cwV 2 hts (gaV qA_325 qA_326 qA_327 qA_222 qA_328) rfl rfl rfl (by decide +kernel) ⟨Nat.le_of_ble_eq_true rfl, Nat.le_of_ble_eq_true rfl⟩) (oO_k g21).1 (cc_o3 (oO_k g21).2) rfl rfl hl.1 rfl (lv_room (Nat.le_of_ble_eq_true rfl)) dX3_parseSource_45 ⟨Nat.zero_le _, Nat.zero_le _⟩ (fun q25 T23 H locs hq G => ?_)
  obtain ⟨hq1, hq2⟩ := hq
  rw [hq2] at G
  refine lv_to hq1 ?_
  clear hq1 hq2 eT22
  obtain ⟨g26, h⟩ := oif_some h
  refine c_put E G n13 1 (v := .int r24) (oO_k g26).1 (cc_o7 (oO_k g26).2) rfl (fun w h => .tail _ (iA_20 h)) tyX7 tyX7_ok nmX7 (by decide) (.tail _ qA_346) ⟨rfl, rfl, rfl⟩ rfl rfl (Nat.le_of_ble_eq_true rfl) dX3_parseSource_48 (fun H locs G => ?_)
  have G := gC_up_i (f := upd (T22.2.2.1 n13) 1 r24) (by rw [(oO_k g26).2]; rfl) G
  obtain ⟨T27, eT27, h⟩ := elet_some h
  have G : gC cI cJ cZ cMic cSrc cSt cAI cAJ D ad A s.heap H locs T27 := by rw [eT27]; exact G
  clear eT27
  refine lv_aload_n hx hb dX3_parseSource_51 rfl (lv_at hl 0 rfl) ?_
  refine lv_aload_n hx hb dX3_parseSource_52 rfl (lv_at hl 1 rfl) ?_
  refine lv_sipush (v := (-2000)) hx hb dX3_parseSource_53 (by decide) ?_
  refine lv_sipush (v := 2000) hx hb dX3_parseSource_56 (by decide) ?_
  obtain ⟨g28, h⟩ := oif_some h
  rcases othr_t h with ⟨r0, eT29⟩ | ⟨r31, T29, eT29, h⟩
  · refine q_xvi (As := [.int (-2000), .int 2000]) (rest := [.ref (ad n13)]) E G hA hX hN hml (x_X3_signed l hst D cI cJ cZ cMic cSrc cSt cAI cAJ ad T27 l0 ((-2000) : Int32) (2000 : Int32) eT29) (cwV 2 hts (gaV qA_325 qA_326 qA_327 qA_222 qA_328) rfl rfl rfl (by decide +kernel) ⟨Nat.le_of_ble_eq_true rfl, Nat.le_of_ble_eq_true rfl⟩) (oO_k g28).1 (cc_o3 (oO_k g28).2) rfl rfl hl.1 rfl (lv_room (Nat.le_of_ble_eq_true rfl)) dX3_parseSource_59 ⟨Nat.le_of_ble_eq_true rfl, Nat.le_of_ble_eq_true rfl⟩ (fun E9 ce q9 T9 H locs hp G hce hcv hcl => ?_)
    obtain ⟨hE, hT⟩ := hp
    subst hE
    rw [hT] at G
    exact vx_out (fun x hx => (htab x hx).elim) hlocks hce hcv hcl (fun t ht hvm => kx _ _ _ G hvm (by rw [ht]; exact Nat.le_refl _) (fun q hq => by rw [ht])) G.2.2.2.2 (Nat.le_refl _) (Nat.le_refl _)
  refine q_cvi (As := [.int (-2000), .int 2000]) (rest := [.ref (ad n13)]) E G hA hX hN hml (u_X3_signed l hst D cI cJ cZ cMic cSrc cSt cAI cAJ ad T27 l0 ((-2000) : Int32) (2000 : Int32) eT29) (cwV 2 hts (gaV qA_325 qA_326 qA_327 qA_222 qA_328) rfl rfl rfl (by decide +kernel) ⟨Nat.le_of_ble_eq_true rfl, Nat.le_of_ble_eq_true rfl⟩) (oO_k g28).1 (cc_o3 (oO_k g28).2) rfl rfl hl.1 rfl (lv_room (Nat.le_of_ble_eq_true rfl)) dX3_parseSource_59 ⟨Nat.zero_le _, Nat.zero_le _⟩ (fun q32 T30 H locs hq G => ?_)
  obtain ⟨hq1, hq2⟩ := hq
  rw [hq2] at G
  refine lv_to hq1 ?_
  clear hq1 hq2 eT29
  obtain ⟨g33, h⟩ := oif_some h
  refine c_put E G n13 2 (v := .int r31) (oO_k g33).1 (cc_o7 (oO_k g33).2) rfl (fun w h => .tail _ (iA_20 h)) tyX7 tyX7_ok nmX7 (by decide) (.tail _ qA_347) ⟨rfl, rfl, rfl⟩ rfl rfl (Nat.le_of_ble_eq_true rfl) dX3_parseSource_62 (fun H locs G => ?_)
  have G := gC_up_i (f := upd (T29.2.2.1 n13) 2 r31) (by rw [(oO_k g33).2]; rfl) G
  obtain ⟨T34, eT34, h⟩ := elet_some h
  have G : gC cI cJ cZ cMic cSrc cSt cAI cAJ D ad A s.heap H locs T34 := by rw [eT34]; exact G
  clear eT34
  refine lv_aload_n hx hb dX3_parseSource_65 rfl (lv_at hl 0 rfl) ?_
  refine lv_aload_n hx hb dX3_parseSource_66 rfl (lv_at hl 1 rfl) ?_
  refine lv_sipush (v := (-999)) hx hb dX3_parseSource_67 (by decide) ?_
  refine lv_sipush (v := 999) hx hb dX3_parseSource_70 (by decide) ?_
  obtain ⟨g35, h⟩ := oif_some h
  rcases othr_t h with ⟨r0, eT36⟩ | ⟨r38, T36, eT36, h⟩
  · refine q_xvi (As := [.int (-999), .int 999]) (rest := [.ref (ad n13)]) E G hA hX hN hml (x_X3_signed l hst D cI cJ cZ cMic cSrc cSt cAI cAJ ad T34 l0 ((-999) : Int32) (999 : Int32) eT36) (cwV 2 hts (gaV qA_325 qA_326 qA_327 qA_222 qA_328) rfl rfl rfl (by decide +kernel) ⟨Nat.le_of_ble_eq_true rfl, Nat.le_of_ble_eq_true rfl⟩) (oO_k g35).1 (cc_o3 (oO_k g35).2) rfl rfl hl.1 rfl (lv_room (Nat.le_of_ble_eq_true rfl)) dX3_parseSource_73 ⟨Nat.le_of_ble_eq_true rfl, Nat.le_of_ble_eq_true rfl⟩ (fun E9 ce q9 T9 H locs hp G hce hcv hcl => ?_)
    obtain ⟨hE, hT⟩ := hp
    subst hE
    rw [hT] at G
    exact vx_out (fun x hx => (htab x hx).elim) hlocks hce hcv hcl (fun t ht hvm => kx _ _ _ G hvm (by rw [ht]; exact Nat.le_refl _) (fun q hq => by rw [ht])) G.2.2.2.2 (Nat.le_refl _) (Nat.le_refl _)
  refine q_cvi (As := [.int (-999), .int 999]) (rest := [.ref (ad n13)]) E G hA hX hN hml (u_X3_signed l hst D cI cJ cZ cMic cSrc cSt cAI cAJ ad T34 l0 ((-999) : Int32) (999 : Int32) eT36) (cwV 2 hts (gaV qA_325 qA_326 qA_327 qA_222 qA_328) rfl rfl rfl (by decide +kernel) ⟨Nat.le_of_ble_eq_true rfl, Nat.le_of_ble_eq_true rfl⟩) (oO_k g35).1 (cc_o3 (oO_k g35).2) rfl rfl hl.1 rfl (lv_room (Nat.le_of_ble_eq_true rfl)) dX3_parseSource_73 ⟨Nat.zero_le _, Nat.zero_le _⟩ (fun q39 T37 H locs hq G => ?_)
  obtain ⟨hq1, hq2⟩ := hq
  rw [hq2] at G
  refine lv_to hq1 ?_
  clear hq1 hq2 eT36
  obtain ⟨g40, h⟩ := oif_some h
  refine c_put E G n13 3 (v := .int r38) (oO_k g40).1 (cc_o7 (oO_k g40).2) rfl (fun w h => .tail _ (iA_20 h)) tyX7 tyX7_ok nmX7 (by decide) (.tail _ qA_348) ⟨rfl, rfl, rfl⟩ rfl rfl (Nat.le_of_ble_eq_true rfl) dX3_parseSource_76 (fun H locs G => ?_)
  have G := gC_up_i (f := upd (T36.2.2.1 n13) 3 r38) (by rw [(oO_k g40).2]; rfl) G
  obtain ⟨T41, eT41, h⟩ := elet_some h
  have G : gC cI cJ cZ cMic cSrc cSt cAI cAJ D ad A s.heap H locs T41 := by rw [eT41]; exact G
  clear eT41
  refine lv_aload_n hx hb dX3_parseSource_79 rfl (lv_at hl 0 rfl) ?_
  refine lv_aload_n hx hb dX3_parseSource_80 rfl (lv_at hl 1 rfl) ?_
  refine lv_sipush (v := (-999)) hx hb dX3_parseSource_81 (by decide) ?_
  refine lv_sipush (v := 999) hx hb dX3_parseSource_84 (by decide) ?_
  obtain ⟨g42, h⟩ := oif_some h
  rcases othr_t h with ⟨r0, eT43⟩ | ⟨r45, T43, eT43, h⟩
  · refine q_xvi (As := [.int (-999), .int 999]) (rest := [.ref (ad n13)]) E G hA hX hN hml (x_X3_signed l hst D cI cJ cZ cMic cSrc cSt cAI cAJ ad T41 l0 ((-999) : Int32) (999 : Int32) eT43) (cwV 2 hts (gaV qA_325 qA_326 qA_327 qA_222 qA_328) rfl rfl rfl (by decide +kernel) ⟨Nat.le_of_ble_eq_true rfl, Nat.le_of_ble_eq_true rfl⟩) (oO_k g42).1 (cc_o3 (oO_k g42).2) rfl rfl hl.1 rfl (lv_room (Nat.le_of_ble_eq_true rfl)) dX3_parseSource_87 ⟨Nat.le_of_ble_eq_true rfl, Nat.le_of_ble_eq_true rfl⟩ (fun E9 ce q9 T9 H locs hp G hce hcv hcl => ?_)
    obtain ⟨hE, hT⟩ := hp
    subst hE
    rw [hT] at G
    exact vx_out (fun x hx => (htab x hx).elim) hlocks hce hcv hcl (fun t ht hvm => kx _ _ _ G hvm (by rw [ht]; exact Nat.le_refl _) (fun q hq => by rw [ht])) G.2.2.2.2 (Nat.le_refl _) (Nat.le_refl _)
  refine q_cvi (As := [.int (-999), .int 999]) (rest := [.ref (ad n13)]) E G hA hX hN hml (u_X3_signed l hst D cI cJ cZ cMic cSrc cSt cAI cAJ ad T41 l0 ((-999) : Int32) (999 : Int32) eT43) (cwV 2 hts (gaV qA_325 qA_326 qA_327 qA_222 qA_328) rfl rfl rfl (by decide +kernel) ⟨Nat.le_of_ble_eq_true rfl, Nat.le_of_ble_eq_true rfl⟩) (oO_k g42).1 (cc_o3 (oO_k g42).2) rfl rfl hl.1 rfl (lv_room (Nat.le_of_ble_eq_true rfl)) dX3_parseSource_87 ⟨Nat.zero_le _, Nat.zero_le _⟩ (fun q46 T44 H locs hq G => ?_)
  obtain ⟨hq1, hq2⟩ := hq
  rw [hq2] at G
  refine lv_to hq1 ?_
  clear hq1 hq2 eT43
  obtain ⟨g47, h⟩ := oif_some h
  refine c_put E G n13 4 (v := .int r45) (oO_k g47).1 (cc_o7 (oO_k g47).2) rfl (fun w h => .tail _ (iA_20 h)) tyX7 tyX7_ok nmX7 (by decide) (.tail _ qA_349) ⟨rfl, rfl, rfl⟩ rfl rfl (Nat.le_of_ble_eq_true rfl) dX3_parseSource_90 (fun H locs G => ?_)
  have G := gC_up_i (f := upd (T43.2.2.1 n13) 4 r45) (by rw [(oO_k g47).2]; rfl) G
  obtain ⟨T48, eT48, h⟩ := elet_some h
  have G : gC cI cJ cZ cMic cSrc cSt cAI cAJ D ad A s.heap H locs T48 := by rw [eT48]; exact G
  clear eT48
  refine lv_aload_n hx hb dX3_parseSource_93 rfl (lv_at hl 0 rfl) ?_
  refine lv_aload_n hx hb dX3_parseSource_94 rfl (lv_at hl 1 rfl) ?_
  refine lv_iconst (v := 1) hx hb dX3_parseSource_95 (by decide) ?_
  refine lv_sipush (v := 999) hx hb dX3_parseSource_96 (by decide) ?_
  obtain ⟨g49, h⟩ := oif_some h
  rcases othr_t h with ⟨r0, eT50⟩ | ⟨r52, T50, eT50, h⟩
  · refine q_xvi (As := [.int 1, .int 999]) (rest := [.ref (ad n13)]) E G hA hX hN hml (x_X3_number l hst D cI cJ cZ cMic cSrc cSt cAI cAJ ad T48 l0 (1 : Int32) (999 : Int32) eT50) (cwV 2 hts (gaV qA_299 qA_300 qA_301 qA_222 qA_302) rfl rfl rfl (by decide +kernel) ⟨Nat.le_of_ble_eq_true rfl, Nat.le_of_ble_eq_true rfl⟩) (oO_k g49).1 (cc_o3 (oO_k g49).2) rfl rfl hl.1 rfl (lv_room (Nat.le_of_ble_eq_true rfl)) dX3_parseSource_99 ⟨Nat.le_of_ble_eq_true rfl, Nat.le_of_ble_eq_true rfl⟩ (fun E9 ce q9 T9 H locs hp G hce hcv hcl => ?_)
    obtain ⟨hE, hT⟩ := hp
    subst hE
    rw [hT] at G
    exact vx_out (fun x hx => (htab x hx).elim) hlocks hce hcv hcl (fun t ht hvm => kx _ _ _ G hvm (by rw [ht]; exact Nat.le_refl _) (fun q hq => by rw [ht])) G.2.2.2.2 (Nat.le_refl _) (Nat.le_refl _)
  refine q_cvi (As := [.int 1, .int 999]) (rest := [.ref (ad n13)]) E G hA hX hN hml (u_X3_number l hst D cI cJ cZ cMic cSrc cSt cAI cAJ ad T48 l0 (1 : Int32) (999 : Int32) eT50) (cwV 2 hts (gaV qA_299 qA_300 qA_301 qA_222 qA_302) rfl rfl rfl (by decide +kernel) ⟨Nat.le_of_ble_eq_true rfl, Nat.le_of_ble_eq_true rfl⟩) (oO_k g49).1 (cc_o3 (oO_k g49).2) rfl rfl hl.1 rfl (lv_room (Nat.le_of_ble_eq_true rfl)) dX3_parseSource_99 ⟨Nat.zero_le _, Nat.zero_le _⟩ (fun q53 T51 H locs hq G => ?_)
  obtain ⟨hq1, hq2⟩ := hq
  rw [hq2] at G
  refine lv_to hq1 ?_
  clear hq1 hq2 eT50
  obtain ⟨g54, h⟩ := oif_some h
  refine c_put E G n13 5 (v := .int r52) (oO_k g54).1 (cc_o7 (oO_k g54).2) rfl (fun w h => .tail _ (iA_20 h)) tyX7 tyX7_ok nmX7 (by decide) (.tail _ qA_350) ⟨rfl, rfl, rfl⟩ rfl rfl (Nat.le_of_ble_eq_true rfl) dX3_parseSource_102 (fun H locs G => ?_)
  have G := gC_up_i (f := upd (T50.2.2.1 n13) 5 r52) (by rw [(oO_k g54).2]; rfl) G
  obtain ⟨T55, eT55, h⟩ := elet_some h
  have G : gC cI cJ cZ cMic cSrc cSt cAI cAJ D ad A s.heap H locs T55 := by rw [eT55]; exact G
  clear eT55
  refine lv_aload_n hx hb dX3_parseSource_105 rfl (lv_at hl 0 rfl) ?_
  refine lv_aload_n hx hb dX3_parseSource_106 rfl (lv_at hl 1 rfl) ?_
  refine lv_iconst (v := 2) hx hb dX3_parseSource_107 (by decide) ?_
  refine lv_bipush (v := 99) hx hb dX3_parseSource_108 (by decide) ?_
  obtain ⟨g56, h⟩ := oif_some h
  rcases othr_t h with ⟨r0, eT57⟩ | ⟨r59, T57, eT57, h⟩
  · refine q_xvi (As := [.int 2, .int 99]) (rest := [.ref (ad n13)]) E G hA hX hN hml (x_X3_number l hst D cI cJ cZ cMic cSrc cSt cAI cAJ ad T55 l0 (2 : Int32) (99 : Int32) eT57) (cwV 2 hts (gaV qA_299 qA_300 qA_301 qA_222 qA_302) rfl rfl rfl (by decide +kernel) ⟨Nat.le_of_ble_eq_true rfl, Nat.le_of_ble_eq_true rfl⟩) (oO_k g56).1 (cc_o3 (oO_k g56).2) rfl rfl hl.1 rfl (lv_room (Nat.le_of_ble_eq_true rfl)) dX3_parseSource_110 ⟨Nat.le_of_ble_eq_true rfl, Nat.le_of_ble_eq_true rfl⟩ (fun E9 ce q9 T9 H locs hp G hce hcv hcl => ?_)
    obtain ⟨hE, hT⟩ := hp
    subst hE
    rw [hT] at G
    exact vx_out (fun x hx => (htab x hx).elim) hlocks hce hcv hcl (fun t ht hvm => kx _ _ _ G hvm (by rw [ht]; exact Nat.le_refl _) (fun q hq => by rw [ht])) G.2.2.2.2 (Nat.le_refl _) (Nat.le_refl _)
  refine q_cvi (As := [.int 2, .int 99]) (rest := [.ref (ad n13)]) E G hA hX hN hml (u_X3_number l hst D cI cJ cZ cMic cSrc cSt cAI cAJ ad T55 l0 (2 : Int32) (99 : Int32) eT57) (cwV 2 hts (gaV qA_299 qA_300 qA_301 qA_222 qA_302) rfl rfl rfl (by decide +kernel) ⟨Nat.le_of_ble_eq_true rfl, Nat.le_of_ble_eq_true rfl⟩) (oO_k g56).1 (cc_o3 (oO_k g56).2) rfl rfl hl.1 rfl (lv_room (Nat.le_of_ble_eq_true rfl)) dX3_parseSource_110 ⟨Nat.zero_le _, Nat.zero_le _⟩ (fun q60 T58 H locs hq G => ?_)
  obtain ⟨hq1, hq2⟩ := hq
  rw [hq2] at G
  refine lv_to hq1 ?_
  clear hq1 hq2 eT57
  obtain ⟨g61, h⟩ := oif_some h
  refine c_put E G n13 6 (v := .int r59) (oO_k g61).1 (cc_o7 (oO_k g61).2) rfl (fun w h => .tail _ (iA_20 h)) tyX7 tyX7_ok nmX7 (by decide) (.tail _ qA_351) ⟨rfl, rfl, rfl⟩ rfl rfl (Nat.le_of_ble_eq_true rfl) dX3_parseSource_113 (fun H locs G => ?_)
  have G := gC_up_i (f := upd (T57.2.2.1 n13) 6 r59) (by rw [(oO_k g61).2]; rfl) G
  obtain ⟨T62, eT62, h⟩ := elet_some h
  have G : gC cI cJ cZ cMic cSrc cSt cAI cAJ D ad A s.heap H locs T62 := by rw [eT62]; exact G
  clear eT62
  refine lv_aload_n hx hb dX3_parseSource_116 rfl (lv_at hl 0 rfl) ?_
  refine lv_aload_n hx hb dX3_parseSource_117 rfl (lv_at hl 1 rfl) ?_
  refine lv_iconst (v := 0) hx hb dX3_parseSource_118 (by decide) ?_
  refine lv_bipush (v := 99) hx hb dX3_parseSource_119 (by decide) ?_
  obtain ⟨g63, h⟩ := oif_some h
  rcases othr_t h with ⟨r0, eT64⟩ | ⟨r66, T64, eT64, h⟩
  · refine q_xvi (As := [.int 0, .int 99]) (rest := [.ref (ad n13)]) E G hA hX hN hml (x_X3_number l hst D cI cJ cZ cMic cSrc cSt cAI cAJ ad T62 l0 (0 : Int32) (99 : Int32) eT64) (cwV 2 hts (gaV qA_299 qA_300 qA_301 qA_222 qA_302) rfl rfl rfl (by decide +kernel) ⟨Nat.le_of_ble_eq_true rfl, Nat.le_of_ble_eq_true rfl⟩) (oO_k g63).1 (cc_o3 (oO_k g63).2) rfl rfl hl.1 rfl (lv_room (Nat.le_of_ble_eq_true rfl)) dX3_parseSource_121 ⟨Nat.le_of_ble_eq_true rfl, Nat.le_of_ble_eq_true rfl⟩ (fun E9 ce q9 T9 H locs hp G hce hcv hcl => ?_)
    obtain ⟨hE, hT⟩ := hp
    subst hE
    rw [hT] at G
    exact vx_out (fun x hx => (htab x hx).elim) hlocks hce hcv hcl (fun t ht hvm => kx _ _ _ G hvm (by rw [ht]; exact Nat.le_refl _) (fun q hq => by rw [ht])) G.2.2.2.2 (Nat.le_refl _) (Nat.le_refl _)
  refine q_cvi (As := [.int 0, .int 99]) (rest := [.ref (ad n13)]) E G hA hX hN hml (u_X3_number l hst D cI cJ cZ cMic cSrc cSt cAI cAJ ad T62 l0 (0 : Int32) (99 : Int32) eT64) (cwV 2 hts (gaV qA_299 qA_300 qA_301 qA_222 qA_302) rfl rfl rfl (by decide +kernel) ⟨Nat.le_of_ble_eq_true rfl, Nat.le_of_ble_eq_true rfl⟩) (oO_k g63).1 (cc_o3 (oO_k g63).2) rfl rfl hl.1 rfl (lv_room (Nat.le_of_ble_eq_true rfl)) dX3_parseSource_121 ⟨Nat.zero_le _, Nat.zero_le _⟩ (fun q67 T65 H locs hq G => ?_)
  obtain ⟨hq1, hq2⟩ := hq
  rw [hq2] at G
  refine lv_to hq1 ?_
  clear hq1 hq2 eT64
  obtain ⟨g68, h⟩ := oif_some h
  refine c_put E G n13 7 (v := .int r66) (oO_k g68).1 (cc_o7 (oO_k g68).2) rfl (fun w h => .tail _ (iA_20 h)) tyX7 tyX7_ok nmX7 (by decide) (.tail _ qA_352) ⟨rfl, rfl, rfl⟩ rfl rfl (Nat.le_of_ble_eq_true rfl) dX3_parseSource_124 (fun H locs G => ?_)
  have G := gC_up_i (f := upd (T64.2.2.1 n13) 7 r66) (by rw [(oO_k g68).2]; rfl) G
  obtain ⟨T69, eT69, h⟩ := elet_some h
  have G : gC cI cJ cZ cMic cSrc cSt cAI cAJ D ad A s.heap H locs T69 := by rw [eT69]; exact G
  clear eT69
  refine lv_aload_n hx hb dX3_parseSource_127 rfl (lv_at hl 0 rfl) ?_
  refine lv_iconst (v := 0) hx hb dX3_parseSource_128 (by decide) ?_
  obtain ⟨g70, h⟩ := oif_some h
  refine c_put E G n13 8 (v := .int 0) (oO_k g70).1 (cc_o7 (oO_k g70).2) rfl (fun w h => .tail _ (iA_20 h)) tyX7 tyX7_ok nmX7 (by decide) (.tail _ qA_353) ⟨rfl, rfl, rfl⟩ rfl rfl (Nat.le_of_ble_eq_true rfl) dX3_parseSource_129 (fun H locs G => ?_)
  have G := gC_up_i (f := upd (T69.2.2.1 n13) 8 0) (by rw [(oO_k g70).2]; rfl) G
  obtain ⟨T71, eT71, h⟩ := elet_some h
  have G : gC cI cJ cZ cMic cSrc cSt cAI cAJ D ad A s.heap H locs T71 := by rw [eT71]; exact G
  clear eT71
  refine lv_aload_n hx hb dX3_parseSource_132 rfl (lv_at hl 0 rfl) ?_
  refine lv_iconst (v := 0) hx hb dX3_parseSource_133 (by decide) ?_
  obtain ⟨g72, h⟩ := oif_some h
  refine c_put E G n13 9 (v := .int 0) (oO_k g72).1 (cc_o7 (oO_k g72).2) rfl (fun w h => .tail _ (iA_20 h)) tyX7 tyX7_ok nmX7 (by decide) (.tail _ qA_354) ⟨rfl, rfl, rfl⟩ rfl rfl (Nat.le_of_ble_eq_true rfl) dX3_parseSource_134 (fun H locs G => ?_)
  have G := gC_up_i (f := upd (T71.2.2.1 n13) 9 0) (by rw [(oO_k g72).2]; rfl) G
  obtain ⟨T73, eT73, h⟩ := elet_some h
  have G : gC cI cJ cZ cMic cSrc cSt cAI cAJ D ad A s.heap H locs T73 := by rw [eT73]; exact G
  clear eT73
  refine lv_aload_n hx hb dX3_parseSource_137 rfl (lv_at hl 1 rfl) ?_
  obtain ⟨w74, hw74, ow74⟩ := hT.1 ("AcousticCamera$Parser", 216, "from") (List.mem_of_getElem? (i := 12) rfl)
  refine va_ldcS hx hb hown hw74 dX3_parseSource_138 ?_
  obtain ⟨g75, h⟩ := oif_some h
  obtain ⟨r78, T76, eT76, h⟩ := obind2_some h
  refine q_cviX (As := [.ref w74]) (rest := []) E G hA hX hN hml (u_X3_isWord l hst D cI cJ cZ cMic cSrc cSt cAI cAJ ad T73 h0 (q := w74) (sTx_ok (by decide +kernel)) l0 eT76) (cwV 1 hts (gaV qA_232 qA_233 qA_234 qA_222 qA_235) rfl rfl rfl (by decide +kernel) ⟨Nat.le_of_ble_eq_true rfl, Nat.le_of_ble_eq_true rfl⟩) (oO_k g75).1 (cc_o3 (oO_k g75).2) rfl rfl hl.1 rfl (lv_room (Nat.le_of_ble_eq_true rfl)) dX3_parseSource_140 ⟨Nat.zero_le _, Nat.zero_le _⟩ (yT1.blind) (yT1.go hT hA0 hA G ow74) (fun q79 T77 H locs hq G => ?_)
  obtain ⟨hq1, hq2⟩ := hq
  rw [hq2] at G
  refine lv_to hq1 ?_
  clear hq1 hq2 eT76
  refine lv_if_eq (tgt := 168) hx hb dX3_parseSource_143 (by decide) (fun c80 => ?_) (fun c80 => ?_)
  · have h := oif_pos c80 h
    have hl := lv_sub hl [2] rfl
    exact x_X3_parseSource_b168 E hA hX hN hml hA0 hT trivial hst htab hlocks kx _ _ _ _ _ h G hl
  · have h := oif_neg c80 h
    refine lv_aload_n hx hb dX3_parseSource_146 rfl (lv_at hl 1 rfl) ?_
    refine lv_dup hx hb dX3_parseSource_147 rfl ?_
    obtain ⟨g81, h⟩ := oif_some h
    refine c_get E G l0 1 (oO_k g81).1 (cc_o3 (oO_k g81).2) rfl (fun w h => .tail _ (iA_17 h)) (by decide) (.tail _ qA_176) rfl rfl dX3_parseSource_148 ?_
    refine lv_topi (fun v82 ev82 => ?_)
    have h := elet_at ev82 h
    clear ev82
    refine lv_iconst (v := 1) hx hb dX3_parseSource_151 (by decide) ?_
    refine lv_iadd hx hb dX3_parseSource_152 ?_
    refine lv_topi (fun v83 ev83 => ?_)
    have h := elet_at ev83 h
    clear ev83
    obtain ⟨g84, h⟩ := oif_some h
    refine c_put E G l0 1 (v := .int v83) (oO_k g84).1 (cc_o3 (oO_k g84).2) rfl (fun w h => .tail _ (iA_17 h)) tyX3 tyX3_ok nmX3 (by decide) (.tail _ qA_176) ⟨rfl, rfl, rfl⟩ rfl rfl (Nat.le_of_ble_eq_true rfl) dX3_parseSource_153 (fun H locs G => ?_)
    have G := gC_up_i (f := upd (T76.2.2.1 l0) 1 v83) (by rw [(oO_k g84).2]; rfl) G
    obtain ⟨T85, eT85, h⟩ := elet_some h
    have G : gC cI cJ cZ cMic cSrc cSt cAI cAJ D ad A s.heap H locs T85 := by rw [eT85]; exact G
    clear eT85
    refine lv_aload_n hx hb dX3_parseSource_156 rfl (lv_at hl 0 rfl) ?_
    refine lv_aload_n hx hb dX3_parseSource_157 rfl (lv_at hl 1 rfl) ?_
    refine lv_iconst (v := 0) hx hb dX3_parseSource_158 (by decide) ?_
    refine lv_sipush (v := 199) hx hb dX3_parseSource_159 (by decide) ?_
    obtain ⟨g86, h⟩ := oif_some h
    rcases othr_t h with ⟨r0, eT87⟩ | ⟨r89, T87, eT87, h⟩
    · refine q_xvi (As := [.int 0, .int 199]) (rest := [.ref (ad n13)]) E G hA hX hN hml (x_X3_number l hst D cI cJ cZ cMic cSrc cSt cAI cAJ ad T85 l0 (0 : Int32) (199 : Int32) eT87) (cwV 2 hts (gaV qA_299 qA_300 qA_301 qA_222 qA_302) rfl rfl rfl (by decide +kernel) ⟨Nat.le_of_ble_eq_true rfl, Nat.le_of_ble_eq_true rfl⟩) (oO_k g86).1 (cc_o3 (oO_k g86).2) rfl rfl hl.1 rfl (lv_room (Nat.le_of_ble_eq_true rfl)) dX3_parseSource_162 ⟨Nat.le_of_ble_eq_true rfl, Nat.le_of_ble_eq_true rfl⟩ (fun E9 ce q9 T9 H locs hp G hce hcv hcl => ?_)
      obtain ⟨hE, hT⟩ := hp
      subst hE
      rw [hT] at G
      exact vx_out (fun x hx => (htab x hx).elim) hlocks hce hcv hcl (fun t ht hvm => kx _ _ _ G hvm (by rw [ht]; exact Nat.le_refl _) (fun q hq => by rw [ht])) G.2.2.2.2 (Nat.le_refl _) (Nat.le_refl _)
    refine q_cvi (As := [.int 0, .int 199]) (rest := [.ref (ad n13)]) E G hA hX hN hml (u_X3_number l hst D cI cJ cZ cMic cSrc cSt cAI cAJ ad T85 l0 (0 : Int32) (199 : Int32) eT87) (cwV 2 hts (gaV qA_299 qA_300 qA_301 qA_222 qA_302) rfl rfl rfl (by decide +kernel) ⟨Nat.le_of_ble_eq_true rfl, Nat.le_of_ble_eq_true rfl⟩) (oO_k g86).1 (cc_o3 (oO_k g86).2) rfl rfl hl.1 rfl (lv_room (Nat.le_of_ble_eq_true rfl)) dX3_parseSource_162 ⟨Nat.zero_le _, Nat.zero_le _⟩ (fun q90 T88 H locs hq G => ?_)
    obtain ⟨hq1, hq2⟩ := hq
    rw [hq2] at G
    refine lv_to hq1 ?_
    clear hq1 hq2 eT87
    obtain ⟨g91, h⟩ := oif_some h
    refine c_put E G n13 8 (v := .int r89) (oO_k g91).1 (cc_o7 (oO_k g91).2) rfl (fun w h => .tail _ (iA_20 h)) tyX7 tyX7_ok nmX7 (by decide) (.tail _ qA_353) ⟨rfl, rfl, rfl⟩ rfl rfl (Nat.le_of_ble_eq_true rfl) dX3_parseSource_165 (fun H locs G => ?_)
    have G := gC_up_i (f := upd (T87.2.2.1 n13) 8 r89) (by rw [(oO_k g91).2]; rfl) G
    obtain ⟨T92, eT92, h⟩ := elet_some h
    have G : gC cI cJ cZ cMic cSrc cSt cAI cAJ D ad A s.heap H locs T92 := by rw [eT92]; exact G
    clear eT92
    have hl := lv_sub hl [2] rfl
    exact x_X3_parseSource_b168 E hA hX hN hml hA0 hT trivial hst htab hlocks kx _ _ _ _ _ h G hl
set_option maxHeartbeats 4000000 in
set_option maxRecDepth 100000 in
theorem x_X3_parseSource (l : Launch) (hst : l.stackTraces = false) (D : va_G) (cI cJ cZ cMic cSrc cSt cAI cAJ : ClassId) (ad : Nat → Nat) (T : AT) (h0 : Nat) (o : Nat) (a0 : Nat) {e1 : Nat} {r1 : Int32} {T1 : AT} (h : g_X3_parseSource T o a0 = some (e1 + 1, r1, T1)) : kXvX l yX3_parseSource (Cond.code yX3_parseSource cX3_parseSource 3 none :: wsA) 9 148 cI cJ cZ cMic cSrc cSt cAI cAJ D ad T [.ref (ad o), .ref (ad a0)] (yT0 cI cJ cZ cMic cSrc cSt cAI cAJ h0 ad T) e1 T1 := by
  intro sz
  refine vx_ofW (cc := cX3_parseSource) (maxL := 3) (ret := none) (by decide) rfl ?_
  intro p e s m args below meth c s₁ B hml htab hv
  obtain ⟨rfl, ⟨hsz, hP, hK, hD0, hX, hN⟩, hA1, hT⟩ := hv
  have hx := B.exec
  have hb := B.bytes
  have hr := B.returns
  have hts := atoms_spec (ws := (Cond.code yX3_parseSource cX3_parseSource 3 none :: wsA)) B.pre
  have hown : s.vm.findClass RX3 = some m.cls := findClass_of_methodNamed B.named
  have hlocks := B.notSynchronized
  subst hsz
  have hD := hD0.self (sz := s.heap.size)
  generalize hAe : va_A (cW ad T.1 (cc cI cJ cZ cMic cSrc cSt cAI cAJ ad T)) s.heap.size = A at hD hX hA1 ⊢
  have hA : ∀ q : Nat, s.heap.size ≤ q → A q := fun q h => by rw [← hAe]; exact Or.inr h
  have G : gC cI cJ cZ cMic cSrc cSt cAI cAJ D ad A s.heap s.heap [] T := ⟨hP, hD, va_S.rf⟩
  have E : cE p c cX3_parseSource s m ([.ref (ad o), .ref (ad a0)] : List Value).toArray (Cond.code yX3_parseSource cX3_parseSource 3 none :: wsA) D RX3 (CT cI cJ cZ cMic cSrc cSt cAI cAJ) := ⟨hx, hb, hts, hown, hK⟩
  have htab : ∀ x ∈ c.exceptionTable.toList, False := fun x hx => htab x hx
  have hA0 : ∀ a : Nat, A a → h0 ≤ a := hA1
  have hl := lv_entry ([.ref (ad o), .ref (ad a0)]) (n := 3) (Nat.le_of_ble_eq_true rfl)
  rw [lg_entry_eq]
  generalize (lg_sl ([.ref (ad o), .ref (ad a0)]) ++ List.replicate (3 - (lg_sl ([.ref (ad o), .ref (ad a0)])).length) Slot.unset).toArray = ls at hl ⊢
  have hl : lv_has ls 3 [(0, .ref (ad o)), (1, .ref (ad a0))] := hl
  unfold g_X3_parseSource at h
  refine lv_aload_n hx hb dX3_parseSource_0 rfl (lv_at hl 0 rfl) ?_
  refine lv_aload_n hx hb dX3_parseSource_1 rfl (lv_at hl 1 rfl) ?_
  obtain ⟨g2, h⟩ := oif_some h
  refine c_get E G a0 8 (oO_k g2).1 (cc_o6 (oO_k g2).2) rfl (fun w h => .tail _ (iA_14 h)) (by decide) (.tail _ qA_343) rfl rfl dX3_parseSource_2 ?_
  refine lv_topi (fun v3 ev3 => ?_)
  have h := elet_at ev3 h
  clear ev3
  refine lv_bipush (v := 6) hx hb dX3_parseSource_5 (by decide) ?_
  refine lv_icmp_lt (tgt := 14) hx hb dX3_parseSource_7 (by decide) (fun c4 => ?_) (fun c4 => ?_)
  · have h := oif_pos c4 h
    refine lv_iconst (v := 0) hx hb dX3_parseSource_14 (by decide) ?_
    have hl := lv_sub hl [0, 1] rfl
    exact x_X3_parseSource_b15 E hA hX hN hml hA0 hT trivial hst htab hlocks (fun H locs t G hvm h1 h2 => ⟨T1, trivial, ⟨⟨rfl, rfl⟩, (c_thrown G hK hvm h1 h2).1⟩, (c_thrown G hK hvm h1 h2).2⟩) _ _ _ _ _ _ _ _ h G hl
  · have h := oif_neg c4 h
    refine lv_iconst (v := 1) hx hb dX3_parseSource_10 (by decide) ?_
    refine lv_goto (tgt := 15) hx hb dX3_parseSource_11 (by decide) ?_
    have hl := lv_sub hl [0, 1] rfl
    exact x_X3_parseSource_b15 E hA hX hN hml hA0 hT trivial hst htab hlocks (fun H locs t G hvm h1 h2 => ⟨T1, trivial, ⟨⟨rfl, rfl⟩, (c_thrown G hK hvm h1 h2).1⟩, (c_thrown G hK hvm h1 h2).2⟩) _ _ _ _ _ _ _ _ h G hl
end
section
/-! 11kg.cd6.lean.txt -/
def g_X3_parseMap_b13  (T : AT) (s0 : Int32) (s1 : Nat) (l0 : Nat) (l1 : Nat) : Option (Nat × Int32 × AT) := oif (oO T s1 3 = true) <| othr (g_X3_startLine T s1 s0 (3 : Int32)) 0 fun r5 T3 => oif (oO T3 l0 3 = true) <| othr (g_X3_signed T3 l0 ((-999) : Int32) (999 : Int32)) 0 fun r10 T8 => oif (oO T8 l1 1 = true) <| elet (uI T8 l1 0 r10) fun T13 => oif (oO T13 l0 3 = true) <| othr (g_X3_signed T13 l0 ((-999) : Int32) (999 : Int32)) 0 fun r17 T15 => oif (oO T15 l1 1 = true) <| elet (uI T15 l1 1 r17) fun T20 => oif (oO T20 l0 3 = true) <| othr (g_X3_number T20 l0 (1 : Int32) (99 : Int32)) 0 fun r24 T22 => oif (oO T22 l1 1 = true) <| elet (uI T22 l1 2 r24) fun T27 => oif (oO T27 l0 3 = true) <| othr (g_X3_number T27 l0 (1 : Int32) (12 : Int32)) 0 fun r31 T29 => oif (oO T29 l0 3 = true) <| othr (g_X3_number T29 l0 (1 : Int32) (12 : Int32)) 0 fun r36 T34 => oif (oO T34 l1 1 = true) <| obind (g_X1_open T34 l1 r31 r36) fun T39 => some (0, 0, T39)
set_option maxHeartbeats 4000000 in
set_option maxRecDepth 100000 in
theorem u_X3_parseMap_b13 {p : Program} {l : Launch} {e : Env} {s : State} {m : MethodId} {args : Array Value} {below : List Frame} {meth : Method} {c : Code} {Q : State → Prop} {D : va_G} {A : Nat → Prop} {cI cJ cZ cMic cSrc cSt cAI cAJ : ClassId} {ad : Nat → Nat} {r1 : Int32} {T1 : AT} (E : cE p c cX3_parseMap s m args (Cond.code yX3_parseMap cX3_parseMap 4 none :: wsA) D RX3 (CT cI cJ cZ cMic cSrc cSt cAI cAJ)) (hA : ∀ q : Nat, s.heap.size ≤ q → A q) (hX : xT A s) (hN : nX s) (hml : c.maxLocals = 4) (hst : l.stackTraces = false) (kr78 : ∀ (H : Heap) (locs : List Loc) (ls : Array Slot), gC cI cJ cZ cMic cSrc cSt cAI cAJ D ad A s.heap H locs T1 → W p l e { frames := 9, cells := 0, slots := 0, locals := 148 } s m args below meth c H locs 0 0 Q (F0 m 78 ls [])) : ∀ (T : AT) (H : Heap) (locs : List Loc) (ls : Array Slot) (s0 : Int32) (s1 : Nat) (l0 : Nat) (l1 : Nat), g_X3_parseMap_b13 T s0 s1 l0 l1 = some (0, r1, T1) → gC cI cJ cZ cMic cSrc cSt cAI cAJ D ad A s.heap H locs T → lv_has ls 4 [(0, .ref (ad l0)), (1, .ref (ad l1))] → W p l e { frames := 9, cells := 0, slots := 0, locals := 148 } s m args below meth c H locs 0 0 Q (F0 m 13 ls [.int s0, .ref (ad s1)]) := by
  have hx := E.1
  have hb := E.2.1
  have hts := E.2.2.1
  have hown := E.2.2.2.1
  have hK := E.2.2.2.2
  intro T H locs ls s0 s1 l0 l1 h G hl
  unfold g_X3_parseMap_b13 at h
  refine lv_iconst (v := 3) hx hb dX3_parseMap_13 (by decide) ?_
  obtain ⟨g2, h⟩ := oif_some h
  obtain ⟨r5, T3, eT3, h⟩ := othr_n h
  refine q_cvv (As := [.int s0, .int 3]) (rest := []) E G hA hX hN hml (u_X3_startLine l hst D cI cJ cZ cMic cSrc cSt cAI cAJ ad T s1 s0 (3 : Int32) eT3) (cwV 2 hts (gaV qA_321 qA_322 qA_323 qA_222 qA_324) rfl rfl rfl (by decide +kernel) ⟨Nat.le_of_ble_eq_true rfl, Nat.le_of_ble_eq_true rfl⟩) (oO_k g2).1 (cc_o3 (oO_k g2).2) rfl rfl hl.1 rfl (lv_room (Nat.le_of_ble_eq_true rfl)) dX3_parseMap_14 ⟨Nat.zero_le _, Nat.zero_le _⟩ (fun T4 H locs hq G => ?_)
  rw [hq] at G
  clear hq eT3
  refine lv_aload_n hx hb dX3_parseMap_17 rfl (lv_at hl 1 rfl) ?_
  refine lv_aload_n hx hb dX3_parseMap_18 rfl (lv_at hl 0 rfl) ?_
  refine lv_sipush (v := (-999)) hx hb dX3_parseMap_19 (by decide) ?_
  refine lv_sipush (v := 999) hx hb dX3_parseMap_22 (by decide) ?_
  obtain ⟨g7, h⟩ := oif_some h
  obtain ⟨r10, T8, eT8, h⟩ := othr_n h
  refine q_cvi (As := [.int (-999), .int 999]) (rest := [.ref (ad l1)]) E G hA hX hN hml (u_X3_signed l hst D cI cJ cZ cMic cSrc cSt cAI cAJ ad T3 l0 ((-999) : Int32) (999 : Int32) eT8) (cwV 2 hts (gaV qA_325 qA_326 qA_327 qA_222 qA_328) rfl rfl rfl (by decide +kernel) ⟨Nat.le_of_ble_eq_true rfl, Nat.le_of_ble_eq_true rfl⟩) (oO_k g7).1 (cc_o3 (oO_k g7).2) rfl rfl hl.1 rfl (lv_room (Nat.le_of_ble_eq_true rfl)) dX3_parseMap_25 ⟨Nat.zero_le _, Nat.zero_le _⟩ (fun q11 T9 H locs hq G => ?_)
  obtain ⟨hq1, hq2⟩ := hq
  rw [hq2] at G
  refine lv_to hq1 ?_
  clear hq1 hq2 eT8
  obtain ⟨g12, h⟩ := oif_some h
  refine c_put E G l1 0 (v := .int r10) (oO_k g12).1 (cc_o1 (oO_k g12).2) rfl (fun w h => .tail _ (iA_15 h)) tyX1 tyX1_ok nmX1 (by decide) (.tail _ qA_333) ⟨rfl, rfl, rfl⟩ rfl rfl (Nat.le_of_ble_eq_true rfl) dX3_parseMap_28 (fun H locs G => ?_)
  have G := gC_up_i (f := upd (T8.2.2.1 l1) 0 r10) (by rw [(oO_k g12).2]; rfl) G
  obtain ⟨T13, eT13, h⟩ := elet_some h
  have G : gC cI cJ cZ cMic cSrc cSt cAI cAJ D ad A s.heap H locs T13 := by rw [eT13]; exact G
  clear eT13
  refine lv_aload_n hx hb dX3_parseMap_31 rfl (lv_at hl 1 rfl) ?_
  refine lv_aload_n hx hb dX3_parseMap_32 rfl (lv_at hl 0 rfl) ?_
  refine lv_sipush (v := (-999)) hx hb dX3_parseMap_33 (by decide) ?_
  refine lv_sipush (v := 999) hx hb dX3_parseMap_36 (by decide) ?_
  obtain ⟨g14, h⟩ := oif_some h
  obtain ⟨r17, T15, eT15, h⟩ := othr_n h
  refine q_cvi (As := [.int (-999), .int 999]) (rest := [.ref (ad l1)]) E G hA hX hN hml (u_X3_signed l hst D cI cJ cZ cMic cSrc cSt cAI cAJ ad T13 l0 ((-999) : Int32) (999 : Int32) eT15) (cwV 2 hts (gaV qA_325 qA_326 qA_327 qA_222 qA_328) rfl rfl rfl (by decide +kernel) ⟨Nat.le_of_ble_eq_true rfl, Nat.le_of_ble_eq_true rfl⟩) (oO_k g14).1 (cc_o3 (oO_k g14).2) rfl rfl hl.1 rfl (lv_room (Nat.le_of_ble_eq_true rfl)) dX3_parseMap_39 ⟨Nat.zero_le _, Nat.zero_le _⟩ (fun q18 T16 H locs hq G => ?_)
  obtain ⟨hq1, hq2⟩ := hq
  rw [hq2] at G
  refine lv_to hq1 ?_
  clear hq1 hq2 eT15
  obtain ⟨g19, h⟩ := oif_some h
  refine c_put E G l1 1 (v := .int r17) (oO_k g19).1 (cc_o1 (oO_k g19).2) rfl (fun w h => .tail _ (iA_15 h)) tyX1 tyX1_ok nmX1 (by decide) (.tail _ qA_334) ⟨rfl, rfl, rfl⟩ rfl rfl (Nat.le_of_ble_eq_true rfl) dX3_parseMap_42 (fun H locs G => ?_)
  have G := gC_up_i (f := upd (T15.2.2.1 l1) 1 r17) (by rw [(oO_k g19).2]; rfl) G
  obtain ⟨T20, eT20, h⟩ := elet_some h
  have G : gC cI cJ cZ cMic cSrc cSt cAI cAJ D ad A s.heap H locs T20 := by rw [eT20]; exact G
  clear eT20
  refine lv_aload_n hx hb dX3_parseMap_45 rfl (lv_at hl 1 rfl) ?_
  refine lv_aload_n hx hb dX3_parseMap_46 rfl (lv_at hl 0 rfl) ?_
  refine lv_iconst (v := 1) hx hb dX3_parseMap_47 (by decide) ?_
  refine lv_bipush (v := 99) hx hb dX3_parseMap_48 (by decide) ?_
  obtain ⟨g21, h⟩ := oif_some h
  obtain ⟨r24, T22, eT22, h⟩ := othr_n h
  refine q_cvi (As := [.int 1, .int 99]) (rest := [.ref (ad l1)]) E G hA hX hN hml (u_X3_number l hst D cI cJ cZ cMic cSrc cSt cAI cAJ ad T20 l0 (1 : Int32) (99 : Int32) eT22) (cwV 2 hts (gaV qA_299 qA_300 qA_301 qA_222 qA_302) rfl rfl rfl (by decide +kernel) ⟨Nat.le_of_ble_eq_true rfl, Nat.le_of_ble_eq_true rfl⟩) (oO_k g21).1 (cc_o3 (oO_k g21).2) rfl rfl hl.1 rfl (lv_room (Nat.le_of_ble_eq_true rfl)) dX3_parseMap_50 ⟨Nat.zero_le _, Nat.zero_le _⟩ (fun q25 T23 H locs hq G => ?_)
  obtain ⟨hq1, hq2⟩ := hq
  rw [hq2] at G
  refine lv_to hq1 ?_
  clear hq1 hq2 eT22
  obtain ⟨g26, h⟩ := oif_some h
  refine c_put E G l1 2 (v := .int r24) (oO_k g26).1 (cc_o1 (oO_k g26).2) rfl (fun w h => .tail _ (iA_15 h)) tyX1 tyX1_ok nmX1 (by decide) (.tail _ qA_335) ⟨rfl, rfl, rfl⟩ rfl rfl (Nat.le_of_ble_eq_true rfl) dX3_parseMap_53 (fun H locs G => ?_)
  have G := gC_up_i (f := upd (T22.2.2.1 l1) 2 r24) (by rw [(oO_k g26).2]; rfl) G
  obtain ⟨T27, eT27, h⟩ := elet_some h
  have G : gC cI cJ cZ cMic cSrc cSt cAI cAJ D ad A s.heap H locs T27 := by rw [eT27]; exact G
  clear eT27
  refine lv_aload_n hx hb dX3_parseMap_56 rfl (lv_at hl 0 rfl) ?_
  refine lv_iconst (v := 1) hx hb dX3_parseMap_57 (by decide) ?_
  refine lv_bipush (v := 12) hx hb dX3_parseMap_58 (by decide) ?_
  obtain ⟨g28, h⟩ := oif_some h
  obtain ⟨r31, T29, eT29, h⟩ := othr_n h
  refine q_cvi (As := [.int 1, .int 12]) (rest := []) E G hA hX hN hml (u_X3_number l hst D cI cJ cZ cMic cSrc cSt cAI cAJ ad T27 l0 (1 : Int32) (12 : Int32) eT29) (cwV 2 hts (gaV qA_299 qA_300 qA_301 qA_222 qA_302) rfl rfl rfl (by decide +kernel) ⟨Nat.le_of_ble_eq_true rfl, Nat.le_of_ble_eq_true rfl⟩) (oO_k g28).1 (cc_o3 (oO_k g28).2) rfl rfl hl.1 rfl (lv_room (Nat.le_of_ble_eq_true rfl)) dX3_parseMap_60 ⟨Nat.zero_le _, Nat.zero_le _⟩ (fun q32 T30 H locs hq G => ?_)
  obtain ⟨hq1, hq2⟩ := hq
  rw [hq2] at G
  refine lv_to hq1 ?_
  clear hq1 hq2 eT29
  refine lv_istore_n (lv' := [(2, .int r31), (0, .ref (ad l0)), (1, .ref (ad l1))]) hx hb dX3_parseMap_63 rfl hl (by decide) rfl (fun ls hl => ?_)
  refine lv_aload_n hx hb dX3_parseMap_64 rfl (lv_at hl 1 rfl) ?_
  refine lv_iconst (v := 1) hx hb dX3_parseMap_65 (by decide) ?_
  refine lv_bipush (v := 12) hx hb dX3_parseMap_66 (by decide) ?_
  obtain ⟨g33, h⟩ := oif_some h
  obtain ⟨r36, T34, eT34, h⟩ := othr_n h
  refine q_cvi (As := [.int 1, .int 12]) (rest := []) E G hA hX hN hml (u_X3_number l hst D cI cJ cZ cMic cSrc cSt cAI cAJ ad T29 l0 (1 : Int32) (12 : Int32) eT34) (cwV 2 hts (gaV qA_299 qA_300 qA_301 qA_222 qA_302) rfl rfl rfl (by decide +kernel) ⟨Nat.le_of_ble_eq_true rfl, Nat.le_of_ble_eq_true rfl⟩) (oO_k g33).1 (cc_o3 (oO_k g33).2) rfl rfl hl.1 rfl (lv_room (Nat.le_of_ble_eq_true rfl)) dX3_parseMap_68 ⟨Nat.zero_le _, Nat.zero_le _⟩ (fun q37 T35 H locs hq G => ?_)
  obtain ⟨hq1, hq2⟩ := hq
  rw [hq2] at G
  refine lv_to hq1 ?_
  clear hq1 hq2 eT34
  refine lv_istore_n (lv' := [(3, .int r36), (2, .int r31), (0, .ref (ad l0)), (1, .ref (ad l1))]) hx hb dX3_parseMap_71 rfl hl (by decide) rfl (fun ls hl => ?_)
  refine lv_aload_n hx hb dX3_parseMap_72 rfl (lv_at hl 3 rfl) ?_
  refine lv_iload_n hx hb dX3_parseMap_73 rfl (lv_at hl 1 rfl) ?_
  refine lv_iload_n hx hb dX3_parseMap_74 rfl (lv_at hl 0 rfl) ?_
  obtain ⟨g38, h⟩ := oif_some h
  obtain ⟨T39, eT39, h⟩ := obind_some h
  refine q_cvv (As := [.int r31, .int r36]) (rest := []) E G hA hX hN hml (u_X1_open l hst D cI cJ cZ cMic cSrc cSt cAI cAJ ad T34 l1 r31 r36 eT39) (cwV 2 hts (gaV qA_336 qA_337 qA_338 qA_37 qA_163) rfl rfl rfl (by decide +kernel) ⟨Nat.le_of_ble_eq_true rfl, Nat.le_of_ble_eq_true rfl⟩) (oO_k g38).1 (cc_o1 (oO_k g38).2) rfl rfl hl.1 rfl (lv_room (Nat.le_of_ble_eq_true rfl)) dX3_parseMap_75 ⟨Nat.zero_le _, Nat.zero_le _⟩ (fun T40 H locs hq G => ?_)
  rw [hq] at G
  clear hq eT39
  rw [(osome3 h).2.2] at G
  exact kr78 _ _ _ G
def g_X3_parseMap (T : AT) (o : Nat) (a0 : Nat) : Option (Nat × Int32 × AT) := oif (oO T a0 1 = true) <| elet (T.2.2.1 a0 3) fun v3 => if v3 ≤ 0 then (g_X3_parseMap_b13 T 0 o o a0) else (g_X3_parseMap_b13 T 1 o o a0)
set_option maxHeartbeats 4000000 in
set_option maxRecDepth 100000 in
theorem u_X3_parseMap (l : Launch) (hst : l.stackTraces = false) (D : va_G) (cI cJ cZ cMic cSrc cSt cAI cAJ : ClassId) (ad : Nat → Nat) (T : AT) (o : Nat) (a0 : Nat) {r1 : Int32} {T1 : AT} (h : g_X3_parseMap T o a0 = some (0, r1, T1)) : kCv l yX3_parseMap (Cond.code yX3_parseMap cX3_parseMap 4 none :: wsA) 9 148 cI cJ cZ cMic cSrc cSt cAI cAJ D ad T [.ref (ad o), .ref (ad a0)] (fun T9 => T9 = T1) := by
  intro sz
  refine Met.ofW (cc := cX3_parseMap) (maxL := 4) (ret := none) (by decide) rfl ?_
  intro p e s m args below meth c s₁ B hml hv
  obtain ⟨rfl, hsz, hP, hK, hD0, hX, hN⟩ := hv
  have hx := B.exec
  have hb := B.bytes
  have hr := B.returns
  have hts := atoms_spec (ws := (Cond.code yX3_parseMap cX3_parseMap 4 none :: wsA)) B.pre
  have hown : s.vm.findClass RX3 = some m.cls := findClass_of_methodNamed B.named
  have hlocks := B.notSynchronized
  subst hsz
  have hD := hD0.self (sz := s.heap.size)
  generalize hAe : va_A (cW ad T.1 (cc cI cJ cZ cMic cSrc cSt cAI cAJ ad T)) s.heap.size = A at hD hX ⊢
  have hA : ∀ q : Nat, s.heap.size ≤ q → A q := fun q h => by rw [← hAe]; exact Or.inr h
  have G : gC cI cJ cZ cMic cSrc cSt cAI cAJ D ad A s.heap s.heap [] T := ⟨hP, hD, va_S.rf⟩
  have E : cE p c cX3_parseMap s m ([.ref (ad o), .ref (ad a0)] : List Value).toArray (Cond.code yX3_parseMap cX3_parseMap 4 none :: wsA) D RX3 (CT cI cJ cZ cMic cSrc cSt cAI cAJ) := ⟨hx, hb, hts, hown, hK⟩
  have hl := lv_entry ([.ref (ad o), .ref (ad a0)]) (n := 4) (Nat.le_of_ble_eq_true rfl)
  rw [lg_entry_eq]
  generalize (lg_sl ([.ref (ad o), .ref (ad a0)]) ++ List.replicate (4 - (lg_sl ([.ref (ad o), .ref (ad a0)])).length) Slot.unset).toArray = ls at hl ⊢
  have hl : lv_has ls 4 [(0, .ref (ad o)), (1, .ref (ad a0))] := hl
  unfold g_X3_parseMap at h
  refine lv_aload_n hx hb dX3_parseMap_0 rfl (lv_at hl 0 rfl) ?_
  refine lv_aload_n hx hb dX3_parseMap_1 rfl (lv_at hl 1 rfl) ?_
  obtain ⟨g2, h⟩ := oif_some h
  refine c_get E G a0 3 (oO_k g2).1 (cc_o1 (oO_k g2).2) rfl (fun w h => .tail _ (iA_15 h)) (by decide) (.tail _ qA_180) rfl rfl dX3_parseMap_2 ?_
  refine lv_topi (fun v3 ev3 => ?_)
  have h := elet_at ev3 h
  clear ev3
  refine lv_if_le (tgt := 12) hx hb dX3_parseMap_5 (by decide) (fun c4 => ?_) (fun c4 => ?_)
  · have h := oif_pos c4 h
    refine lv_iconst (v := 0) hx hb dX3_parseMap_12 (by decide) ?_
    have hl := lv_sub hl [0, 1] rfl
    exact u_X3_parseMap_b13 E hA hX hN hml hst (fun H locs ls G => W.vret hx hb hr (fun t ht hW => ⟨⟨T1, rfl, rfl, ⟨by rw [ht]; exact G.1, va_K.moved hW.alike hK, G.2.1⟩⟩, G.2.2.F ht⟩) G.2.2.2.2 dX3_parseMap_78) _ _ _ _ _ _ _ _ h G hl
  · have h := oif_neg c4 h
    refine lv_iconst (v := 1) hx hb dX3_parseMap_8 (by decide) ?_
    refine lv_goto (tgt := 13) hx hb dX3_parseMap_9 (by decide) ?_
    have hl := lv_sub hl [0, 1] rfl
    exact u_X3_parseMap_b13 E hA hX hN hml hst (fun H locs ls G => W.vret hx hb hr (fun t ht hW => ⟨⟨T1, rfl, rfl, ⟨by rw [ht]; exact G.1, va_K.moved hW.alike hK, G.2.1⟩⟩, G.2.2.F ht⟩) G.2.2.2.2 dX3_parseMap_78) _ _ _ _ _ _ _ _ h G hl
set_option maxHeartbeats 4000000 in
set_option maxRecDepth 100000 in
theorem s_X3_parseMap_b13 {e1 : Nat} {r1 : Int32} {T1 : AT} : ∀ (T : AT) (s0 : Int32) (s1 : Nat) (l0 : Nat) (l1 : Nat), g_X3_parseMap_b13 T s0 s1 l0 l1 = some (e1, r1, T1) → SP T T1 := by
  intro T s0 s1 l0 l1 h
  have p0 := SP.rf T
  unfold g_X3_parseMap_b13 at h
  obtain ⟨g2, h⟩ := oif_some h
  rcases othr_s h with ⟨k9, r9, e9, -⟩ | ⟨r4, T3, eT3, h⟩
  · exact SP.tr p0 (s_X3_startLine e9)
  have p1 : SP T T3 := SP.tr p0 (s_X3_startLine eT3)
  obtain ⟨g5, h⟩ := oif_some h
  rcases othr_s h with ⟨k9, r9, e9, -⟩ | ⟨r7, T6, eT6, h⟩
  · exact SP.tr p1 (s_X3_signed e9)
  have p2 : SP T T6 := SP.tr p1 (s_X3_signed eT6)
  obtain ⟨g8, h⟩ := oif_some h
  obtain ⟨T9, eT9, h⟩ := elet_some h
  have p3 : SP T T9 := SP.tr p2 (by rw [eT9]; exact sp_uI)
  obtain ⟨g10, h⟩ := oif_some h
  rcases othr_s h with ⟨k9, r9, e9, -⟩ | ⟨r12, T11, eT11, h⟩
  · exact SP.tr p3 (s_X3_signed e9)
  have p4 : SP T T11 := SP.tr p3 (s_X3_signed eT11)
  obtain ⟨g13, h⟩ := oif_some h
  obtain ⟨T14, eT14, h⟩ := elet_some h
  have p5 : SP T T14 := SP.tr p4 (by rw [eT14]; exact sp_uI)
  obtain ⟨g15, h⟩ := oif_some h
  rcases othr_s h with ⟨k9, r9, e9, -⟩ | ⟨r17, T16, eT16, h⟩
  · exact SP.tr p5 (s_X3_number e9)
  have p6 : SP T T16 := SP.tr p5 (s_X3_number eT16)
  obtain ⟨g18, h⟩ := oif_some h
  obtain ⟨T19, eT19, h⟩ := elet_some h
  have p7 : SP T T19 := SP.tr p6 (by rw [eT19]; exact sp_uI)
  obtain ⟨g20, h⟩ := oif_some h
  rcases othr_s h with ⟨k9, r9, e9, -⟩ | ⟨r22, T21, eT21, h⟩
  · exact SP.tr p7 (s_X3_number e9)
  have p8 : SP T T21 := SP.tr p7 (s_X3_number eT21)
  obtain ⟨g23, h⟩ := oif_some h
  rcases othr_s h with ⟨k9, r9, e9, -⟩ | ⟨r25, T24, eT24, h⟩
  · exact SP.tr p8 (s_X3_number e9)
  have p9 : SP T T24 := SP.tr p8 (s_X3_number eT24)
  obtain ⟨g26, h⟩ := oif_some h
  obtain ⟨T27, eT27, h⟩ := obind_some h
  have p10 : SP T T27 := SP.tr p9 (s_X1_open eT27)
  rw [← (osome3 h).2.2]
  exact p10
set_option maxHeartbeats 4000000 in
set_option maxRecDepth 100000 in
theorem s_X3_parseMap {T : AT} {o : Nat} {a0 : Nat} {e1 : Nat} {r1 : Int32} {T1 : AT} (h : g_X3_parseMap T o a0 = some (e1, r1, T1)) : SP T T1 := by
  have p0 := SP.rf T
  unfold g_X3_parseMap at h
  obtain ⟨g2, h⟩ := oif_some h
  obtain ⟨v3, -, h⟩ := elet_some h
  rcases oif_or h with ⟨c4, h⟩ | ⟨c4, h⟩
  · have h := h
    exact SP.tr p0 (s_X3_parseMap_b13 _ _ _ _ _ h)
  · have h := h
    exact SP.tr p0 (s_X3_parseMap_b13 _ _ _ _ _ h)
set_option maxHeartbeats 4000000 in
set_option maxRecDepth 100000 in
theorem x_X3_parseMap_b13 {p : Program} {l : Launch} {e : Env} {s : State} {m : MethodId} {args : Array Value} {below : List Frame} {meth : Method} {c : Code} {Qc : Array Value → State → Outcome → State → Prop} {XC : String → State → State → Prop} {D : va_G} {A : Nat → Prop} {cI cJ cZ cMic cSrc cSt cAI cAJ : ClassId} {ad : Nat → Nat} {e1 : Nat} {r1 : Int32} {T1 : AT} (E : cE p c cX3_parseMap s m args (Cond.code yX3_parseMap cX3_parseMap 4 none :: wsA) D RX3 (CT cI cJ cZ cMic cSrc cSt cAI cAJ)) (hA : ∀ q : Nat, s.heap.size ≤ q → A q) (hX : xT A s) (hN : nX s) (hml : c.maxLocals = 4) (hz9 : True) (hst : l.stackTraces = false) (htab : ∀ x ∈ c.exceptionTable.toList, False) (hlocks : meth.locks = false) (kx : ∀ (H : Heap) (locs : List Loc) (t : State), gC cI cJ cZ cMic cSrc cSt cAI cAJ D ad A s.heap H locs T1 → s.vm.Alike t.vm → H.size ≤ t.heap.size → (∀ q, q < H.size → t.heap[q]? = H[q]?) → XC (exn e1) s t) : ∀ (T : AT) (H : Heap) (locs : List Loc) (ls : Array Slot) (s0 : Int32) (s1 : Nat) (l0 : Nat) (l1 : Nat), g_X3_parseMap_b13 T s0 s1 l0 l1 = some (e1 + 1, r1, T1) → gC cI cJ cZ cMic cSrc cSt cAI cAJ D ad A s.heap H locs T → lv_has ls 4 [(0, .ref (ad l0)), (1, .ref (ad l1))] → W p l e { frames := 9, cells := 1, slots := 6, locals := 148 } s m args below meth c H locs 0 0 (vx_MQ below Qc XC args s 1 6 A) (F0 m 13 ls [.int s0, .ref (ad s1)]) := by
  have hx := E.1
  have hb := E.2.1
  have hts := E.2.2.1
  have hown := E.2.2.2.1
  have hK := E.2.2.2.2
  intro T H locs ls s0 s1 l0 l1 h G hl
  unfold g_X3_parseMap_b13 at h
  refine lv_iconst (v := 3) hx hb dX3_parseMap_13 (by decide) ?_
  obtain ⟨g2, h⟩ := oif_some h
  rcases othr_t h with ⟨r0, eT3⟩ | ⟨r5, T3, eT3, h⟩
  · refine q_xvv (As := [.int s0, .int 3]) (rest := []) E G hA hX hN hml (x_X3_startLine l hst D cI cJ cZ cMic cSrc cSt cAI cAJ ad T s1 s0 (3 : Int32) eT3) (cwV 2 hts (gaV qA_321 qA_322 qA_323 qA_222 qA_324) rfl rfl rfl (by decide +kernel) ⟨Nat.le_of_ble_eq_true rfl, Nat.le_of_ble_eq_true rfl⟩) (oO_k g2).1 (cc_o3 (oO_k g2).2) rfl rfl hl.1 rfl (lv_room (Nat.le_of_ble_eq_true rfl)) dX3_parseMap_14 ⟨Nat.le_of_ble_eq_true rfl, Nat.le_of_ble_eq_true rfl⟩ (fun E9 ce q9 T9 H locs hp G hce hcv hcl => ?_)
    obtain ⟨hE, hT⟩ := hp
    subst hE
    rw [hT] at G
    exact vx_out (fun x hx => (htab x hx).elim) hlocks hce hcv hcl (fun t ht hvm => kx _ _ _ G hvm (by rw [ht]; exact Nat.le_refl _) (fun q hq => by rw [ht])) G.2.2.2.2 (Nat.le_refl _) (Nat.le_refl _)
  refine q_cvv (As := [.int s0, .int 3]) (rest := []) E G hA hX hN hml (u_X3_startLine l hst D cI cJ cZ cMic cSrc cSt cAI cAJ ad T s1 s0 (3 : Int32) eT3) (cwV 2 hts (gaV qA_321 qA_322 qA_323 qA_222 qA_324) rfl rfl rfl (by decide +kernel) ⟨Nat.le_of_ble_eq_true rfl, Nat.le_of_ble_eq_true rfl⟩) (oO_k g2).1 (cc_o3 (oO_k g2).2) rfl rfl hl.1 rfl (lv_room (Nat.le_of_ble_eq_true rfl)) dX3_parseMap_14 ⟨Nat.zero_le _, Nat.zero_le _⟩ (fun T4 H locs hq G => ?_)
  rw [hq] at G
  clear hq eT3
  refine lv_aload_n hx hb dX3_parseMap_17 rfl (lv_at hl 1 rfl) ?_
  refine lv_aload_n hx hb dX3_parseMap_18 rfl (lv_at hl 0 rfl) ?_
  refine lv_sipush (v := (-999)) hx hb dX3_parseMap_19 (by decide) ?_
  refine lv_sipush (v := 999) hx hb dX3_parseMap_22 (by decide) ?_
  obtain ⟨g7, h⟩ := oif_some h
  rcases othr_t h with ⟨r0, eT8⟩ | ⟨r10, T8, eT8, h⟩
  · refine q_xvi (As := [.int (-999), .int 999]) (rest := [.ref (ad l1)]) E G hA hX hN hml (x_X3_signed l hst D cI cJ cZ cMic cSrc cSt cAI cAJ ad T3 l0 ((-999) : Int32) (999 : Int32) eT8) (cwV 2 hts (gaV qA_325 qA_326 qA_327 qA_222 qA_328) rfl rfl rfl (by decide +kernel) ⟨Nat.le_of_ble_eq_true rfl, Nat.le_of_ble_eq_true rfl⟩) (oO_k g7).1 (cc_o3 (oO_k g7).2) rfl rfl hl.1 rfl (lv_room (Nat.le_of_ble_eq_true rfl)) dX3_parseMap_25 ⟨Nat.le_of_ble_eq_true rfl, Nat.le_of_ble_eq_true rfl⟩ (fun E9 ce q9 T9 H locs hp G hce hcv hcl => ?_)
    obtain ⟨hE, hT⟩ := hp
    subst hE
    rw [hT] at G
    exact vx_out (fun x hx => (htab x hx).elim) hlocks hce hcv hcl (fun t ht hvm => kx _ _ _ G hvm (by rw [ht]; exact Nat.le_refl _) (fun q hq => by rw [ht])) G.2.2.2.2 (Nat.le_refl _) (Nat.le_refl _)
  refine q_cvi (As := [.int (-999), .int 999]) (rest := [.ref (ad l1)]) E G hA hX hN hml (u_X3_signed l hst D cI cJ cZ cMic cSrc cSt cAI cAJ ad T3 l0 ((-999) : Int32) (999 : Int32) eT8) (cwV 2 hts (gaV qA_325 qA_326 qA_327 qA_222 qA_328) rfl rfl rfl (by decide +kernel) ⟨Nat.le_of_ble_eq_true rfl, Nat.le_of_ble_eq_true rfl⟩) (oO_k g7).1 (cc_o3 (oO_k g7).2) rfl rfl hl.1 rfl (lv_room (Nat.le_of_ble_eq_true rfl)) dX3_parseMap_25 ⟨Nat.zero_le _, Nat.zero_le _⟩ (fun q11 T9 H locs hq G => ?_)
  obtain ⟨hq1, hq2⟩ := hq
  rw [hq2] at G
  refine lv_to hq1 ?_
  clear hq1 hq2 eT8
  obtain ⟨g12, h⟩ := oif_some h
  refine c_put E G l1 0 (v := .int r10) (oO_k g12).1 (cc_o1 (oO_k g12).2) rfl (fun w h => .tail _ (iA_15 h)) tyX1 tyX1_ok nmX1 (by decide) (.tail _ qA_333) ⟨rfl, rfl, rfl⟩ rfl rfl (Nat.le_of_ble_eq_true rfl) dX3_parseMap_28 (fun H locs G => ?_)
  have G := gC_up_i (f := upd (T8.2.2.1 l1) 0 r10) (by rw [(oO_k g12).2]; rfl) G
  obtain ⟨T13, eT13, h⟩ := elet_some h
  have G : gC cI cJ cZ cMic cSrc cSt cAI cAJ D ad A s.heap H locs T13 := by rw [eT13]; exact G
  clear eT13
  refine lv_aload_n hx hb dX3_parseMap_31 rfl (lv_at hl 1 rfl) ?_
  refine lv_aload_n hx hb dX3_parseMap_32 rfl (lv_at hl 0 rfl) ?_
  refine lv_sipush (v := (-999)) hx hb dX3_parseMap_33 (by decide) ?_
  refine lv_sipush (v := 999) hx hb dX3_parseMap_36 (by decide) ?_
  obtain ⟨g14, h⟩ := oif_some h
  rcases othr_t h with ⟨r0, eT15⟩ | ⟨r17, T15, eT15, h⟩
  · refine q_xvi (As := [.int (-999), .int 999]) (rest := [.ref (ad l1)]) E G hA hX hN hml (x_X3_signed l hst D cI cJ cZ cMic cSrc cSt cAI cAJ ad T13 l0 ((-999) : Int32) (999 : Int32) eT15) (cwV 2 hts (gaV qA_325 qA_326 qA_327 qA_222 qA_328) rfl rfl rfl (by decide +kernel) ⟨Nat.le_of_ble_eq_true rfl, Nat.le_of_ble_eq_true rfl⟩) (oO_k g14).1 (cc_o3 (oO_k g14).2) rfl rfl hl.1 rfl (lv_room (Nat.le_of_ble_eq_true rfl)) dX3_parseMap_39 ⟨Nat.le_of_ble_eq_true rfl, Nat.le_of_ble_eq_true rfl⟩ (fun E9 ce q9 T9 H locs hp G hce hcv hcl => ?_)
    obtain ⟨hE, hT⟩ := hp
    subst hE
    rw [hT] at G
    exact vx_out (fun x hx => (htab x hx).elim) hlocks hce hcv hcl (fun t ht hvm => kx _ _ _ G hvm (by rw [ht]; exact Nat.le_refl _) (fun q hq => by rw [ht])) G.2.2.2.2 (Nat.le_refl _) (Nat.le_refl _)
  refine q_cvi (As := [.int (-999), .int 999]) (rest := [.ref (ad l1)]) E G hA hX hN hml (u_X3_signed l hst D cI cJ cZ cMic cSrc cSt cAI cAJ ad T13 l0 ((-999) : Int32) (999 : Int32) eT15) (cwV 2 hts (gaV qA_325 qA_326 qA_327 qA_222 qA_328) rfl rfl rfl (by decide +kernel) ⟨Nat.le_of_ble_eq_true rfl, Nat.le_of_ble_eq_true rfl⟩) (oO_k g14).1 (cc_o3 (oO_k g14).2) rfl rfl hl.1 rfl (lv_room (Nat.le_of_ble_eq_true rfl)) dX3_parseMap_39 ⟨Nat.zero_le _, Nat.zero_le _⟩ (fun q18 T16 H locs hq G => ?_)
  obtain ⟨hq1, hq2⟩ := hq
  rw [hq2] at G
  refine lv_to hq1 ?_
  clear hq1 hq2 eT15
  obtain ⟨g19, h⟩ := oif_some h
  refine c_put E G l1 1 (v := .int r17) (oO_k g19).1 (cc_o1 (oO_k g19).2) rfl (fun w h => .tail _ (iA_15 h)) tyX1 tyX1_ok nmX1 (by decide) (.tail _ qA_334) ⟨rfl, rfl, rfl⟩ rfl rfl (Nat.le_of_ble_eq_true rfl) dX3_parseMap_42 (fun H locs G => ?_)
  have G := gC_up_i (f := upd (T15.2.2.1 l1) 1 r17) (by rw [(oO_k g19).2]; rfl) G
  obtain ⟨T20, eT20, h⟩ := elet_some h
  have G : gC cI cJ cZ cMic cSrc cSt cAI cAJ D ad A s.heap H locs T20 := by rw [eT20]; exact G
  clear eT20
  refine lv_aload_n hx hb dX3_parseMap_45 rfl (lv_at hl 1 rfl) ?_
  refine lv_aload_n hx hb dX3_parseMap_46 rfl (lv_at hl 0 rfl) ?_
  refine lv_iconst (v := 1) hx hb dX3_parseMap_47 (by decide) ?_
  refine lv_bipush (v := 99) hx hb dX3_parseMap_48 (by decide) ?_
  obtain ⟨g21, h⟩ := oif_some h
  rcases othr_t h with ⟨r0, eT22⟩ | ⟨r24, T22, eT22, h⟩
  · refine q_xvi (As := [.int 1, .int 99]) (rest := [.ref (ad l1)]) E G hA hX hN hml (x_X3_number l hst D cI cJ cZ cMic cSrc cSt cAI cAJ ad T20 l0 (1 : Int32) (99 : Int32) eT22) (cwV 2 hts (gaV qA_299 qA_300 qA_301 qA_222 qA_302) rfl rfl rfl (by decide +kernel) ⟨Nat.le_of_ble_eq_true rfl, Nat.le_of_ble_eq_true rfl⟩) (oO_k g21).1 (cc_o3 (oO_k g21).2) rfl rfl hl.1 rfl (lv_room (Nat.le_of_ble_eq_true rfl)) dX3_parseMap_50 ⟨Nat.le_of_ble_eq_true rfl, Nat.le_of_ble_eq_true rfl⟩ (fun E9 ce q9 T9 H locs hp G hce hcv hcl => ?_)
    obtain ⟨hE, hT⟩ := hp
    subst hE
    rw [hT] at G
    exact vx_out (fun x hx => (htab x hx).elim) hlocks hce hcv hcl (fun t ht hvm => kx _ _ _ G hvm (by rw [ht]; exact Nat.le_refl _) (fun q hq => by rw [ht])) G.2.2.2.2 (Nat.le_refl _) (Nat.le_refl _)
  refine q_cvi (As := [.int 1, .int 99]) (rest := [.ref (ad l1)]) E G hA hX hN hml (u_X3_number l hst D cI cJ cZ cMic cSrc cSt cAI cAJ ad T20 l0 (1 : Int32) (99 : Int32) eT22) (cwV 2 hts (gaV qA_299 qA_300 qA_301 qA_222 qA_302) rfl rfl rfl (by decide +kernel) ⟨Nat.le_of_ble_eq_true rfl, Nat.le_of_ble_eq_true rfl⟩) (oO_k g21).1 (cc_o3 (oO_k g21).2) rfl rfl hl.1 rfl (lv_room (Nat.le_of_ble_eq_true rfl)) dX3_parseMap_50 ⟨Nat.zero_le _, Nat.zero_le _⟩ (fun q25 T23 H locs hq G => ?_)
  obtain ⟨hq1, hq2⟩ := hq
  rw [hq2] at G
  refine lv_to hq1 ?_
  clear hq1 hq2 eT22
  obtain ⟨g26, h⟩ := oif_some h
  refine c_put E G l1 2 (v := .int r24) (oO_k g26).1 (cc_o1 (oO_k g26).2) rfl (fun w h => .tail _ (iA_15 h)) tyX1 tyX1_ok nmX1 (by decide) (.tail _ qA_335) ⟨rfl, rfl, rfl⟩ rfl rfl (Nat.le_of_ble_eq_true rfl) dX3_parseMap_53 (fun H locs G => ?_)
  have G := gC_up_i (f := upd (T22.2.2.1 l1) 2 r24) (by rw [(oO_k g26).2]; rfl) G
  obtain ⟨T27, eT27, h⟩ := elet_some h
  have G : gC cI cJ cZ cMic cSrc cSt cAI cAJ D ad A s.heap H locs T27 := by rw [eT27]; exact G
  clear eT27
  refine lv_aload_n hx hb dX3_parseMap_56 rfl (lv_at hl 0 rfl) ?_
  refine lv_iconst (v := 1) hx hb dX3_parseMap_57 (by decide) ?_
  refine lv_bipush (v := 12) hx hb dX3_parseMap_58 (by decide) ?_
  obtain ⟨g28, h⟩ := oif_some h
  rcases othr_t h with ⟨r0, eT29⟩ | ⟨r31, T29, eT29, h⟩
  · refine q_xvi (As := [.int 1, .int 12]) (rest := []) E G hA hX hN hml (x_X3_number l hst D cI cJ cZ cMic cSrc cSt cAI cAJ ad T27 l0 (1 : Int32) (12 : Int32) eT29) (cwV 2 hts (gaV qA_299 qA_300 qA_301 qA_222 qA_302) rfl rfl rfl (by decide +kernel) ⟨Nat.le_of_ble_eq_true rfl, Nat.le_of_ble_eq_true rfl⟩) (oO_k g28).1 (cc_o3 (oO_k g28).2) rfl rfl hl.1 rfl (lv_room (Nat.le_of_ble_eq_true rfl)) dX3_parseMap_60 ⟨Nat.le_of_ble_eq_true rfl, Nat.le_of_ble_eq_true rfl⟩ (fun E9 ce q9 T9 H locs hp G hce hcv hcl => ?_)
    obtain ⟨hE, hT⟩ := hp
    subst hE
    rw [hT] at G
    exact vx_out (fun x hx => (htab x hx).elim) hlocks hce hcv hcl (fun t ht hvm => kx _ _ _ G hvm (by rw [ht]; exact Nat.le_refl _) (fun q hq => by rw [ht])) G.2.2.2.2 (Nat.le_refl _) (Nat.le_refl _)
  refine q_cvi (As := [.int 1, .int 12]) (rest := []) E G hA hX hN hml (u_X3_number l hst D cI cJ cZ cMic cSrc cSt cAI cAJ ad T27 l0 (1 : Int32) (12 : Int32) eT29) (cwV 2 hts (gaV qA_299 qA_300 qA_301 qA_222 qA_302) rfl rfl rfl (by decide +kernel) ⟨Nat.le_of_ble_eq_true rfl, Nat.le_of_ble_eq_true rfl⟩) (oO_k g28).1 (cc_o3 (oO_k g28).2) rfl rfl hl.1 rfl (lv_room (Nat.le_of_ble_eq_true rfl)) dX3_parseMap_60 ⟨Nat.zero_le _, Nat.zero_le _⟩ (fun q32 T30 H locs hq G => ?_)
  obtain ⟨hq1, hq2⟩ := hq
  rw [hq2] at G
  refine lv_to hq1 ?_
  clear hq1 hq2 eT29
  refine lv_istore_n (lv' := [(2, .int r31), (0, .ref (ad l0)), (1, .ref (ad l1))]) hx hb dX3_parseMap_63 rfl hl (by decide) rfl (fun ls hl => ?_)
  refine lv_aload_n hx hb dX3_parseMap_64 rfl (lv_at hl 1 rfl) ?_
  refine lv_iconst (v := 1) hx hb dX3_parseMap_65 (by decide) ?_
  refine lv_bipush (v := 12) hx hb dX3_parseMap_66 (by decide) ?_
  obtain ⟨g33, h⟩ := oif_some h
  rcases othr_t h with ⟨r0, eT34⟩ | ⟨r36, T34, eT34, h⟩
  · refine q_xvi (As := [.int 1, .int 12]) (rest := []) E G hA hX hN hml (x_X3_number l hst D cI cJ cZ cMic cSrc cSt cAI cAJ ad T29 l0 (1 : Int32) (12 : Int32) eT34) (cwV 2 hts (gaV qA_299 qA_300 qA_301 qA_222 qA_302) rfl rfl rfl (by decide +kernel) ⟨Nat.le_of_ble_eq_true rfl, Nat.le_of_ble_eq_true rfl⟩) (oO_k g33).1 (cc_o3 (oO_k g33).2) rfl rfl hl.1 rfl (lv_room (Nat.le_of_ble_eq_true rfl)) dX3_parseMap_68 ⟨Nat.le_of_ble_eq_true rfl, Nat.le_of_ble_eq_true rfl⟩ (fun E9 ce q9 T9 H locs hp G hce hcv hcl => ?_)
    obtain ⟨hE, hT⟩ := hp
    subst hE
    rw [hT] at G
    exact vx_out (fun x hx => (htab x hx).elim) hlocks hce hcv hcl (fun t ht hvm => kx _ _ _ G hvm (by rw [ht]; exact Nat.le_refl _) (fun q hq => by rw [ht])) G.2.2.2.2 (Nat.le_refl _) (Nat.le_refl _)
  refine q_cvi (As := [.int 1, .int 12]) (rest := []) E G hA hX hN hml (u_X3_number l hst D cI cJ cZ cMic cSrc cSt cAI cAJ ad T29 l0 (1 : Int32) (12 : Int32) eT34) (cwV 2 hts (gaV qA_299 qA_300 qA_301 qA_222 qA_302) rfl rfl rfl (by decide +kernel) ⟨Nat.le_of_ble_eq_true rfl, Nat.le_of_ble_eq_true rfl⟩) (oO_k g33).1 (cc_o3 (oO_k g33).2) rfl rfl hl.1 rfl (lv_room (Nat.le_of_ble_eq_true rfl)) dX3_parseMap_68 ⟨Nat.zero_le _, Nat.zero_le _⟩ (fun q37 T35 H locs hq G => ?_)
  obtain ⟨hq1, hq2⟩ := hq
  rw [hq2] at G
  refine lv_to hq1 ?_
  clear hq1 hq2 eT34
  refine lv_istore_n (lv' := [(3, .int r36), (2, .int r31), (0, .ref (ad l0)), (1, .ref (ad l1))]) hx hb dX3_parseMap_71 rfl hl (by decide) rfl (fun ls hl => ?_)
  refine lv_aload_n hx hb dX3_parseMap_72 rfl (lv_at hl 3 rfl) ?_
  refine lv_iload_n hx hb dX3_parseMap_73 rfl (lv_at hl 1 rfl) ?_
  refine lv_iload_n hx hb dX3_parseMap_74 rfl (lv_at hl 0 rfl) ?_
  obtain ⟨g38, h⟩ := oif_some h
  obtain ⟨T39, eT39, h⟩ := obind_some h
  refine q_cvv (As := [.int r31, .int r36]) (rest := []) E G hA hX hN hml (u_X1_open l hst D cI cJ cZ cMic cSrc cSt cAI cAJ ad T34 l1 r31 r36 eT39) (cwV 2 hts (gaV qA_336 qA_337 qA_338 qA_37 qA_163) rfl rfl rfl (by decide +kernel) ⟨Nat.le_of_ble_eq_true rfl, Nat.le_of_ble_eq_true rfl⟩) (oO_k g38).1 (cc_o1 (oO_k g38).2) rfl rfl hl.1 rfl (lv_room (Nat.le_of_ble_eq_true rfl)) dX3_parseMap_75 ⟨Nat.zero_le _, Nat.zero_le _⟩ (fun T40 H locs hq G => ?_)
  rw [hq] at G
  clear hq eT39
  exact (Nat.succ_ne_zero _ (congrArg Prod.fst (Option.some.inj h)).symm).elim
set_option maxHeartbeats 4000000 in
set_option maxRecDepth 100000 in
theorem x_X3_parseMap (l : Launch) (hst : l.stackTraces = false) (D : va_G) (cI cJ cZ cMic cSrc cSt cAI cAJ : ClassId) (ad : Nat → Nat) (T : AT) (o : Nat) (a0 : Nat) {e1 : Nat} {r1 : Int32} {T1 : AT} (h : g_X3_parseMap T o a0 = some (e1 + 1, r1, T1)) : kXv l yX3_parseMap (Cond.code yX3_parseMap cX3_parseMap 4 none :: wsA) 9 148 cI cJ cZ cMic cSrc cSt cAI cAJ D ad T [.ref (ad o), .ref (ad a0)] e1 T1 := by
  intro sz
  refine vx_ofW (cc := cX3_parseMap) (maxL := 4) (ret := none) (by decide) rfl ?_
  intro p e s m args below meth c s₁ B hml htab hv
  obtain ⟨rfl, hsz, hP, hK, hD0, hX, hN⟩ := hv
  have hx := B.exec
  have hb := B.bytes
  have hr := B.returns
  have hts := atoms_spec (ws := (Cond.code yX3_parseMap cX3_parseMap 4 none :: wsA)) B.pre
  have hown : s.vm.findClass RX3 = some m.cls := findClass_of_methodNamed B.named
  have hlocks := B.notSynchronized
  subst hsz
  have hD := hD0.self (sz := s.heap.size)
  generalize hAe : va_A (cW ad T.1 (cc cI cJ cZ cMic cSrc cSt cAI cAJ ad T)) s.heap.size = A at hD hX ⊢
  have hA : ∀ q : Nat, s.heap.size ≤ q → A q := fun q h => by rw [← hAe]; exact Or.inr h
  have G : gC cI cJ cZ cMic cSrc cSt cAI cAJ D ad A s.heap s.heap [] T := ⟨hP, hD, va_S.rf⟩
  have E : cE p c cX3_parseMap s m ([.ref (ad o), .ref (ad a0)] : List Value).toArray (Cond.code yX3_parseMap cX3_parseMap 4 none :: wsA) D RX3 (CT cI cJ cZ cMic cSrc cSt cAI cAJ) := ⟨hx, hb, hts, hown, hK⟩
  have htab : ∀ x ∈ c.exceptionTable.toList, False := fun x hx => htab x hx
  have hl := lv_entry ([.ref (ad o), .ref (ad a0)]) (n := 4) (Nat.le_of_ble_eq_true rfl)
  rw [lg_entry_eq]
  generalize (lg_sl ([.ref (ad o), .ref (ad a0)]) ++ List.replicate (4 - (lg_sl ([.ref (ad o), .ref (ad a0)])).length) Slot.unset).toArray = ls at hl ⊢
  have hl : lv_has ls 4 [(0, .ref (ad o)), (1, .ref (ad a0))] := hl
  unfold g_X3_parseMap at h
  refine lv_aload_n hx hb dX3_parseMap_0 rfl (lv_at hl 0 rfl) ?_
  refine lv_aload_n hx hb dX3_parseMap_1 rfl (lv_at hl 1 rfl) ?_
  obtain ⟨g2, h⟩ := oif_some h
  refine c_get E G a0 3 (oO_k g2).1 (cc_o1 (oO_k g2).2) rfl (fun w h => .tail _ (iA_15 h)) (by decide) (.tail _ qA_180) rfl rfl dX3_parseMap_2 ?_
  refine lv_topi (fun v3 ev3 => ?_)
  have h := elet_at ev3 h
  clear ev3
  refine lv_if_le (tgt := 12) hx hb dX3_parseMap_5 (by decide) (fun c4 => ?_) (fun c4 => ?_)
  · have h := oif_pos c4 h
    refine lv_iconst (v := 0) hx hb dX3_parseMap_12 (by decide) ?_
    have hl := lv_sub hl [0, 1] rfl
    exact x_X3_parseMap_b13 E hA hX hN hml trivial hst htab hlocks (fun H locs t G hvm h1 h2 => ⟨T1, trivial, ⟨⟨rfl, rfl⟩, (c_thrown G hK hvm h1 h2).1⟩, (c_thrown G hK hvm h1 h2).2⟩) _ _ _ _ _ _ _ _ h G hl
  · have h := oif_neg c4 h
    refine lv_iconst (v := 1) hx hb dX3_parseMap_8 (by decide) ?_
    refine lv_goto (tgt := 13) hx hb dX3_parseMap_9 (by decide) ?_
    have hl := lv_sub hl [0, 1] rfl
    exact x_X3_parseMap_b13 E hA hX hN hml trivial hst htab hlocks (fun H locs t G hvm h1 h2 => ⟨T1, trivial, ⟨⟨rfl, rfl⟩, (c_thrown G hK hvm h1 h2).1⟩, (c_thrown G hK hvm h1 h2).2⟩) _ _ _ _ _ _ _ _ h G hl
def g_X3_parseMic_b15  (T : AT) (s0 : Int32) (s1 : Nat) (l0 : Nat) (l1 : Nat) : Option (Nat × Int32 × AT) := oif (oO T s1 3 = true) <| othr (g_X3_startLine T s1 s0 (4 : Int32)) 0 fun r5 T3 => oif (oO T3 l1 6 = true) <| obind (T3.2.2.2.2 l1 4) fun n8 => oif (oO T3 l1 6 = true) <| elet (T3.2.2.1 l1 5) fun v10 => oif (aA T3 n8 103 = true) <| oif (inb v10 (T3.2.1 n8).2 = true) <| obind (T3.2.2.2.2 n8 v10.toNatClampNeg) fun n13 => oif (oO T3 l0 3 = true) <| othr (g_X3_signed T3 l0 ((-500) : Int32) (500 : Int32)) 0 fun r17 T15 => oif (oO T15 n13 2 = true) <| elet (uI T15 n13 0 r17) fun T20 => oif (oO T20 l0 3 = true) <| othr (g_X3_signed T20 l0 ((-500) : Int32) (500 : Int32)) 0 fun r24 T22 => oif (oO T22 n13 2 = true) <| elet (uI T22 n13 1 r24) fun T27 => oif (oO T27 l0 3 = true) <| othr (g_X3_number T27 l0 (1 : Int32) (9 : Int32)) 0 fun r31 T29 => oif (oO T29 n13 2 = true) <| elet (uI T29 n13 2 r31) fun T34 => oif (oO T34 n13 2 = true) <| elet (uI T34 n13 3 0) fun T36 => oif (oO T36 l1 6 = true) <| elet (T36.2.2.1 l1 5) fun v38 => elet (v38 + 1) fun v39 => oif (oO T36 l1 6 = true) <| elet (uI T36 l1 5 v39) fun T41 => some (0, 0, T41)
set_option maxHeartbeats 4000000 in
set_option maxRecDepth 100000 in
theorem u_X3_parseMic_b15 {p : Program} {l : Launch} {e : Env} {s : State} {m : MethodId} {args : Array Value} {below : List Frame} {meth : Method} {c : Code} {Q : State → Prop} {D : va_G} {A : Nat → Prop} {cI cJ cZ cMic cSrc cSt cAI cAJ : ClassId} {ad : Nat → Nat} {r1 : Int32} {T1 : AT} (E : cE p c cX3_parseMic s m args (Cond.code yX3_parseMic cX3_parseMic 3 none :: wsA) D RX3 (CT cI cJ cZ cMic cSrc cSt cAI cAJ)) (hA : ∀ q : Nat, s.heap.size ≤ q → A q) (hX : xT A s) (hN : nX s) (hml : c.maxLocals = 3) (hst : l.stackTraces = false) (kr83 : ∀ (H : Heap) (locs : List Loc) (ls : Array Slot), gC cI cJ cZ cMic cSrc cSt cAI cAJ D ad A s.heap H locs T1 → W p l e { frames := 9, cells := 0, slots := 0, locals := 148 } s m args below meth c H locs 0 0 Q (F0 m 83 ls [])) : ∀ (T : AT) (H : Heap) (locs : List Loc) (ls : Array Slot) (s0 : Int32) (s1 : Nat) (l0 : Nat) (l1 : Nat), g_X3_parseMic_b15 T s0 s1 l0 l1 = some (0, r1, T1) → gC cI cJ cZ cMic cSrc cSt cAI cAJ D ad A s.heap H locs T → lv_has ls 3 [(0, .ref (ad l0)), (1, .ref (ad l1))] → W p l e { frames := 9, cells := 0, slots := 0, locals := 148 } s m args below meth c H locs 0 0 Q (F0 m 15 ls [.int s0, .ref (ad s1)]) := by
  have hx := E.1
  have hb := E.2.1
  have hts := E.2.2.1
  have hown := E.2.2.2.1
  have hK := E.2.2.2.2
  intro T H locs ls s0 s1 l0 l1 h G hl
  unfold g_X3_parseMic_b15 at h
  refine lv_iconst (v := 4) hx hb dX3_parseMic_15 (by decide) ?_
  obtain ⟨g2, h⟩ := oif_some h
  obtain ⟨r5, T3, eT3, h⟩ := othr_n h
  refine q_cvv (As := [.int s0, .int 4]) (rest := []) E G hA hX hN hml (u_X3_startLine l hst D cI cJ cZ cMic cSrc cSt cAI cAJ ad T s1 s0 (4 : Int32) eT3) (cwV 2 hts (gaV qA_321 qA_322 qA_323 qA_222 qA_324) rfl rfl rfl (by decide +kernel) ⟨Nat.le_of_ble_eq_true rfl, Nat.le_of_ble_eq_true rfl⟩) (oO_k g2).1 (cc_o3 (oO_k g2).2) rfl rfl hl.1 rfl (lv_room (Nat.le_of_ble_eq_true rfl)) dX3_parseMic_16 ⟨Nat.zero_le _, Nat.zero_le _⟩ (fun T4 H locs hq G => ?_)
  rw [hq] at G
  clear hq eT3
  refine lv_aload_n hx hb dX3_parseMic_19 rfl (lv_at hl 1 rfl) ?_
  obtain ⟨g7, h⟩ := oif_some h
  obtain ⟨n8, en8, h⟩ := obind_some h
  refine c_get E G l1 4 (v := .ref (ad n8)) (oO_k g7).1 (cc_o6 (oO_k g7).2) rfl (fun w h => .tail _ (iA_14 h)) (by decide) (.tail _ qA_316) rfl (by rw [en8]; rfl) dX3_parseMic_20 ?_
  clear en8
  refine lv_aload_n hx hb dX3_parseMic_23 rfl (lv_at hl 1 rfl) ?_
  obtain ⟨g9, h⟩ := oif_some h
  refine c_get E G l1 5 (oO_k g9).1 (cc_o6 (oO_k g9).2) rfl (fun w h => .tail _ (iA_14 h)) (by decide) (.tail _ qA_178) rfl rfl dX3_parseMic_24 ?_
  refine lv_topi (fun v10 ev10 => ?_)
  have h := elet_at ev10 h
  clear ev10
  obtain ⟨g11, h⟩ := oif_some h
  obtain ⟨g12, h⟩ := oif_some h
  obtain ⟨n13, en13, h⟩ := obind_some h
  refine c_aldq E G n8 3 (k := v10.toNatClampNeg) (v := .ref (ad n13)) (aA_k g11).1 (cc_a103 (aA_k g11).2.1) rfl (inb_k g12).1 (inb_k g12).2 (aA_k g11).2.2 (by show va_rf ((T3.2.2.2.2 n8 v10.toNatClampNeg).map ad) = _; rw [en13]; rfl) dX3_parseMic_27 ?_
  clear en13
  refine lv_astore_n (lv' := [(2, .ref (ad n13)), (0, .ref (ad l0)), (1, .ref (ad l1))]) hx hb dX3_parseMic_28 rfl hl (by decide) rfl (fun ls hl => ?_)
  refine lv_aload_n hx hb dX3_parseMic_29 rfl (lv_at hl 0 rfl) ?_
  refine lv_aload_n hx hb dX3_parseMic_30 rfl (lv_at hl 1 rfl) ?_
  refine lv_sipush (v := (-500)) hx hb dX3_parseMic_31 (by decide) ?_
  refine lv_sipush (v := 500) hx hb dX3_parseMic_34 (by decide) ?_
  obtain ⟨g14, h⟩ := oif_some h
  obtain ⟨r17, T15, eT15, h⟩ := othr_n h
  refine q_cvi (As := [.int (-500), .int 500]) (rest := [.ref (ad n13)]) E G hA hX hN hml (u_X3_signed l hst D cI cJ cZ cMic cSrc cSt cAI cAJ ad T3 l0 ((-500) : Int32) (500 : Int32) eT15) (cwV 2 hts (gaV qA_325 qA_326 qA_327 qA_222 qA_328) rfl rfl rfl (by decide +kernel) ⟨Nat.le_of_ble_eq_true rfl, Nat.le_of_ble_eq_true rfl⟩) (oO_k g14).1 (cc_o3 (oO_k g14).2) rfl rfl hl.1 rfl (lv_room (Nat.le_of_ble_eq_true rfl)) dX3_parseMic_37 ⟨Nat.zero_le _, Nat.zero_le _⟩ (fun q18 T16 H locs hq G => ?_)
  obtain ⟨hq1, hq2⟩ := hq
  rw [hq2] at G
  refine lv_to hq1 ?_
  clear hq1 hq2 eT15
  obtain ⟨g19, h⟩ := oif_some h
  refine c_put E G n13 0 (v := .int r17) (oO_k g19).1 (cc_o2 (oO_k g19).2) rfl (fun w h => .tail _ (iA_19 h)) tyX2 tyX2_ok nmX2 (by decide) (.tail _ qA_317) ⟨rfl, rfl, rfl⟩ rfl rfl (Nat.le_of_ble_eq_true rfl) dX3_parseMic_40 (fun H locs G => ?_)
  have G := gC_up_i (f := upd (T15.2.2.1 n13) 0 r17) (by rw [(oO_k g19).2]; rfl) G
  obtain ⟨T20, eT20, h⟩ := elet_some h
  have G : gC cI cJ cZ cMic cSrc cSt cAI cAJ D ad A s.heap H locs T20 := by rw [eT20]; exact G
  clear eT20
  refine lv_aload_n hx hb dX3_parseMic_43 rfl (lv_at hl 0 rfl) ?_
  refine lv_aload_n hx hb dX3_parseMic_44 rfl (lv_at hl 1 rfl) ?_
  refine lv_sipush (v := (-500)) hx hb dX3_parseMic_45 (by decide) ?_
  refine lv_sipush (v := 500) hx hb dX3_parseMic_48 (by decide) ?_
  obtain ⟨g21, h⟩ := oif_some h
  obtain ⟨r24, T22, eT22, h⟩ := othr_n h
  refine q_cvi (As := [.int (-500), .int 500]) (rest := [.ref (ad n13)]) E G hA hX hN hml (u_X3_signed l hst D cI cJ cZ cMic cSrc cSt cAI cAJ ad T20 l0 ((-500) : Int32) (500 : Int32) eT22) (cwV 2 hts (gaV qA_325 qA_326 qA_327 qA_222 qA_328) rfl rfl rfl (by decide +kernel) ⟨Nat.le_of_ble_eq_true rfl, Nat.le_of_ble_eq_true rfl⟩) (oO_k g21).1 (cc_o3 (oO_k g21).2) rfl rfl hl.1 rfl (lv_room (Nat.le_of_ble_eq_true rfl)) dX3_parseMic_51 ⟨Nat.zero_le _, Nat.zero_le _⟩ (fun q25 T23 H locs hq G => ?_)
  obtain ⟨hq1, hq2⟩ := hq
  rw [hq2] at G
  refine lv_to hq1 ?_
  clear hq1 hq2 eT22
  obtain ⟨g26, h⟩ := oif_some h
  refine c_put E G n13 1 (v := .int r24) (oO_k g26).1 (cc_o2 (oO_k g26).2) rfl (fun w h => .tail _ (iA_19 h)) tyX2 tyX2_ok nmX2 (by decide) (.tail _ qA_318) ⟨rfl, rfl, rfl⟩ rfl rfl (Nat.le_of_ble_eq_true rfl) dX3_parseMic_54 (fun H locs G => ?_)
  have G := gC_up_i (f := upd (T22.2.2.1 n13) 1 r24) (by rw [(oO_k g26).2]; rfl) G
  obtain ⟨T27, eT27, h⟩ := elet_some h
  have G : gC cI cJ cZ cMic cSrc cSt cAI cAJ D ad A s.heap H locs T27 := by rw [eT27]; exact G
  clear eT27
  refine lv_aload_n hx hb dX3_parseMic_57 rfl (lv_at hl 0 rfl) ?_
  refine lv_aload_n hx hb dX3_parseMic_58 rfl (lv_at hl 1 rfl) ?_
  refine lv_iconst (v := 1) hx hb dX3_parseMic_59 (by decide) ?_
  refine lv_bipush (v := 9) hx hb dX3_parseMic_60 (by decide) ?_
  obtain ⟨g28, h⟩ := oif_some h
  obtain ⟨r31, T29, eT29, h⟩ := othr_n h
  refine q_cvi (As := [.int 1, .int 9]) (rest := [.ref (ad n13)]) E G hA hX hN hml (u_X3_number l hst D cI cJ cZ cMic cSrc cSt cAI cAJ ad T27 l0 (1 : Int32) (9 : Int32) eT29) (cwV 2 hts (gaV qA_299 qA_300 qA_301 qA_222 qA_302) rfl rfl rfl (by decide +kernel) ⟨Nat.le_of_ble_eq_true rfl, Nat.le_of_ble_eq_true rfl⟩) (oO_k g28).1 (cc_o3 (oO_k g28).2) rfl rfl hl.1 rfl (lv_room (Nat.le_of_ble_eq_true rfl)) dX3_parseMic_62 ⟨Nat.zero_le _, Nat.zero_le _⟩ (fun q32 T30 H locs hq G => ?_)
  obtain ⟨hq1, hq2⟩ := hq
  rw [hq2] at G
  refine lv_to hq1 ?_
  clear hq1 hq2 eT29
  obtain ⟨g33, h⟩ := oif_some h
  refine c_put E G n13 2 (v := .int r31) (oO_k g33).1 (cc_o2 (oO_k g33).2) rfl (fun w h => .tail _ (iA_19 h)) tyX2 tyX2_ok nmX2 (by decide) (.tail _ qA_319) ⟨rfl, rfl, rfl⟩ rfl rfl (Nat.le_of_ble_eq_true rfl) dX3_parseMic_65 (fun H locs G => ?_)
  have G := gC_up_i (f := upd (T29.2.2.1 n13) 2 r31) (by rw [(oO_k g33).2]; rfl) G
  obtain ⟨T34, eT34, h⟩ := elet_some h
  have G : gC cI cJ cZ cMic cSrc cSt cAI cAJ D ad A s.heap H locs T34 := by rw [eT34]; exact G
  clear eT34
  refine lv_aload_n hx hb dX3_parseMic_68 rfl (lv_at hl 0 rfl) ?_
  refine lv_iconst (v := 0) hx hb dX3_parseMic_69 (by decide) ?_
  obtain ⟨g35, h⟩ := oif_some h
  refine c_put E G n13 3 (v := .int 0) (oO_k g35).1 (cc_o2 (oO_k g35).2) rfl (fun w h => .tail _ (iA_19 h)) tyX2 tyX2_ok nmX2 (by decide) (.tail _ qA_320) ⟨rfl, rfl, rfl⟩ rfl rfl (Nat.le_of_ble_eq_true rfl) dX3_parseMic_70 (fun H locs G => ?_)
  have G := gC_up_i (f := upd (T34.2.2.1 n13) 3 0) (by rw [(oO_k g35).2]; rfl) G
  obtain ⟨T36, eT36, h⟩ := elet_some h
  have G : gC cI cJ cZ cMic cSrc cSt cAI cAJ D ad A s.heap H locs T36 := by rw [eT36]; exact G
  clear eT36
  refine lv_aload_n hx hb dX3_parseMic_73 rfl (lv_at hl 2 rfl) ?_
  refine lv_dup hx hb dX3_parseMic_74 rfl ?_
  obtain ⟨g37, h⟩ := oif_some h
  refine c_get E G l1 5 (oO_k g37).1 (cc_o6 (oO_k g37).2) rfl (fun w h => .tail _ (iA_14 h)) (by decide) (.tail _ qA_178) rfl rfl dX3_parseMic_75 ?_
  refine lv_topi (fun v38 ev38 => ?_)
  have h := elet_at ev38 h
  clear ev38
  refine lv_iconst (v := 1) hx hb dX3_parseMic_78 (by decide) ?_
  refine lv_iadd hx hb dX3_parseMic_79 ?_
  refine lv_topi (fun v39 ev39 => ?_)
  have h := elet_at ev39 h
  clear ev39
  obtain ⟨g40, h⟩ := oif_some h
  refine c_put E G l1 5 (v := .int v39) (oO_k g40).1 (cc_o6 (oO_k g40).2) rfl (fun w h => .tail _ (iA_14 h)) tyX6 tyX6_ok nmX6 (by decide) (.tail _ qA_178) ⟨rfl, rfl, rfl⟩ rfl rfl (Nat.le_of_ble_eq_true rfl) dX3_parseMic_80 (fun H locs G => ?_)
  have G := gC_up_i (f := upd (T36.2.2.1 l1) 5 v39) (by rw [(oO_k g40).2]; rfl) G
  obtain ⟨T41, eT41, h⟩ := elet_some h
  have G : gC cI cJ cZ cMic cSrc cSt cAI cAJ D ad A s.heap H locs T41 := by rw [eT41]; exact G
  clear eT41
  rw [(osome3 h).2.2] at G
  exact kr83 _ _ _ G
def g_X3_parseMic (T : AT) (o : Nat) (a0 : Nat) : Option (Nat × Int32 × AT) := oif (oO T a0 6 = true) <| elet (T.2.2.1 a0 5) fun v3 => if v3 < 12 then (g_X3_parseMic_b15 T 0 o o a0) else (g_X3_parseMic_b15 T 1 o o a0)
set_option maxHeartbeats 4000000 in
set_option maxRecDepth 100000 in
theorem u_X3_parseMic (l : Launch) (hst : l.stackTraces = false) (D : va_G) (cI cJ cZ cMic cSrc cSt cAI cAJ : ClassId) (ad : Nat → Nat) (T : AT) (o : Nat) (a0 : Nat) {r1 : Int32} {T1 : AT} (h : g_X3_parseMic T o a0 = some (0, r1, T1)) : kCv l yX3_parseMic (Cond.code yX3_parseMic cX3_parseMic 3 none :: wsA) 9 148 cI cJ cZ cMic cSrc cSt cAI cAJ D ad T [.ref (ad o), .ref (ad a0)] (fun T9 => T9 = T1) := by
  intro sz
  refine Met.ofW (cc := cX3_parseMic) (maxL := 3) (ret := none) (by decide) rfl ?_
  intro p e s m args below meth c s₁ B hml hv
  obtain ⟨rfl, hsz, hP, hK, hD0, hX, hN⟩ := hv
  have hx := B.exec
  have hb := B.bytes
  have hr := B.returns
  have hts := atoms_spec (ws := (Cond.code yX3_parseMic cX3_parseMic 3 none :: wsA)) B.pre
  have hown : s.vm.findClass RX3 = some m.cls := findClass_of_methodNamed B.named
  have hlocks := B.notSynchronized
  subst hsz
  have hD := hD0.self (sz := s.heap.size)
  generalize hAe : va_A (cW ad T.1 (cc cI cJ cZ cMic cSrc cSt cAI cAJ ad T)) s.heap.size = A at hD hX ⊢
  have hA : ∀ q : Nat, s.heap.size ≤ q → A q := fun q h => by rw [← hAe]; exact Or.inr h
  have G : gC cI cJ cZ cMic cSrc cSt cAI cAJ D ad A s.heap s.heap [] T := ⟨hP, hD, va_S.rf⟩
  have E : cE p c cX3_parseMic s m ([.ref (ad o), .ref (ad a0)] : List Value).toArray (Cond.code yX3_parseMic cX3_parseMic 3 none :: wsA) D RX3 (CT cI cJ cZ cMic cSrc cSt cAI cAJ) := ⟨hx, hb, hts, hown, hK⟩
  have hl := lv_entry ([.ref (ad o), .ref (ad a0)]) (n := 3) (Nat.le_of_ble_eq_true rfl)
  rw [lg_entry_eq]
  generalize (lg_sl ([.ref (ad o), .ref (ad a0)]) ++ List.replicate (3 - (lg_sl ([.ref (ad o), .ref (ad a0)])).length) Slot.unset).toArray = ls at hl ⊢
  have hl : lv_has ls 3 [(0, .ref (ad o)), (1, .ref (ad a0))] := hl
  unfold g_X3_parseMic at h
  refine lv_aload_n hx hb dX3_parseMic_0 rfl (lv_at hl 0 rfl) ?_
  refine lv_aload_n hx hb dX3_parseMic_1 rfl (lv_at hl 1 rfl) ?_
  obtain ⟨g2, h⟩ := oif_some h
  refine c_get E G a0 5 (oO_k g2).1 (cc_o6 (oO_k g2).2) rfl (fun w h => .tail _ (iA_14 h)) (by decide) (.tail _ qA_178) rfl rfl dX3_parseMic_2 ?_
  refine lv_topi (fun v3 ev3 => ?_)
  have h := elet_at ev3 h
  clear ev3
  refine lv_bipush (v := 12) hx hb dX3_parseMic_5 (by decide) ?_
  refine lv_icmp_lt (tgt := 14) hx hb dX3_parseMic_7 (by decide) (fun c4 => ?_) (fun c4 => ?_)
  · have h := oif_pos c4 h
    refine lv_iconst (v := 0) hx hb dX3_parseMic_14 (by decide) ?_
    have hl := lv_sub hl [0, 1] rfl
    exact u_X3_parseMic_b15 E hA hX hN hml hst (fun H locs ls G => W.vret hx hb hr (fun t ht hW => ⟨⟨T1, rfl, rfl, ⟨by rw [ht]; exact G.1, va_K.moved hW.alike hK, G.2.1⟩⟩, G.2.2.F ht⟩) G.2.2.2.2 dX3_parseMic_83) _ _ _ _ _ _ _ _ h G hl
  · have h := oif_neg c4 h
    refine lv_iconst (v := 1) hx hb dX3_parseMic_10 (by decide) ?_
    refine lv_goto (tgt := 15) hx hb dX3_parseMic_11 (by decide) ?_
    have hl := lv_sub hl [0, 1] rfl
    exact u_X3_parseMic_b15 E hA hX hN hml hst (fun H locs ls G => W.vret hx hb hr (fun t ht hW => ⟨⟨T1, rfl, rfl, ⟨by rw [ht]; exact G.1, va_K.moved hW.alike hK, G.2.1⟩⟩, G.2.2.F ht⟩) G.2.2.2.2 dX3_parseMic_83) _ _ _ _ _ _ _ _ h G hl
set_option maxHeartbeats 4000000 in
set_option maxRecDepth 100000 in
theorem s_X3_parseMic_b15 {e1 : Nat} {r1 : Int32} {T1 : AT} : ∀ (T : AT) (s0 : Int32) (s1 : Nat) (l0 : Nat) (l1 : Nat), g_X3_parseMic_b15 T s0 s1 l0 l1 = some (e1, r1, T1) → SP T T1 := by
  intro T s0 s1 l0 l1 h
  have p0 := SP.rf T
  unfold g_X3_parseMic_b15 at h
  obtain ⟨g2, h⟩ := oif_some h
  rcases othr_s h with ⟨k9, r9, e9, -⟩ | ⟨r4, T3, eT3, h⟩
  · exact SP.tr p0 (s_X3_startLine e9)
  have p1 : SP T T3 := SP.tr p0 (s_X3_startLine eT3)
  obtain ⟨g5, h⟩ := oif_some h
  obtain ⟨n6, en6, h⟩ := obind_some h
  obtain ⟨g7, h⟩ := oif_some h
  obtain ⟨v8, -, h⟩ := elet_some h
  obtain ⟨g9, h⟩ := oif_some h
  obtain ⟨g10, h⟩ := oif_some h
  obtain ⟨n11, en11, h⟩ := obind_some h
  obtain ⟨g12, h⟩ := oif_some h
  rcases othr_s h with ⟨k9, r9, e9, -⟩ | ⟨r14, T13, eT13, h⟩
  · exact SP.tr p1 (s_X3_signed e9)
  have p2 : SP T T13 := SP.tr p1 (s_X3_signed eT13)
  obtain ⟨g15, h⟩ := oif_some h
  obtain ⟨T16, eT16, h⟩ := elet_some h
  have p3 : SP T T16 := SP.tr p2 (by rw [eT16]; exact sp_uI)
  obtain ⟨g17, h⟩ := oif_some h
  rcases othr_s h with ⟨k9, r9, e9, -⟩ | ⟨r19, T18, eT18, h⟩
  · exact SP.tr p3 (s_X3_signed e9)
  have p4 : SP T T18 := SP.tr p3 (s_X3_signed eT18)
  obtain ⟨g20, h⟩ := oif_some h
  obtain ⟨T21, eT21, h⟩ := elet_some h
  have p5 : SP T T21 := SP.tr p4 (by rw [eT21]; exact sp_uI)
  obtain ⟨g22, h⟩ := oif_some h
  rcases othr_s h with ⟨k9, r9, e9, -⟩ | ⟨r24, T23, eT23, h⟩
  · exact SP.tr p5 (s_X3_number e9)
  have p6 : SP T T23 := SP.tr p5 (s_X3_number eT23)
  obtain ⟨g25, h⟩ := oif_some h
  obtain ⟨T26, eT26, h⟩ := elet_some h
  have p7 : SP T T26 := SP.tr p6 (by rw [eT26]; exact sp_uI)
  obtain ⟨g27, h⟩ := oif_some h
  obtain ⟨T28, eT28, h⟩ := elet_some h
  have p8 : SP T T28 := SP.tr p7 (by rw [eT28]; exact sp_uI)
  obtain ⟨g29, h⟩ := oif_some h
  obtain ⟨v30, -, h⟩ := elet_some h
  obtain ⟨v31, -, h⟩ := elet_some h
  obtain ⟨g32, h⟩ := oif_some h
  obtain ⟨T33, eT33, h⟩ := elet_some h
  have p9 : SP T T33 := SP.tr p8 (by rw [eT33]; exact sp_uI)
  rw [← (osome3 h).2.2]
  exact p9
set_option maxHeartbeats 4000000 in
set_option maxRecDepth 100000 in
theorem s_X3_parseMic {T : AT} {o : Nat} {a0 : Nat} {e1 : Nat} {r1 : Int32} {T1 : AT} (h : g_X3_parseMic T o a0 = some (e1, r1, T1)) : SP T T1 := by
  have p0 := SP.rf T
  unfold g_X3_parseMic at h
  obtain ⟨g2, h⟩ := oif_some h
  obtain ⟨v3, -, h⟩ := elet_some h
  rcases oif_or h with ⟨c4, h⟩ | ⟨c4, h⟩
  · have h := h
    exact SP.tr p0 (s_X3_parseMic_b15 _ _ _ _ _ h)
  · have h := h
    exact SP.tr p0 (s_X3_parseMic_b15 _ _ _ _ _ h)
set_option maxHeartbeats 4000000 in
set_option maxRecDepth 100000 in
theorem x_X3_parseMic_b15 {p : Program} {l : Launch} {e : Env} {s : State} {m : MethodId} {args : Array Value} {below : List Frame} {meth : Method} {c : Code} {Qc : Array Value → State → Outcome → State → Prop} {XC : String → State → State → Prop} {D : va_G} {A : Nat → Prop} {cI cJ cZ cMic cSrc cSt cAI cAJ : ClassId} {ad : Nat → Nat} {e1 : Nat} {r1 : Int32} {T1 : AT} (E : cE p c cX3_parseMic s m args (Cond.code yX3_parseMic cX3_parseMic 3 none :: wsA) D RX3 (CT cI cJ cZ cMic cSrc cSt cAI cAJ)) (hA : ∀ q : Nat, s.heap.size ≤ q → A q) (hX : xT A s) (hN : nX s) (hml : c.maxLocals = 3) (hz9 : True) (hst : l.stackTraces = false) (htab : ∀ x ∈ c.exceptionTable.toList, False) (hlocks : meth.locks = false) (kx : ∀ (H : Heap) (locs : List Loc) (t : State), gC cI cJ cZ cMic cSrc cSt cAI cAJ D ad A s.heap H locs T1 → s.vm.Alike t.vm → H.size ≤ t.heap.size → (∀ q, q < H.size → t.heap[q]? = H[q]?) → XC (exn e1) s t) : ∀ (T : AT) (H : Heap) (locs : List Loc) (ls : Array Slot) (s0 : Int32) (s1 : Nat) (l0 : Nat) (l1 : Nat), g_X3_parseMic_b15 T s0 s1 l0 l1 = some (e1 + 1, r1, T1) → gC cI cJ cZ cMic cSrc cSt cAI cAJ D ad A s.heap H locs T → lv_has ls 3 [(0, .ref (ad l0)), (1, .ref (ad l1))] → W p l e { frames := 9, cells := 1, slots := 6, locals := 148 } s m args below meth c H locs 0 0 (vx_MQ below Qc XC args s 1 6 A) (F0 m 15 ls [.int s0, .ref (ad s1)]) := by
  have hx := E.1
  have hb := E.2.1
  have hts := E.2.2.1
  have hown := E.2.2.2.1
  have hK := E.2.2.2.2
  intro T H locs ls s0 s1 l0 l1 h G hl
  unfold g_X3_parseMic_b15 at h
  refine lv_iconst (v := 4) hx hb dX3_parseMic_15 (by decide) ?_
  obtain ⟨g2, h⟩ := oif_some h
  rcases othr_t h with ⟨r0, eT3⟩ | ⟨r5, T3, eT3, h⟩
  · refine q_xvv (As := [.int s0, .int 4]) (rest := []) E G hA hX hN hml (x_X3_startLine l hst D cI cJ cZ cMic cSrc cSt cAI cAJ ad T s1 s0 (4 : Int32) eT3) (cwV 2 hts (gaV qA_321 qA_322 qA_323 qA_222 qA_324) rfl rfl rfl (by decide +kernel) ⟨Nat.le_of_ble_eq_true rfl, Nat.le_of_ble_eq_true rfl⟩) (oO_k g2).1 (cc_o3 (oO_k g2).2) rfl rfl hl.1 rfl (lv_room (Nat.le_of_ble_eq_true rfl)) dX3_parseMic_16 ⟨Nat.le_of_ble_eq_true rfl, Nat.le_of_ble_eq_true rfl⟩ (fun E9 ce q9 T9 H locs hp G hce hcv hcl => ?_)
    obtain ⟨hE, hT⟩ := hp
    subst hE
    rw [hT] at G
    exact vx_out (fun x hx => (htab x hx).elim) hlocks hce hcv hcl (fun t ht hvm => kx _ _ _ G hvm (by rw [ht]; exact Nat.le_refl _) (fun q hq => by rw [ht])) G.2.2.2.2 (Nat.le_refl _) (Nat.le_refl _)
  refine q_cvv (As := [.int s0, .int 4]) (rest := []) E G hA hX hN hml (u_X3_startLine l hst D cI cJ cZ cMic cSrc cSt cAI cAJ ad T s1 s0 (4 : Int32) eT3) (cwV 2 hts (gaV qA_321 qA_322 qA_323 qA_222 qA_324) rfl rfl rfl (by decide +kernel) ⟨Nat.le_of_ble_eq_true rfl, Nat.le_of_ble_eq_true rfl⟩) (oO_k g2).1 (cc_o3 (oO_k g2).2) rfl rfl hl.1 rfl (lv_room (Nat.le_of_ble_eq_true rfl)) dX3_parseMic_16 ⟨Nat.zero_le _, Nat.zero_le _⟩ (fun T4 H locs hq G => ?_)
  rw [hq] at G
  clear hq eT3
  refine lv_aload_n hx hb dX3_parseMic_19 rfl (lv_at hl 1 rfl) ?_
  obtain ⟨g7, h⟩ := oif_some h
  obtain ⟨n8, en8, h⟩ := obind_some h
  refine c_get E G l1 4 (v := .ref (ad n8)) (oO_k g7).1 (cc_o6 (oO_k g7).2) rfl (fun w h => .tail _ (iA_14 h)) (by decide) (.tail _ qA_316) rfl (by rw [en8]; rfl) dX3_parseMic_20 ?_
  clear en8
  refine lv_aload_n hx hb dX3_parseMic_23 rfl (lv_at hl 1 rfl) ?_
  obtain ⟨g9, h⟩ := oif_some h
  refine c_get E G l1 5 (oO_k g9).1 (cc_o6 (oO_k g9).2) rfl (fun w h => .tail _ (iA_14 h)) (by decide) (.tail _ qA_178) rfl rfl dX3_parseMic_24 ?_
  refine lv_topi (fun v10 ev10 => ?_)
  have h := elet_at ev10 h
  clear ev10
  obtain ⟨g11, h⟩ := oif_some h
  obtain ⟨g12, h⟩ := oif_some h
  obtain ⟨n13, en13, h⟩ := obind_some h
  refine c_aldq E G n8 3 (k := v10.toNatClampNeg) (v := .ref (ad n13)) (aA_k g11).1 (cc_a103 (aA_k g11).2.1) rfl (inb_k g12).1 (inb_k g12).2 (aA_k g11).2.2 (by show va_rf ((T3.2.2.2.2 n8 v10.toNatClampNeg).map ad) = _; rw [en13]; rfl) dX3_parseMic_27 ?_
  clear en13
  refine lv_astore_n (lv' := [(2, .ref (ad n13)), (0, .ref (ad l0)), (1, .ref (ad l1))]) hx hb dX3_parseMic_28 rfl hl (by decide) rfl (fun ls hl => ?_)
  refine lv_aload_n hx hb dX3_parseMic_29 rfl (lv_at hl 0 rfl) ?_
  refine lv_aload_n hx hb dX3_parseMic_30 rfl (lv_at hl 1 rfl) ?_
  refine lv_sipush (v := (-500)) hx hb dX3_parseMic_31 (by decide) ?_
  refine lv_sipush (v := 500) hx hb dX3_parseMic_34 (by decide) ?_
  obtain ⟨g14, h⟩ := oif_some h
  rcases othr_t h with ⟨r0, eT15⟩ | ⟨r17, T15, eT15, h⟩
  · refine q_xvi (As := [.int (-500), .int 500]) (rest := [.ref (ad n13)]) E G hA hX hN hml (x_X3_signed l hst D cI cJ cZ cMic cSrc cSt cAI cAJ ad T3 l0 ((-500) : Int32) (500 : Int32) eT15) (cwV 2 hts (gaV qA_325 qA_326 qA_327 qA_222 qA_328) rfl rfl rfl (by decide +kernel) ⟨Nat.le_of_ble_eq_true rfl, Nat.le_of_ble_eq_true rfl⟩) (oO_k g14).1 (cc_o3 (oO_k g14).2) rfl rfl hl.1 rfl (lv_room (Nat.le_of_ble_eq_true rfl)) dX3_parseMic_37 ⟨Nat.le_of_ble_eq_true rfl, Nat.le_of_ble_eq_true rfl⟩ (fun E9 ce q9 T9 H locs hp G hce hcv hcl => ?_)
    obtain ⟨hE, hT⟩ := hp
    subst hE
    rw [hT] at G
    exact vx_out (fun x hx => (htab x hx).elim) hlocks hce hcv hcl (fun t ht hvm => kx _ _ _ G hvm (by rw [ht]; exact Nat.le_refl _) (fun q hq => by rw [ht])) G.2.2.2.2 (Nat.le_refl _) (Nat.le_refl _)
  refine q_cvi (As := [.int (-500), .int 500]) (rest := [.ref (ad n13)]) E G hA hX hN hml (u_X3_signed l hst D cI cJ cZ cMic cSrc cSt cAI cAJ ad T3 l0 ((-500) : Int32) (500 : Int32) eT15) (cwV 2 hts (gaV qA_325 qA_326 qA_327 qA_222 qA_328) rfl rfl rfl (by decide +kernel) ⟨Nat.le_of_ble_eq_true rfl, Nat.le_of_ble_eq_true rfl⟩) (oO_k g14).1 (cc_o3 (oO_k g14).2) rfl rfl hl.1 rfl (lv_room (Nat.le_of_ble_eq_true rfl)) dX3_parseMic_37 ⟨Nat.zero_le _, Nat.zero_le _⟩ (fun q18 T16 H locs hq G => ?_)
  obtain ⟨hq1, hq2⟩ := hq
  rw [hq2] at G
  refine lv_to hq1 ?_
  clear hq1 hq2 eT15
  obtain ⟨g19, h⟩ := oif_some h
  refine c_put E G n13 0 (v := .int r17) (oO_k g19).1 (cc_o2 (oO_k g19).2) rfl (fun w h => .tail _ (iA_19 h)) tyX2 tyX2_ok nmX2 (by decide) (.tail _ qA_317) ⟨rfl, rfl, rfl⟩ rfl rfl (Nat.le_of_ble_eq_true rfl) dX3_parseMic_40 (fun H locs G => ?_)
  have G := gC_up_i (f := upd (T15.2.2.1 n13) 0 r17) (by rw [(oO_k g19).2]; rfl) G
  obtain ⟨T20, eT20, h⟩ := elet_some h
  have G : gC cI cJ cZ cMic cSrc cSt cAI cAJ D ad A s.heap H locs T20 := by rw [eT20]; exact G
  clear eT20
  refine lv_aload_n hx hb dX3_parseMic_43 rfl (lv_at hl 0 rfl) ?_
  refine lv_aload_n hx hb dX3_parseMic_44 rfl (lv_at hl 1 rfl) ?_
  refine lv_sipush (v := (-500)) hx hb dX3_parseMic_45 (by decide) ?_
  refine lv_sipush (v := 500) hx hb dX3_parseMic_48 (by decide) ?_
  obtain ⟨g21, h⟩ := oif_some h
  rcases othr_t h with ⟨r0, eT22⟩ | ⟨r24, T22, eT22, h⟩
  · refine q_xvi (As := [.int (-500), .int 500]) (rest := [.ref (ad n13)]) E G hA hX hN hml (x_X3_signed l hst D cI cJ cZ cMic cSrc cSt cAI cAJ ad T20 l0 ((-500) : Int32) (500 : Int32) eT22) (cwV 2 hts (gaV qA_325 qA_326 qA_327 qA_222 qA_328) rfl rfl rfl (by decide +kernel) ⟨Nat.le_of_ble_eq_true rfl, Nat.le_of_ble_eq_true rfl⟩) (oO_k g21).1 (cc_o3 (oO_k g21).2) rfl rfl hl.1 rfl (lv_room (Nat.le_of_ble_eq_true rfl)) dX3_parseMic_51 ⟨Nat.le_of_ble_eq_true rfl, Nat.le_of_ble_eq_true rfl⟩ (fun E9 ce q9 T9 H locs hp G hce hcv hcl => ?_)
    obtain ⟨hE, hT⟩ := hp
    subst hE
    rw [hT] at G
    exact vx_out (fun x hx => (htab x hx).elim) hlocks hce hcv hcl (fun t ht hvm => kx _ _ _ G hvm (by rw [ht]; exact Nat.le_refl _) (fun q hq => by rw [ht])) G.2.2.2.2 (Nat.le_refl _) (Nat.le_refl _)
  refine q_cvi (As := [.int (-500), .int 500]) (rest := [.ref (ad n13)]) E G hA hX hN hml (u_X3_signed l hst D cI cJ cZ cMic cSrc cSt cAI cAJ ad T20 l0 ((-500) : Int32) (500 : Int32) eT22) (cwV 2 hts (gaV qA_325 qA_326 qA_327 qA_222 qA_328) rfl rfl rfl (by decide +kernel) ⟨Nat.le_of_ble_eq_true rfl, Nat.le_of_ble_eq_true rfl⟩) (oO_k g21).1 (cc_o3 (oO_k g21).2) rfl rfl hl.1 rfl (lv_room (Nat.le_of_ble_eq_true rfl)) dX3_parseMic_51 ⟨Nat.zero_le _, Nat.zero_le _⟩ (fun q25 T23 H locs hq G => ?_)
  obtain ⟨hq1, hq2⟩ := hq
  rw [hq2] at G
  refine lv_to hq1 ?_
  clear hq1 hq2 eT22
  obtain ⟨g26, h⟩ := oif_some h
  refine c_put E G n13 1 (v := .int r24) (oO_k g26).1 (cc_o2 (oO_k g26).2) rfl (fun w h => .tail _ (iA_19 h)) tyX2 tyX2_ok nmX2 (by decide) (.tail _ qA_318) ⟨rfl, rfl, rfl⟩ rfl rfl (Nat.le_of_ble_eq_true rfl) dX3_parseMic_54 (fun H locs G => ?_)
  have G := gC_up_i (f := upd (T22.2.2.1 n13) 1 r24) (by rw [(oO_k g26).2]; rfl) G
  obtain ⟨T27, eT27, h⟩ := elet_some h
  have G : gC cI cJ cZ cMic cSrc cSt cAI cAJ D ad A s.heap H locs T27 := by rw [eT27]; exact G
  clear eT27
  refine lv_aload_n hx hb dX3_parseMic_57 rfl (lv_at hl 0 rfl) ?_
  refine lv_aload_n hx hb dX3_parseMic_58 rfl (lv_at hl 1 rfl) ?_
  refine lv_iconst (v := 1) hx hb dX3_parseMic_59 (by decide) ?_
  refine lv_bipush (v := 9) hx hb dX3_parseMic_60 (by decide) ?_
  obtain ⟨g28, h⟩ := oif_some h
  rcases othr_t h with ⟨r0, eT29⟩ | ⟨r31, T29, eT29, h⟩
  · refine q_xvi (As := [.int 1, .int 9]) (rest := [.ref (ad n13)]) E G hA hX hN hml (x_X3_number l hst D cI cJ cZ cMic cSrc cSt cAI cAJ ad T27 l0 (1 : Int32) (9 : Int32) eT29) (cwV 2 hts (gaV qA_299 qA_300 qA_301 qA_222 qA_302) rfl rfl rfl (by decide +kernel) ⟨Nat.le_of_ble_eq_true rfl, Nat.le_of_ble_eq_true rfl⟩) (oO_k g28).1 (cc_o3 (oO_k g28).2) rfl rfl hl.1 rfl (lv_room (Nat.le_of_ble_eq_true rfl)) dX3_parseMic_62 ⟨Nat.le_of_ble_eq_true rfl, Nat.le_of_ble_eq_true rfl⟩ (fun E9 ce q9 T9 H locs hp G hce hcv hcl => ?_)
    obtain ⟨hE, hT⟩ := hp
    subst hE
    rw [hT] at G
    exact vx_out (fun x hx => (htab x hx).elim) hlocks hce hcv hcl (fun t ht hvm => kx _ _ _ G hvm (by rw [ht]; exact Nat.le_refl _) (fun q hq => by rw [ht])) G.2.2.2.2 (Nat.le_refl _) (Nat.le_refl _)
  refine q_cvi (As := [.int 1, .int 9]) (rest := [.ref (ad n13)]) E G hA hX hN hml (u_X3_number l hst D cI cJ cZ cMic cSrc cSt cAI cAJ ad T27 l0 (1 : Int32) (9 : Int32) eT29) (cwV 2 hts (gaV qA_299 qA_300 qA_301 qA_222 qA_302) rfl rfl rfl (by decide +kernel) ⟨Nat.le_of_ble_eq_true rfl, Nat.le_of_ble_eq_true rfl⟩) (oO_k g28).1 (cc_o3 (oO_k g28).2) rfl rfl hl.1 rfl (lv_room (Nat.le_of_ble_eq_true rfl)) dX3_parseMic_62 ⟨Nat.zero_le _, Nat.zero_le _⟩ (fun q32 T30 H locs hq G => ?_)
  obtain ⟨hq1, hq2⟩ := hq
  rw [hq2] at G
  refine lv_to hq1 ?_
  clear hq1 hq2 eT29
  obtain ⟨g33, h⟩ := oif_some h
  refine c_put E G n13 2 (v := .int r31) (oO_k g33).1 (cc_o2 (oO_k g33).2) rfl (fun w h => .tail _ (iA_19 h)) tyX2 tyX2_ok nmX2 (by decide) (.tail _ qA_319) ⟨rfl, rfl, rfl⟩ rfl rfl (Nat.le_of_ble_eq_true rfl) dX3_parseMic_65 (fun H locs G => ?_)
  have G := gC_up_i (f := upd (T29.2.2.1 n13) 2 r31) (by rw [(oO_k g33).2]; rfl) G
  obtain ⟨T34, eT34, h⟩ := elet_some h
  have G : gC cI cJ cZ cMic cSrc cSt cAI cAJ D ad A s.heap H locs T34 := by rw [eT34]; exact G
  clear eT34
  refine lv_aload_n hx hb dX3_parseMic_68 rfl (lv_at hl 0 rfl) ?_
  refine lv_iconst (v := 0) hx hb dX3_parseMic_69 (by decide) ?_
  obtain ⟨g35, h⟩ := oif_some h
  refine c_put E G n13 3 (v := .int 0) (oO_k g35).1 (cc_o2 (oO_k g35).2) rfl (fun w h => .tail _ (iA_19 h)) tyX2 tyX2_ok nmX2 (by decide) (.tail _ qA_320) ⟨rfl, rfl, rfl⟩ rfl rfl (Nat.le_of_ble_eq_true rfl) dX3_parseMic_70 (fun H locs G => ?_)
  have G := gC_up_i (f := upd (T34.2.2.1 n13) 3 0) (by rw [(oO_k g35).2]; rfl) G
  obtain ⟨T36, eT36, h⟩ := elet_some h
  have G : gC cI cJ cZ cMic cSrc cSt cAI cAJ D ad A s.heap H locs T36 := by rw [eT36]; exact G
  clear eT36
  refine lv_aload_n hx hb dX3_parseMic_73 rfl (lv_at hl 2 rfl) ?_
  refine lv_dup hx hb dX3_parseMic_74 rfl ?_
  obtain ⟨g37, h⟩ := oif_some h
  refine c_get E G l1 5 (oO_k g37).1 (cc_o6 (oO_k g37).2) rfl (fun w h => .tail _ (iA_14 h)) (by decide) (.tail _ qA_178) rfl rfl dX3_parseMic_75 ?_
  refine lv_topi (fun v38 ev38 => ?_)
  have h := elet_at ev38 h
  clear ev38
  refine lv_iconst (v := 1) hx hb dX3_parseMic_78 (by decide) ?_
  refine lv_iadd hx hb dX3_parseMic_79 ?_
  refine lv_topi (fun v39 ev39 => ?_)
  have h := elet_at ev39 h
  clear ev39
  obtain ⟨g40, h⟩ := oif_some h
  refine c_put E G l1 5 (v := .int v39) (oO_k g40).1 (cc_o6 (oO_k g40).2) rfl (fun w h => .tail _ (iA_14 h)) tyX6 tyX6_ok nmX6 (by decide) (.tail _ qA_178) ⟨rfl, rfl, rfl⟩ rfl rfl (Nat.le_of_ble_eq_true rfl) dX3_parseMic_80 (fun H locs G => ?_)
  have G := gC_up_i (f := upd (T36.2.2.1 l1) 5 v39) (by rw [(oO_k g40).2]; rfl) G
  obtain ⟨T41, eT41, h⟩ := elet_some h
  have G : gC cI cJ cZ cMic cSrc cSt cAI cAJ D ad A s.heap H locs T41 := by rw [eT41]; exact G
  clear eT41
  exact (Nat.succ_ne_zero _ (congrArg Prod.fst (Option.some.inj h)).symm).elim
set_option maxHeartbeats 4000000 in
set_option maxRecDepth 100000 in
theorem x_X3_parseMic (l : Launch) (hst : l.stackTraces = false) (D : va_G) (cI cJ cZ cMic cSrc cSt cAI cAJ : ClassId) (ad : Nat → Nat) (T : AT) (o : Nat) (a0 : Nat) {e1 : Nat} {r1 : Int32} {T1 : AT} (h : g_X3_parseMic T o a0 = some (e1 + 1, r1, T1)) : kXv l yX3_parseMic (Cond.code yX3_parseMic cX3_parseMic 3 none :: wsA) 9 148 cI cJ cZ cMic cSrc cSt cAI cAJ D ad T [.ref (ad o), .ref (ad a0)] e1 T1 := by
  intro sz
  refine vx_ofW (cc := cX3_parseMic) (maxL := 3) (ret := none) (by decide) rfl ?_
  intro p e s m args below meth c s₁ B hml htab hv
  obtain ⟨rfl, hsz, hP, hK, hD0, hX, hN⟩ := hv
  have hx := B.exec
  have hb := B.bytes
  have hr := B.returns
  have hts := atoms_spec (ws := (Cond.code yX3_parseMic cX3_parseMic 3 none :: wsA)) B.pre
  have hown : s.vm.findClass RX3 = some m.cls := findClass_of_methodNamed B.named
  have hlocks := B.notSynchronized
  subst hsz
  have hD := hD0.self (sz := s.heap.size)
  generalize hAe : va_A (cW ad T.1 (cc cI cJ cZ cMic cSrc cSt cAI cAJ ad T)) s.heap.size = A at hD hX ⊢
  have hA : ∀ q : Nat, s.heap.size ≤ q → A q := fun q h => by rw [← hAe]; exact Or.inr h
  have G : gC cI cJ cZ cMic cSrc cSt cAI cAJ D ad A s.heap s.heap [] T := ⟨hP, hD, va_S.rf⟩
  have E : cE p c cX3_parseMic s m ([.ref (ad o), .ref (ad a0)] : List Value).toArray (Cond.code yX3_parseMic cX3_parseMic 3 none :: wsA) D RX3 (CT cI cJ cZ cMic cSrc cSt cAI cAJ) := ⟨hx, hb, hts, hown, hK⟩
  have htab : ∀ x ∈ c.exceptionTable.toList, False := fun x hx => htab x hx
  have hl := lv_entry ([.ref (ad o), .ref (ad a0)]) (n := 3) (Nat.le_of_ble_eq_true rfl)
  rw [lg_entry_eq]
  generalize (lg_sl ([.ref (ad o), .ref (ad a0)]) ++ List.replicate (3 - (lg_sl ([.ref (ad o), .ref (ad a0)])).length) Slot.unset).toArray = ls at hl ⊢
  have hl : lv_has ls 3 [(0, .ref (ad o)), (1, .ref (ad a0))] := hl
  unfold g_X3_parseMic at h
  refine lv_aload_n hx hb dX3_parseMic_0 rfl (lv_at hl 0 rfl) ?_
  refine lv_aload_n hx hb dX3_parseMic_1 rfl (lv_at hl 1 rfl) ?_
  obtain ⟨g2, h⟩ := oif_some h
  refine c_get E G a0 5 (oO_k g2).1 (cc_o6 (oO_k g2).2) rfl (fun w h => .tail _ (iA_14 h)) (by decide) (.tail _ qA_178) rfl rfl dX3_parseMic_2 ?_
  refine lv_topi (fun v3 ev3 => ?_)
  have h := elet_at ev3 h
  clear ev3
  refine lv_bipush (v := 12) hx hb dX3_parseMic_5 (by decide) ?_
  refine lv_icmp_lt (tgt := 14) hx hb dX3_parseMic_7 (by decide) (fun c4 => ?_) (fun c4 => ?_)
  · have h := oif_pos c4 h
    refine lv_iconst (v := 0) hx hb dX3_parseMic_14 (by decide) ?_
    have hl := lv_sub hl [0, 1] rfl
    exact x_X3_parseMic_b15 E hA hX hN hml trivial hst htab hlocks (fun H locs t G hvm h1 h2 => ⟨T1, trivial, ⟨⟨rfl, rfl⟩, (c_thrown G hK hvm h1 h2).1⟩, (c_thrown G hK hvm h1 h2).2⟩) _ _ _ _ _ _ _ _ h G hl
  · have h := oif_neg c4 h
    refine lv_iconst (v := 1) hx hb dX3_parseMic_10 (by decide) ?_
    refine lv_goto (tgt := 15) hx hb dX3_parseMic_11 (by decide) ?_
    have hl := lv_sub hl [0, 1] rfl
    exact x_X3_parseMic_b15 E hA hX hN hml trivial hst htab hlocks (fun H locs t G hvm h1 h2 => ⟨T1, trivial, ⟨⟨rfl, rfl⟩, (c_thrown G hK hvm h1 h2).1⟩, (c_thrown G hK hvm h1 h2).2⟩) _ _ _ _ _ _ _ _ h G hl
def g_X3_parseLine_b209  (T : AT)  : Option (Nat × Int32 × AT) := some (0, 0, T)
set_option maxHeartbeats 4000000 in
set_option maxRecDepth 100000 in
theorem u_X3_parseLine_b209 {p : Program} {l : Launch} {e : Env} {s : State} {m : MethodId} {args : Array Value} {below : List Frame} {meth : Method} {c : Code} {Q : State → Prop} {D : va_G} {A : Nat → Prop} {cI cJ cZ cMic cSrc cSt cAI cAJ : ClassId} {ad : Nat → Nat} {r1 : Int32} {T1 : AT} (E : cE p c cX3_parseLine s m args (Cond.code yX3_parseLine cX3_parseLine 2 none :: wsA) D RX3 (CT cI cJ cZ cMic cSrc cSt cAI cAJ)) (hA : ∀ q : Nat, s.heap.size ≤ q → A q) (hX : xT A s) (hN : nX s) (hml : c.maxLocals = 2) (hst : l.stackTraces = false) {h0 : Nat} (hA0 : ∀ a : Nat, A a → h0 ≤ a) (hT : sAll h0 s) (kr209 : ∀ (H : Heap) (locs : List Loc) (ls : Array Slot), gC cI cJ cZ cMic cSrc cSt cAI cAJ D ad A s.heap H locs T1 → W p l e { frames := 10, cells := 0, slots := 0, locals := 171 } s m args below meth c H locs 0 0 Q (F0 m 209 ls [])) : ∀ (T : AT) (H : Heap) (locs : List Loc) (ls : Array Slot), g_X3_parseLine_b209 T = some (0, r1, T1) → gC cI cJ cZ cMic cSrc cSt cAI cAJ D ad A s.heap H locs T → lv_has ls 2 [] → W p l e { frames := 10, cells := 0, slots := 0, locals := 171 } s m args below meth c H locs 0 0 Q (F0 m 209 ls []) := by
  have hx := E.1
  have hb := E.2.1
  have hts := E.2.2.1
  have hown := E.2.2.2.1
  have hK := E.2.2.2.2
  intro T H locs ls h G hl
  unfold g_X3_parseLine_b209 at h
  rw [(osome3 h).2.2] at G
  exact kr209 _ _ _ G
def g_X3_parseLine_b93  (T : AT) (s0 : Int32) (s1 : Nat) (l0 : Nat) (l1 : Nat) : Option (Nat × Int32 × AT) := oif (oO T s1 3 = true) <| othr (g_X3_startLine T s1 s0 (3 : Int32)) 0 fun r5 T3 => oif (oO T3 l0 3 = true) <| othr (g_X3_number T3 l0 (1 : Int32) (999 : Int32)) 0 fun r10 T8 => oif (oO T8 l1 6 = true) <| elet (uI T8 l1 12 r10) fun T13 => g_X3_parseLine_b209 T13
set_option maxHeartbeats 4000000 in
set_option maxRecDepth 100000 in
theorem u_X3_parseLine_b93 {p : Program} {l : Launch} {e : Env} {s : State} {m : MethodId} {args : Array Value} {below : List Frame} {meth : Method} {c : Code} {Q : State → Prop} {D : va_G} {A : Nat → Prop} {cI cJ cZ cMic cSrc cSt cAI cAJ : ClassId} {ad : Nat → Nat} {r1 : Int32} {T1 : AT} (E : cE p c cX3_parseLine s m args (Cond.code yX3_parseLine cX3_parseLine 2 none :: wsA) D RX3 (CT cI cJ cZ cMic cSrc cSt cAI cAJ)) (hA : ∀ q : Nat, s.heap.size ≤ q → A q) (hX : xT A s) (hN : nX s) (hml : c.maxLocals = 2) (hst : l.stackTraces = false) {h0 : Nat} (hA0 : ∀ a : Nat, A a → h0 ≤ a) (hT : sAll h0 s) (kr209 : ∀ (H : Heap) (locs : List Loc) (ls : Array Slot), gC cI cJ cZ cMic cSrc cSt cAI cAJ D ad A s.heap H locs T1 → W p l e { frames := 10, cells := 0, slots := 0, locals := 171 } s m args below meth c H locs 0 0 Q (F0 m 209 ls [])) : ∀ (T : AT) (H : Heap) (locs : List Loc) (ls : Array Slot) (s0 : Int32) (s1 : Nat) (l0 : Nat) (l1 : Nat), g_X3_parseLine_b93 T s0 s1 l0 l1 = some (0, r1, T1) → gC cI cJ cZ cMic cSrc cSt cAI cAJ D ad A s.heap H locs T → lv_has ls 2 [(0, .ref (ad l0)), (1, .ref (ad l1))] → W p l e { frames := 10, cells := 0, slots := 0, locals := 171 } s m args below meth c H locs 0 0 Q (F0 m 93 ls [.int s0, .ref (ad s1)]) := by
  have hx := E.1
  have hb := E.2.1
  have hts := E.2.2.1
  have hown := E.2.2.2.1
  have hK := E.2.2.2.2
  intro T H locs ls s0 s1 l0 l1 h G hl
  unfold g_X3_parseLine_b93 at h
  refine lv_iconst (v := 3) hx hb dX3_parseLine_93 (by decide) ?_
  obtain ⟨g2, h⟩ := oif_some h
  obtain ⟨r5, T3, eT3, h⟩ := othr_n h
  refine q_cvv (As := [.int s0, .int 3]) (rest := []) E G hA hX hN hml (u_X3_startLine l hst D cI cJ cZ cMic cSrc cSt cAI cAJ ad T s1 s0 (3 : Int32) eT3) (cwV 2 hts (gaV qA_321 qA_322 qA_323 qA_222 qA_324) rfl rfl rfl (by decide +kernel) ⟨Nat.le_of_ble_eq_true rfl, Nat.le_of_ble_eq_true rfl⟩) (oO_k g2).1 (cc_o3 (oO_k g2).2) rfl rfl hl.1 rfl (lv_room (Nat.le_of_ble_eq_true rfl)) dX3_parseLine_94 ⟨Nat.zero_le _, Nat.zero_le _⟩ (fun T4 H locs hq G => ?_)
  rw [hq] at G
  clear hq eT3
  refine lv_aload_n hx hb dX3_parseLine_97 rfl (lv_at hl 1 rfl) ?_
  refine lv_aload_n hx hb dX3_parseLine_98 rfl (lv_at hl 0 rfl) ?_
  refine lv_iconst (v := 1) hx hb dX3_parseLine_99 (by decide) ?_
  refine lv_sipush (v := 999) hx hb dX3_parseLine_100 (by decide) ?_
  obtain ⟨g7, h⟩ := oif_some h
  obtain ⟨r10, T8, eT8, h⟩ := othr_n h
  refine q_cvi (As := [.int 1, .int 999]) (rest := [.ref (ad l1)]) E G hA hX hN hml (u_X3_number l hst D cI cJ cZ cMic cSrc cSt cAI cAJ ad T3 l0 (1 : Int32) (999 : Int32) eT8) (cwV 2 hts (gaV qA_299 qA_300 qA_301 qA_222 qA_302) rfl rfl rfl (by decide +kernel) ⟨Nat.le_of_ble_eq_true rfl, Nat.le_of_ble_eq_true rfl⟩) (oO_k g7).1 (cc_o3 (oO_k g7).2) rfl rfl hl.1 rfl (lv_room (Nat.le_of_ble_eq_true rfl)) dX3_parseLine_103 ⟨Nat.zero_le _, Nat.zero_le _⟩ (fun q11 T9 H locs hq G => ?_)
  obtain ⟨hq1, hq2⟩ := hq
  rw [hq2] at G
  refine lv_to hq1 ?_
  clear hq1 hq2 eT8
  obtain ⟨g12, h⟩ := oif_some h
  refine c_put E G l1 12 (v := .int r10) (oO_k g12).1 (cc_o6 (oO_k g12).2) rfl (fun w h => .tail _ (iA_14 h)) tyX6 tyX6_ok nmX6 (by decide) (.tail _ qA_311) ⟨rfl, rfl, rfl⟩ rfl rfl (Nat.le_of_ble_eq_true rfl) dX3_parseLine_106 (fun H locs G => ?_)
  have G := gC_up_i (f := upd (T8.2.2.1 l1) 12 r10) (by rw [(oO_k g12).2]; rfl) G
  obtain ⟨T13, eT13, h⟩ := elet_some h
  have G : gC cI cJ cZ cMic cSrc cSt cAI cAJ D ad A s.heap H locs T13 := by rw [eT13]; exact G
  clear eT13
  refine lv_goto (tgt := 209) hx hb dX3_parseLine_109 (by decide) ?_
  have hl := lv_sub hl [] rfl
  exact u_X3_parseLine_b209 E hA hX hN hml hst hA0 hT kr209 _ _ _ _ h G hl
def g_X3_parseLine (T : AT) (o : Nat) (a0 : Nat) : Option (Nat × Int32 × AT) := oif (oO T o 3 = true) <| obind2 (g_X3_isWord T (sTx "mic") o) fun r6 T4 => if r6 = 0 then (oif (oO T4 o 3 = true) <| obind2 (g_X3_isWord T4 (sTx "map") o) fun r13 T11 => if r13 = 0 then (oif (oO T11 o 3 = true) <| obind2 (g_X3_isWord T11 (sTx "source") o) fun r20 T18 => if r20 = 0 then (oif (oO T18 o 3 = true) <| obind2 (g_X3_isWord T18 (sTx "wall") o) fun r27 T25 => if r27 = 0 then (oif (oO T25 o 3 = true) <| obind2 (g_X3_isWord T25 (sTx "fade") o) fun r34 T32 => if r34 = 0 then (oif (oO T32 o 3 = true) <| obind2 (g_X3_isWord T32 (sTx "filter") o) fun r41 T39 => if r41 = 0 then (oif (oO T39 o 3 = true) <| obind2 (g_X3_isWord T39 (sTx "clock") o) fun r48 T46 => if r48 = 0 then (oif (oO T46 o 3 = true) <| obind2 (g_X3_isWord T46 (sTx "zone") o) fun r55 T53 => if r55 = 0 then (oif (oO T53 o 3 = true) <| obind2 (g_X3_isWord T53 (sTx "shade") o) fun r62 T60 => if r62 = 0 then (oif (oO T60 o 3 = true) <| obind2 (g_X3_isWord T60 (sTx "off") o) fun r69 T67 => if r69 = 0 then (oif (oO T67 o 3 = true) <| elet (T67.2.2.1 o 1) fun v73 => oif (oO T67 o 3 = true) <| othr (g_X3_failAt T67 o v73 (1 : Int32)) 0 fun r77 T75 => g_X3_parseLine_b209 T75) else (oif (oO T67 o 3 = true) <| othr (g_X3_parseOff T67 o a0) 0 fun r82 T80 => g_X3_parseLine_b209 T80)) else (oif (oO T60 o 3 = true) <| othr (g_X3_parseShade T60 o a0) 0 fun r87 T85 => g_X3_parseLine_b209 T85)) else (oif (oO T53 a0 6 = true) <| obind (T53.2.2.2.2 a0 6) fun n90 => oif (oO T53 o 3 = true) <| othr (g_X3_parseZone T53 o n90) 0 fun r94 T92 => g_X3_parseLine_b209 T92)) else (oif (oO T46 o 3 = true) <| othr (g_X3_parseClock T46 o a0) 0 fun r99 T97 => g_X3_parseLine_b209 T97)) else (oif (oO T39 o 3 = true) <| othr (g_X3_parseFilter T39 o a0) 0 fun r104 T102 => g_X3_parseLine_b209 T102)) else (oif (oO T32 a0 6 = true) <| elet (T32.2.2.1 a0 12) fun v107 => if v107 ≤ 0 then (g_X3_parseLine_b93 T32 0 o o a0) else (g_X3_parseLine_b93 T32 1 o o a0))) else (oif (oO T25 o 3 = true) <| othr (g_X3_parseWall T25 o a0) 0 fun r112 T110 => g_X3_parseLine_b209 T110)) else (oif (oO T18 o 3 = true) <| othr (g_X3_parseSource T18 o a0) 0 fun r117 T115 => g_X3_parseLine_b209 T115)) else (oif (oO T11 a0 6 = true) <| obind (T11.2.2.2.2 a0 6) fun n120 => oif (oO T11 o 3 = true) <| othr (g_X3_parseMap T11 o n120) 0 fun r124 T122 => g_X3_parseLine_b209 T122)) else (oif (oO T4 o 3 = true) <| othr (g_X3_parseMic T4 o a0) 0 fun r129 T127 => g_X3_parseLine_b209 T127)
set_option maxHeartbeats 4000000 in
set_option maxRecDepth 100000 in
theorem u_X3_parseLine (l : Launch) (hst : l.stackTraces = false) (D : va_G) (cI cJ cZ cMic cSrc cSt cAI cAJ : ClassId) (ad : Nat → Nat) (T : AT) (h0 : Nat) (o : Nat) (a0 : Nat) {r1 : Int32} {T1 : AT} (h : g_X3_parseLine T o a0 = some (0, r1, T1)) : kCvX l yX3_parseLine (Cond.code yX3_parseLine cX3_parseLine 2 none :: wsA) 10 171 cI cJ cZ cMic cSrc cSt cAI cAJ D ad T [.ref (ad o), .ref (ad a0)] (yT0 cI cJ cZ cMic cSrc cSt cAI cAJ h0 ad T) (fun T9 => T9 = T1) := by
  intro sz
  refine Met.ofW (cc := cX3_parseLine) (maxL := 2) (ret := none) (by decide) rfl ?_
  intro p e s m args below meth c s₁ B hml hv
  obtain ⟨rfl, ⟨hsz, hP, hK, hD0, hX, hN⟩, hA1, hT⟩ := hv
  have hx := B.exec
  have hb := B.bytes
  have hr := B.returns
  have hts := atoms_spec (ws := (Cond.code yX3_parseLine cX3_parseLine 2 none :: wsA)) B.pre
  have hown : s.vm.findClass RX3 = some m.cls := findClass_of_methodNamed B.named
  have hlocks := B.notSynchronized
  subst hsz
  have hD := hD0.self (sz := s.heap.size)
  generalize hAe : va_A (cW ad T.1 (cc cI cJ cZ cMic cSrc cSt cAI cAJ ad T)) s.heap.size = A at hD hX hA1 ⊢
  have hA : ∀ q : Nat, s.heap.size ≤ q → A q := fun q h => by rw [← hAe]; exact Or.inr h
  have G : gC cI cJ cZ cMic cSrc cSt cAI cAJ D ad A s.heap s.heap [] T := ⟨hP, hD, va_S.rf⟩
  have E : cE p c cX3_parseLine s m ([.ref (ad o), .ref (ad a0)] : List Value).toArray (Cond.code yX3_parseLine cX3_parseLine 2 none :: wsA) D RX3 (CT cI cJ cZ cMic cSrc cSt cAI cAJ) := ⟨hx, hb, hts, hown, hK⟩
  have hA0 : ∀ a : Nat, A a → h0 ≤ a := hA1
  have hl := lv_entry ([.ref (ad o), .ref (ad a0)]) (n := 2) (Nat.le_of_ble_eq_true rfl)
  rw [lg_entry_eq]
  generalize (lg_sl ([.ref (ad o), .ref (ad a0)]) ++ List.replicate (2 - (lg_sl ([.ref (ad o), .ref (ad a0)])).length) Slot.unset).toArray = ls at hl ⊢
  have hl : lv_has ls 2 [(0, .ref (ad o)), (1, .ref (ad a0))] := hl
  unfold g_X3_parseLine at h
  refine lv_aload_n hx hb dX3_parseLine_0 rfl (lv_at hl 0 rfl) ?_
  obtain ⟨w2, hw2, ow2⟩ := hT.1 ("AcousticCamera$Parser", 92, "mic") (List.mem_of_getElem? (i := 5) rfl)
  refine va_ldcS hx hb hown hw2 dX3_parseLine_1 ?_
  obtain ⟨g3, h⟩ := oif_some h
  obtain ⟨r6, T4, eT4, h⟩ := obind2_some h
  refine q_cviX (As := [.ref w2]) (rest := []) E G hA hX hN hml (u_X3_isWord l hst D cI cJ cZ cMic cSrc cSt cAI cAJ ad T h0 (q := w2) (sTx_ok (by decide +kernel)) o eT4) (cwV 1 hts (gaV qA_232 qA_233 qA_234 qA_222 qA_235) rfl rfl rfl (by decide +kernel) ⟨Nat.le_of_ble_eq_true rfl, Nat.le_of_ble_eq_true rfl⟩) (oO_k g3).1 (cc_o3 (oO_k g3).2) rfl rfl hl.1 rfl (lv_room (Nat.le_of_ble_eq_true rfl)) dX3_parseLine_3 ⟨Nat.zero_le _, Nat.zero_le _⟩ (yT1.blind) (yT1.go hT hA0 hA G ow2) (fun q7 T5 H locs hq G => ?_)
  obtain ⟨hq1, hq2⟩ := hq
  rw [hq2] at G
  refine lv_to hq1 ?_
  clear hq1 hq2 eT4
  refine lv_if_eq (tgt := 17) hx hb dX3_parseLine_6 (by decide) (fun c8 => ?_) (fun c8 => ?_)
  · have h := oif_pos c8 h
    refine lv_aload_n hx hb dX3_parseLine_17 rfl (lv_at hl 0 rfl) ?_
    obtain ⟨w9, hw9, ow9⟩ := hT.1 ("AcousticCamera$Parser", 101, "map") (List.mem_of_getElem? (i := 6) rfl)
    refine va_ldcS hx hb hown hw9 dX3_parseLine_18 ?_
    obtain ⟨g10, h⟩ := oif_some h
    obtain ⟨r13, T11, eT11, h⟩ := obind2_some h
    refine q_cviX (As := [.ref w9]) (rest := []) E G hA hX hN hml (u_X3_isWord l hst D cI cJ cZ cMic cSrc cSt cAI cAJ ad T4 h0 (q := w9) (sTx_ok (by decide +kernel)) o eT11) (cwV 1 hts (gaV qA_232 qA_233 qA_234 qA_222 qA_235) rfl rfl rfl (by decide +kernel) ⟨Nat.le_of_ble_eq_true rfl, Nat.le_of_ble_eq_true rfl⟩) (oO_k g10).1 (cc_o3 (oO_k g10).2) rfl rfl hl.1 rfl (lv_room (Nat.le_of_ble_eq_true rfl)) dX3_parseLine_20 ⟨Nat.zero_le _, Nat.zero_le _⟩ (yT1.blind) (yT1.go hT hA0 hA G ow9) (fun q14 T12 H locs hq G => ?_)
    obtain ⟨hq1, hq2⟩ := hq
    rw [hq2] at G
    refine lv_to hq1 ?_
    clear hq1 hq2 eT11
    refine lv_if_eq (tgt := 37) hx hb dX3_parseLine_23 (by decide) (fun c15 => ?_) (fun c15 => ?_)
    · have h := oif_pos c15 h
      refine lv_aload_n hx hb dX3_parseLine_37 rfl (lv_at hl 0 rfl) ?_
      obtain ⟨w16, hw16, ow16⟩ := hT.1 ("AcousticCamera$Parser", 107, "source") (List.mem_of_getElem? (i := 7) rfl)
      refine va_ldcS hx hb hown hw16 dX3_parseLine_38 ?_
      obtain ⟨g17, h⟩ := oif_some h
      obtain ⟨r20, T18, eT18, h⟩ := obind2_some h
      refine q_cviX (As := [.ref w16]) (rest := []) E G hA hX hN hml (u_X3_isWord l hst D cI cJ cZ cMic cSrc cSt cAI cAJ ad T11 h0 (q := w16) (sTx_ok (by decide +kernel)) o eT18) (cwV 1 hts (gaV qA_232 qA_233 qA_234 qA_222 qA_235) rfl rfl rfl (by decide +kernel) ⟨Nat.le_of_ble_eq_true rfl, Nat.le_of_ble_eq_true rfl⟩) (oO_k g17).1 (cc_o3 (oO_k g17).2) rfl rfl hl.1 rfl (lv_room (Nat.le_of_ble_eq_true rfl)) dX3_parseLine_40 ⟨Nat.zero_le _, Nat.zero_le _⟩ (yT1.blind) (yT1.go hT hA0 hA G ow16) (fun q21 T19 H locs hq G => ?_)
      obtain ⟨hq1, hq2⟩ := hq
      rw [hq2] at G
      refine lv_to hq1 ?_
      clear hq1 hq2 eT18
      refine lv_if_eq (tgt := 54) hx hb dX3_parseLine_43 (by decide) (fun c22 => ?_) (fun c22 => ?_)
      · have h := oif_pos c22 h
        refine lv_aload_n hx hb dX3_parseLine_54 rfl (lv_at hl 0 rfl) ?_
        obtain ⟨w23, hw23, ow23⟩ := hT.1 ("AcousticCamera$Parser", 112, "wall") (List.mem_of_getElem? (i := 13) rfl)
        refine va_ldcS hx hb hown hw23 dX3_parseLine_55 ?_
        obtain ⟨g24, h⟩ := oif_some h
        obtain ⟨r27, T25, eT25, h⟩ := obind2_some h
        refine q_cviX (As := [.ref w23]) (rest := []) E G hA hX hN hml (u_X3_isWord l hst D cI cJ cZ cMic cSrc cSt cAI cAJ ad T18 h0 (q := w23) (sTx_ok (by decide +kernel)) o eT25) (cwV 1 hts (gaV qA_232 qA_233 qA_234 qA_222 qA_235) rfl rfl rfl (by decide +kernel) ⟨Nat.le_of_ble_eq_true rfl, Nat.le_of_ble_eq_true rfl⟩) (oO_k g24).1 (cc_o3 (oO_k g24).2) rfl rfl hl.1 rfl (lv_room (Nat.le_of_ble_eq_true rfl)) dX3_parseLine_57 ⟨Nat.zero_le _, Nat.zero_le _⟩ (yT1.blind) (yT1.go hT hA0 hA G ow23) (fun q28 T26 H locs hq G => ?_)
        obtain ⟨hq1, hq2⟩ := hq
        rw [hq2] at G
        refine lv_to hq1 ?_
        clear hq1 hq2 eT25
        refine lv_if_eq (tgt := 71) hx hb dX3_parseLine_60 (by decide) (fun c29 => ?_) (fun c29 => ?_)
        · have h := oif_pos c29 h
          refine lv_aload_n hx hb dX3_parseLine_71 rfl (lv_at hl 0 rfl) ?_
          obtain ⟨w30, hw30, ow30⟩ := hT.1 ("AcousticCamera$Parser", 117, "fade") (List.mem_of_getElem? (i := 14) rfl)
          refine va_ldcS hx hb hown hw30 dX3_parseLine_72 ?_
          obtain ⟨g31, h⟩ := oif_some h
          obtain ⟨r34, T32, eT32, h⟩ := obind2_some h
          refine q_cviX (As := [.ref w30]) (rest := []) E G hA hX hN hml (u_X3_isWord l hst D cI cJ cZ cMic cSrc cSt cAI cAJ ad T25 h0 (q := w30) (sTx_ok (by decide +kernel)) o eT32) (cwV 1 hts (gaV qA_232 qA_233 qA_234 qA_222 qA_235) rfl rfl rfl (by decide +kernel) ⟨Nat.le_of_ble_eq_true rfl, Nat.le_of_ble_eq_true rfl⟩) (oO_k g31).1 (cc_o3 (oO_k g31).2) rfl rfl hl.1 rfl (lv_room (Nat.le_of_ble_eq_true rfl)) dX3_parseLine_74 ⟨Nat.zero_le _, Nat.zero_le _⟩ (yT1.blind) (yT1.go hT hA0 hA G ow30) (fun q35 T33 H locs hq G => ?_)
          obtain ⟨hq1, hq2⟩ := hq
          rw [hq2] at G
          refine lv_to hq1 ?_
          clear hq1 hq2 eT32
          refine lv_if_eq (tgt := 112) hx hb dX3_parseLine_77 (by decide) (fun c36 => ?_) (fun c36 => ?_)
          · have h := oif_pos c36 h
            refine lv_aload_n hx hb dX3_parseLine_112 rfl (lv_at hl 0 rfl) ?_
            obtain ⟨w37, hw37, ow37⟩ := hT.1 ("AcousticCamera$Parser", 125, "filter") (List.mem_of_getElem? (i := 15) rfl)
            refine va_ldcS hx hb hown hw37 dX3_parseLine_113 ?_
            obtain ⟨g38, h⟩ := oif_some h
            obtain ⟨r41, T39, eT39, h⟩ := obind2_some h
            refine q_cviX (As := [.ref w37]) (rest := []) E G hA hX hN hml (u_X3_isWord l hst D cI cJ cZ cMic cSrc cSt cAI cAJ ad T32 h0 (q := w37) (sTx_ok (by decide +kernel)) o eT39) (cwV 1 hts (gaV qA_232 qA_233 qA_234 qA_222 qA_235) rfl rfl rfl (by decide +kernel) ⟨Nat.le_of_ble_eq_true rfl, Nat.le_of_ble_eq_true rfl⟩) (oO_k g38).1 (cc_o3 (oO_k g38).2) rfl rfl hl.1 rfl (lv_room (Nat.le_of_ble_eq_true rfl)) dX3_parseLine_115 ⟨Nat.zero_le _, Nat.zero_le _⟩ (yT1.blind) (yT1.go hT hA0 hA G ow37) (fun q42 T40 H locs hq G => ?_)
            obtain ⟨hq1, hq2⟩ := hq
            rw [hq2] at G
            refine lv_to hq1 ?_
            clear hq1 hq2 eT39
            refine lv_if_eq (tgt := 129) hx hb dX3_parseLine_118 (by decide) (fun c43 => ?_) (fun c43 => ?_)
            · have h := oif_pos c43 h
              refine lv_aload_n hx hb dX3_parseLine_129 rfl (lv_at hl 0 rfl) ?_
              obtain ⟨w44, hw44, ow44⟩ := hT.1 ("AcousticCamera$Parser", 130, "clock") (List.mem_of_getElem? (i := 16) rfl)
              refine va_ldcS hx hb hown hw44 dX3_parseLine_130 ?_
              obtain ⟨g45, h⟩ := oif_some h
              obtain ⟨r48, T46, eT46, h⟩ := obind2_some h
              refine q_cviX (As := [.ref w44]) (rest := []) E G hA hX hN hml (u_X3_isWord l hst D cI cJ cZ cMic cSrc cSt cAI cAJ ad T39 h0 (q := w44) (sTx_ok (by decide +kernel)) o eT46) (cwV 1 hts (gaV qA_232 qA_233 qA_234 qA_222 qA_235) rfl rfl rfl (by decide +kernel) ⟨Nat.le_of_ble_eq_true rfl, Nat.le_of_ble_eq_true rfl⟩) (oO_k g45).1 (cc_o3 (oO_k g45).2) rfl rfl hl.1 rfl (lv_room (Nat.le_of_ble_eq_true rfl)) dX3_parseLine_132 ⟨Nat.zero_le _, Nat.zero_le _⟩ (yT1.blind) (yT1.go hT hA0 hA G ow44) (fun q49 T47 H locs hq G => ?_)
              obtain ⟨hq1, hq2⟩ := hq
              rw [hq2] at G
              refine lv_to hq1 ?_
              clear hq1 hq2 eT46
              refine lv_if_eq (tgt := 146) hx hb dX3_parseLine_135 (by decide) (fun c50 => ?_) (fun c50 => ?_)
              · have h := oif_pos c50 h
                refine lv_aload_n hx hb dX3_parseLine_146 rfl (lv_at hl 0 rfl) ?_
                obtain ⟨w51, hw51, ow51⟩ := hT.1 ("AcousticCamera$Parser", 135, "zone") (List.mem_of_getElem? (i := 17) rfl)
                refine va_ldcS hx hb hown hw51 dX3_parseLine_147 ?_
                obtain ⟨g52, h⟩ := oif_some h
                obtain ⟨r55, T53, eT53, h⟩ := obind2_some h
                refine q_cviX (As := [.ref w51]) (rest := []) E G hA hX hN hml (u_X3_isWord l hst D cI cJ cZ cMic cSrc cSt cAI cAJ ad T46 h0 (q := w51) (sTx_ok (by decide +kernel)) o eT53) (cwV 1 hts (gaV qA_232 qA_233 qA_234 qA_222 qA_235) rfl rfl rfl (by decide +kernel) ⟨Nat.le_of_ble_eq_true rfl, Nat.le_of_ble_eq_true rfl⟩) (oO_k g52).1 (cc_o3 (oO_k g52).2) rfl rfl hl.1 rfl (lv_room (Nat.le_of_ble_eq_true rfl)) dX3_parseLine_149 ⟨Nat.zero_le _, Nat.zero_le _⟩ (yT1.blind) (yT1.go hT hA0 hA G ow51) (fun q56 T54 H locs hq G => ?_)
                obtain ⟨hq1, hq2⟩ := hq
                rw [hq2] at G
                refine lv_to hq1 ?_
                clear hq1 hq2 eT53
                refine lv_if_eq (tgt := 166) hx hb dX3_parseLine_152 (by decide) (fun c57 => ?_) (fun c57 => ?_)
                · have h := oif_pos c57 h
                  refine lv_aload_n hx hb dX3_parseLine_166 rfl (lv_at hl 0 rfl) ?_
                  obtain ⟨w58, hw58, ow58⟩ := hT.1 ("AcousticCamera$Parser", 140, "shade") (List.mem_of_getElem? (i := 18) rfl)
                  refine va_ldcS hx hb hown hw58 dX3_parseLine_167 ?_
                  obtain ⟨g59, h⟩ := oif_some h
                  obtain ⟨r62, T60, eT60, h⟩ := obind2_some h
                  refine q_cviX (As := [.ref w58]) (rest := []) E G hA hX hN hml (u_X3_isWord l hst D cI cJ cZ cMic cSrc cSt cAI cAJ ad T53 h0 (q := w58) (sTx_ok (by decide +kernel)) o eT60) (cwV 1 hts (gaV qA_232 qA_233 qA_234 qA_222 qA_235) rfl rfl rfl (by decide +kernel) ⟨Nat.le_of_ble_eq_true rfl, Nat.le_of_ble_eq_true rfl⟩) (oO_k g59).1 (cc_o3 (oO_k g59).2) rfl rfl hl.1 rfl (lv_room (Nat.le_of_ble_eq_true rfl)) dX3_parseLine_169 ⟨Nat.zero_le _, Nat.zero_le _⟩ (yT1.blind) (yT1.go hT hA0 hA G ow58) (fun q63 T61 H locs hq G => ?_)
                  obtain ⟨hq1, hq2⟩ := hq
                  rw [hq2] at G
                  refine lv_to hq1 ?_
                  clear hq1 hq2 eT60
                  refine lv_if_eq (tgt := 183) hx hb dX3_parseLine_172 (by decide) (fun c64 => ?_) (fun c64 => ?_)
                  · have h := oif_pos c64 h
                    refine lv_aload_n hx hb dX3_parseLine_183 rfl (lv_at hl 0 rfl) ?_
                    obtain ⟨w65, hw65, ow65⟩ := hT.1 ("AcousticCamera$Parser", 145, "off") (List.mem_of_getElem? (i := 19) rfl)
                    refine va_ldcS hx hb hown hw65 dX3_parseLine_184 ?_
                    obtain ⟨g66, h⟩ := oif_some h
                    obtain ⟨r69, T67, eT67, h⟩ := obind2_some h
                    refine q_cviX (As := [.ref w65]) (rest := []) E G hA hX hN hml (u_X3_isWord l hst D cI cJ cZ cMic cSrc cSt cAI cAJ ad T60 h0 (q := w65) (sTx_ok (by decide +kernel)) o eT67) (cwV 1 hts (gaV qA_232 qA_233 qA_234 qA_222 qA_235) rfl rfl rfl (by decide +kernel) ⟨Nat.le_of_ble_eq_true rfl, Nat.le_of_ble_eq_true rfl⟩) (oO_k g66).1 (cc_o3 (oO_k g66).2) rfl rfl hl.1 rfl (lv_room (Nat.le_of_ble_eq_true rfl)) dX3_parseLine_186 ⟨Nat.zero_le _, Nat.zero_le _⟩ (yT1.blind) (yT1.go hT hA0 hA G ow65) (fun q70 T68 H locs hq G => ?_)
                    obtain ⟨hq1, hq2⟩ := hq
                    rw [hq2] at G
                    refine lv_to hq1 ?_
                    clear hq1 hq2 eT67
                    refine lv_if_eq (tgt := 200) hx hb dX3_parseLine_189 (by decide) (fun c71 => ?_) (fun c71 => ?_)
                    · have h := oif_pos c71 h
                      refine lv_aload_n hx hb dX3_parseLine_200 rfl (lv_at hl 0 rfl) ?_
                      refine lv_aload_n hx hb dX3_parseLine_201 rfl (lv_at hl 0 rfl) ?_
                      obtain ⟨g72, h⟩ := oif_some h
                      refine c_get E G o 1 (oO_k g72).1 (cc_o3 (oO_k g72).2) rfl (fun w h => .tail _ (iA_17 h)) (by decide) (.tail _ qA_176) rfl rfl dX3_parseLine_202 ?_
                      refine lv_topi (fun v73 ev73 => ?_)
                      have h := elet_at ev73 h
                      clear ev73
                      refine lv_iconst (v := 1) hx hb dX3_parseLine_205 (by decide) ?_
                      obtain ⟨g74, h⟩ := oif_some h
                      obtain ⟨r77, T75, eT75, h⟩ := othr_n h
                      refine q_cvv (As := [.int v73, .int 1]) (rest := []) E G hA hX hN hml (u_X3_failAt l hst D cI cJ cZ cMic cSrc cSt cAI cAJ ad T67 o v73 (1 : Int32) eT75) (cwV 2 hts (gaV qA_293 qA_294 qA_295 qA_222 qA_296) rfl rfl rfl (by decide +kernel) ⟨Nat.le_of_ble_eq_true rfl, Nat.le_of_ble_eq_true rfl⟩) (oO_k g74).1 (cc_o3 (oO_k g74).2) rfl rfl hl.1 rfl (lv_room (Nat.le_of_ble_eq_true rfl)) dX3_parseLine_206 ⟨Nat.zero_le _, Nat.zero_le _⟩ (fun T76 H locs hq G => ?_)
                      rw [hq] at G
                      clear hq eT75
                      have hl := lv_sub hl [] rfl
                      exact u_X3_parseLine_b209 E hA hX hN hml hst hA0 hT (fun H locs ls G => W.vret hx hb hr (fun t ht hW => ⟨⟨T1, rfl, rfl, ⟨by rw [ht]; exact G.1, va_K.moved hW.alike hK, G.2.1⟩⟩, G.2.2.F ht⟩) G.2.2.2.2 dX3_parseLine_209) _ _ _ _ h G hl
                    · have h := oif_neg c71 h
                      refine lv_aload_n hx hb dX3_parseLine_192 rfl (lv_at hl 0 rfl) ?_
                      refine lv_aload_n hx hb dX3_parseLine_193 rfl (lv_at hl 1 rfl) ?_
                      obtain ⟨g79, h⟩ := oif_some h
                      obtain ⟨r82, T80, eT80, h⟩ := othr_n h
                      refine q_cvv (As := [.ref (ad a0)]) (rest := []) E G hA hX hN hml (u_X3_parseOff l hst D cI cJ cZ cMic cSrc cSt cAI cAJ ad T67 o a0 eT80) (cwV 1 hts (gaV qA_401 qA_402 qA_403 qA_222 qA_404) rfl rfl rfl (by decide +kernel) ⟨Nat.le_of_ble_eq_true rfl, Nat.le_of_ble_eq_true rfl⟩) (oO_k g79).1 (cc_o3 (oO_k g79).2) rfl rfl hl.1 rfl (lv_room (Nat.le_of_ble_eq_true rfl)) dX3_parseLine_194 ⟨Nat.zero_le _, Nat.zero_le _⟩ (fun T81 H locs hq G => ?_)
                      rw [hq] at G
                      clear hq eT80
                      refine lv_goto (tgt := 209) hx hb dX3_parseLine_197 (by decide) ?_
                      have hl := lv_sub hl [] rfl
                      exact u_X3_parseLine_b209 E hA hX hN hml hst hA0 hT (fun H locs ls G => W.vret hx hb hr (fun t ht hW => ⟨⟨T1, rfl, rfl, ⟨by rw [ht]; exact G.1, va_K.moved hW.alike hK, G.2.1⟩⟩, G.2.2.F ht⟩) G.2.2.2.2 dX3_parseLine_209) _ _ _ _ h G hl
                  · have h := oif_neg c64 h
                    refine lv_aload_n hx hb dX3_parseLine_175 rfl (lv_at hl 0 rfl) ?_
                    refine lv_aload_n hx hb dX3_parseLine_176 rfl (lv_at hl 1 rfl) ?_
                    obtain ⟨g84, h⟩ := oif_some h
                    obtain ⟨r87, T85, eT85, h⟩ := othr_n h
                    refine q_cvv (As := [.ref (ad a0)]) (rest := []) E G hA hX hN hml (u_X3_parseShade l hst D cI cJ cZ cMic cSrc cSt cAI cAJ ad T60 o a0 eT85) (cwV 1 hts (gaV qA_391 qA_392 qA_393 qA_222 qA_394) rfl rfl rfl (by decide +kernel) ⟨Nat.le_of_ble_eq_true rfl, Nat.le_of_ble_eq_true rfl⟩) (oO_k g84).1 (cc_o3 (oO_k g84).2) rfl rfl hl.1 rfl (lv_room (Nat.le_of_ble_eq_true rfl)) dX3_parseLine_177 ⟨Nat.zero_le _, Nat.zero_le _⟩ (fun T86 H locs hq G => ?_)
                    rw [hq] at G
                    clear hq eT85
                    refine lv_goto (tgt := 209) hx hb dX3_parseLine_180 (by decide) ?_
                    have hl := lv_sub hl [] rfl
                    exact u_X3_parseLine_b209 E hA hX hN hml hst hA0 hT (fun H locs ls G => W.vret hx hb hr (fun t ht hW => ⟨⟨T1, rfl, rfl, ⟨by rw [ht]; exact G.1, va_K.moved hW.alike hK, G.2.1⟩⟩, G.2.2.F ht⟩) G.2.2.2.2 dX3_parseLine_209) _ _ _ _ h G hl
                · have h := oif_neg c57 h
                  refine lv_aload_n hx hb dX3_parseLine_155 rfl (lv_at hl 0 rfl) ?_
                  refine lv_aload_n hx hb dX3_parseLine_156 rfl (lv_at hl 1 rfl) ?_
                  obtain ⟨g89, h⟩ := oif_some h
                  obtain ⟨n90, en90, h⟩ := obind_some h
                  refine c_get E G a0 6 (v := .ref (ad n90)) (oO_k g89).1 (cc_o6 (oO_k g89).2) rfl (fun w h => .tail _ (iA_14 h)) (by decide) (.tail _ qA_179) rfl (by rw [en90]; rfl) dX3_parseLine_157 ?_
                  clear en90
                  obtain ⟨g91, h⟩ := oif_some h
                  obtain ⟨r94, T92, eT92, h⟩ := othr_n h
                  refine q_cvv (As := [.ref (ad n90)]) (rest := []) E G hA hX hN hml (u_X3_parseZone l hst D cI cJ cZ cMic cSrc cSt cAI cAJ ad T53 o n90 eT92) (cwV 1 hts (gaV qA_384 qA_385 qA_386 qA_222 qA_387) rfl rfl rfl (by decide +kernel) ⟨Nat.le_of_ble_eq_true rfl, Nat.le_of_ble_eq_true rfl⟩) (oO_k g91).1 (cc_o3 (oO_k g91).2) rfl rfl hl.1 rfl (lv_room (Nat.le_of_ble_eq_true rfl)) dX3_parseLine_160 ⟨Nat.zero_le _, Nat.zero_le _⟩ (fun T93 H locs hq G => ?_)
                  rw [hq] at G
                  clear hq eT92
                  refine lv_goto (tgt := 209) hx hb dX3_parseLine_163 (by decide) ?_
                  have hl := lv_sub hl [] rfl
                  exact u_X3_parseLine_b209 E hA hX hN hml hst hA0 hT (fun H locs ls G => W.vret hx hb hr (fun t ht hW => ⟨⟨T1, rfl, rfl, ⟨by rw [ht]; exact G.1, va_K.moved hW.alike hK, G.2.1⟩⟩, G.2.2.F ht⟩) G.2.2.2.2 dX3_parseLine_209) _ _ _ _ h G hl
              · have h := oif_neg c50 h
                refine lv_aload_n hx hb dX3_parseLine_138 rfl (lv_at hl 0 rfl) ?_
                refine lv_aload_n hx hb dX3_parseLine_139 rfl (lv_at hl 1 rfl) ?_
                obtain ⟨g96, h⟩ := oif_some h
                obtain ⟨r99, T97, eT97, h⟩ := othr_n h
                refine q_cvv (As := [.ref (ad a0)]) (rest := []) E G hA hX hN hml (u_X3_parseClock l hst D cI cJ cZ cMic cSrc cSt cAI cAJ ad T46 o a0 eT97) (cwV 1 hts (gaV qA_380 qA_381 qA_382 qA_222 qA_383) rfl rfl rfl (by decide +kernel) ⟨Nat.le_of_ble_eq_true rfl, Nat.le_of_ble_eq_true rfl⟩) (oO_k g96).1 (cc_o3 (oO_k g96).2) rfl rfl hl.1 rfl (lv_room (Nat.le_of_ble_eq_true rfl)) dX3_parseLine_140 ⟨Nat.zero_le _, Nat.zero_le _⟩ (fun T98 H locs hq G => ?_)
                rw [hq] at G
                clear hq eT97
                refine lv_goto (tgt := 209) hx hb dX3_parseLine_143 (by decide) ?_
                have hl := lv_sub hl [] rfl
                exact u_X3_parseLine_b209 E hA hX hN hml hst hA0 hT (fun H locs ls G => W.vret hx hb hr (fun t ht hW => ⟨⟨T1, rfl, rfl, ⟨by rw [ht]; exact G.1, va_K.moved hW.alike hK, G.2.1⟩⟩, G.2.2.F ht⟩) G.2.2.2.2 dX3_parseLine_209) _ _ _ _ h G hl
            · have h := oif_neg c43 h
              refine lv_aload_n hx hb dX3_parseLine_121 rfl (lv_at hl 0 rfl) ?_
              refine lv_aload_n hx hb dX3_parseLine_122 rfl (lv_at hl 1 rfl) ?_
              obtain ⟨g101, h⟩ := oif_some h
              obtain ⟨r104, T102, eT102, h⟩ := othr_n h
              refine q_cvv (As := [.ref (ad a0)]) (rest := []) E G hA hX hN hml (u_X3_parseFilter l hst D cI cJ cZ cMic cSrc cSt cAI cAJ ad T39 o a0 eT102) (cwV 1 hts (gaV qA_366 qA_367 qA_368 qA_222 qA_369) rfl rfl rfl (by decide +kernel) ⟨Nat.le_of_ble_eq_true rfl, Nat.le_of_ble_eq_true rfl⟩) (oO_k g101).1 (cc_o3 (oO_k g101).2) rfl rfl hl.1 rfl (lv_room (Nat.le_of_ble_eq_true rfl)) dX3_parseLine_123 ⟨Nat.zero_le _, Nat.zero_le _⟩ (fun T103 H locs hq G => ?_)
              rw [hq] at G
              clear hq eT102
              refine lv_goto (tgt := 209) hx hb dX3_parseLine_126 (by decide) ?_
              have hl := lv_sub hl [] rfl
              exact u_X3_parseLine_b209 E hA hX hN hml hst hA0 hT (fun H locs ls G => W.vret hx hb hr (fun t ht hW => ⟨⟨T1, rfl, rfl, ⟨by rw [ht]; exact G.1, va_K.moved hW.alike hK, G.2.1⟩⟩, G.2.2.F ht⟩) G.2.2.2.2 dX3_parseLine_209) _ _ _ _ h G hl
          · have h := oif_neg c36 h
            refine lv_aload_n hx hb dX3_parseLine_80 rfl (lv_at hl 0 rfl) ?_
            refine lv_aload_n hx hb dX3_parseLine_81 rfl (lv_at hl 1 rfl) ?_
            obtain ⟨g106, h⟩ := oif_some h
            refine c_get E G a0 12 (oO_k g106).1 (cc_o6 (oO_k g106).2) rfl (fun w h => .tail _ (iA_14 h)) (by decide) (.tail _ qA_311) rfl rfl dX3_parseLine_82 ?_
            refine lv_topi (fun v107 ev107 => ?_)
            have h := elet_at ev107 h
            clear ev107
            refine lv_if_le (tgt := 92) hx hb dX3_parseLine_85 (by decide) (fun c108 => ?_) (fun c108 => ?_)
            · have h := oif_pos c108 h
              refine lv_iconst (v := 0) hx hb dX3_parseLine_92 (by decide) ?_
              have hl := lv_sub hl [0, 1] rfl
              exact u_X3_parseLine_b93 E hA hX hN hml hst hA0 hT (fun H locs ls G => W.vret hx hb hr (fun t ht hW => ⟨⟨T1, rfl, rfl, ⟨by rw [ht]; exact G.1, va_K.moved hW.alike hK, G.2.1⟩⟩, G.2.2.F ht⟩) G.2.2.2.2 dX3_parseLine_209) _ _ _ _ _ _ _ _ h G hl
            · have h := oif_neg c108 h
              refine lv_iconst (v := 1) hx hb dX3_parseLine_88 (by decide) ?_
              refine lv_goto (tgt := 93) hx hb dX3_parseLine_89 (by decide) ?_
              have hl := lv_sub hl [0, 1] rfl
              exact u_X3_parseLine_b93 E hA hX hN hml hst hA0 hT (fun H locs ls G => W.vret hx hb hr (fun t ht hW => ⟨⟨T1, rfl, rfl, ⟨by rw [ht]; exact G.1, va_K.moved hW.alike hK, G.2.1⟩⟩, G.2.2.F ht⟩) G.2.2.2.2 dX3_parseLine_209) _ _ _ _ _ _ _ _ h G hl
        · have h := oif_neg c29 h
          refine lv_aload_n hx hb dX3_parseLine_63 rfl (lv_at hl 0 rfl) ?_
          refine lv_aload_n hx hb dX3_parseLine_64 rfl (lv_at hl 1 rfl) ?_
          obtain ⟨g109, h⟩ := oif_some h
          obtain ⟨r112, T110, eT110, h⟩ := othr_n h
          refine q_cvv (As := [.ref (ad a0)]) (rest := []) E G hA hX hN hml (u_X3_parseWall l hst D cI cJ cZ cMic cSrc cSt cAI cAJ ad T25 o a0 eT110) (cwV 1 hts (gaV qA_359 qA_360 qA_361 qA_222 qA_362) rfl rfl rfl (by decide +kernel) ⟨Nat.le_of_ble_eq_true rfl, Nat.le_of_ble_eq_true rfl⟩) (oO_k g109).1 (cc_o3 (oO_k g109).2) rfl rfl hl.1 rfl (lv_room (Nat.le_of_ble_eq_true rfl)) dX3_parseLine_65 ⟨Nat.zero_le _, Nat.zero_le _⟩ (fun T111 H locs hq G => ?_)
          rw [hq] at G
          clear hq eT110
          refine lv_goto (tgt := 209) hx hb dX3_parseLine_68 (by decide) ?_
          have hl := lv_sub hl [] rfl
          exact u_X3_parseLine_b209 E hA hX hN hml hst hA0 hT (fun H locs ls G => W.vret hx hb hr (fun t ht hW => ⟨⟨T1, rfl, rfl, ⟨by rw [ht]; exact G.1, va_K.moved hW.alike hK, G.2.1⟩⟩, G.2.2.F ht⟩) G.2.2.2.2 dX3_parseLine_209) _ _ _ _ h G hl
      · have h := oif_neg c22 h
        refine lv_aload_n hx hb dX3_parseLine_46 rfl (lv_at hl 0 rfl) ?_
        refine lv_aload_n hx hb dX3_parseLine_47 rfl (lv_at hl 1 rfl) ?_
        obtain ⟨g114, h⟩ := oif_some h
        obtain ⟨r117, T115, eT115, h⟩ := othr_n h
        refine q_cvvX (As := [.ref (ad a0)]) (rest := []) E G hA hX hN hml (u_X3_parseSource l hst D cI cJ cZ cMic cSrc cSt cAI cAJ ad T18 h0 o a0 eT115) (cwV 1 hts (gaV qA_339 qA_340 qA_341 qA_222 qA_342) rfl rfl rfl (by decide +kernel) ⟨Nat.le_of_ble_eq_true rfl, Nat.le_of_ble_eq_true rfl⟩) (oO_k g114).1 (cc_o3 (oO_k g114).2) rfl rfl hl.1 rfl (lv_room (Nat.le_of_ble_eq_true rfl)) dX3_parseLine_48 ⟨Nat.zero_le _, Nat.zero_le _⟩ (yT0.blind) (yT0.go hT hA0 hA G) (fun T116 H locs hq G => ?_)
        rw [hq] at G
        clear hq eT115
        refine lv_goto (tgt := 209) hx hb dX3_parseLine_51 (by decide) ?_
        have hl := lv_sub hl [] rfl
        exact u_X3_parseLine_b209 E hA hX hN hml hst hA0 hT (fun H locs ls G => W.vret hx hb hr (fun t ht hW => ⟨⟨T1, rfl, rfl, ⟨by rw [ht]; exact G.1, va_K.moved hW.alike hK, G.2.1⟩⟩, G.2.2.F ht⟩) G.2.2.2.2 dX3_parseLine_209) _ _ _ _ h G hl
    · have h := oif_neg c15 h
      refine lv_aload_n hx hb dX3_parseLine_26 rfl (lv_at hl 0 rfl) ?_
      refine lv_aload_n hx hb dX3_parseLine_27 rfl (lv_at hl 1 rfl) ?_
      obtain ⟨g119, h⟩ := oif_some h
      obtain ⟨n120, en120, h⟩ := obind_some h
      refine c_get E G a0 6 (v := .ref (ad n120)) (oO_k g119).1 (cc_o6 (oO_k g119).2) rfl (fun w h => .tail _ (iA_14 h)) (by decide) (.tail _ qA_179) rfl (by rw [en120]; rfl) dX3_parseLine_28 ?_
      clear en120
      obtain ⟨g121, h⟩ := oif_some h
      obtain ⟨r124, T122, eT122, h⟩ := othr_n h
      refine q_cvv (As := [.ref (ad n120)]) (rest := []) E G hA hX hN hml (u_X3_parseMap l hst D cI cJ cZ cMic cSrc cSt cAI cAJ ad T11 o n120 eT122) (cwV 1 hts (gaV qA_329 qA_330 qA_331 qA_222 qA_332) rfl rfl rfl (by decide +kernel) ⟨Nat.le_of_ble_eq_true rfl, Nat.le_of_ble_eq_true rfl⟩) (oO_k g121).1 (cc_o3 (oO_k g121).2) rfl rfl hl.1 rfl (lv_room (Nat.le_of_ble_eq_true rfl)) dX3_parseLine_31 ⟨Nat.zero_le _, Nat.zero_le _⟩ (fun T123 H locs hq G => ?_)
      rw [hq] at G
      clear hq eT122
      refine lv_goto (tgt := 209) hx hb dX3_parseLine_34 (by decide) ?_
      have hl := lv_sub hl [] rfl
      exact u_X3_parseLine_b209 E hA hX hN hml hst hA0 hT (fun H locs ls G => W.vret hx hb hr (fun t ht hW => ⟨⟨T1, rfl, rfl, ⟨by rw [ht]; exact G.1, va_K.moved hW.alike hK, G.2.1⟩⟩, G.2.2.F ht⟩) G.2.2.2.2 dX3_parseLine_209) _ _ _ _ h G hl
  · have h := oif_neg c8 h
    refine lv_aload_n hx hb dX3_parseLine_9 rfl (lv_at hl 0 rfl) ?_
    refine lv_aload_n hx hb dX3_parseLine_10 rfl (lv_at hl 1 rfl) ?_
    obtain ⟨g126, h⟩ := oif_some h
    obtain ⟨r129, T127, eT127, h⟩ := othr_n h
    refine q_cvv (As := [.ref (ad a0)]) (rest := []) E G hA hX hN hml (u_X3_parseMic l hst D cI cJ cZ cMic cSrc cSt cAI cAJ ad T4 o a0 eT127) (cwV 1 hts (gaV qA_312 qA_313 qA_314 qA_222 qA_315) rfl rfl rfl (by decide +kernel) ⟨Nat.le_of_ble_eq_true rfl, Nat.le_of_ble_eq_true rfl⟩) (oO_k g126).1 (cc_o3 (oO_k g126).2) rfl rfl hl.1 rfl (lv_room (Nat.le_of_ble_eq_true rfl)) dX3_parseLine_11 ⟨Nat.zero_le _, Nat.zero_le _⟩ (fun T128 H locs hq G => ?_)
    rw [hq] at G
    clear hq eT127
    refine lv_goto (tgt := 209) hx hb dX3_parseLine_14 (by decide) ?_
    have hl := lv_sub hl [] rfl
    exact u_X3_parseLine_b209 E hA hX hN hml hst hA0 hT (fun H locs ls G => W.vret hx hb hr (fun t ht hW => ⟨⟨T1, rfl, rfl, ⟨by rw [ht]; exact G.1, va_K.moved hW.alike hK, G.2.1⟩⟩, G.2.2.F ht⟩) G.2.2.2.2 dX3_parseLine_209) _ _ _ _ h G hl
set_option maxHeartbeats 4000000 in
set_option maxRecDepth 100000 in
theorem s_X3_parseLine_b209 {e1 : Nat} {r1 : Int32} {T1 : AT} : ∀ (T : AT), g_X3_parseLine_b209 T = some (e1, r1, T1) → SP T T1 := by
  intro T h
  have p0 := SP.rf T
  unfold g_X3_parseLine_b209 at h
  rw [← (osome3 h).2.2]
  exact p0
set_option maxHeartbeats 4000000 in
set_option maxRecDepth 100000 in
theorem s_X3_parseLine_b93 {e1 : Nat} {r1 : Int32} {T1 : AT} : ∀ (T : AT) (s0 : Int32) (s1 : Nat) (l0 : Nat) (l1 : Nat), g_X3_parseLine_b93 T s0 s1 l0 l1 = some (e1, r1, T1) → SP T T1 := by
  intro T s0 s1 l0 l1 h
  have p0 := SP.rf T
  unfold g_X3_parseLine_b93 at h
  obtain ⟨g2, h⟩ := oif_some h
  rcases othr_s h with ⟨k9, r9, e9, -⟩ | ⟨r4, T3, eT3, h⟩
  · exact SP.tr p0 (s_X3_startLine e9)
  have p1 : SP T T3 := SP.tr p0 (s_X3_startLine eT3)
  obtain ⟨g5, h⟩ := oif_some h
  rcases othr_s h with ⟨k9, r9, e9, -⟩ | ⟨r7, T6, eT6, h⟩
  · exact SP.tr p1 (s_X3_number e9)
  have p2 : SP T T6 := SP.tr p1 (s_X3_number eT6)
  obtain ⟨g8, h⟩ := oif_some h
  obtain ⟨T9, eT9, h⟩ := elet_some h
  have p3 : SP T T9 := SP.tr p2 (by rw [eT9]; exact sp_uI)
  exact SP.tr p3 (s_X3_parseLine_b209 _ h)
set_option maxHeartbeats 4000000 in
set_option maxRecDepth 100000 in
theorem s_X3_parseLine {T : AT} {o : Nat} {a0 : Nat} {e1 : Nat} {r1 : Int32} {T1 : AT} (h : g_X3_parseLine T o a0 = some (e1, r1, T1)) : SP T T1 := by
  have p0 := SP.rf T
  unfold g_X3_parseLine at h
  obtain ⟨g3, h⟩ := oif_some h
  obtain ⟨r5, T4, eT4, h⟩ := obind2_some h
  have p1 : SP T T4 := SP.tr p0 (s_X3_isWord eT4)
  rcases oif_or h with ⟨c6, h⟩ | ⟨c6, h⟩
  · have h := h
    obtain ⟨g8, h⟩ := oif_some h
    obtain ⟨r10, T9, eT9, h⟩ := obind2_some h
    have p2 : SP T T9 := SP.tr p1 (s_X3_isWord eT9)
    rcases oif_or h with ⟨c11, h⟩ | ⟨c11, h⟩
    · have h := h
      obtain ⟨g13, h⟩ := oif_some h
      obtain ⟨r15, T14, eT14, h⟩ := obind2_some h
      have p3 : SP T T14 := SP.tr p2 (s_X3_isWord eT14)
      rcases oif_or h with ⟨c16, h⟩ | ⟨c16, h⟩
      · have h := h
        obtain ⟨g18, h⟩ := oif_some h
        obtain ⟨r20, T19, eT19, h⟩ := obind2_some h
        have p4 : SP T T19 := SP.tr p3 (s_X3_isWord eT19)
        rcases oif_or h with ⟨c21, h⟩ | ⟨c21, h⟩
        · have h := h
          obtain ⟨g23, h⟩ := oif_some h
          obtain ⟨r25, T24, eT24, h⟩ := obind2_some h
          have p5 : SP T T24 := SP.tr p4 (s_X3_isWord eT24)
          rcases oif_or h with ⟨c26, h⟩ | ⟨c26, h⟩
          · have h := h
            obtain ⟨g28, h⟩ := oif_some h
            obtain ⟨r30, T29, eT29, h⟩ := obind2_some h
            have p6 : SP T T29 := SP.tr p5 (s_X3_isWord eT29)
            rcases oif_or h with ⟨c31, h⟩ | ⟨c31, h⟩
            · have h := h
              obtain ⟨g33, h⟩ := oif_some h
              obtain ⟨r35, T34, eT34, h⟩ := obind2_some h
              have p7 : SP T T34 := SP.tr p6 (s_X3_isWord eT34)
              rcases oif_or h with ⟨c36, h⟩ | ⟨c36, h⟩
              · have h := h
                obtain ⟨g38, h⟩ := oif_some h
                obtain ⟨r40, T39, eT39, h⟩ := obind2_some h
                have p8 : SP T T39 := SP.tr p7 (s_X3_isWord eT39)
                rcases oif_or h with ⟨c41, h⟩ | ⟨c41, h⟩
                · have h := h
                  obtain ⟨g43, h⟩ := oif_some h
                  obtain ⟨r45, T44, eT44, h⟩ := obind2_some h
                  have p9 : SP T T44 := SP.tr p8 (s_X3_isWord eT44)
                  rcases oif_or h with ⟨c46, h⟩ | ⟨c46, h⟩
                  · have h := h
                    obtain ⟨g48, h⟩ := oif_some h
                    obtain ⟨r50, T49, eT49, h⟩ := obind2_some h
                    have p10 : SP T T49 := SP.tr p9 (s_X3_isWord eT49)
                    rcases oif_or h with ⟨c51, h⟩ | ⟨c51, h⟩
                    · have h := h
                      obtain ⟨g52, h⟩ := oif_some h
                      obtain ⟨v53, -, h⟩ := elet_some h
                      obtain ⟨g54, h⟩ := oif_some h
                      rcases othr_s h with ⟨k9, r9, e9, -⟩ | ⟨r56, T55, eT55, h⟩
                      · exact SP.tr p10 (s_X3_failAt e9)
                      have p11 : SP T T55 := SP.tr p10 (s_X3_failAt eT55)
                      exact SP.tr p11 (s_X3_parseLine_b209 _ h)
                    · have h := h
                      obtain ⟨g57, h⟩ := oif_some h
                      rcases othr_s h with ⟨k9, r9, e9, -⟩ | ⟨r59, T58, eT58, h⟩
                      · exact SP.tr p10 (s_X3_parseOff e9)
                      have p11 : SP T T58 := SP.tr p10 (s_X3_parseOff eT58)
                      exact SP.tr p11 (s_X3_parseLine_b209 _ h)
                  · have h := h
                    obtain ⟨g60, h⟩ := oif_some h
                    rcases othr_s h with ⟨k9, r9, e9, -⟩ | ⟨r62, T61, eT61, h⟩
                    · exact SP.tr p9 (s_X3_parseShade e9)
                    have p10 : SP T T61 := SP.tr p9 (s_X3_parseShade eT61)
                    exact SP.tr p10 (s_X3_parseLine_b209 _ h)
                · have h := h
                  obtain ⟨g63, h⟩ := oif_some h
                  obtain ⟨n64, en64, h⟩ := obind_some h
                  obtain ⟨g65, h⟩ := oif_some h
                  rcases othr_s h with ⟨k9, r9, e9, -⟩ | ⟨r67, T66, eT66, h⟩
                  · exact SP.tr p8 (s_X3_parseZone e9)
                  have p9 : SP T T66 := SP.tr p8 (s_X3_parseZone eT66)
                  exact SP.tr p9 (s_X3_parseLine_b209 _ h)
              · have h := h
                obtain ⟨g68, h⟩ := oif_some h
                rcases othr_s h with ⟨k9, r9, e9, -⟩ | ⟨r70, T69, eT69, h⟩
                · exact SP.tr p7 (s_X3_parseClock e9)
                have p8 : SP T T69 := SP.tr p7 (s_X3_parseClock eT69)
                exact SP.tr p8 (s_X3_parseLine_b209 _ h)
            · have h := h
              obtain ⟨g71, h⟩ := oif_some h
              rcases othr_s h with ⟨k9, r9, e9, -⟩ | ⟨r73, T72, eT72, h⟩
              · exact SP.tr p6 (s_X3_parseFilter e9)
              have p7 : SP T T72 := SP.tr p6 (s_X3_parseFilter eT72)
              exact SP.tr p7 (s_X3_parseLine_b209 _ h)
          · have h := h
            obtain ⟨g74, h⟩ := oif_some h
            obtain ⟨v75, -, h⟩ := elet_some h
            rcases oif_or h with ⟨c76, h⟩ | ⟨c76, h⟩
            · have h := h
              exact SP.tr p5 (s_X3_parseLine_b93 _ _ _ _ _ h)
            · have h := h
              exact SP.tr p5 (s_X3_parseLine_b93 _ _ _ _ _ h)
        · have h := h
          obtain ⟨g77, h⟩ := oif_some h
          rcases othr_s h with ⟨k9, r9, e9, -⟩ | ⟨r79, T78, eT78, h⟩
          · exact SP.tr p4 (s_X3_parseWall e9)
          have p5 : SP T T78 := SP.tr p4 (s_X3_parseWall eT78)
          exact SP.tr p5 (s_X3_parseLine_b209 _ h)
      · have h := h
        obtain ⟨g80, h⟩ := oif_some h
        rcases othr_s h with ⟨k9, r9, e9, -⟩ | ⟨r82, T81, eT81, h⟩
        · exact SP.tr p3 (s_X3_parseSource e9)
        have p4 : SP T T81 := SP.tr p3 (s_X3_parseSource eT81)
        exact SP.tr p4 (s_X3_parseLine_b209 _ h)
    · have h := h
      obtain ⟨g83, h⟩ := oif_some h
      obtain ⟨n84, en84, h⟩ := obind_some h
      obtain ⟨g85, h⟩ := oif_some h
      rcases othr_s h with ⟨k9, r9, e9, -⟩ | ⟨r87, T86, eT86, h⟩
      · exact SP.tr p2 (s_X3_parseMap e9)
      have p3 : SP T T86 := SP.tr p2 (s_X3_parseMap eT86)
      exact SP.tr p3 (s_X3_parseLine_b209 _ h)
  · have h := h
    obtain ⟨g88, h⟩ := oif_some h
    rcases othr_s h with ⟨k9, r9, e9, -⟩ | ⟨r90, T89, eT89, h⟩
    · exact SP.tr p1 (s_X3_parseMic e9)
    have p2 : SP T T89 := SP.tr p1 (s_X3_parseMic eT89)
    exact SP.tr p2 (s_X3_parseLine_b209 _ h)
set_option maxHeartbeats 4000000 in
set_option maxRecDepth 100000 in
theorem x_X3_parseLine_b209 {p : Program} {l : Launch} {e : Env} {s : State} {m : MethodId} {args : Array Value} {below : List Frame} {meth : Method} {c : Code} {Qc : Array Value → State → Outcome → State → Prop} {XC : String → State → State → Prop} {D : va_G} {A : Nat → Prop} {cI cJ cZ cMic cSrc cSt cAI cAJ : ClassId} {ad : Nat → Nat} {e1 : Nat} {r1 : Int32} {T1 : AT} (E : cE p c cX3_parseLine s m args (Cond.code yX3_parseLine cX3_parseLine 2 none :: wsA) D RX3 (CT cI cJ cZ cMic cSrc cSt cAI cAJ)) (hA : ∀ q : Nat, s.heap.size ≤ q → A q) (hX : xT A s) (hN : nX s) (hml : c.maxLocals = 2) {h0 : Nat} (hA0 : ∀ a : Nat, A a → h0 ≤ a) (hT : sAll h0 s) (hz9 : True) (hst : l.stackTraces = false) (htab : ∀ x ∈ c.exceptionTable.toList, False) (hlocks : meth.locks = false) (kx : ∀ (H : Heap) (locs : List Loc) (t : State), gC cI cJ cZ cMic cSrc cSt cAI cAJ D ad A s.heap H locs T1 → s.vm.Alike t.vm → H.size ≤ t.heap.size → (∀ q, q < H.size → t.heap[q]? = H[q]?) → XC (exn e1) s t) : ∀ (T : AT) (H : Heap) (locs : List Loc) (ls : Array Slot), g_X3_parseLine_b209 T = some (e1 + 1, r1, T1) → gC cI cJ cZ cMic cSrc cSt cAI cAJ D ad A s.heap H locs T → lv_has ls 2 [] → W p l e { frames := 10, cells := 1, slots := 6, locals := 171 } s m args below meth c H locs 0 0 (vx_MQ below Qc XC args s 1 6 A) (F0 m 209 ls []) := by
  have hx := E.1
  have hb := E.2.1
  have hts := E.2.2.1
  have hown := E.2.2.2.1
  have hK := E.2.2.2.2
  intro T H locs ls h G hl
  unfold g_X3_parseLine_b209 at h
  exact (Nat.succ_ne_zero _ (congrArg Prod.fst (Option.some.inj h)).symm).elim
set_option maxHeartbeats 4000000 in
set_option maxRecDepth 100000 in
theorem x_X3_parseLine_b93 {p : Program} {l : Launch} {e : Env} {s : State} {m : MethodId} {args : Array Value} {below : List Frame} {meth : Method} {c : Code} {Qc : Array Value → State → Outcome → State → Prop} {XC : String → State → State → Prop} {D : va_G} {A : Nat → Prop} {cI cJ cZ cMic cSrc cSt cAI cAJ : ClassId} {ad : Nat → Nat} {e1 : Nat} {r1 : Int32} {T1 : AT} (E : cE p c cX3_parseLine s m args (Cond.code yX3_parseLine cX3_parseLine 2 none :: wsA) D RX3 (CT cI cJ cZ cMic cSrc cSt cAI cAJ)) (hA : ∀ q : Nat, s.heap.size ≤ q → A q) (hX : xT A s) (hN : nX s) (hml : c.maxLocals = 2) {h0 : Nat} (hA0 : ∀ a : Nat, A a → h0 ≤ a) (hT : sAll h0 s) (hz9 : True) (hst : l.stackTraces = false) (htab : ∀ x ∈ c.exceptionTable.toList, False) (hlocks : meth.locks = false) (kx : ∀ (H : Heap) (locs : List Loc) (t : State), gC cI cJ cZ cMic cSrc cSt cAI cAJ D ad A s.heap H locs T1 → s.vm.Alike t.vm → H.size ≤ t.heap.size → (∀ q, q < H.size → t.heap[q]? = H[q]?) → XC (exn e1) s t) : ∀ (T : AT) (H : Heap) (locs : List Loc) (ls : Array Slot) (s0 : Int32) (s1 : Nat) (l0 : Nat) (l1 : Nat), g_X3_parseLine_b93 T s0 s1 l0 l1 = some (e1 + 1, r1, T1) → gC cI cJ cZ cMic cSrc cSt cAI cAJ D ad A s.heap H locs T → lv_has ls 2 [(0, .ref (ad l0)), (1, .ref (ad l1))] → W p l e { frames := 10, cells := 1, slots := 6, locals := 171 } s m args below meth c H locs 0 0 (vx_MQ below Qc XC args s 1 6 A) (F0 m 93 ls [.int s0, .ref (ad s1)]) := by
  have hx := E.1
  have hb := E.2.1
  have hts := E.2.2.1
  have hown := E.2.2.2.1
  have hK := E.2.2.2.2
  intro T H locs ls s0 s1 l0 l1 h G hl
  unfold g_X3_parseLine_b93 at h
  refine lv_iconst (v := 3) hx hb dX3_parseLine_93 (by decide) ?_
  obtain ⟨g2, h⟩ := oif_some h
  rcases othr_t h with ⟨r0, eT3⟩ | ⟨r5, T3, eT3, h⟩
  · refine q_xvv (As := [.int s0, .int 3]) (rest := []) E G hA hX hN hml (x_X3_startLine l hst D cI cJ cZ cMic cSrc cSt cAI cAJ ad T s1 s0 (3 : Int32) eT3) (cwV 2 hts (gaV qA_321 qA_322 qA_323 qA_222 qA_324) rfl rfl rfl (by decide +kernel) ⟨Nat.le_of_ble_eq_true rfl, Nat.le_of_ble_eq_true rfl⟩) (oO_k g2).1 (cc_o3 (oO_k g2).2) rfl rfl hl.1 rfl (lv_room (Nat.le_of_ble_eq_true rfl)) dX3_parseLine_94 ⟨Nat.le_of_ble_eq_true rfl, Nat.le_of_ble_eq_true rfl⟩ (fun E9 ce q9 T9 H locs hp G hce hcv hcl => ?_)
    obtain ⟨hE, hT⟩ := hp
    subst hE
    rw [hT] at G
    exact vx_out (fun x hx => (htab x hx).elim) hlocks hce hcv hcl (fun t ht hvm => kx _ _ _ G hvm (by rw [ht]; exact Nat.le_refl _) (fun q hq => by rw [ht])) G.2.2.2.2 (Nat.le_refl _) (Nat.le_refl _)
  refine q_cvv (As := [.int s0, .int 3]) (rest := []) E G hA hX hN hml (u_X3_startLine l hst D cI cJ cZ cMic cSrc cSt cAI cAJ ad T s1 s0 (3 : Int32) eT3) (cwV 2 hts (gaV qA_321 qA_322 qA_323 qA_222 qA_324) rfl rfl rfl (by decide +kernel) ⟨Nat.le_of_ble_eq_true rfl, Nat.le_of_ble_eq_true rfl⟩) (oO_k g2).1 (cc_o3 (oO_k g2).2) rfl rfl hl.1 rfl (lv_room (Nat.le_of_ble_eq_true rfl)) dX3_parseLine_94 ⟨Nat.zero_le _, Nat.zero_le _⟩ (fun T4 H locs hq G => ?_)
  rw [hq] at G
  clear hq eT3
  refine lv_aload_n hx hb dX3_parseLine_97 rfl (lv_at hl 1 rfl) ?_
  refine lv_aload_n hx hb dX3_parseLine_98 rfl (lv_at hl 0 rfl) ?_
  refine lv_iconst (v := 1) hx hb dX3_parseLine_99 (by decide) ?_
  refine lv_sipush (v := 999) hx hb dX3_parseLine_100 (by decide) ?_
  obtain ⟨g7, h⟩ := oif_some h
  rcases othr_t h with ⟨r0, eT8⟩ | ⟨r10, T8, eT8, h⟩
  · refine q_xvi (As := [.int 1, .int 999]) (rest := [.ref (ad l1)]) E G hA hX hN hml (x_X3_number l hst D cI cJ cZ cMic cSrc cSt cAI cAJ ad T3 l0 (1 : Int32) (999 : Int32) eT8) (cwV 2 hts (gaV qA_299 qA_300 qA_301 qA_222 qA_302) rfl rfl rfl (by decide +kernel) ⟨Nat.le_of_ble_eq_true rfl, Nat.le_of_ble_eq_true rfl⟩) (oO_k g7).1 (cc_o3 (oO_k g7).2) rfl rfl hl.1 rfl (lv_room (Nat.le_of_ble_eq_true rfl)) dX3_parseLine_103 ⟨Nat.le_of_ble_eq_true rfl, Nat.le_of_ble_eq_true rfl⟩ (fun E9 ce q9 T9 H locs hp G hce hcv hcl => ?_)
    obtain ⟨hE, hT⟩ := hp
    subst hE
    rw [hT] at G
    exact vx_out (fun x hx => (htab x hx).elim) hlocks hce hcv hcl (fun t ht hvm => kx _ _ _ G hvm (by rw [ht]; exact Nat.le_refl _) (fun q hq => by rw [ht])) G.2.2.2.2 (Nat.le_refl _) (Nat.le_refl _)
  refine q_cvi (As := [.int 1, .int 999]) (rest := [.ref (ad l1)]) E G hA hX hN hml (u_X3_number l hst D cI cJ cZ cMic cSrc cSt cAI cAJ ad T3 l0 (1 : Int32) (999 : Int32) eT8) (cwV 2 hts (gaV qA_299 qA_300 qA_301 qA_222 qA_302) rfl rfl rfl (by decide +kernel) ⟨Nat.le_of_ble_eq_true rfl, Nat.le_of_ble_eq_true rfl⟩) (oO_k g7).1 (cc_o3 (oO_k g7).2) rfl rfl hl.1 rfl (lv_room (Nat.le_of_ble_eq_true rfl)) dX3_parseLine_103 ⟨Nat.zero_le _, Nat.zero_le _⟩ (fun q11 T9 H locs hq G => ?_)
  obtain ⟨hq1, hq2⟩ := hq
  rw [hq2] at G
  refine lv_to hq1 ?_
  clear hq1 hq2 eT8
  obtain ⟨g12, h⟩ := oif_some h
  refine c_put E G l1 12 (v := .int r10) (oO_k g12).1 (cc_o6 (oO_k g12).2) rfl (fun w h => .tail _ (iA_14 h)) tyX6 tyX6_ok nmX6 (by decide) (.tail _ qA_311) ⟨rfl, rfl, rfl⟩ rfl rfl (Nat.le_of_ble_eq_true rfl) dX3_parseLine_106 (fun H locs G => ?_)
  have G := gC_up_i (f := upd (T8.2.2.1 l1) 12 r10) (by rw [(oO_k g12).2]; rfl) G
  obtain ⟨T13, eT13, h⟩ := elet_some h
  have G : gC cI cJ cZ cMic cSrc cSt cAI cAJ D ad A s.heap H locs T13 := by rw [eT13]; exact G
  clear eT13
  refine lv_goto (tgt := 209) hx hb dX3_parseLine_109 (by decide) ?_
  have hl := lv_sub hl [] rfl
  exact x_X3_parseLine_b209 E hA hX hN hml hA0 hT trivial hst htab hlocks kx _ _ _ _ h G hl
set_option maxHeartbeats 4000000 in
set_option maxRecDepth 100000 in
theorem x_X3_parseLine (l : Launch) (hst : l.stackTraces = false) (D : va_G) (cI cJ cZ cMic cSrc cSt cAI cAJ : ClassId) (ad : Nat → Nat) (T : AT) (h0 : Nat) (o : Nat) (a0 : Nat) {e1 : Nat} {r1 : Int32} {T1 : AT} (h : g_X3_parseLine T o a0 = some (e1 + 1, r1, T1)) : kXvX l yX3_parseLine (Cond.code yX3_parseLine cX3_parseLine 2 none :: wsA) 10 171 cI cJ cZ cMic cSrc cSt cAI cAJ D ad T [.ref (ad o), .ref (ad a0)] (yT0 cI cJ cZ cMic cSrc cSt cAI cAJ h0 ad T) e1 T1 := by
  intro sz
  refine vx_ofW (cc := cX3_parseLine) (maxL := 2) (ret := none) (by decide) rfl ?_
  intro p e s m args below meth c s₁ B hml htab hv
  obtain ⟨rfl, ⟨hsz, hP, hK, hD0, hX, hN⟩, hA1, hT⟩ := hv
  have hx := B.exec
  have hb := B.bytes
  have hr := B.returns
  have hts := atoms_spec (ws := (Cond.code yX3_parseLine cX3_parseLine 2 none :: wsA)) B.pre
  have hown : s.vm.findClass RX3 = some m.cls := findClass_of_methodNamed B.named
  have hlocks := B.notSynchronized
  subst hsz
  have hD := hD0.self (sz := s.heap.size)
  generalize hAe : va_A (cW ad T.1 (cc cI cJ cZ cMic cSrc cSt cAI cAJ ad T)) s.heap.size = A at hD hX hA1 ⊢
  have hA : ∀ q : Nat, s.heap.size ≤ q → A q := fun q h => by rw [← hAe]; exact Or.inr h
  have G : gC cI cJ cZ cMic cSrc cSt cAI cAJ D ad A s.heap s.heap [] T := ⟨hP, hD, va_S.rf⟩
  have E : cE p c cX3_parseLine s m ([.ref (ad o), .ref (ad a0)] : List Value).toArray (Cond.code yX3_parseLine cX3_parseLine 2 none :: wsA) D RX3 (CT cI cJ cZ cMic cSrc cSt cAI cAJ) := ⟨hx, hb, hts, hown, hK⟩
  have htab : ∀ x ∈ c.exceptionTable.toList, False := fun x hx => htab x hx
  have hA0 : ∀ a : Nat, A a → h0 ≤ a := hA1
  have hl := lv_entry ([.ref (ad o), .ref (ad a0)]) (n := 2) (Nat.le_of_ble_eq_true rfl)
  rw [lg_entry_eq]
  generalize (lg_sl ([.ref (ad o), .ref (ad a0)]) ++ List.replicate (2 - (lg_sl ([.ref (ad o), .ref (ad a0)])).length) Slot.unset).toArray = ls at hl ⊢
  have hl : lv_has ls 2 [(0, .ref (ad o)), (1, .ref (ad a0))] := hl
  unfold g_X3_parseLine at h
  refine lv_aload_n hx hb dX3_parseLine_0 rfl (lv_at hl 0 rfl) ?_
  obtain ⟨w2, hw2, ow2⟩ := hT.1 ("AcousticCamera$Parser", 92, "mic") (List.mem_of_getElem? (i := 5) rfl)
  refine va_ldcS hx hb hown hw2 dX3_parseLine_1 ?_
  obtain ⟨g3, h⟩ := oif_some h
  obtain ⟨r6, T4, eT4, h⟩ := obind2_some h
  refine q_cviX (As := [.ref w2]) (rest := []) E G hA hX hN hml (u_X3_isWord l hst D cI cJ cZ cMic cSrc cSt cAI cAJ ad T h0 (q := w2) (sTx_ok (by decide +kernel)) o eT4) (cwV 1 hts (gaV qA_232 qA_233 qA_234 qA_222 qA_235) rfl rfl rfl (by decide +kernel) ⟨Nat.le_of_ble_eq_true rfl, Nat.le_of_ble_eq_true rfl⟩) (oO_k g3).1 (cc_o3 (oO_k g3).2) rfl rfl hl.1 rfl (lv_room (Nat.le_of_ble_eq_true rfl)) dX3_parseLine_3 ⟨Nat.zero_le _, Nat.zero_le _⟩ (yT1.blind) (yT1.go hT hA0 hA G ow2) (fun q7 T5 H locs hq G => ?_)
  obtain ⟨hq1, hq2⟩ := hq
  rw [hq2] at G
  refine lv_to hq1 ?_
  clear hq1 hq2 eT4
  refine lv_if_eq (tgt := 17) hx hb dX3_parseLine_6 (by decide) (fun c8 => ?_) (fun c8 => ?_)
  · have h := oif_pos c8 h
    refine lv_aload_n hx hb dX3_parseLine_17 rfl (lv_at hl 0 rfl) ?_
    obtain ⟨w9, hw9, ow9⟩ := hT.1 ("AcousticCamera$Parser", 101, "map") (List.mem_of_getElem? (i := 6) rfl)
    refine va_ldcS hx hb hown hw9 dX3_parseLine_18 ?_
    obtain ⟨g10, h⟩ := oif_some h
    obtain ⟨r13, T11, eT11, h⟩ := obind2_some h
    refine q_cviX (As := [.ref w9]) (rest := []) E G hA hX hN hml (u_X3_isWord l hst D cI cJ cZ cMic cSrc cSt cAI cAJ ad T4 h0 (q := w9) (sTx_ok (by decide +kernel)) o eT11) (cwV 1 hts (gaV qA_232 qA_233 qA_234 qA_222 qA_235) rfl rfl rfl (by decide +kernel) ⟨Nat.le_of_ble_eq_true rfl, Nat.le_of_ble_eq_true rfl⟩) (oO_k g10).1 (cc_o3 (oO_k g10).2) rfl rfl hl.1 rfl (lv_room (Nat.le_of_ble_eq_true rfl)) dX3_parseLine_20 ⟨Nat.zero_le _, Nat.zero_le _⟩ (yT1.blind) (yT1.go hT hA0 hA G ow9) (fun q14 T12 H locs hq G => ?_)
    obtain ⟨hq1, hq2⟩ := hq
    rw [hq2] at G
    refine lv_to hq1 ?_
    clear hq1 hq2 eT11
    refine lv_if_eq (tgt := 37) hx hb dX3_parseLine_23 (by decide) (fun c15 => ?_) (fun c15 => ?_)
    · have h := oif_pos c15 h
      refine lv_aload_n hx hb dX3_parseLine_37 rfl (lv_at hl 0 rfl) ?_
      obtain ⟨w16, hw16, ow16⟩ := hT.1 ("AcousticCamera$Parser", 107, "source") (List.mem_of_getElem? (i := 7) rfl)
      refine va_ldcS hx hb hown hw16 dX3_parseLine_38 ?_
      obtain ⟨g17, h⟩ := oif_some h
      obtain ⟨r20, T18, eT18, h⟩ := obind2_some h
      refine q_cviX (As := [.ref w16]) (rest := []) E G hA hX hN hml (u_X3_isWord l hst D cI cJ cZ cMic cSrc cSt cAI cAJ ad T11 h0 (q := w16) (sTx_ok (by decide +kernel)) o eT18) (cwV 1 hts (gaV qA_232 qA_233 qA_234 qA_222 qA_235) rfl rfl rfl (by decide +kernel) ⟨Nat.le_of_ble_eq_true rfl, Nat.le_of_ble_eq_true rfl⟩) (oO_k g17).1 (cc_o3 (oO_k g17).2) rfl rfl hl.1 rfl (lv_room (Nat.le_of_ble_eq_true rfl)) dX3_parseLine_40 ⟨Nat.zero_le _, Nat.zero_le _⟩ (yT1.blind) (yT1.go hT hA0 hA G ow16) (fun q21 T19 H locs hq G => ?_)
      obtain ⟨hq1, hq2⟩ := hq
      rw [hq2] at G
      refine lv_to hq1 ?_
      clear hq1 hq2 eT18
      refine lv_if_eq (tgt := 54) hx hb dX3_parseLine_43 (by decide) (fun c22 => ?_) (fun c22 => ?_)
      · have h := oif_pos c22 h
        refine lv_aload_n hx hb dX3_parseLine_54 rfl (lv_at hl 0 rfl) ?_
        obtain ⟨w23, hw23, ow23⟩ := hT.1 ("AcousticCamera$Parser", 112, "wall") (List.mem_of_getElem? (i := 13) rfl)
        refine va_ldcS hx hb hown hw23 dX3_parseLine_55 ?_
        obtain ⟨g24, h⟩ := oif_some h
        obtain ⟨r27, T25, eT25, h⟩ := obind2_some h
        refine q_cviX (As := [.ref w23]) (rest := []) E G hA hX hN hml (u_X3_isWord l hst D cI cJ cZ cMic cSrc cSt cAI cAJ ad T18 h0 (q := w23) (sTx_ok (by decide +kernel)) o eT25) (cwV 1 hts (gaV qA_232 qA_233 qA_234 qA_222 qA_235) rfl rfl rfl (by decide +kernel) ⟨Nat.le_of_ble_eq_true rfl, Nat.le_of_ble_eq_true rfl⟩) (oO_k g24).1 (cc_o3 (oO_k g24).2) rfl rfl hl.1 rfl (lv_room (Nat.le_of_ble_eq_true rfl)) dX3_parseLine_57 ⟨Nat.zero_le _, Nat.zero_le _⟩ (yT1.blind) (yT1.go hT hA0 hA G ow23) (fun q28 T26 H locs hq G => ?_)
        obtain ⟨hq1, hq2⟩ := hq
        rw [hq2] at G
        refine lv_to hq1 ?_
        clear hq1 hq2 eT25
        refine lv_if_eq (tgt := 71) hx hb dX3_parseLine_60 (by decide) (fun c29 => ?_) (fun c29 => ?_)
        · have h := oif_pos c29 h
          refine lv_aload_n hx hb dX3_parseLine_71 rfl (lv_at hl 0 rfl) ?_
          obtain ⟨w30, hw30, ow30⟩ := hT.1 ("AcousticCamera$Parser", 117, "fade") (List.mem_of_getElem? (i := 14) rfl)
          refine va_ldcS hx hb hown hw30 dX3_parseLine_72 ?_
          obtain ⟨g31, h⟩ := oif_some h
          obtain ⟨r34, T32, eT32, h⟩ := obind2_some h
          refine q_cviX (As := [.ref w30]) (rest := []) E G hA hX hN hml (u_X3_isWord l hst D cI cJ cZ cMic cSrc cSt cAI cAJ ad T25 h0 (q := w30) (sTx_ok (by decide +kernel)) o eT32) (cwV 1 hts (gaV qA_232 qA_233 qA_234 qA_222 qA_235) rfl rfl rfl (by decide +kernel) ⟨Nat.le_of_ble_eq_true rfl, Nat.le_of_ble_eq_true rfl⟩) (oO_k g31).1 (cc_o3 (oO_k g31).2) rfl rfl hl.1 rfl (lv_room (Nat.le_of_ble_eq_true rfl)) dX3_parseLine_74 ⟨Nat.zero_le _, Nat.zero_le _⟩ (yT1.blind) (yT1.go hT hA0 hA G ow30) (fun q35 T33 H locs hq G => ?_)
          obtain ⟨hq1, hq2⟩ := hq
          rw [hq2] at G
          refine lv_to hq1 ?_
          clear hq1 hq2 eT32
          refine lv_if_eq (tgt := 112) hx hb dX3_parseLine_77 (by decide) (fun c36 => ?_) (fun c36 => ?_)
          · have h := oif_pos c36 h
            refine lv_aload_n hx hb dX3_parseLine_112 rfl (lv_at hl 0 rfl) ?_
            obtain ⟨w37, hw37, ow37⟩ := hT.1 ("AcousticCamera$Parser", 125, "filter") (List.mem_of_getElem? (i := 15) rfl)
            refine va_ldcS hx hb hown hw37 dX3_parseLine_113 ?_
            obtain ⟨g38, h⟩ := oif_some h
            obtain ⟨r41, T39, eT39, h⟩ := obind2_some h
            refine q_cviX (As := [.ref w37]) (rest := []) E G hA hX hN hml (u_X3_isWord l hst D cI cJ cZ cMic cSrc cSt cAI cAJ ad T32 h0 (q := w37) (sTx_ok (by decide +kernel)) o eT39) (cwV 1 hts (gaV qA_232 qA_233 qA_234 qA_222 qA_235) rfl rfl rfl (by decide +kernel) ⟨Nat.le_of_ble_eq_true rfl, Nat.le_of_ble_eq_true rfl⟩) (oO_k g38).1 (cc_o3 (oO_k g38).2) rfl rfl hl.1 rfl (lv_room (Nat.le_of_ble_eq_true rfl)) dX3_parseLine_115 ⟨Nat.zero_le _, Nat.zero_le _⟩ (yT1.blind) (yT1.go hT hA0 hA G ow37) (fun q42 T40 H locs hq G => ?_)
            obtain ⟨hq1, hq2⟩ := hq
            rw [hq2] at G
            refine lv_to hq1 ?_
            clear hq1 hq2 eT39
            refine lv_if_eq (tgt := 129) hx hb dX3_parseLine_118 (by decide) (fun c43 => ?_) (fun c43 => ?_)
            · have h := oif_pos c43 h
              refine lv_aload_n hx hb dX3_parseLine_129 rfl (lv_at hl 0 rfl) ?_
              obtain ⟨w44, hw44, ow44⟩ := hT.1 ("AcousticCamera$Parser", 130, "clock") (List.mem_of_getElem? (i := 16) rfl)
              refine va_ldcS hx hb hown hw44 dX3_parseLine_130 ?_
              obtain ⟨g45, h⟩ := oif_some h
              obtain ⟨r48, T46, eT46, h⟩ := obind2_some h
              refine q_cviX (As := [.ref w44]) (rest := []) E G hA hX hN hml (u_X3_isWord l hst D cI cJ cZ cMic cSrc cSt cAI cAJ ad T39 h0 (q := w44) (sTx_ok (by decide +kernel)) o eT46) (cwV 1 hts (gaV qA_232 qA_233 qA_234 qA_222 qA_235) rfl rfl rfl (by decide +kernel) ⟨Nat.le_of_ble_eq_true rfl, Nat.le_of_ble_eq_true rfl⟩) (oO_k g45).1 (cc_o3 (oO_k g45).2) rfl rfl hl.1 rfl (lv_room (Nat.le_of_ble_eq_true rfl)) dX3_parseLine_132 ⟨Nat.zero_le _, Nat.zero_le _⟩ (yT1.blind) (yT1.go hT hA0 hA G ow44) (fun q49 T47 H locs hq G => ?_)
              obtain ⟨hq1, hq2⟩ := hq
              rw [hq2] at G
              refine lv_to hq1 ?_
              clear hq1 hq2 eT46
              refine lv_if_eq (tgt := 146) hx hb dX3_parseLine_135 (by decide) (fun c50 => ?_) (fun c50 => ?_)
              · have h := oif_pos c50 h
                refine lv_aload_n hx hb dX3_parseLine_146 rfl (lv_at hl 0 rfl) ?_
                obtain ⟨w51, hw51, ow51⟩ := hT.1 ("AcousticCamera$Parser", 135, "zone") (List.mem_of_getElem? (i := 17) rfl)
                refine va_ldcS hx hb hown hw51 dX3_parseLine_147 ?_
                obtain ⟨g52, h⟩ := oif_some h
                obtain ⟨r55, T53, eT53, h⟩ := obind2_some h
                refine q_cviX (As := [.ref w51]) (rest := []) E G hA hX hN hml (u_X3_isWord l hst D cI cJ cZ cMic cSrc cSt cAI cAJ ad T46 h0 (q := w51) (sTx_ok (by decide +kernel)) o eT53) (cwV 1 hts (gaV qA_232 qA_233 qA_234 qA_222 qA_235) rfl rfl rfl (by decide +kernel) ⟨Nat.le_of_ble_eq_true rfl, Nat.le_of_ble_eq_true rfl⟩) (oO_k g52).1 (cc_o3 (oO_k g52).2) rfl rfl hl.1 rfl (lv_room (Nat.le_of_ble_eq_true rfl)) dX3_parseLine_149 ⟨Nat.zero_le _, Nat.zero_le _⟩ (yT1.blind) (yT1.go hT hA0 hA G ow51) (fun q56 T54 H locs hq G => ?_)
                obtain ⟨hq1, hq2⟩ := hq
                rw [hq2] at G
                refine lv_to hq1 ?_
                clear hq1 hq2 eT53
                refine lv_if_eq (tgt := 166) hx hb dX3_parseLine_152 (by decide) (fun c57 => ?_) (fun c57 => ?_)
                · have h := oif_pos c57 h
                  refine lv_aload_n hx hb dX3_parseLine_166 rfl (lv_at hl 0 rfl) ?_
                  obtain ⟨w58, hw58, ow58⟩ := hT.1 ("AcousticCamera$Parser", 140, "shade") (List.mem_of_getElem? (i := 18) rfl)
                  refine va_ldcS hx hb hown hw58 dX3_parseLine_167 ?_
                  obtain ⟨g59, h⟩ := oif_some h
                  obtain ⟨r62, T60, eT60, h⟩ := obind2_some h
                  refine q_cviX (As := [.ref w58]) (rest := []) E G hA hX hN hml (u_X3_isWord l hst D cI cJ cZ cMic cSrc cSt cAI cAJ ad T53 h0 (q := w58) (sTx_ok (by decide +kernel)) o eT60) (cwV 1 hts (gaV qA_232 qA_233 qA_234 qA_222 qA_235) rfl rfl rfl (by decide +kernel) ⟨Nat.le_of_ble_eq_true rfl, Nat.le_of_ble_eq_true rfl⟩) (oO_k g59).1 (cc_o3 (oO_k g59).2) rfl rfl hl.1 rfl (lv_room (Nat.le_of_ble_eq_true rfl)) dX3_parseLine_169 ⟨Nat.zero_le _, Nat.zero_le _⟩ (yT1.blind) (yT1.go hT hA0 hA G ow58) (fun q63 T61 H locs hq G => ?_)
                  obtain ⟨hq1, hq2⟩ := hq
                  rw [hq2] at G
                  refine lv_to hq1 ?_
                  clear hq1 hq2 eT60
                  refine lv_if_eq (tgt := 183) hx hb dX3_parseLine_172 (by decide) (fun c64 => ?_) (fun c64 => ?_)
                  · have h := oif_pos c64 h
                    refine lv_aload_n hx hb dX3_parseLine_183 rfl (lv_at hl 0 rfl) ?_
                    obtain ⟨w65, hw65, ow65⟩ := hT.1 ("AcousticCamera$Parser", 145, "off") (List.mem_of_getElem? (i := 19) rfl)
                    refine va_ldcS hx hb hown hw65 dX3_parseLine_184 ?_
                    obtain ⟨g66, h⟩ := oif_some h
                    obtain ⟨r69, T67, eT67, h⟩ := obind2_some h
                    refine q_cviX (As := [.ref w65]) (rest := []) E G hA hX hN hml (u_X3_isWord l hst D cI cJ cZ cMic cSrc cSt cAI cAJ ad T60 h0 (q := w65) (sTx_ok (by decide +kernel)) o eT67) (cwV 1 hts (gaV qA_232 qA_233 qA_234 qA_222 qA_235) rfl rfl rfl (by decide +kernel) ⟨Nat.le_of_ble_eq_true rfl, Nat.le_of_ble_eq_true rfl⟩) (oO_k g66).1 (cc_o3 (oO_k g66).2) rfl rfl hl.1 rfl (lv_room (Nat.le_of_ble_eq_true rfl)) dX3_parseLine_186 ⟨Nat.zero_le _, Nat.zero_le _⟩ (yT1.blind) (yT1.go hT hA0 hA G ow65) (fun q70 T68 H locs hq G => ?_)
                    obtain ⟨hq1, hq2⟩ := hq
                    rw [hq2] at G
                    refine lv_to hq1 ?_
                    clear hq1 hq2 eT67
                    refine lv_if_eq (tgt := 200) hx hb dX3_parseLine_189 (by decide) (fun c71 => ?_) (fun c71 => ?_)
                    · have h := oif_pos c71 h
                      refine lv_aload_n hx hb dX3_parseLine_200 rfl (lv_at hl 0 rfl) ?_
                      refine lv_aload_n hx hb dX3_parseLine_201 rfl (lv_at hl 0 rfl) ?_
                      obtain ⟨g72, h⟩ := oif_some h
                      refine c_get E G o 1 (oO_k g72).1 (cc_o3 (oO_k g72).2) rfl (fun w h => .tail _ (iA_17 h)) (by decide) (.tail _ qA_176) rfl rfl dX3_parseLine_202 ?_
                      refine lv_topi (fun v73 ev73 => ?_)
                      have h := elet_at ev73 h
                      clear ev73
                      refine lv_iconst (v := 1) hx hb dX3_parseLine_205 (by decide) ?_
                      obtain ⟨g74, h⟩ := oif_some h
                      rcases othr_t h with ⟨r0, eT75⟩ | ⟨r77, T75, eT75, h⟩
                      · refine q_xvv (As := [.int v73, .int 1]) (rest := []) E G hA hX hN hml (x_X3_failAt l hst D cI cJ cZ cMic cSrc cSt cAI cAJ ad T67 o v73 (1 : Int32) eT75) (cwV 2 hts (gaV qA_293 qA_294 qA_295 qA_222 qA_296) rfl rfl rfl (by decide +kernel) ⟨Nat.le_of_ble_eq_true rfl, Nat.le_of_ble_eq_true rfl⟩) (oO_k g74).1 (cc_o3 (oO_k g74).2) rfl rfl hl.1 rfl (lv_room (Nat.le_of_ble_eq_true rfl)) dX3_parseLine_206 ⟨Nat.le_of_ble_eq_true rfl, Nat.le_of_ble_eq_true rfl⟩ (fun E9 ce q9 T9 H locs hp G hce hcv hcl => ?_)
                        obtain ⟨hE, hT⟩ := hp
                        subst hE
                        rw [hT] at G
                        exact vx_out (fun x hx => (htab x hx).elim) hlocks hce hcv hcl (fun t ht hvm => ⟨T1, trivial, ⟨⟨rfl, rfl⟩, by rw [ht]; exact G.1, va_K.moved hvm hK, G.2.1⟩, G.2.2.F ht⟩) G.2.2.2.2 (Nat.le_refl _) (Nat.le_refl _)
                      refine q_cvv (As := [.int v73, .int 1]) (rest := []) E G hA hX hN hml (u_X3_failAt l hst D cI cJ cZ cMic cSrc cSt cAI cAJ ad T67 o v73 (1 : Int32) eT75) (cwV 2 hts (gaV qA_293 qA_294 qA_295 qA_222 qA_296) rfl rfl rfl (by decide +kernel) ⟨Nat.le_of_ble_eq_true rfl, Nat.le_of_ble_eq_true rfl⟩) (oO_k g74).1 (cc_o3 (oO_k g74).2) rfl rfl hl.1 rfl (lv_room (Nat.le_of_ble_eq_true rfl)) dX3_parseLine_206 ⟨Nat.zero_le _, Nat.zero_le _⟩ (fun T76 H locs hq G => ?_)
                      rw [hq] at G
                      clear hq eT75
                      have hl := lv_sub hl [] rfl
                      exact x_X3_parseLine_b209 E hA hX hN hml hA0 hT trivial hst htab hlocks (fun H locs t G hvm h1 h2 => ⟨T1, trivial, ⟨⟨rfl, rfl⟩, (c_thrown G hK hvm h1 h2).1⟩, (c_thrown G hK hvm h1 h2).2⟩) _ _ _ _ h G hl
                    · have h := oif_neg c71 h
                      refine lv_aload_n hx hb dX3_parseLine_192 rfl (lv_at hl 0 rfl) ?_
                      refine lv_aload_n hx hb dX3_parseLine_193 rfl (lv_at hl 1 rfl) ?_
                      obtain ⟨g79, h⟩ := oif_some h
                      rcases othr_t h with ⟨r0, eT80⟩ | ⟨r82, T80, eT80, h⟩
                      · refine q_xvv (As := [.ref (ad a0)]) (rest := []) E G hA hX hN hml (x_X3_parseOff l hst D cI cJ cZ cMic cSrc cSt cAI cAJ ad T67 o a0 eT80) (cwV 1 hts (gaV qA_401 qA_402 qA_403 qA_222 qA_404) rfl rfl rfl (by decide +kernel) ⟨Nat.le_of_ble_eq_true rfl, Nat.le_of_ble_eq_true rfl⟩) (oO_k g79).1 (cc_o3 (oO_k g79).2) rfl rfl hl.1 rfl (lv_room (Nat.le_of_ble_eq_true rfl)) dX3_parseLine_194 ⟨Nat.le_of_ble_eq_true rfl, Nat.le_of_ble_eq_true rfl⟩ (fun E9 ce q9 T9 H locs hp G hce hcv hcl => ?_)
                        obtain ⟨hE, hT⟩ := hp
                        subst hE
                        rw [hT] at G
                        exact vx_out (fun x hx => (htab x hx).elim) hlocks hce hcv hcl (fun t ht hvm => ⟨T1, trivial, ⟨⟨rfl, rfl⟩, by rw [ht]; exact G.1, va_K.moved hvm hK, G.2.1⟩, G.2.2.F ht⟩) G.2.2.2.2 (Nat.le_refl _) (Nat.le_refl _)
                      refine q_cvv (As := [.ref (ad a0)]) (rest := []) E G hA hX hN hml (u_X3_parseOff l hst D cI cJ cZ cMic cSrc cSt cAI cAJ ad T67 o a0 eT80) (cwV 1 hts (gaV qA_401 qA_402 qA_403 qA_222 qA_404) rfl rfl rfl (by decide +kernel) ⟨Nat.le_of_ble_eq_true rfl, Nat.le_of_ble_eq_true rfl⟩) (oO_k g79).1 (cc_o3 (oO_k g79).2) rfl rfl hl.1 rfl (lv_room (Nat.le_of_ble_eq_true rfl)) dX3_parseLine_194 ⟨Nat.zero_le _, Nat.zero_le _⟩ (fun T81 H locs hq G => ?_)
                      rw [hq] at G
                      clear hq eT80
                      refine lv_goto (tgt := 209) hx hb dX3_parseLine_197 (by decide) ?_
                      have hl := lv_sub hl [] rfl
                      exact x_X3_parseLine_b209 E hA hX hN hml hA0 hT trivial hst htab hlocks (fun H locs t G hvm h1 h2 => ⟨T1, trivial, ⟨⟨rfl, rfl⟩, (c_thrown G hK hvm h1 h2).1⟩, (c_thrown G hK hvm h1 h2).2⟩) _ _ _ _ h G hl
                  · have h := oif_neg c64 h
                    refine lv_aload_n hx hb dX3_parseLine_175 rfl (lv_at hl 0 rfl) ?_
                    refine lv_aload_n hx hb dX3_parseLine_176 rfl (lv_at hl 1 rfl) ?_
                    obtain ⟨g84, h⟩ := oif_some h
                    rcases othr_t h with ⟨r0, eT85⟩ | ⟨r87, T85, eT85, h⟩
                    · refine q_xvv (As := [.ref (ad a0)]) (rest := []) E G hA hX hN hml (x_X3_parseShade l hst D cI cJ cZ cMic cSrc cSt cAI cAJ ad T60 o a0 eT85) (cwV 1 hts (gaV qA_391 qA_392 qA_393 qA_222 qA_394) rfl rfl rfl (by decide +kernel) ⟨Nat.le_of_ble_eq_true rfl, Nat.le_of_ble_eq_true rfl⟩) (oO_k g84).1 (cc_o3 (oO_k g84).2) rfl rfl hl.1 rfl (lv_room (Nat.le_of_ble_eq_true rfl)) dX3_parseLine_177 ⟨Nat.le_of_ble_eq_true rfl, Nat.le_of_ble_eq_true rfl⟩ (fun E9 ce q9 T9 H locs hp G hce hcv hcl => ?_)
                      obtain ⟨hE, hT⟩ := hp
                      subst hE
                      rw [hT] at G
                      exact vx_out (fun x hx => (htab x hx).elim) hlocks hce hcv hcl (fun t ht hvm => ⟨T1, trivial, ⟨⟨rfl, rfl⟩, by rw [ht]; exact G.1, va_K.moved hvm hK, G.2.1⟩, G.2.2.F ht⟩) G.2.2.2.2 (Nat.le_refl _) (Nat.le_refl _)
                    refine q_cvv (As := [.ref (ad a0)]) (rest := []) E G hA hX hN hml (u_X3_parseShade l hst D cI cJ cZ cMic cSrc cSt cAI cAJ ad T60 o a0 eT85) (cwV 1 hts (gaV qA_391 qA_392 qA_393 qA_222 qA_394) rfl rfl rfl (by decide +kernel) ⟨Nat.le_of_ble_eq_true rfl, Nat.le_of_ble_eq_true rfl⟩) (oO_k g84).1 (cc_o3 (oO_k g84).2) rfl rfl hl.1 rfl (lv_room (Nat.le_of_ble_eq_true rfl)) dX3_parseLine_177 ⟨Nat.zero_le _, Nat.zero_le _⟩ (fun T86 H locs hq G => ?_)
                    rw [hq] at G
                    clear hq eT85
                    refine lv_goto (tgt := 209) hx hb dX3_parseLine_180 (by decide) ?_
                    have hl := lv_sub hl [] rfl
                    exact x_X3_parseLine_b209 E hA hX hN hml hA0 hT trivial hst htab hlocks (fun H locs t G hvm h1 h2 => ⟨T1, trivial, ⟨⟨rfl, rfl⟩, (c_thrown G hK hvm h1 h2).1⟩, (c_thrown G hK hvm h1 h2).2⟩) _ _ _ _ h G hl
                · have h := oif_neg c57 h
                  refine lv_aload_n hx hb dX3_parseLine_155 rfl (lv_at hl 0 rfl) ?_
                  refine lv_aload_n hx hb dX3_parseLine_156 rfl (lv_at hl 1 rfl) ?_
                  obtain ⟨g89, h⟩ := oif_some h
                  obtain ⟨n90, en90, h⟩ := obind_some h
                  refine c_get E G a0 6 (v := .ref (ad n90)) (oO_k g89).1 (cc_o6 (oO_k g89).2) rfl (fun w h => .tail _ (iA_14 h)) (by decide) (.tail _ qA_179) rfl (by rw [en90]; rfl) dX3_parseLine_157 ?_
                  clear en90
                  obtain ⟨g91, h⟩ := oif_some h
                  rcases othr_t h with ⟨r0, eT92⟩ | ⟨r94, T92, eT92, h⟩
                  · refine q_xvv (As := [.ref (ad n90)]) (rest := []) E G hA hX hN hml (x_X3_parseZone l hst D cI cJ cZ cMic cSrc cSt cAI cAJ ad T53 o n90 eT92) (cwV 1 hts (gaV qA_384 qA_385 qA_386 qA_222 qA_387) rfl rfl rfl (by decide +kernel) ⟨Nat.le_of_ble_eq_true rfl, Nat.le_of_ble_eq_true rfl⟩) (oO_k g91).1 (cc_o3 (oO_k g91).2) rfl rfl hl.1 rfl (lv_room (Nat.le_of_ble_eq_true rfl)) dX3_parseLine_160 ⟨Nat.le_of_ble_eq_true rfl, Nat.le_of_ble_eq_true rfl⟩ (fun E9 ce q9 T9 H locs hp G hce hcv hcl => ?_)
                    obtain ⟨hE, hT⟩ := hp
                    subst hE
                    rw [hT] at G
                    exact vx_out (fun x hx => (htab x hx).elim) hlocks hce hcv hcl (fun t ht hvm => ⟨T1, trivial, ⟨⟨rfl, rfl⟩, by rw [ht]; exact G.1, va_K.moved hvm hK, G.2.1⟩, G.2.2.F ht⟩) G.2.2.2.2 (Nat.le_refl _) (Nat.le_refl _)
                  refine q_cvv (As := [.ref (ad n90)]) (rest := []) E G hA hX hN hml (u_X3_parseZone l hst D cI cJ cZ cMic cSrc cSt cAI cAJ ad T53 o n90 eT92) (cwV 1 hts (gaV qA_384 qA_385 qA_386 qA_222 qA_387) rfl rfl rfl (by decide +kernel) ⟨Nat.le_of_ble_eq_true rfl, Nat.le_of_ble_eq_true rfl⟩) (oO_k g91).1 (cc_o3 (oO_k g91).2) rfl rfl hl.1 rfl (lv_room (Nat.le_of_ble_eq_true rfl)) dX3_parseLine_160 ⟨Nat.zero_le _, Nat.zero_le _⟩ (fun T93 H locs hq G => ?_)
                  rw [hq] at G
                  clear hq eT92
                  refine lv_goto (tgt := 209) hx hb dX3_parseLine_163 (by decide) ?_
                  have hl := lv_sub hl [] rfl
                  exact x_X3_parseLine_b209 E hA hX hN hml hA0 hT trivial hst htab hlocks (fun H locs t G hvm h1 h2 => ⟨T1, trivial, ⟨⟨rfl, rfl⟩, (c_thrown G hK hvm h1 h2).1⟩, (c_thrown G hK hvm h1 h2).2⟩) _ _ _ _ h G hl
              · have h := oif_neg c50 h
                refine lv_aload_n hx hb dX3_parseLine_138 rfl (lv_at hl 0 rfl) ?_
                refine lv_aload_n hx hb dX3_parseLine_139 rfl (lv_at hl 1 rfl) ?_
                obtain ⟨g96, h⟩ := oif_some h
                rcases othr_t h with ⟨r0, eT97⟩ | ⟨r99, T97, eT97, h⟩
                · refine q_xvv (As := [.ref (ad a0)]) (rest := []) E G hA hX hN hml (x_X3_parseClock l hst D cI cJ cZ cMic cSrc cSt cAI cAJ ad T46 o a0 eT97) (cwV 1 hts (gaV qA_380 qA_381 qA_382 qA_222 qA_383) rfl rfl rfl (by decide +kernel) ⟨Nat.le_of_ble_eq_true rfl, Nat.le_of_ble_eq_true rfl⟩) (oO_k g96).1 (cc_o3 (oO_k g96).2) rfl rfl hl.1 rfl (lv_room (Nat.le_of_ble_eq_true rfl)) dX3_parseLine_140 ⟨Nat.le_of_ble_eq_true rfl, Nat.le_of_ble_eq_true rfl⟩ (fun E9 ce q9 T9 H locs hp G hce hcv hcl => ?_)
                  obtain ⟨hE, hT⟩ := hp
                  subst hE
                  rw [hT] at G
                  exact vx_out (fun x hx => (htab x hx).elim) hlocks hce hcv hcl (fun t ht hvm => ⟨T1, trivial, ⟨⟨rfl, rfl⟩, by rw [ht]; exact G.1, va_K.moved hvm hK, G.2.1⟩, G.2.2.F ht⟩) G.2.2.2.2 (Nat.le_refl _) (Nat.le_refl _)
                refine q_cvv (As := [.ref (ad a0)]) (rest := []) E G hA hX hN hml (u_X3_parseClock l hst D cI cJ cZ cMic cSrc cSt cAI cAJ ad T46 o a0 eT97) (cwV 1 hts (gaV qA_380 qA_381 qA_382 qA_222 qA_383) rfl rfl rfl (by decide +kernel) ⟨Nat.le_of_ble_eq_true rfl, Nat.le_of_ble_eq_true rfl⟩) (oO_k g96).1 (cc_o3 (oO_k g96).2) rfl rfl hl.1 rfl (lv_room (Nat.le_of_ble_eq_true rfl)) dX3_parseLine_140 ⟨Nat.zero_le _, Nat.zero_le _⟩ (fun T98 H locs hq G => ?_)
                rw [hq] at G
                clear hq eT97
                refine lv_goto (tgt := 209) hx hb dX3_parseLine_143 (by decide) ?_
                have hl := lv_sub hl [] rfl
                exact x_X3_parseLine_b209 E hA hX hN hml hA0 hT trivial hst htab hlocks (fun H locs t G hvm h1 h2 => ⟨T1, trivial, ⟨⟨rfl, rfl⟩, (c_thrown G hK hvm h1 h2).1⟩, (c_thrown G hK hvm h1 h2).2⟩) _ _ _ _ h G hl
            · have h := oif_neg c43 h
              refine lv_aload_n hx hb dX3_parseLine_121 rfl (lv_at hl 0 rfl) ?_
              refine lv_aload_n hx hb dX3_parseLine_122 rfl (lv_at hl 1 rfl) ?_
              obtain ⟨g101, h⟩ := oif_some h
              rcases othr_t h with ⟨r0, eT102⟩ | ⟨r104, T102, eT102, h⟩
              · refine q_xvv (As := [.ref (ad a0)]) (rest := []) E G hA hX hN hml (x_X3_parseFilter l hst D cI cJ cZ cMic cSrc cSt cAI cAJ ad T39 o a0 eT102) (cwV 1 hts (gaV qA_366 qA_367 qA_368 qA_222 qA_369) rfl rfl rfl (by decide +kernel) ⟨Nat.le_of_ble_eq_true rfl, Nat.le_of_ble_eq_true rfl⟩) (oO_k g101).1 (cc_o3 (oO_k g101).2) rfl rfl hl.1 rfl (lv_room (Nat.le_of_ble_eq_true rfl)) dX3_parseLine_123 ⟨Nat.le_of_ble_eq_true rfl, Nat.le_of_ble_eq_true rfl⟩ (fun E9 ce q9 T9 H locs hp G hce hcv hcl => ?_)
                obtain ⟨hE, hT⟩ := hp
                subst hE
                rw [hT] at G
                exact vx_out (fun x hx => (htab x hx).elim) hlocks hce hcv hcl (fun t ht hvm => ⟨T1, trivial, ⟨⟨rfl, rfl⟩, by rw [ht]; exact G.1, va_K.moved hvm hK, G.2.1⟩, G.2.2.F ht⟩) G.2.2.2.2 (Nat.le_refl _) (Nat.le_refl _)
              refine q_cvv (As := [.ref (ad a0)]) (rest := []) E G hA hX hN hml (u_X3_parseFilter l hst D cI cJ cZ cMic cSrc cSt cAI cAJ ad T39 o a0 eT102) (cwV 1 hts (gaV qA_366 qA_367 qA_368 qA_222 qA_369) rfl rfl rfl (by decide +kernel) ⟨Nat.le_of_ble_eq_true rfl, Nat.le_of_ble_eq_true rfl⟩) (oO_k g101).1 (cc_o3 (oO_k g101).2) rfl rfl hl.1 rfl (lv_room (Nat.le_of_ble_eq_true rfl)) dX3_parseLine_123 ⟨Nat.zero_le _, Nat.zero_le _⟩ (fun T103 H locs hq G => ?_)
              rw [hq] at G
              clear hq eT102
              refine lv_goto (tgt := 209) hx hb dX3_parseLine_126 (by decide) ?_
              have hl := lv_sub hl [] rfl
              exact x_X3_parseLine_b209 E hA hX hN hml hA0 hT trivial hst htab hlocks (fun H locs t G hvm h1 h2 => ⟨T1, trivial, ⟨⟨rfl, rfl⟩, (c_thrown G hK hvm h1 h2).1⟩, (c_thrown G hK hvm h1 h2).2⟩) _ _ _ _ h G hl
          · have h := oif_neg c36 h
            refine lv_aload_n hx hb dX3_parseLine_80 rfl (lv_at hl 0 rfl) ?_
            refine lv_aload_n hx hb dX3_parseLine_81 rfl (lv_at hl 1 rfl) ?_
            obtain ⟨g106, h⟩ := oif_some h
            refine c_get E G a0 12 (oO_k g106).1 (cc_o6 (oO_k g106).2) rfl (fun w h => .tail _ (iA_14 h)) (by decide) (.tail _ qA_311) rfl rfl dX3_parseLine_82 ?_
            refine lv_topi (fun v107 ev107 => ?_)
            have h := elet_at ev107 h
            clear ev107
            refine lv_if_le (tgt := 92) hx hb dX3_parseLine_85 (by decide) (fun c108 => ?_) (fun c108 => ?_)
            · have h := oif_pos c108 h
              refine lv_iconst (v := 0) hx hb dX3_parseLine_92 (by decide) ?_
              have hl := lv_sub hl [0, 1] rfl
              exact x_X3_parseLine_b93 E hA hX hN hml hA0 hT trivial hst htab hlocks (fun H locs t G hvm h1 h2 => ⟨T1, trivial, ⟨⟨rfl, rfl⟩, (c_thrown G hK hvm h1 h2).1⟩, (c_thrown G hK hvm h1 h2).2⟩) _ _ _ _ _ _ _ _ h G hl
            · have h := oif_neg c108 h
              refine lv_iconst (v := 1) hx hb dX3_parseLine_88 (by decide) ?_
              refine lv_goto (tgt := 93) hx hb dX3_parseLine_89 (by decide) ?_
              have hl := lv_sub hl [0, 1] rfl
              exact x_X3_parseLine_b93 E hA hX hN hml hA0 hT trivial hst htab hlocks (fun H locs t G hvm h1 h2 => ⟨T1, trivial, ⟨⟨rfl, rfl⟩, (c_thrown G hK hvm h1 h2).1⟩, (c_thrown G hK hvm h1 h2).2⟩) _ _ _ _ _ _ _ _ h G hl
        · have h := oif_neg c29 h
          refine lv_aload_n hx hb dX3_parseLine_63 rfl (lv_at hl 0 rfl) ?_
          refine lv_aload_n hx hb dX3_parseLine_64 rfl (lv_at hl 1 rfl) ?_
          obtain ⟨g109, h⟩ := oif_some h
          rcases othr_t h with ⟨r0, eT110⟩ | ⟨r112, T110, eT110, h⟩
          · refine q_xvv (As := [.ref (ad a0)]) (rest := []) E G hA hX hN hml (x_X3_parseWall l hst D cI cJ cZ cMic cSrc cSt cAI cAJ ad T25 o a0 eT110) (cwV 1 hts (gaV qA_359 qA_360 qA_361 qA_222 qA_362) rfl rfl rfl (by decide +kernel) ⟨Nat.le_of_ble_eq_true rfl, Nat.le_of_ble_eq_true rfl⟩) (oO_k g109).1 (cc_o3 (oO_k g109).2) rfl rfl hl.1 rfl (lv_room (Nat.le_of_ble_eq_true rfl)) dX3_parseLine_65 ⟨Nat.le_of_ble_eq_true rfl, Nat.le_of_ble_eq_true rfl⟩ (fun E9 ce q9 T9 H locs hp G hce hcv hcl => ?_)
            obtain ⟨hE, hT⟩ := hp
            subst hE
            rw [hT] at G
            exact vx_out (fun x hx => (htab x hx).elim) hlocks hce hcv hcl (fun t ht hvm => ⟨T1, trivial, ⟨⟨rfl, rfl⟩, by rw [ht]; exact G.1, va_K.moved hvm hK, G.2.1⟩, G.2.2.F ht⟩) G.2.2.2.2 (Nat.le_refl _) (Nat.le_refl _)
          refine q_cvv (As := [.ref (ad a0)]) (rest := []) E G hA hX hN hml (u_X3_parseWall l hst D cI cJ cZ cMic cSrc cSt cAI cAJ ad T25 o a0 eT110) (cwV 1 hts (gaV qA_359 qA_360 qA_361 qA_222 qA_362) rfl rfl rfl (by decide +kernel) ⟨Nat.le_of_ble_eq_true rfl, Nat.le_of_ble_eq_true rfl⟩) (oO_k g109).1 (cc_o3 (oO_k g109).2) rfl rfl hl.1 rfl (lv_room (Nat.le_of_ble_eq_true rfl)) dX3_parseLine_65 ⟨Nat.zero_le _, Nat.zero_le _⟩ (fun T111 H locs hq G => ?_)
          rw [hq] at G
          clear hq eT110
          refine lv_goto (tgt := 209) hx hb dX3_parseLine_68 (by decide) ?_
          have hl := lv_sub hl [] rfl
          exact x_X3_parseLine_b209 E hA hX hN hml hA0 hT trivial hst htab hlocks (fun H locs t G hvm h1 h2 => ⟨T1, trivial, ⟨⟨rfl, rfl⟩, (c_thrown G hK hvm h1 h2).1⟩, (c_thrown G hK hvm h1 h2).2⟩) _ _ _ _ h G hl
      · have h := oif_neg c22 h
        refine lv_aload_n hx hb dX3_parseLine_46 rfl (lv_at hl 0 rfl) ?_
        refine lv_aload_n hx hb dX3_parseLine_47 rfl (lv_at hl 1 rfl) ?_
        obtain ⟨g114, h⟩ := oif_some h
        rcases othr_t h with ⟨r0, eT115⟩ | ⟨r117, T115, eT115, h⟩
        · refine q_xvvX (As := [.ref (ad a0)]) (rest := []) E G hA hX hN hml (x_X3_parseSource l hst D cI cJ cZ cMic cSrc cSt cAI cAJ ad T18 h0 o a0 eT115) (cwV 1 hts (gaV qA_339 qA_340 qA_341 qA_222 qA_342) rfl rfl rfl (by decide +kernel) ⟨Nat.le_of_ble_eq_true rfl, Nat.le_of_ble_eq_true rfl⟩) (oO_k g114).1 (cc_o3 (oO_k g114).2) rfl rfl hl.1 rfl (lv_room (Nat.le_of_ble_eq_true rfl)) dX3_parseLine_48 ⟨Nat.le_of_ble_eq_true rfl, Nat.le_of_ble_eq_true rfl⟩ (yT0.blind) (yT0.go hT hA0 hA G) (fun E9 ce q9 T9 H locs hp G hce hcv hcl => ?_)
          obtain ⟨hE, hT⟩ := hp
          subst hE
          rw [hT] at G
          exact vx_out (fun x hx => (htab x hx).elim) hlocks hce hcv hcl (fun t ht hvm => ⟨T1, trivial, ⟨⟨rfl, rfl⟩, by rw [ht]; exact G.1, va_K.moved hvm hK, G.2.1⟩, G.2.2.F ht⟩) G.2.2.2.2 (Nat.le_refl _) (Nat.le_refl _)
        refine q_cvvX (As := [.ref (ad a0)]) (rest := []) E G hA hX hN hml (u_X3_parseSource l hst D cI cJ cZ cMic cSrc cSt cAI cAJ ad T18 h0 o a0 eT115) (cwV 1 hts (gaV qA_339 qA_340 qA_341 qA_222 qA_342) rfl rfl rfl (by decide +kernel) ⟨Nat.le_of_ble_eq_true rfl, Nat.le_of_ble_eq_true rfl⟩) (oO_k g114).1 (cc_o3 (oO_k g114).2) rfl rfl hl.1 rfl (lv_room (Nat.le_of_ble_eq_true rfl)) dX3_parseLine_48 ⟨Nat.zero_le _, Nat.zero_le _⟩ (yT0.blind) (yT0.go hT hA0 hA G) (fun T116 H locs hq G => ?_)
        rw [hq] at G
        clear hq eT115
        refine lv_goto (tgt := 209) hx hb dX3_parseLine_51 (by decide) ?_
        have hl := lv_sub hl [] rfl
        exact x_X3_parseLine_b209 E hA hX hN hml hA0 hT trivial hst htab hlocks (fun H locs t G hvm h1 h2 => ⟨T1, trivial, ⟨⟨rfl, rfl⟩, (c_thrown G hK hvm h1 h2).1⟩, (c_thrown G hK hvm h1 h2).2⟩) _ _ _ _ h G hl
    · have h := oif_neg c15 h
      refine lv_aload_n hx hb dX3_parseLine_26 rfl (lv_at hl 0 rfl) ?_
      refine lv_aload_n hx hb dX3_parseLine_27 rfl (lv_at hl 1 rfl) ?_
      obtain ⟨g119, h⟩ := oif_some h
      obtain ⟨n120, en120, h⟩ := obind_some h
      refine c_get E G a0 6 (v := .ref (ad n120)) (oO_k g119).1 (cc_o6 (oO_k g119).2) rfl (fun w h => .tail _ (iA_14 h)) (by decide) (.tail _ qA_179) rfl (by rw [en120]; rfl) dX3_parseLine_28 ?_
      clear en120
      obtain ⟨g121, h⟩ := oif_some h
      rcases othr_t h with ⟨r0, eT122⟩ | ⟨r124, T122, eT122, h⟩
      · refine q_xvv (As := [.ref (ad n120)]) (rest := []) E G hA hX hN hml (x_X3_parseMap l hst D cI cJ cZ cMic cSrc cSt cAI cAJ ad T11 o n120 eT122) (cwV 1 hts (gaV qA_329 qA_330 qA_331 qA_222 qA_332) rfl rfl rfl (by decide +kernel) ⟨Nat.le_of_ble_eq_true rfl, Nat.le_of_ble_eq_true rfl⟩) (oO_k g121).1 (cc_o3 (oO_k g121).2) rfl rfl hl.1 rfl (lv_room (Nat.le_of_ble_eq_true rfl)) dX3_parseLine_31 ⟨Nat.le_of_ble_eq_true rfl, Nat.le_of_ble_eq_true rfl⟩ (fun E9 ce q9 T9 H locs hp G hce hcv hcl => ?_)
        obtain ⟨hE, hT⟩ := hp
        subst hE
        rw [hT] at G
        exact vx_out (fun x hx => (htab x hx).elim) hlocks hce hcv hcl (fun t ht hvm => ⟨T1, trivial, ⟨⟨rfl, rfl⟩, by rw [ht]; exact G.1, va_K.moved hvm hK, G.2.1⟩, G.2.2.F ht⟩) G.2.2.2.2 (Nat.le_refl _) (Nat.le_refl _)
      refine q_cvv (As := [.ref (ad n120)]) (rest := []) E G hA hX hN hml (u_X3_parseMap l hst D cI cJ cZ cMic cSrc cSt cAI cAJ ad T11 o n120 eT122) (cwV 1 hts (gaV qA_329 qA_330 qA_331 qA_222 qA_332) rfl rfl rfl (by decide +kernel) ⟨Nat.le_of_ble_eq_true rfl, Nat.le_of_ble_eq_true rfl⟩) (oO_k g121).1 (cc_o3 (oO_k g121).2) rfl rfl hl.1 rfl (lv_room (Nat.le_of_ble_eq_true rfl)) dX3_parseLine_31 ⟨Nat.zero_le _, Nat.zero_le _⟩ (fun T123 H locs hq G => ?_)
      rw [hq] at G
      clear hq eT122
      refine lv_goto (tgt := 209) hx hb dX3_parseLine_34 (by decide) ?_
      have hl := lv_sub hl [] rfl
      exact x_X3_parseLine_b209 E hA hX hN hml hA0 hT trivial hst htab hlocks (fun H locs t G hvm h1 h2 => ⟨T1, trivial, ⟨⟨rfl, rfl⟩, (c_thrown G hK hvm h1 h2).1⟩, (c_thrown G hK hvm h1 h2).2⟩) _ _ _ _ h G hl
  · have h := oif_neg c8 h
    refine lv_aload_n hx hb dX3_parseLine_9 rfl (lv_at hl 0 rfl) ?_
    refine lv_aload_n hx hb dX3_parseLine_10 rfl (lv_at hl 1 rfl) ?_
    obtain ⟨g126, h⟩ := oif_some h
    rcases othr_t h with ⟨r0, eT127⟩ | ⟨r129, T127, eT127, h⟩
    · refine q_xvv (As := [.ref (ad a0)]) (rest := []) E G hA hX hN hml (x_X3_parseMic l hst D cI cJ cZ cMic cSrc cSt cAI cAJ ad T4 o a0 eT127) (cwV 1 hts (gaV qA_312 qA_313 qA_314 qA_222 qA_315) rfl rfl rfl (by decide +kernel) ⟨Nat.le_of_ble_eq_true rfl, Nat.le_of_ble_eq_true rfl⟩) (oO_k g126).1 (cc_o3 (oO_k g126).2) rfl rfl hl.1 rfl (lv_room (Nat.le_of_ble_eq_true rfl)) dX3_parseLine_11 ⟨Nat.le_of_ble_eq_true rfl, Nat.le_of_ble_eq_true rfl⟩ (fun E9 ce q9 T9 H locs hp G hce hcv hcl => ?_)
      obtain ⟨hE, hT⟩ := hp
      subst hE
      rw [hT] at G
      exact vx_out (fun x hx => (htab x hx).elim) hlocks hce hcv hcl (fun t ht hvm => ⟨T1, trivial, ⟨⟨rfl, rfl⟩, by rw [ht]; exact G.1, va_K.moved hvm hK, G.2.1⟩, G.2.2.F ht⟩) G.2.2.2.2 (Nat.le_refl _) (Nat.le_refl _)
    refine q_cvv (As := [.ref (ad a0)]) (rest := []) E G hA hX hN hml (u_X3_parseMic l hst D cI cJ cZ cMic cSrc cSt cAI cAJ ad T4 o a0 eT127) (cwV 1 hts (gaV qA_312 qA_313 qA_314 qA_222 qA_315) rfl rfl rfl (by decide +kernel) ⟨Nat.le_of_ble_eq_true rfl, Nat.le_of_ble_eq_true rfl⟩) (oO_k g126).1 (cc_o3 (oO_k g126).2) rfl rfl hl.1 rfl (lv_room (Nat.le_of_ble_eq_true rfl)) dX3_parseLine_11 ⟨Nat.zero_le _, Nat.zero_le _⟩ (fun T128 H locs hq G => ?_)
    rw [hq] at G
    clear hq eT127
    refine lv_goto (tgt := 209) hx hb dX3_parseLine_14 (by decide) ?_
    have hl := lv_sub hl [] rfl
    exact x_X3_parseLine_b209 E hA hX hN hml hA0 hT trivial hst htab hlocks (fun H locs t G hvm h1 h2 => ⟨T1, trivial, ⟨⟨rfl, rfl⟩, (c_thrown G hK hvm h1 h2).1⟩, (c_thrown G hK hvm h1 h2).2⟩) _ _ _ _ h G hl
def g_X3_parse_b107  (T : AT) (l0 : Nat) : Option (Nat × Int32 × AT) := oif (oO T l0 3 = true) <| elet (uI T l0 2 0) fun T3 => oif (oO T3 l0 3 = true) <| elet (uI T3 l0 3 (-1)) fun T5 => some (0, 0, T5)
set_option maxHeartbeats 4000000 in
set_option maxRecDepth 100000 in
theorem u_X3_parse_b107 {p : Program} {l : Launch} {e : Env} {s : State} {m : MethodId} {args : Array Value} {below : List Frame} {meth : Method} {c : Code} {Q : State → Prop} {D : va_G} {A : Nat → Prop} {cI cJ cZ cMic cSrc cSt cAI cAJ : ClassId} {ad : Nat → Nat} {r1 : Int32} {T1 : AT} (E : cE p c cX3_parse s m args (Cond.code yX3_parse cX3_parse 4 none :: wsA) D RX3 (CT cI cJ cZ cMic cSrc cSt cAI cAJ)) (hA : ∀ q : Nat, s.heap.size ≤ q → A q) (hX : xT A s) (hN : nX s) (hml : c.maxLocals = 4) (hst : l.stackTraces = false) {h0 : Nat} (hA0 : ∀ a : Nat, A a → h0 ≤ a) (hT : sAll h0 s) (kr117 : ∀ (H : Heap) (locs : List Loc) (ls : Array Slot), gC cI cJ cZ cMic cSrc cSt cAI cAJ D ad A s.heap H locs T1 → W p l e { frames := 11, cells := 0, slots := 0, locals := 192 } s m args below meth c H locs 0 0 Q (F0 m 117 ls [])) : ∀ (T : AT) (H : Heap) (locs : List Loc) (ls : Array Slot) (l0 : Nat), g_X3_parse_b107 T l0 = some (0, r1, T1) → gC cI cJ cZ cMic cSrc cSt cAI cAJ D ad A s.heap H locs T → lv_has ls 4 [(0, .ref (ad l0))] → W p l e { frames := 11, cells := 0, slots := 0, locals := 192 } s m args below meth c H locs 0 0 Q (F0 m 107 ls []) := by
  have hx := E.1
  have hb := E.2.1
  have hts := E.2.2.1
  have hown := E.2.2.2.1
  have hK := E.2.2.2.2
  intro T H locs ls l0 h G hl
  unfold g_X3_parse_b107 at h
  refine lv_aload_n hx hb dX3_parse_107 rfl (lv_at hl 0 rfl) ?_
  refine lv_iconst (v := 0) hx hb dX3_parse_108 (by decide) ?_
  obtain ⟨g2, h⟩ := oif_some h
  refine c_put E G l0 2 (v := .int 0) (oO_k g2).1 (cc_o3 (oO_k g2).2) rfl (fun w h => .tail _ (iA_17 h)) tyX3 tyX3_ok nmX3 (by decide) (.tail _ qA_181) ⟨rfl, rfl, rfl⟩ rfl rfl (Nat.le_of_ble_eq_true rfl) dX3_parse_109 (fun H locs G => ?_)
  have G := gC_up_i (f := upd (T.2.2.1 l0) 2 0) (by rw [(oO_k g2).2]; rfl) G
  obtain ⟨T3, eT3, h⟩ := elet_some h
  have G : gC cI cJ cZ cMic cSrc cSt cAI cAJ D ad A s.heap H locs T3 := by rw [eT3]; exact G
  clear eT3
  refine lv_aload_n hx hb dX3_parse_112 rfl (lv_at hl 0 rfl) ?_
  refine lv_iconst (v := (-1)) hx hb dX3_parse_113 (by decide) ?_
  obtain ⟨g4, h⟩ := oif_some h
  refine c_put E G l0 3 (v := .int (-1)) (oO_k g4).1 (cc_o3 (oO_k g4).2) rfl (fun w h => .tail _ (iA_17 h)) tyX3 tyX3_ok nmX3 (by decide) (.tail _ qA_173) ⟨rfl, rfl, rfl⟩ rfl rfl (Nat.le_of_ble_eq_true rfl) dX3_parse_114 (fun H locs G => ?_)
  have G := gC_up_i (f := upd (T3.2.2.1 l0) 3 (-1)) (by rw [(oO_k g4).2]; rfl) G
  obtain ⟨T5, eT5, h⟩ := elet_some h
  have G : gC cI cJ cZ cMic cSrc cSt cAI cAJ D ad A s.heap H locs T5 := by rw [eT5]; exact G
  clear eT5
  rw [(osome3 h).2.2] at G
  exact kr117 _ _ _ G
def g_X3_parse_b98  (T : AT) (l0 : Nat) : Option (Nat × Int32 × AT) := oif (oO T l0 3 = true) <| elet (T.2.2.1 l0 1) fun v3 => oif (oO T l0 3 = true) <| othr (g_X3_failAt T l0 v3 (5 : Int32)) 0 fun r7 T5 => g_X3_parse_b107 T5 l0
set_option maxHeartbeats 4000000 in
set_option maxRecDepth 100000 in
theorem u_X3_parse_b98 {p : Program} {l : Launch} {e : Env} {s : State} {m : MethodId} {args : Array Value} {below : List Frame} {meth : Method} {c : Code} {Q : State → Prop} {D : va_G} {A : Nat → Prop} {cI cJ cZ cMic cSrc cSt cAI cAJ : ClassId} {ad : Nat → Nat} {r1 : Int32} {T1 : AT} (E : cE p c cX3_parse s m args (Cond.code yX3_parse cX3_parse 4 none :: wsA) D RX3 (CT cI cJ cZ cMic cSrc cSt cAI cAJ)) (hA : ∀ q : Nat, s.heap.size ≤ q → A q) (hX : xT A s) (hN : nX s) (hml : c.maxLocals = 4) (hst : l.stackTraces = false) {h0 : Nat} (hA0 : ∀ a : Nat, A a → h0 ≤ a) (hT : sAll h0 s) (kr117 : ∀ (H : Heap) (locs : List Loc) (ls : Array Slot), gC cI cJ cZ cMic cSrc cSt cAI cAJ D ad A s.heap H locs T1 → W p l e { frames := 11, cells := 0, slots := 0, locals := 192 } s m args below meth c H locs 0 0 Q (F0 m 117 ls [])) : ∀ (T : AT) (H : Heap) (locs : List Loc) (ls : Array Slot) (l0 : Nat), g_X3_parse_b98 T l0 = some (0, r1, T1) → gC cI cJ cZ cMic cSrc cSt cAI cAJ D ad A s.heap H locs T → lv_has ls 4 [(0, .ref (ad l0))] → W p l e { frames := 11, cells := 0, slots := 0, locals := 192 } s m args below meth c H locs 0 0 Q (F0 m 98 ls []) := by
  have hx := E.1
  have hb := E.2.1
  have hts := E.2.2.1
  have hown := E.2.2.2.1
  have hK := E.2.2.2.2
  intro T H locs ls l0 h G hl
  unfold g_X3_parse_b98 at h
  refine lv_aload_n hx hb dX3_parse_98 rfl (lv_at hl 0 rfl) ?_
  refine lv_aload_n hx hb dX3_parse_99 rfl (lv_at hl 0 rfl) ?_
  obtain ⟨g2, h⟩ := oif_some h
  refine c_get E G l0 1 (oO_k g2).1 (cc_o3 (oO_k g2).2) rfl (fun w h => .tail _ (iA_17 h)) (by decide) (.tail _ qA_176) rfl rfl dX3_parse_100 ?_
  refine lv_topi (fun v3 ev3 => ?_)
  have h := elet_at ev3 h
  clear ev3
  refine lv_iconst (v := 5) hx hb dX3_parse_103 (by decide) ?_
  obtain ⟨g4, h⟩ := oif_some h
  obtain ⟨r7, T5, eT5, h⟩ := othr_n h
  refine q_cvv (As := [.int v3, .int 5]) (rest := []) E G hA hX hN hml (u_X3_failAt l hst D cI cJ cZ cMic cSrc cSt cAI cAJ ad T l0 v3 (5 : Int32) eT5) (cwV 2 hts (gaV qA_293 qA_294 qA_295 qA_222 qA_296) rfl rfl rfl (by decide +kernel) ⟨Nat.le_of_ble_eq_true rfl, Nat.le_of_ble_eq_true rfl⟩) (oO_k g4).1 (cc_o3 (oO_k g4).2) rfl rfl hl.1 rfl (lv_room (Nat.le_of_ble_eq_true rfl)) dX3_parse_104 ⟨Nat.zero_le _, Nat.zero_le _⟩ (fun T6 H locs hq G => ?_)
  rw [hq] at G
  clear hq eT5
  have hl := lv_sub hl [0] rfl
  exact u_X3_parse_b107 E hA hX hN hml hst hA0 hT kr117 _ _ _ _ _ h G hl
def g_X3_parse_b81  (T : AT) (l0 : Nat) (l2 : Nat) : Option (Nat × Int32 × AT) := oif (oO T l2 6 = true) <| elet (T.2.2.1 l2 5) fun v3 => if v3 = 0 then (g_X3_parse_b98 T l0) else (oif (oO T l2 6 = true) <| obind (T.2.2.2.2 l2 6) fun n6 => oif (oO T n6 1 = true) <| elet (T.2.2.1 n6 3) fun v8 => if v8 = 0 then (g_X3_parse_b98 T l0) else (g_X3_parse_b107 T l0))
set_option maxHeartbeats 4000000 in
set_option maxRecDepth 100000 in
theorem u_X3_parse_b81 {p : Program} {l : Launch} {e : Env} {s : State} {m : MethodId} {args : Array Value} {below : List Frame} {meth : Method} {c : Code} {Q : State → Prop} {D : va_G} {A : Nat → Prop} {cI cJ cZ cMic cSrc cSt cAI cAJ : ClassId} {ad : Nat → Nat} {r1 : Int32} {T1 : AT} (E : cE p c cX3_parse s m args (Cond.code yX3_parse cX3_parse 4 none :: wsA) D RX3 (CT cI cJ cZ cMic cSrc cSt cAI cAJ)) (hA : ∀ q : Nat, s.heap.size ≤ q → A q) (hX : xT A s) (hN : nX s) (hml : c.maxLocals = 4) (hst : l.stackTraces = false) {h0 : Nat} (hA0 : ∀ a : Nat, A a → h0 ≤ a) (hT : sAll h0 s) (kr117 : ∀ (H : Heap) (locs : List Loc) (ls : Array Slot), gC cI cJ cZ cMic cSrc cSt cAI cAJ D ad A s.heap H locs T1 → W p l e { frames := 11, cells := 0, slots := 0, locals := 192 } s m args below meth c H locs 0 0 Q (F0 m 117 ls [])) : ∀ (T : AT) (H : Heap) (locs : List Loc) (ls : Array Slot) (l0 : Nat) (l2 : Nat), g_X3_parse_b81 T l0 l2 = some (0, r1, T1) → gC cI cJ cZ cMic cSrc cSt cAI cAJ D ad A s.heap H locs T → lv_has ls 4 [(0, .ref (ad l0)), (2, .ref (ad l2))] → W p l e { frames := 11, cells := 0, slots := 0, locals := 192 } s m args below meth c H locs 0 0 Q (F0 m 81 ls []) := by
  have hx := E.1
  have hb := E.2.1
  have hts := E.2.2.1
  have hown := E.2.2.2.1
  have hK := E.2.2.2.2
  intro T H locs ls l0 l2 h G hl
  unfold g_X3_parse_b81 at h
  refine lv_aload_n hx hb dX3_parse_81 rfl (lv_at hl 1 rfl) ?_
  obtain ⟨g2, h⟩ := oif_some h
  refine c_get E G l2 5 (oO_k g2).1 (cc_o6 (oO_k g2).2) rfl (fun w h => .tail _ (iA_14 h)) (by decide) (.tail _ qA_178) rfl rfl dX3_parse_82 ?_
  refine lv_topi (fun v3 ev3 => ?_)
  have h := elet_at ev3 h
  clear ev3
  refine lv_if_eq (tgt := 98) hx hb dX3_parse_85 (by decide) (fun c4 => ?_) (fun c4 => ?_)
  · have h := oif_pos c4 h
    have hl := lv_sub hl [0] rfl
    exact u_X3_parse_b98 E hA hX hN hml hst hA0 hT kr117 _ _ _ _ _ h G hl
  · have h := oif_neg c4 h
    refine lv_aload_n hx hb dX3_parse_88 rfl (lv_at hl 1 rfl) ?_
    obtain ⟨g5, h⟩ := oif_some h
    obtain ⟨n6, en6, h⟩ := obind_some h
    refine c_get E G l2 6 (v := .ref (ad n6)) (oO_k g5).1 (cc_o6 (oO_k g5).2) rfl (fun w h => .tail _ (iA_14 h)) (by decide) (.tail _ qA_179) rfl (by rw [en6]; rfl) dX3_parse_89 ?_
    clear en6
    obtain ⟨g7, h⟩ := oif_some h
    refine c_get E G n6 3 (oO_k g7).1 (cc_o1 (oO_k g7).2) rfl (fun w h => .tail _ (iA_15 h)) (by decide) (.tail _ qA_180) rfl rfl dX3_parse_92 ?_
    refine lv_topi (fun v8 ev8 => ?_)
    have h := elet_at ev8 h
    clear ev8
    refine lv_if_ne (tgt := 107) hx hb dX3_parse_95 (by decide) (fun c9 => ?_) (fun c9 => ?_)
    · have h := oif_neg c9 h
      have hl := lv_sub hl [0] rfl
      exact u_X3_parse_b107 E hA hX hN hml hst hA0 hT kr117 _ _ _ _ _ h G hl
    · have h := oif_pos c9 h
      have hl := lv_sub hl [0] rfl
      exact u_X3_parse_b98 E hA hX hN hml hst hA0 hT kr117 _ _ _ _ _ h G hl
def g_X3_parse_b60 (k24 : AT → Nat → Nat → Int32 → Option (Nat × Int32 × AT)) (T : AT) (l0 : Nat) (l2 : Nat) (l3 : Int32) : Option (Nat × Int32 × AT) := oif (oO T l0 3 = true) <| elet (T.2.2.1 l0 1) fun v3 => elet (v3 + 1) fun v4 => oif (oO T l0 3 = true) <| elet (uI T l0 1 v4) fun T6 => oif (oO T6 l0 3 = true) <| othr (g_X3_parseLine T6 l0 l2) 0 fun r10 T8 => elet (l3 + Int32.ofInt (1)) fun v12 => k24 T8 l0 l2 v12
set_option maxHeartbeats 4000000 in
set_option maxRecDepth 100000 in
theorem u_X3_parse_b60 {p : Program} {l : Launch} {e : Env} {s : State} {m : MethodId} {args : Array Value} {below : List Frame} {meth : Method} {c : Code} {Q : State → Prop} {D : va_G} {A : Nat → Prop} {cI cJ cZ cMic cSrc cSt cAI cAJ : ClassId} {ad : Nat → Nat} {r1 : Int32} {T1 : AT} (E : cE p c cX3_parse s m args (Cond.code yX3_parse cX3_parse 4 none :: wsA) D RX3 (CT cI cJ cZ cMic cSrc cSt cAI cAJ)) (hA : ∀ q : Nat, s.heap.size ≤ q → A q) (hX : xT A s) (hN : nX s) (hml : c.maxLocals = 4) (hst : l.stackTraces = false) {h0 : Nat} (hA0 : ∀ a : Nat, A a → h0 ≤ a) (hT : sAll h0 s) (kr117 : ∀ (H : Heap) (locs : List Loc) (ls : Array Slot), gC cI cJ cZ cMic cSrc cSt cAI cAJ D ad A s.heap H locs T1 → W p l e { frames := 11, cells := 0, slots := 0, locals := 192 } s m args below meth c H locs 0 0 Q (F0 m 117 ls [])) {k24 : AT → Nat → Nat → Int32 → Option (Nat × Int32 × AT)} (hk24 : ∀ (T : AT) (H : Heap) (locs : List Loc) (ls : Array Slot) (l0 : Nat) (l2 : Nat) (l3 : Int32), k24 T l0 l2 l3 = some (0, r1, T1) → gC cI cJ cZ cMic cSrc cSt cAI cAJ D ad A s.heap H locs T → lv_has ls 4 [(0, .ref (ad l0)), (2, .ref (ad l2)), (3, .int l3)] → W p l e { frames := 11, cells := 0, slots := 0, locals := 192 } s m args below meth c H locs 0 0 Q (F0 m 24 ls [])) : ∀ (T : AT) (H : Heap) (locs : List Loc) (ls : Array Slot) (l0 : Nat) (l2 : Nat) (l3 : Int32), g_X3_parse_b60 k24 T l0 l2 l3 = some (0, r1, T1) → gC cI cJ cZ cMic cSrc cSt cAI cAJ D ad A s.heap H locs T → lv_has ls 4 [(0, .ref (ad l0)), (2, .ref (ad l2)), (3, .int l3)] → W p l e { frames := 11, cells := 0, slots := 0, locals := 192 } s m args below meth c H locs 0 0 Q (F0 m 60 ls []) := by
  have hx := E.1
  have hb := E.2.1
  have hts := E.2.2.1
  have hown := E.2.2.2.1
  have hK := E.2.2.2.2
  intro T H locs ls l0 l2 l3 h G hl
  unfold g_X3_parse_b60 at h
  refine lv_aload_n hx hb dX3_parse_60 rfl (lv_at hl 0 rfl) ?_
  refine lv_dup hx hb dX3_parse_61 rfl ?_
  obtain ⟨g2, h⟩ := oif_some h
  refine c_get E G l0 1 (oO_k g2).1 (cc_o3 (oO_k g2).2) rfl (fun w h => .tail _ (iA_17 h)) (by decide) (.tail _ qA_176) rfl rfl dX3_parse_62 ?_
  refine lv_topi (fun v3 ev3 => ?_)
  have h := elet_at ev3 h
  clear ev3
  refine lv_iconst (v := 1) hx hb dX3_parse_65 (by decide) ?_
  refine lv_iadd hx hb dX3_parse_66 ?_
  refine lv_topi (fun v4 ev4 => ?_)
  have h := elet_at ev4 h
  clear ev4
  obtain ⟨g5, h⟩ := oif_some h
  refine c_put E G l0 1 (v := .int v4) (oO_k g5).1 (cc_o3 (oO_k g5).2) rfl (fun w h => .tail _ (iA_17 h)) tyX3 tyX3_ok nmX3 (by decide) (.tail _ qA_176) ⟨rfl, rfl, rfl⟩ rfl rfl (Nat.le_of_ble_eq_true rfl) dX3_parse_67 (fun H locs G => ?_)
  have G := gC_up_i (f := upd (T.2.2.1 l0) 1 v4) (by rw [(oO_k g5).2]; rfl) G
  obtain ⟨T6, eT6, h⟩ := elet_some h
  have G : gC cI cJ cZ cMic cSrc cSt cAI cAJ D ad A s.heap H locs T6 := by rw [eT6]; exact G
  clear eT6
  refine lv_aload_n hx hb dX3_parse_70 rfl (lv_at hl 0 rfl) ?_
  refine lv_aload_n hx hb dX3_parse_71 rfl (lv_at hl 1 rfl) ?_
  obtain ⟨g7, h⟩ := oif_some h
  obtain ⟨r10, T8, eT8, h⟩ := othr_n h
  refine q_cvvX (As := [.ref (ad l2)]) (rest := []) E G hA hX hN hml (u_X3_parseLine l hst D cI cJ cZ cMic cSrc cSt cAI cAJ ad T6 h0 l0 l2 eT8) (cwV 1 hts (gaV qA_307 qA_308 qA_309 qA_222 qA_310) rfl rfl rfl (by decide +kernel) ⟨Nat.le_of_ble_eq_true rfl, Nat.le_of_ble_eq_true rfl⟩) (oO_k g7).1 (cc_o3 (oO_k g7).2) rfl rfl hl.1 rfl (lv_room (Nat.le_of_ble_eq_true rfl)) dX3_parse_72 ⟨Nat.zero_le _, Nat.zero_le _⟩ (yT0.blind) (yT0.go hT hA0 hA G) (fun T9 H locs hq G => ?_)
  rw [hq] at G
  clear hq eT8
  obtain ⟨v12, ev12, h⟩ := elet_some h
  refine lv_iinc (v := v12) (lv' := [(3, .int v12), (0, .ref (ad l0)), (2, .ref (ad l2))]) hx hb dX3_parse_75 hl (k := 2) rfl ev12.symm (by decide) rfl (fun ls hl => ?_)
  refine lv_goto (tgt := 24) hx hb dX3_parse_78 (by decide) ?_
  have hl := lv_sub hl [1, 2, 0] rfl
  exact hk24 _ _ _ _ _ _ _ h G hl
def g_X3_parse_b24  : Nat → AT → Nat → Nat → Int32 → Option (Nat × Int32 × AT)
  | 0, _, _, _, _ => none
  | n + 1, T, l0, l2, l3 => oif (oO T l0 3 = true) <| obind (T.2.2.2.2 l0 0) fun n3 => oif (oO T n3 9 = true) <| elet (T.2.2.1 n3 5) fun v5 => if v5 ≤ l3 then (g_X3_parse_b81 T l0 l2) else (oif (oO T l0 3 = true) <| obind2 (g_X3_kind T l0) fun r10 T8 => if r10 = 5 then (g_X3_parse_b81 T8 l0 l2) else (oif (oO T8 l0 3 = true) <| obind2 (g_X3_kind T8 l0) fun r16 T14 => if r16 = 4 then (g_X3_parse_b60 (g_X3_parse_b24 n) T14 l0 l2 l3) else (oif (oO T14 l0 3 = true) <| elet (T14.2.2.1 l0 1) fun v20 => oif (oO T14 l0 3 = true) <| othr (g_X3_failAt T14 l0 v20 (1 : Int32)) 0 fun r24 T22 => g_X3_parse_b60 (g_X3_parse_b24 n) T22 l0 l2 l3)))
set_option maxHeartbeats 4000000 in
set_option maxRecDepth 100000 in
theorem u_X3_parse_b24 {p : Program} {l : Launch} {e : Env} {s : State} {m : MethodId} {args : Array Value} {below : List Frame} {meth : Method} {c : Code} {Q : State → Prop} {D : va_G} {A : Nat → Prop} {cI cJ cZ cMic cSrc cSt cAI cAJ : ClassId} {ad : Nat → Nat} {r1 : Int32} {T1 : AT} (E : cE p c cX3_parse s m args (Cond.code yX3_parse cX3_parse 4 none :: wsA) D RX3 (CT cI cJ cZ cMic cSrc cSt cAI cAJ)) (hA : ∀ q : Nat, s.heap.size ≤ q → A q) (hX : xT A s) (hN : nX s) (hml : c.maxLocals = 4) (hst : l.stackTraces = false) {h0 : Nat} (hA0 : ∀ a : Nat, A a → h0 ≤ a) (hT : sAll h0 s) (kr117 : ∀ (H : Heap) (locs : List Loc) (ls : Array Slot), gC cI cJ cZ cMic cSrc cSt cAI cAJ D ad A s.heap H locs T1 → W p l e { frames := 11, cells := 0, slots := 0, locals := 192 } s m args below meth c H locs 0 0 Q (F0 m 117 ls [])) : ∀ n : Nat, ∀ (T : AT) (H : Heap) (locs : List Loc) (ls : Array Slot) (l0 : Nat) (l2 : Nat) (l3 : Int32), g_X3_parse_b24 n T l0 l2 l3 = some (0, r1, T1) → gC cI cJ cZ cMic cSrc cSt cAI cAJ D ad A s.heap H locs T → lv_has ls 4 [(0, .ref (ad l0)), (2, .ref (ad l2)), (3, .int l3)] → W p l e { frames := 11, cells := 0, slots := 0, locals := 192 } s m args below meth c H locs 0 0 Q (F0 m 24 ls []) := by
  have hx := E.1
  have hb := E.2.1
  have hts := E.2.2.1
  have hown := E.2.2.2.1
  have hK := E.2.2.2.2
  intro n
  induction n with
  | zero =>
    intro T H locs ls l0 l2 l3 h
    have h : (none : Option (Nat × Int32 × AT)) = some (0, r1, T1) := h
    cases h
  | succ n ih =>
    intro T H locs ls l0 l2 l3 h G hl
    unfold g_X3_parse_b24 at h
    refine lv_iload_n hx hb dX3_parse_24 rfl (lv_at hl 2 rfl) ?_
    refine lv_aload_n hx hb dX3_parse_25 rfl (lv_at hl 0 rfl) ?_
    obtain ⟨g2, h⟩ := oif_some h
    obtain ⟨n3, en3, h⟩ := obind_some h
    refine c_get E G l0 0 (v := .ref (ad n3)) (oO_k g2).1 (cc_o3 (oO_k g2).2) rfl (fun w h => .tail _ (iA_17 h)) (by decide) (.tail _ qA_174) rfl (by rw [en3]; rfl) dX3_parse_26 ?_
    clear en3
    obtain ⟨g4, h⟩ := oif_some h
    refine c_get E G n3 5 (oO_k g4).1 (cc_o9 (oO_k g4).2) rfl (fun w h => .tail _ (iA_18 h)) (by decide) (.tail _ qA_177) rfl rfl dX3_parse_29 ?_
    refine lv_topi (fun v5 ev5 => ?_)
    have h := elet_at ev5 h
    clear ev5
    refine lv_icmp_ge (tgt := 81) hx hb dX3_parse_32 (by decide) (fun c6 => ?_) (fun c6 => ?_)
    · have h := oif_pos c6 h
      have hl := lv_sub hl [0, 1] rfl
      exact u_X3_parse_b81 E hA hX hN hml hst hA0 hT kr117 _ _ _ _ _ _ h G hl
    · have h := oif_neg c6 h
      refine lv_aload_n hx hb dX3_parse_35 rfl (lv_at hl 0 rfl) ?_
      obtain ⟨g7, h⟩ := oif_some h
      obtain ⟨r10, T8, eT8, h⟩ := obind2_some h
      refine q_cvi (As := []) (rest := []) E G hA hX hN hml (u_X3_kind l hst D cI cJ cZ cMic cSrc cSt cAI cAJ ad T l0 eT8) (cwV 0 hts (gaV qA_239 qA_240 qA_241 qA_222 qA_242) rfl rfl rfl (by decide +kernel) ⟨Nat.le_of_ble_eq_true rfl, Nat.le_of_ble_eq_true rfl⟩) (oO_k g7).1 (cc_o3 (oO_k g7).2) rfl rfl hl.1 rfl (lv_room (Nat.le_of_ble_eq_true rfl)) dX3_parse_36 ⟨Nat.zero_le _, Nat.zero_le _⟩ (fun q11 T9 H locs hq G => ?_)
      obtain ⟨hq1, hq2⟩ := hq
      rw [hq2] at G
      refine lv_to hq1 ?_
      clear hq1 hq2 eT8
      refine lv_iconst (v := 5) hx hb dX3_parse_39 (by decide) ?_
      refine lv_icmp_eq (tgt := 81) hx hb dX3_parse_40 (by decide) (fun c12 => ?_) (fun c12 => ?_)
      · have h := oif_pos c12 h
        have hl := lv_sub hl [0, 1] rfl
        exact u_X3_parse_b81 E hA hX hN hml hst hA0 hT kr117 _ _ _ _ _ _ h G hl
      · have h := oif_neg c12 h
        refine lv_aload_n hx hb dX3_parse_43 rfl (lv_at hl 0 rfl) ?_
        obtain ⟨g13, h⟩ := oif_some h
        obtain ⟨r16, T14, eT14, h⟩ := obind2_some h
        refine q_cvi (As := []) (rest := []) E G hA hX hN hml (u_X3_kind l hst D cI cJ cZ cMic cSrc cSt cAI cAJ ad T8 l0 eT14) (cwV 0 hts (gaV qA_239 qA_240 qA_241 qA_222 qA_242) rfl rfl rfl (by decide +kernel) ⟨Nat.le_of_ble_eq_true rfl, Nat.le_of_ble_eq_true rfl⟩) (oO_k g13).1 (cc_o3 (oO_k g13).2) rfl rfl hl.1 rfl (lv_room (Nat.le_of_ble_eq_true rfl)) dX3_parse_44 ⟨Nat.zero_le _, Nat.zero_le _⟩ (fun q17 T15 H locs hq G => ?_)
        obtain ⟨hq1, hq2⟩ := hq
        rw [hq2] at G
        refine lv_to hq1 ?_
        clear hq1 hq2 eT14
        refine lv_iconst (v := 4) hx hb dX3_parse_47 (by decide) ?_
        refine lv_icmp_eq (tgt := 60) hx hb dX3_parse_48 (by decide) (fun c18 => ?_) (fun c18 => ?_)
        · have h := oif_pos c18 h
          have hl := lv_sub hl [0, 1, 2] rfl
          exact u_X3_parse_b60 E hA hX hN hml hst hA0 hT kr117 ih _ _ _ _ _ _ _ h G hl
        · have h := oif_neg c18 h
          refine lv_aload_n hx hb dX3_parse_51 rfl (lv_at hl 0 rfl) ?_
          refine lv_aload_n hx hb dX3_parse_52 rfl (lv_at hl 0 rfl) ?_
          obtain ⟨g19, h⟩ := oif_some h
          refine c_get E G l0 1 (oO_k g19).1 (cc_o3 (oO_k g19).2) rfl (fun w h => .tail _ (iA_17 h)) (by decide) (.tail _ qA_176) rfl rfl dX3_parse_53 ?_
          refine lv_topi (fun v20 ev20 => ?_)
          have h := elet_at ev20 h
          clear ev20
          refine lv_iconst (v := 1) hx hb dX3_parse_56 (by decide) ?_
          obtain ⟨g21, h⟩ := oif_some h
          obtain ⟨r24, T22, eT22, h⟩ := othr_n h
          refine q_cvv (As := [.int v20, .int 1]) (rest := []) E G hA hX hN hml (u_X3_failAt l hst D cI cJ cZ cMic cSrc cSt cAI cAJ ad T14 l0 v20 (1 : Int32) eT22) (cwV 2 hts (gaV qA_293 qA_294 qA_295 qA_222 qA_296) rfl rfl rfl (by decide +kernel) ⟨Nat.le_of_ble_eq_true rfl, Nat.le_of_ble_eq_true rfl⟩) (oO_k g21).1 (cc_o3 (oO_k g21).2) rfl rfl hl.1 rfl (lv_room (Nat.le_of_ble_eq_true rfl)) dX3_parse_57 ⟨Nat.zero_le _, Nat.zero_le _⟩ (fun T23 H locs hq G => ?_)
          rw [hq] at G
          clear hq eT22
          have hl := lv_sub hl [0, 1, 2] rfl
          exact u_X3_parse_b60 E hA hX hN hml hst hA0 hT kr117 ih _ _ _ _ _ _ _ h G hl
def g_X3_parse (T : AT) (o : Nat) (a0 : Int32) (a1 : Nat) : Option (Nat × Int32 × AT) := oif (oO T o 3 = true) <| obind (T.2.2.2.2 o 0) fun n3 => oif (oO T n3 9 = true) <| obind (g_X9_cut T n3 a0) fun T5 => oif (oO T5 o 3 = true) <| elet (uI T5 o 1 0) fun T8 => oif (oO T8 a1 6 = true) <| obind (g_X6_clear T8 a1) fun T10 => oif (oO T10 o 3 = true) <| othr (g_X3_parseHead T10 o a1) 0 fun r15 T13 => g_X3_parse_b24 16384 T13 o a1 0
set_option maxHeartbeats 4000000 in
set_option maxRecDepth 100000 in
theorem u_X3_parse (l : Launch) (hst : l.stackTraces = false) (D : va_G) (cI cJ cZ cMic cSrc cSt cAI cAJ : ClassId) (ad : Nat → Nat) (T : AT) (h0 : Nat) (o : Nat) (a0 : Int32) (a1 : Nat) {r1 : Int32} {T1 : AT} (h : g_X3_parse T o a0 a1 = some (0, r1, T1)) : kCvX l yX3_parse (Cond.code yX3_parse cX3_parse 4 none :: wsA) 11 192 cI cJ cZ cMic cSrc cSt cAI cAJ D ad T [.ref (ad o), .int a0, .ref (ad a1)] (yT0 cI cJ cZ cMic cSrc cSt cAI cAJ h0 ad T) (fun T9 => T9 = T1) := by
  intro sz
  refine Met.ofW (cc := cX3_parse) (maxL := 4) (ret := none) (by decide) rfl ?_
  intro p e s m args below meth c s₁ B hml hv
  obtain ⟨rfl, ⟨hsz, hP, hK, hD0, hX, hN⟩, hA1, hT⟩ := hv
  have hx := B.exec
  have hb := B.bytes
  have hr := B.returns
  have hts := atoms_spec (ws := (Cond.code yX3_parse cX3_parse 4 none :: wsA)) B.pre
  have hown : s.vm.findClass RX3 = some m.cls := findClass_of_methodNamed B.named
  have hlocks := B.notSynchronized
  subst hsz
  have hD := hD0.self (sz := s.heap.size)
  generalize hAe : va_A (cW ad T.1 (cc cI cJ cZ cMic cSrc cSt cAI cAJ ad T)) s.heap.size = A at hD hX hA1 ⊢
  have hA : ∀ q : Nat, s.heap.size ≤ q → A q := fun q h => by rw [← hAe]; exact Or.inr h
  have G : gC cI cJ cZ cMic cSrc cSt cAI cAJ D ad A s.heap s.heap [] T := ⟨hP, hD, va_S.rf⟩
  have E : cE p c cX3_parse s m ([.ref (ad o), .int a0, .ref (ad a1)] : List Value).toArray (Cond.code yX3_parse cX3_parse 4 none :: wsA) D RX3 (CT cI cJ cZ cMic cSrc cSt cAI cAJ) := ⟨hx, hb, hts, hown, hK⟩
  have hA0 : ∀ a : Nat, A a → h0 ≤ a := hA1
  have hl := lv_entry ([.ref (ad o), .int a0, .ref (ad a1)]) (n := 4) (Nat.le_of_ble_eq_true rfl)
  rw [lg_entry_eq]
  generalize (lg_sl ([.ref (ad o), .int a0, .ref (ad a1)]) ++ List.replicate (4 - (lg_sl ([.ref (ad o), .int a0, .ref (ad a1)])).length) Slot.unset).toArray = ls at hl ⊢
  have hl : lv_has ls 4 [(0, .ref (ad o)), (1, .int a0), (2, .ref (ad a1))] := hl
  unfold g_X3_parse at h
  refine lv_aload_n hx hb dX3_parse_0 rfl (lv_at hl 0 rfl) ?_
  obtain ⟨g2, h⟩ := oif_some h
  obtain ⟨n3, en3, h⟩ := obind_some h
  refine c_get E G o 0 (v := .ref (ad n3)) (oO_k g2).1 (cc_o3 (oO_k g2).2) rfl (fun w h => .tail _ (iA_17 h)) (by decide) (.tail _ qA_174) rfl (by rw [en3]; rfl) dX3_parse_1 ?_
  clear en3
  refine lv_iload_n hx hb dX3_parse_4 rfl (lv_at hl 1 rfl) ?_
  obtain ⟨g4, h⟩ := oif_some h
  obtain ⟨T5, eT5, h⟩ := obind_some h
  refine q_cvv (As := [.int a0]) (rest := []) E G hA hX hN hml (u_X9_cut l hst D cI cJ cZ cMic cSrc cSt cAI cAJ ad T n3 a0 eT5) (cwV 1 hts (gaV qA_182 qA_183 qA_184 qA_185 qA_186) rfl rfl rfl (by decide +kernel) ⟨Nat.le_of_ble_eq_true rfl, Nat.le_of_ble_eq_true rfl⟩) (oO_k g4).1 (cc_o9 (oO_k g4).2) rfl rfl hl.1 rfl (lv_room (Nat.le_of_ble_eq_true rfl)) dX3_parse_5 ⟨Nat.zero_le _, Nat.zero_le _⟩ (fun T6 H locs hq G => ?_)
  rw [hq] at G
  clear hq eT5
  refine lv_aload_n hx hb dX3_parse_8 rfl (lv_at hl 0 rfl) ?_
  refine lv_iconst (v := 0) hx hb dX3_parse_9 (by decide) ?_
  obtain ⟨g7, h⟩ := oif_some h
  refine c_put E G o 1 (v := .int 0) (oO_k g7).1 (cc_o3 (oO_k g7).2) rfl (fun w h => .tail _ (iA_17 h)) tyX3 tyX3_ok nmX3 (by decide) (.tail _ qA_176) ⟨rfl, rfl, rfl⟩ rfl rfl (Nat.le_of_ble_eq_true rfl) dX3_parse_10 (fun H locs G => ?_)
  have G := gC_up_i (f := upd (T5.2.2.1 o) 1 0) (by rw [(oO_k g7).2]; rfl) G
  obtain ⟨T8, eT8, h⟩ := elet_some h
  have G : gC cI cJ cZ cMic cSrc cSt cAI cAJ D ad A s.heap H locs T8 := by rw [eT8]; exact G
  clear eT8
  refine lv_aload_n hx hb dX3_parse_13 rfl (lv_at hl 2 rfl) ?_
  obtain ⟨g9, h⟩ := oif_some h
  obtain ⟨T10, eT10, h⟩ := obind_some h
  refine q_cvv (As := []) (rest := []) E G hA hX hN hml (u_X6_clear l hst D cI cJ cZ cMic cSrc cSt cAI cAJ ad T8 a1 eT10) (cwV 0 hts (gaV qA_204 qA_205 qA_206 qA_207 qA_208) rfl rfl rfl (by decide +kernel) ⟨Nat.le_of_ble_eq_true rfl, Nat.le_of_ble_eq_true rfl⟩) (oO_k g9).1 (cc_o6 (oO_k g9).2) rfl rfl hl.1 rfl (lv_room (Nat.le_of_ble_eq_true rfl)) dX3_parse_14 ⟨Nat.zero_le _, Nat.zero_le _⟩ (fun T11 H locs hq G => ?_)
  rw [hq] at G
  clear hq eT10
  refine lv_aload_n hx hb dX3_parse_17 rfl (lv_at hl 0 rfl) ?_
  refine lv_aload_n hx hb dX3_parse_18 rfl (lv_at hl 2 rfl) ?_
  obtain ⟨g12, h⟩ := oif_some h
  obtain ⟨r15, T13, eT13, h⟩ := othr_n h
  refine q_cvvX (As := [.ref (ad a1)]) (rest := []) E G hA hX hN hml (u_X3_parseHead l hst D cI cJ cZ cMic cSrc cSt cAI cAJ ad T10 h0 o a1 eT13) (cwV 1 hts (gaV qA_219 qA_220 qA_221 qA_222 qA_223) rfl rfl rfl (by decide +kernel) ⟨Nat.le_of_ble_eq_true rfl, Nat.le_of_ble_eq_true rfl⟩) (oO_k g12).1 (cc_o3 (oO_k g12).2) rfl rfl hl.1 rfl (lv_room (Nat.le_of_ble_eq_true rfl)) dX3_parse_19 ⟨Nat.zero_le _, Nat.zero_le _⟩ (yT0.blind) (yT0.go hT hA0 hA G) (fun T14 H locs hq G => ?_)
  rw [hq] at G
  clear hq eT13
  refine lv_iconst (v := 0) hx hb dX3_parse_22 (by decide) ?_
  refine lv_istore_n (lv' := [(3, .int 0), (0, .ref (ad o)), (1, .int a0), (2, .ref (ad a1))]) hx hb dX3_parse_23 rfl hl (by decide) rfl (fun ls hl => ?_)
  have hl := lv_sub hl [1, 3, 0] rfl
  exact u_X3_parse_b24 E hA hX hN hml hst hA0 hT (fun H locs ls G => W.vret hx hb hr (fun t ht hW => ⟨⟨T1, rfl, rfl, ⟨by rw [ht]; exact G.1, va_K.moved hW.alike hK, G.2.1⟩⟩, G.2.2.F ht⟩) G.2.2.2.2 dX3_parse_117) _ _ _ _ _ _ _ _ h G hl
set_option maxHeartbeats 4000000 in
set_option maxRecDepth 100000 in
theorem s_X3_parse_b107 {e1 : Nat} {r1 : Int32} {T1 : AT} : ∀ (T : AT) (l0 : Nat), g_X3_parse_b107 T l0 = some (e1, r1, T1) → SP T T1 := by
  intro T l0 h
  have p0 := SP.rf T
  unfold g_X3_parse_b107 at h
  obtain ⟨g2, h⟩ := oif_some h
  obtain ⟨T3, eT3, h⟩ := elet_some h
  have p1 : SP T T3 := SP.tr p0 (by rw [eT3]; exact sp_uI)
  obtain ⟨g4, h⟩ := oif_some h
  obtain ⟨T5, eT5, h⟩ := elet_some h
  have p2 : SP T T5 := SP.tr p1 (by rw [eT5]; exact sp_uI)
  rw [← (osome3 h).2.2]
  exact p2
set_option maxHeartbeats 4000000 in
set_option maxRecDepth 100000 in
theorem s_X3_parse_b98 {e1 : Nat} {r1 : Int32} {T1 : AT} : ∀ (T : AT) (l0 : Nat), g_X3_parse_b98 T l0 = some (e1, r1, T1) → SP T T1 := by
  intro T l0 h
  have p0 := SP.rf T
  unfold g_X3_parse_b98 at h
  obtain ⟨g2, h⟩ := oif_some h
  obtain ⟨v3, -, h⟩ := elet_some h
  obtain ⟨g4, h⟩ := oif_some h
  rcases othr_s h with ⟨k9, r9, e9, -⟩ | ⟨r6, T5, eT5, h⟩
  · exact SP.tr p0 (s_X3_failAt e9)
  have p1 : SP T T5 := SP.tr p0 (s_X3_failAt eT5)
  exact SP.tr p1 (s_X3_parse_b107 _ _ h)
set_option maxHeartbeats 4000000 in
set_option maxRecDepth 100000 in
theorem s_X3_parse_b81 {e1 : Nat} {r1 : Int32} {T1 : AT} : ∀ (T : AT) (l0 : Nat) (l2 : Nat), g_X3_parse_b81 T l0 l2 = some (e1, r1, T1) → SP T T1 := by
  intro T l0 l2 h
  have p0 := SP.rf T
  unfold g_X3_parse_b81 at h
  obtain ⟨g2, h⟩ := oif_some h
  obtain ⟨v3, -, h⟩ := elet_some h
  rcases oif_or h with ⟨c4, h⟩ | ⟨c4, h⟩
  · have h := h
    exact SP.tr p0 (s_X3_parse_b98 _ _ h)
  · have h := h
    obtain ⟨g5, h⟩ := oif_some h
    obtain ⟨n6, en6, h⟩ := obind_some h
    obtain ⟨g7, h⟩ := oif_some h
    obtain ⟨v8, -, h⟩ := elet_some h
    rcases oif_or h with ⟨c9, h⟩ | ⟨c9, h⟩
    · have h := h
      exact SP.tr p0 (s_X3_parse_b98 _ _ h)
    · have h := h
      exact SP.tr p0 (s_X3_parse_b107 _ _ h)
set_option maxHeartbeats 4000000 in
set_option maxRecDepth 100000 in
theorem s_X3_parse_b60 {e1 : Nat} {r1 : Int32} {T1 : AT} {k24 : AT → Nat → Nat → Int32 → Option (Nat × Int32 × AT)} (hk24 : ∀ (T : AT) (l0 : Nat) (l2 : Nat) (l3 : Int32), k24 T l0 l2 l3 = some (e1, r1, T1) → SP T T1) : ∀ (T : AT) (l0 : Nat) (l2 : Nat) (l3 : Int32), g_X3_parse_b60 k24 T l0 l2 l3 = some (e1, r1, T1) → SP T T1 := by
  intro T l0 l2 l3 h
  have p0 := SP.rf T
  unfold g_X3_parse_b60 at h
  obtain ⟨g2, h⟩ := oif_some h
  obtain ⟨v3, -, h⟩ := elet_some h
  obtain ⟨v4, -, h⟩ := elet_some h
  obtain ⟨g5, h⟩ := oif_some h
  obtain ⟨T6, eT6, h⟩ := elet_some h
  have p1 : SP T T6 := SP.tr p0 (by rw [eT6]; exact sp_uI)
  obtain ⟨g7, h⟩ := oif_some h
  rcases othr_s h with ⟨k9, r9, e9, -⟩ | ⟨r9, T8, eT8, h⟩
  · exact SP.tr p1 (s_X3_parseLine e9)
  have p2 : SP T T8 := SP.tr p1 (s_X3_parseLine eT8)
  obtain ⟨v10, ev10, h⟩ := elet_some h
  exact SP.tr p2 (hk24 _ _ _ _ h)
set_option maxHeartbeats 4000000 in
set_option maxRecDepth 100000 in
theorem s_X3_parse_b24 {e1 : Nat} {r1 : Int32} {T1 : AT} : ∀ n : Nat, ∀ (T : AT) (l0 : Nat) (l2 : Nat) (l3 : Int32), g_X3_parse_b24 n T l0 l2 l3 = some (e1, r1, T1) → SP T T1 := by
  intro n
  induction n with
  | zero =>
    intro T l0 l2 l3 h
    have h : (none : Option (Nat × Int32 × AT)) = some (e1, r1, T1) := h
    cases h
  | succ n ih =>
    intro T l0 l2 l3 h
    have p0 := SP.rf T
    unfold g_X3_parse_b24 at h
    obtain ⟨g2, h⟩ := oif_some h
    obtain ⟨n3, en3, h⟩ := obind_some h
    obtain ⟨g4, h⟩ := oif_some h
    obtain ⟨v5, -, h⟩ := elet_some h
    rcases oif_or h with ⟨c6, h⟩ | ⟨c6, h⟩
    · have h := h
      exact SP.tr p0 (s_X3_parse_b81 _ _ _ h)
    · have h := h
      obtain ⟨g7, h⟩ := oif_some h
      obtain ⟨r9, T8, eT8, h⟩ := obind2_some h
      have p1 : SP T T8 := SP.tr p0 (s_X3_kind eT8)
      rcases oif_or h with ⟨c10, h⟩ | ⟨c10, h⟩
      · have h := h
        exact SP.tr p1 (s_X3_parse_b81 _ _ _ h)
      · have h := h
        obtain ⟨g11, h⟩ := oif_some h
        obtain ⟨r13, T12, eT12, h⟩ := obind2_some h
        have p2 : SP T T12 := SP.tr p1 (s_X3_kind eT12)
        rcases oif_or h with ⟨c14, h⟩ | ⟨c14, h⟩
        · have h := h
          exact SP.tr p2 (s_X3_parse_b60 ih _ _ _ _ h)
        · have h := h
          obtain ⟨g15, h⟩ := oif_some h
          obtain ⟨v16, -, h⟩ := elet_some h
          obtain ⟨g17, h⟩ := oif_some h
          rcases othr_s h with ⟨k9, r9, e9, -⟩ | ⟨r19, T18, eT18, h⟩
          · exact SP.tr p2 (s_X3_failAt e9)
          have p3 : SP T T18 := SP.tr p2 (s_X3_failAt eT18)
          exact SP.tr p3 (s_X3_parse_b60 ih _ _ _ _ h)
set_option maxHeartbeats 4000000 in
set_option maxRecDepth 100000 in
theorem s_X3_parse {T : AT} {o : Nat} {a0 : Int32} {a1 : Nat} {e1 : Nat} {r1 : Int32} {T1 : AT} (h : g_X3_parse T o a0 a1 = some (e1, r1, T1)) : SP T T1 := by
  have p0 := SP.rf T
  unfold g_X3_parse at h
  obtain ⟨g2, h⟩ := oif_some h
  obtain ⟨n3, en3, h⟩ := obind_some h
  obtain ⟨g4, h⟩ := oif_some h
  obtain ⟨T5, eT5, h⟩ := obind_some h
  have p1 : SP T T5 := SP.tr p0 (s_X9_cut eT5)
  obtain ⟨g7, h⟩ := oif_some h
  obtain ⟨T8, eT8, h⟩ := elet_some h
  have p2 : SP T T8 := SP.tr p1 (by rw [eT8]; exact sp_uI)
  obtain ⟨g9, h⟩ := oif_some h
  obtain ⟨T10, eT10, h⟩ := obind_some h
  have p3 : SP T T10 := SP.tr p2 (s_X6_clear eT10)
  obtain ⟨g12, h⟩ := oif_some h
  rcases othr_s h with ⟨k9, r9, e9, -⟩ | ⟨r14, T13, eT13, h⟩
  · exact SP.tr p3 (s_X3_parseHead e9)
  have p4 : SP T T13 := SP.tr p3 (s_X3_parseHead eT13)
  exact SP.tr p4 (s_X3_parse_b24 _ _ _ _ _ h)
set_option maxHeartbeats 4000000 in
set_option maxRecDepth 100000 in
theorem x_X3_parse_b107 {p : Program} {l : Launch} {e : Env} {s : State} {m : MethodId} {args : Array Value} {below : List Frame} {meth : Method} {c : Code} {Qc : Array Value → State → Outcome → State → Prop} {XC : String → State → State → Prop} {D : va_G} {A : Nat → Prop} {cI cJ cZ cMic cSrc cSt cAI cAJ : ClassId} {ad : Nat → Nat} {e1 : Nat} {r1 : Int32} {T1 : AT} (E : cE p c cX3_parse s m args (Cond.code yX3_parse cX3_parse 4 none :: wsA) D RX3 (CT cI cJ cZ cMic cSrc cSt cAI cAJ)) (hA : ∀ q : Nat, s.heap.size ≤ q → A q) (hX : xT A s) (hN : nX s) (hml : c.maxLocals = 4) {h0 : Nat} (hA0 : ∀ a : Nat, A a → h0 ≤ a) (hT : sAll h0 s) (hz9 : True) (hst : l.stackTraces = false) (htab : ∀ x ∈ c.exceptionTable.toList, False) (hlocks : meth.locks = false) (kx : ∀ (H : Heap) (locs : List Loc) (t : State), gC cI cJ cZ cMic cSrc cSt cAI cAJ D ad A s.heap H locs T1 → s.vm.Alike t.vm → H.size ≤ t.heap.size → (∀ q, q < H.size → t.heap[q]? = H[q]?) → XC (exn e1) s t) : ∀ (T : AT) (H : Heap) (locs : List Loc) (ls : Array Slot) (l0 : Nat), g_X3_parse_b107 T l0 = some (e1 + 1, r1, T1) → gC cI cJ cZ cMic cSrc cSt cAI cAJ D ad A s.heap H locs T → lv_has ls 4 [(0, .ref (ad l0))] → W p l e { frames := 11, cells := 1, slots := 6, locals := 192 } s m args below meth c H locs 0 0 (vx_MQ below Qc XC args s 1 6 A) (F0 m 107 ls []) := by
  have hx := E.1
  have hb := E.2.1
  have hts := E.2.2.1
  have hown := E.2.2.2.1
  have hK := E.2.2.2.2
  intro T H locs ls l0 h G hl
  unfold g_X3_parse_b107 at h
  refine lv_aload_n hx hb dX3_parse_107 rfl (lv_at hl 0 rfl) ?_
  refine lv_iconst (v := 0) hx hb dX3_parse_108 (by decide) ?_
  obtain ⟨g2, h⟩ := oif_some h
  refine c_put E G l0 2 (v := .int 0) (oO_k g2).1 (cc_o3 (oO_k g2).2) rfl (fun w h => .tail _ (iA_17 h)) tyX3 tyX3_ok nmX3 (by decide) (.tail _ qA_181) ⟨rfl, rfl, rfl⟩ rfl rfl (Nat.le_of_ble_eq_true rfl) dX3_parse_109 (fun H locs G => ?_)
  have G := gC_up_i (f := upd (T.2.2.1 l0) 2 0) (by rw [(oO_k g2).2]; rfl) G
  obtain ⟨T3, eT3, h⟩ := elet_some h
  have G : gC cI cJ cZ cMic cSrc cSt cAI cAJ D ad A s.heap H locs T3 := by rw [eT3]; exact G
  clear eT3
  refine lv_aload_n hx hb dX3_parse_112 rfl (lv_at hl 0 rfl) ?_
  refine lv_iconst (v := (-1)) hx hb dX3_parse_113 (by decide) ?_
  obtain ⟨g4, h⟩ := oif_some h
  refine c_put E G l0 3 (v := .int (-1)) (oO_k g4).1 (cc_o3 (oO_k g4).2) rfl (fun w h => .tail _ (iA_17 h)) tyX3 tyX3_ok nmX3 (by decide) (.tail _ qA_173) ⟨rfl, rfl, rfl⟩ rfl rfl (Nat.le_of_ble_eq_true rfl) dX3_parse_114 (fun H locs G => ?_)
  have G := gC_up_i (f := upd (T3.2.2.1 l0) 3 (-1)) (by rw [(oO_k g4).2]; rfl) G
  obtain ⟨T5, eT5, h⟩ := elet_some h
  have G : gC cI cJ cZ cMic cSrc cSt cAI cAJ D ad A s.heap H locs T5 := by rw [eT5]; exact G
  clear eT5
  exact (Nat.succ_ne_zero _ (congrArg Prod.fst (Option.some.inj h)).symm).elim
set_option maxHeartbeats 4000000 in
set_option maxRecDepth 100000 in
theorem x_X3_parse_b98 {p : Program} {l : Launch} {e : Env} {s : State} {m : MethodId} {args : Array Value} {below : List Frame} {meth : Method} {c : Code} {Qc : Array Value → State → Outcome → State → Prop} {XC : String → State → State → Prop} {D : va_G} {A : Nat → Prop} {cI cJ cZ cMic cSrc cSt cAI cAJ : ClassId} {ad : Nat → Nat} {e1 : Nat} {r1 : Int32} {T1 : AT} (E : cE p c cX3_parse s m args (Cond.code yX3_parse cX3_parse 4 none :: wsA) D RX3 (CT cI cJ cZ cMic cSrc cSt cAI cAJ)) (hA : ∀ q : Nat, s.heap.size ≤ q → A q) (hX : xT A s) (hN : nX s) (hml : c.maxLocals = 4) {h0 : Nat} (hA0 : ∀ a : Nat, A a → h0 ≤ a) (hT : sAll h0 s) (hz9 : True) (hst : l.stackTraces = false) (htab : ∀ x ∈ c.exceptionTable.toList, False) (hlocks : meth.locks = false) (kx : ∀ (H : Heap) (locs : List Loc) (t : State), gC cI cJ cZ cMic cSrc cSt cAI cAJ D ad A s.heap H locs T1 → s.vm.Alike t.vm → H.size ≤ t.heap.size → (∀ q, q < H.size → t.heap[q]? = H[q]?) → XC (exn e1) s t) : ∀ (T : AT) (H : Heap) (locs : List Loc) (ls : Array Slot) (l0 : Nat), g_X3_parse_b98 T l0 = some (e1 + 1, r1, T1) → gC cI cJ cZ cMic cSrc cSt cAI cAJ D ad A s.heap H locs T → lv_has ls 4 [(0, .ref (ad l0))] → W p l e { frames := 11, cells := 1, slots := 6, locals := 192 } s m args below meth c H locs 0 0 (vx_MQ below Qc XC args s 1 6 A) (F0 m 98 ls []) := by
  have hx := E.1
  have hb := E.2.1
  have hts := E.2.2.1
  have hown := E.2.2.2.1
  have hK := E.2.2.2.2
  intro T H locs ls l0 h G hl
  unfold g_X3_parse_b98 at h
  refine lv_aload_n hx hb dX3_parse_98 rfl (lv_at hl 0 rfl) ?_
  refine lv_aload_n hx hb dX3_parse_99 rfl (lv_at hl 0 rfl) ?_
  obtain ⟨g2, h⟩ := oif_some h
  refine c_get E G l0 1 (oO_k g2).1 (cc_o3 (oO_k g2).2) rfl (fun w h => .tail _ (iA_17 h)) (by decide) (.tail _ qA_176) rfl rfl dX3_parse_100 ?_
  refine lv_topi (fun v3 ev3 => ?_)
  have h := elet_at ev3 h
  clear ev3
  refine lv_iconst (v := 5) hx hb dX3_parse_103 (by decide) ?_
  obtain ⟨g4, h⟩ := oif_some h
  rcases othr_t h with ⟨r0, eT5⟩ | ⟨r7, T5, eT5, h⟩
  · refine q_xvv (As := [.int v3, .int 5]) (rest := []) E G hA hX hN hml (x_X3_failAt l hst D cI cJ cZ cMic cSrc cSt cAI cAJ ad T l0 v3 (5 : Int32) eT5) (cwV 2 hts (gaV qA_293 qA_294 qA_295 qA_222 qA_296) rfl rfl rfl (by decide +kernel) ⟨Nat.le_of_ble_eq_true rfl, Nat.le_of_ble_eq_true rfl⟩) (oO_k g4).1 (cc_o3 (oO_k g4).2) rfl rfl hl.1 rfl (lv_room (Nat.le_of_ble_eq_true rfl)) dX3_parse_104 ⟨Nat.le_of_ble_eq_true rfl, Nat.le_of_ble_eq_true rfl⟩ (fun E9 ce q9 T9 H locs hp G hce hcv hcl => ?_)
    obtain ⟨hE, hT⟩ := hp
    subst hE
    rw [hT] at G
    exact vx_out (fun x hx => (htab x hx).elim) hlocks hce hcv hcl (fun t ht hvm => kx _ _ _ G hvm (by rw [ht]; exact Nat.le_refl _) (fun q hq => by rw [ht])) G.2.2.2.2 (Nat.le_refl _) (Nat.le_refl _)
  refine q_cvv (As := [.int v3, .int 5]) (rest := []) E G hA hX hN hml (u_X3_failAt l hst D cI cJ cZ cMic cSrc cSt cAI cAJ ad T l0 v3 (5 : Int32) eT5) (cwV 2 hts (gaV qA_293 qA_294 qA_295 qA_222 qA_296) rfl rfl rfl (by decide +kernel) ⟨Nat.le_of_ble_eq_true rfl, Nat.le_of_ble_eq_true rfl⟩) (oO_k g4).1 (cc_o3 (oO_k g4).2) rfl rfl hl.1 rfl (lv_room (Nat.le_of_ble_eq_true rfl)) dX3_parse_104 ⟨Nat.zero_le _, Nat.zero_le _⟩ (fun T6 H locs hq G => ?_)
  rw [hq] at G
  clear hq eT5
  have hl := lv_sub hl [0] rfl
  exact x_X3_parse_b107 E hA hX hN hml hA0 hT trivial hst htab hlocks kx _ _ _ _ _ h G hl
set_option maxHeartbeats 4000000 in
set_option maxRecDepth 100000 in
theorem x_X3_parse_b81 {p : Program} {l : Launch} {e : Env} {s : State} {m : MethodId} {args : Array Value} {below : List Frame} {meth : Method} {c : Code} {Qc : Array Value → State → Outcome → State → Prop} {XC : String → State → State → Prop} {D : va_G} {A : Nat → Prop} {cI cJ cZ cMic cSrc cSt cAI cAJ : ClassId} {ad : Nat → Nat} {e1 : Nat} {r1 : Int32} {T1 : AT} (E : cE p c cX3_parse s m args (Cond.code yX3_parse cX3_parse 4 none :: wsA) D RX3 (CT cI cJ cZ cMic cSrc cSt cAI cAJ)) (hA : ∀ q : Nat, s.heap.size ≤ q → A q) (hX : xT A s) (hN : nX s) (hml : c.maxLocals = 4) {h0 : Nat} (hA0 : ∀ a : Nat, A a → h0 ≤ a) (hT : sAll h0 s) (hz9 : True) (hst : l.stackTraces = false) (htab : ∀ x ∈ c.exceptionTable.toList, False) (hlocks : meth.locks = false) (kx : ∀ (H : Heap) (locs : List Loc) (t : State), gC cI cJ cZ cMic cSrc cSt cAI cAJ D ad A s.heap H locs T1 → s.vm.Alike t.vm → H.size ≤ t.heap.size → (∀ q, q < H.size → t.heap[q]? = H[q]?) → XC (exn e1) s t) : ∀ (T : AT) (H : Heap) (locs : List Loc) (ls : Array Slot) (l0 : Nat) (l2 : Nat), g_X3_parse_b81 T l0 l2 = some (e1 + 1, r1, T1) → gC cI cJ cZ cMic cSrc cSt cAI cAJ D ad A s.heap H locs T → lv_has ls 4 [(0, .ref (ad l0)), (2, .ref (ad l2))] → W p l e { frames := 11, cells := 1, slots := 6, locals := 192 } s m args below meth c H locs 0 0 (vx_MQ below Qc XC args s 1 6 A) (F0 m 81 ls []) := by
  have hx := E.1
  have hb := E.2.1
  have hts := E.2.2.1
  have hown := E.2.2.2.1
  have hK := E.2.2.2.2
  intro T H locs ls l0 l2 h G hl
  unfold g_X3_parse_b81 at h
  refine lv_aload_n hx hb dX3_parse_81 rfl (lv_at hl 1 rfl) ?_
  obtain ⟨g2, h⟩ := oif_some h
  refine c_get E G l2 5 (oO_k g2).1 (cc_o6 (oO_k g2).2) rfl (fun w h => .tail _ (iA_14 h)) (by decide) (.tail _ qA_178) rfl rfl dX3_parse_82 ?_
  refine lv_topi (fun v3 ev3 => ?_)
  have h := elet_at ev3 h
  clear ev3
  refine lv_if_eq (tgt := 98) hx hb dX3_parse_85 (by decide) (fun c4 => ?_) (fun c4 => ?_)
  · have h := oif_pos c4 h
    have hl := lv_sub hl [0] rfl
    exact x_X3_parse_b98 E hA hX hN hml hA0 hT trivial hst htab hlocks kx _ _ _ _ _ h G hl
  · have h := oif_neg c4 h
    refine lv_aload_n hx hb dX3_parse_88 rfl (lv_at hl 1 rfl) ?_
    obtain ⟨g5, h⟩ := oif_some h
    obtain ⟨n6, en6, h⟩ := obind_some h
    refine c_get E G l2 6 (v := .ref (ad n6)) (oO_k g5).1 (cc_o6 (oO_k g5).2) rfl (fun w h => .tail _ (iA_14 h)) (by decide) (.tail _ qA_179) rfl (by rw [en6]; rfl) dX3_parse_89 ?_
    clear en6
    obtain ⟨g7, h⟩ := oif_some h
    refine c_get E G n6 3 (oO_k g7).1 (cc_o1 (oO_k g7).2) rfl (fun w h => .tail _ (iA_15 h)) (by decide) (.tail _ qA_180) rfl rfl dX3_parse_92 ?_
    refine lv_topi (fun v8 ev8 => ?_)
    have h := elet_at ev8 h
    clear ev8
    refine lv_if_ne (tgt := 107) hx hb dX3_parse_95 (by decide) (fun c9 => ?_) (fun c9 => ?_)
    · have h := oif_neg c9 h
      have hl := lv_sub hl [0] rfl
      exact x_X3_parse_b107 E hA hX hN hml hA0 hT trivial hst htab hlocks kx _ _ _ _ _ h G hl
    · have h := oif_pos c9 h
      have hl := lv_sub hl [0] rfl
      exact x_X3_parse_b98 E hA hX hN hml hA0 hT trivial hst htab hlocks kx _ _ _ _ _ h G hl
set_option maxHeartbeats 4000000 in
set_option maxRecDepth 100000 in
theorem x_X3_parse_b60 {p : Program} {l : Launch} {e : Env} {s : State} {m : MethodId} {args : Array Value} {below : List Frame} {meth : Method} {c : Code} {Qc : Array Value → State → Outcome → State → Prop} {XC : String → State → State → Prop} {D : va_G} {A : Nat → Prop} {cI cJ cZ cMic cSrc cSt cAI cAJ : ClassId} {ad : Nat → Nat} {e1 : Nat} {r1 : Int32} {T1 : AT} (E : cE p c cX3_parse s m args (Cond.code yX3_parse cX3_parse 4 none :: wsA) D RX3 (CT cI cJ cZ cMic cSrc cSt cAI cAJ)) (hA : ∀ q : Nat, s.heap.size ≤ q → A q) (hX : xT A s) (hN : nX s) (hml : c.maxLocals = 4) {h0 : Nat} (hA0 : ∀ a : Nat, A a → h0 ≤ a) (hT : sAll h0 s) (hz9 : True) (hst : l.stackTraces = false) (htab : ∀ x ∈ c.exceptionTable.toList, False) (hlocks : meth.locks = false) (kx : ∀ (H : Heap) (locs : List Loc) (t : State), gC cI cJ cZ cMic cSrc cSt cAI cAJ D ad A s.heap H locs T1 → s.vm.Alike t.vm → H.size ≤ t.heap.size → (∀ q, q < H.size → t.heap[q]? = H[q]?) → XC (exn e1) s t) {k24 : AT → Nat → Nat → Int32 → Option (Nat × Int32 × AT)} (hk24 : ∀ (T : AT) (H : Heap) (locs : List Loc) (ls : Array Slot) (l0 : Nat) (l2 : Nat) (l3 : Int32), k24 T l0 l2 l3 = some (e1 + 1, r1, T1) → gC cI cJ cZ cMic cSrc cSt cAI cAJ D ad A s.heap H locs T → lv_has ls 4 [(0, .ref (ad l0)), (2, .ref (ad l2)), (3, .int l3)] → W p l e { frames := 11, cells := 1, slots := 6, locals := 192 } s m args below meth c H locs 0 0 (vx_MQ below Qc XC args s 1 6 A) (F0 m 24 ls [])) : ∀ (T : AT) (H : Heap) (locs : List Loc) (ls : Array Slot) (l0 : Nat) (l2 : Nat) (l3 : Int32), g_X3_parse_b60 k24 T l0 l2 l3 = some (e1 + 1, r1, T1) → gC cI cJ cZ cMic cSrc cSt cAI cAJ D ad A s.heap H locs T → lv_has ls 4 [(0, .ref (ad l0)), (2, .ref (ad l2)), (3, .int l3)] → W p l e { frames := 11, cells := 1, slots := 6, locals := 192 } s m args below meth c H locs 0 0 (vx_MQ below Qc XC args s 1 6 A) (F0 m 60 ls []) := by
  have hx := E.1
  have hb := E.2.1
  have hts := E.2.2.1
  have hown := E.2.2.2.1
  have hK := E.2.2.2.2
  intro T H locs ls l0 l2 l3 h G hl
  unfold g_X3_parse_b60 at h
  refine lv_aload_n hx hb dX3_parse_60 rfl (lv_at hl 0 rfl) ?_
  refine lv_dup hx hb dX3_parse_61 rfl ?_
  obtain ⟨g2, h⟩ := oif_some h
  refine c_get E G l0 1 (oO_k g2).1 (cc_o3 (oO_k g2).2) rfl (fun w h => .tail _ (iA_17 h)) (by decide) (.tail _ qA_176) rfl rfl dX3_parse_62 ?_
  refine lv_topi (fun v3 ev3 => ?_)
  have h := elet_at ev3 h
  clear ev3
  refine lv_iconst (v := 1) hx hb dX3_parse_65 (by decide) ?_
  refine lv_iadd hx hb dX3_parse_66 ?_
  refine lv_topi (fun v4 ev4 => ?_)
  have h := elet_at ev4 h
  clear ev4
  obtain ⟨g5, h⟩ := oif_some h
  refine c_put E G l0 1 (v := .int v4) (oO_k g5).1 (cc_o3 (oO_k g5).2) rfl (fun w h => .tail _ (iA_17 h)) tyX3 tyX3_ok nmX3 (by decide) (.tail _ qA_176) ⟨rfl, rfl, rfl⟩ rfl rfl (Nat.le_of_ble_eq_true rfl) dX3_parse_67 (fun H locs G => ?_)
  have G := gC_up_i (f := upd (T.2.2.1 l0) 1 v4) (by rw [(oO_k g5).2]; rfl) G
  obtain ⟨T6, eT6, h⟩ := elet_some h
  have G : gC cI cJ cZ cMic cSrc cSt cAI cAJ D ad A s.heap H locs T6 := by rw [eT6]; exact G
  clear eT6
  refine lv_aload_n hx hb dX3_parse_70 rfl (lv_at hl 0 rfl) ?_
  refine lv_aload_n hx hb dX3_parse_71 rfl (lv_at hl 1 rfl) ?_
  obtain ⟨g7, h⟩ := oif_some h
  rcases othr_t h with ⟨r0, eT8⟩ | ⟨r10, T8, eT8, h⟩
  · refine q_xvvX (As := [.ref (ad l2)]) (rest := []) E G hA hX hN hml (x_X3_parseLine l hst D cI cJ cZ cMic cSrc cSt cAI cAJ ad T6 h0 l0 l2 eT8) (cwV 1 hts (gaV qA_307 qA_308 qA_309 qA_222 qA_310) rfl rfl rfl (by decide +kernel) ⟨Nat.le_of_ble_eq_true rfl, Nat.le_of_ble_eq_true rfl⟩) (oO_k g7).1 (cc_o3 (oO_k g7).2) rfl rfl hl.1 rfl (lv_room (Nat.le_of_ble_eq_true rfl)) dX3_parse_72 ⟨Nat.le_of_ble_eq_true rfl, Nat.le_of_ble_eq_true rfl⟩ (yT0.blind) (yT0.go hT hA0 hA G) (fun E9 ce q9 T9 H locs hp G hce hcv hcl => ?_)
    obtain ⟨hE, hT⟩ := hp
    subst hE
    rw [hT] at G
    exact vx_out (fun x hx => (htab x hx).elim) hlocks hce hcv hcl (fun t ht hvm => kx _ _ _ G hvm (by rw [ht]; exact Nat.le_refl _) (fun q hq => by rw [ht])) G.2.2.2.2 (Nat.le_refl _) (Nat.le_refl _)
  refine q_cvvX (As := [.ref (ad l2)]) (rest := []) E G hA hX hN hml (u_X3_parseLine l hst D cI cJ cZ cMic cSrc cSt cAI cAJ ad T6 h0 l0 l2 eT8) (cwV 1 hts (gaV qA_307 qA_308 qA_309 qA_222 qA_310) rfl rfl rfl (by decide +kernel) ⟨Nat.le_of_ble_eq_true rfl, Nat.le_of_ble_eq_true rfl⟩) (oO_k g7).1 (cc_o3 (oO_k g7).2) rfl rfl hl.1 rfl (lv_room (Nat.le_of_ble_eq_true rfl)) dX3_parse_72 ⟨Nat.zero_le _, Nat.zero_le _⟩ (yT0.blind) (yT0.go hT hA0 hA G) (fun T9 H locs hq G => ?_)
  rw [hq] at G
  clear hq eT8
  obtain ⟨v12, ev12, h⟩ := elet_some h
  refine lv_iinc (v := v12) (lv' := [(3, .int v12), (0, .ref (ad l0)), (2, .ref (ad l2))]) hx hb dX3_parse_75 hl (k := 2) rfl ev12.symm (by decide) rfl (fun ls hl => ?_)
  refine lv_goto (tgt := 24) hx hb dX3_parse_78 (by decide) ?_
  have hl := lv_sub hl [1, 2, 0] rfl
  exact hk24 _ _ _ _ _ _ _ h G hl
set_option maxHeartbeats 4000000 in
set_option maxRecDepth 100000 in
theorem x_X3_parse_b24 {p : Program} {l : Launch} {e : Env} {s : State} {m : MethodId} {args : Array Value} {below : List Frame} {meth : Method} {c : Code} {Qc : Array Value → State → Outcome → State → Prop} {XC : String → State → State → Prop} {D : va_G} {A : Nat → Prop} {cI cJ cZ cMic cSrc cSt cAI cAJ : ClassId} {ad : Nat → Nat} {e1 : Nat} {r1 : Int32} {T1 : AT} (E : cE p c cX3_parse s m args (Cond.code yX3_parse cX3_parse 4 none :: wsA) D RX3 (CT cI cJ cZ cMic cSrc cSt cAI cAJ)) (hA : ∀ q : Nat, s.heap.size ≤ q → A q) (hX : xT A s) (hN : nX s) (hml : c.maxLocals = 4) {h0 : Nat} (hA0 : ∀ a : Nat, A a → h0 ≤ a) (hT : sAll h0 s) (hz9 : True) (hst : l.stackTraces = false) (htab : ∀ x ∈ c.exceptionTable.toList, False) (hlocks : meth.locks = false) (kx : ∀ (H : Heap) (locs : List Loc) (t : State), gC cI cJ cZ cMic cSrc cSt cAI cAJ D ad A s.heap H locs T1 → s.vm.Alike t.vm → H.size ≤ t.heap.size → (∀ q, q < H.size → t.heap[q]? = H[q]?) → XC (exn e1) s t) : ∀ n : Nat, ∀ (T : AT) (H : Heap) (locs : List Loc) (ls : Array Slot) (l0 : Nat) (l2 : Nat) (l3 : Int32), g_X3_parse_b24 n T l0 l2 l3 = some (e1 + 1, r1, T1) → gC cI cJ cZ cMic cSrc cSt cAI cAJ D ad A s.heap H locs T → lv_has ls 4 [(0, .ref (ad l0)), (2, .ref (ad l2)), (3, .int l3)] → W p l e { frames := 11, cells := 1, slots := 6, locals := 192 } s m args below meth c H locs 0 0 (vx_MQ below Qc XC args s 1 6 A) (F0 m 24 ls []) := by
  have hx := E.1
  have hb := E.2.1
  have hts := E.2.2.1
  have hown := E.2.2.2.1
  have hK := E.2.2.2.2
  intro n
  induction n with
  | zero =>
    intro T H locs ls l0 l2 l3 h
    have h : (none : Option (Nat × Int32 × AT)) = some (e1 + 1, r1, T1) := h
    cases h
  | succ n ih =>
    intro T H locs ls l0 l2 l3 h G hl
    unfold g_X3_parse_b24 at h
    refine lv_iload_n hx hb dX3_parse_24 rfl (lv_at hl 2 rfl) ?_
    refine lv_aload_n hx hb dX3_parse_25 rfl (lv_at hl 0 rfl) ?_
    obtain ⟨g2, h⟩ := oif_some h
    obtain ⟨n3, en3, h⟩ := obind_some h
    refine c_get E G l0 0 (v := .ref (ad n3)) (oO_k g2).1 (cc_o3 (oO_k g2).2) rfl (fun w h => .tail _ (iA_17 h)) (by decide) (.tail _ qA_174) rfl (by rw [en3]; rfl) dX3_parse_26 ?_
    clear en3
    obtain ⟨g4, h⟩ := oif_some h
    refine c_get E G n3 5 (oO_k g4).1 (cc_o9 (oO_k g4).2) rfl (fun w h => .tail _ (iA_18 h)) (by decide) (.tail _ qA_177) rfl rfl dX3_parse_29 ?_
    refine lv_topi (fun v5 ev5 => ?_)
    have h := elet_at ev5 h
    clear ev5
    refine lv_icmp_ge (tgt := 81) hx hb dX3_parse_32 (by decide) (fun c6 => ?_) (fun c6 => ?_)
    · have h := oif_pos c6 h
      have hl := lv_sub hl [0, 1] rfl
      exact x_X3_parse_b81 E hA hX hN hml hA0 hT trivial hst htab hlocks kx _ _ _ _ _ _ h G hl
    · have h := oif_neg c6 h
      refine lv_aload_n hx hb dX3_parse_35 rfl (lv_at hl 0 rfl) ?_
      obtain ⟨g7, h⟩ := oif_some h
      obtain ⟨r10, T8, eT8, h⟩ := obind2_some h
      refine q_cvi (As := []) (rest := []) E G hA hX hN hml (u_X3_kind l hst D cI cJ cZ cMic cSrc cSt cAI cAJ ad T l0 eT8) (cwV 0 hts (gaV qA_239 qA_240 qA_241 qA_222 qA_242) rfl rfl rfl (by decide +kernel) ⟨Nat.le_of_ble_eq_true rfl, Nat.le_of_ble_eq_true rfl⟩) (oO_k g7).1 (cc_o3 (oO_k g7).2) rfl rfl hl.1 rfl (lv_room (Nat.le_of_ble_eq_true rfl)) dX3_parse_36 ⟨Nat.zero_le _, Nat.zero_le _⟩ (fun q11 T9 H locs hq G => ?_)
      obtain ⟨hq1, hq2⟩ := hq
      rw [hq2] at G
      refine lv_to hq1 ?_
      clear hq1 hq2 eT8
      refine lv_iconst (v := 5) hx hb dX3_parse_39 (by decide) ?_
      refine lv_icmp_eq (tgt := 81) hx hb dX3_parse_40 (by decide) (fun c12 => ?_) (fun c12 => ?_)
      · have h := oif_pos c12 h
        have hl := lv_sub hl [0, 1] rfl
        exact x_X3_parse_b81 E hA hX hN hml hA0 hT trivial hst htab hlocks kx _ _ _ _ _ _ h G hl
      · have h := oif_neg c12 h
        refine lv_aload_n hx hb dX3_parse_43 rfl (lv_at hl 0 rfl) ?_
        obtain ⟨g13, h⟩ := oif_some h
        obtain ⟨r16, T14, eT14, h⟩ := obind2_some h
        refine q_cvi (As := []) (rest := []) E G hA hX hN hml (u_X3_kind l hst D cI cJ cZ cMic cSrc cSt cAI cAJ ad T8 l0 eT14) (cwV 0 hts (gaV qA_239 qA_240 qA_241 qA_222 qA_242) rfl rfl rfl (by decide +kernel) ⟨Nat.le_of_ble_eq_true rfl, Nat.le_of_ble_eq_true rfl⟩) (oO_k g13).1 (cc_o3 (oO_k g13).2) rfl rfl hl.1 rfl (lv_room (Nat.le_of_ble_eq_true rfl)) dX3_parse_44 ⟨Nat.zero_le _, Nat.zero_le _⟩ (fun q17 T15 H locs hq G => ?_)
        obtain ⟨hq1, hq2⟩ := hq
        rw [hq2] at G
        refine lv_to hq1 ?_
        clear hq1 hq2 eT14
        refine lv_iconst (v := 4) hx hb dX3_parse_47 (by decide) ?_
        refine lv_icmp_eq (tgt := 60) hx hb dX3_parse_48 (by decide) (fun c18 => ?_) (fun c18 => ?_)
        · have h := oif_pos c18 h
          have hl := lv_sub hl [0, 1, 2] rfl
          exact x_X3_parse_b60 E hA hX hN hml hA0 hT trivial hst htab hlocks kx ih _ _ _ _ _ _ _ h G hl
        · have h := oif_neg c18 h
          refine lv_aload_n hx hb dX3_parse_51 rfl (lv_at hl 0 rfl) ?_
          refine lv_aload_n hx hb dX3_parse_52 rfl (lv_at hl 0 rfl) ?_
          obtain ⟨g19, h⟩ := oif_some h
          refine c_get E G l0 1 (oO_k g19).1 (cc_o3 (oO_k g19).2) rfl (fun w h => .tail _ (iA_17 h)) (by decide) (.tail _ qA_176) rfl rfl dX3_parse_53 ?_
          refine lv_topi (fun v20 ev20 => ?_)
          have h := elet_at ev20 h
          clear ev20
          refine lv_iconst (v := 1) hx hb dX3_parse_56 (by decide) ?_
          obtain ⟨g21, h⟩ := oif_some h
          rcases othr_t h with ⟨r0, eT22⟩ | ⟨r24, T22, eT22, h⟩
          · refine q_xvv (As := [.int v20, .int 1]) (rest := []) E G hA hX hN hml (x_X3_failAt l hst D cI cJ cZ cMic cSrc cSt cAI cAJ ad T14 l0 v20 (1 : Int32) eT22) (cwV 2 hts (gaV qA_293 qA_294 qA_295 qA_222 qA_296) rfl rfl rfl (by decide +kernel) ⟨Nat.le_of_ble_eq_true rfl, Nat.le_of_ble_eq_true rfl⟩) (oO_k g21).1 (cc_o3 (oO_k g21).2) rfl rfl hl.1 rfl (lv_room (Nat.le_of_ble_eq_true rfl)) dX3_parse_57 ⟨Nat.le_of_ble_eq_true rfl, Nat.le_of_ble_eq_true rfl⟩ (fun E9 ce q9 T9 H locs hp G hce hcv hcl => ?_)
            obtain ⟨hE, hT⟩ := hp
            subst hE
            rw [hT] at G
            exact vx_out (fun x hx => (htab x hx).elim) hlocks hce hcv hcl (fun t ht hvm => kx _ _ _ G hvm (by rw [ht]; exact Nat.le_refl _) (fun q hq => by rw [ht])) G.2.2.2.2 (Nat.le_refl _) (Nat.le_refl _)
          refine q_cvv (As := [.int v20, .int 1]) (rest := []) E G hA hX hN hml (u_X3_failAt l hst D cI cJ cZ cMic cSrc cSt cAI cAJ ad T14 l0 v20 (1 : Int32) eT22) (cwV 2 hts (gaV qA_293 qA_294 qA_295 qA_222 qA_296) rfl rfl rfl (by decide +kernel) ⟨Nat.le_of_ble_eq_true rfl, Nat.le_of_ble_eq_true rfl⟩) (oO_k g21).1 (cc_o3 (oO_k g21).2) rfl rfl hl.1 rfl (lv_room (Nat.le_of_ble_eq_true rfl)) dX3_parse_57 ⟨Nat.zero_le _, Nat.zero_le _⟩ (fun T23 H locs hq G => ?_)
          rw [hq] at G
          clear hq eT22
          have hl := lv_sub hl [0, 1, 2] rfl
          exact x_X3_parse_b60 E hA hX hN hml hA0 hT trivial hst htab hlocks kx ih _ _ _ _ _ _ _ h G hl
set_option maxHeartbeats 4000000 in
set_option maxRecDepth 100000 in
theorem x_X3_parse (l : Launch) (hst : l.stackTraces = false) (D : va_G) (cI cJ cZ cMic cSrc cSt cAI cAJ : ClassId) (ad : Nat → Nat) (T : AT) (h0 : Nat) (o : Nat) (a0 : Int32) (a1 : Nat) {e1 : Nat} {r1 : Int32} {T1 : AT} (h : g_X3_parse T o a0 a1 = some (e1 + 1, r1, T1)) : kXvX l yX3_parse (Cond.code yX3_parse cX3_parse 4 none :: wsA) 11 192 cI cJ cZ cMic cSrc cSt cAI cAJ D ad T [.ref (ad o), .int a0, .ref (ad a1)] (yT0 cI cJ cZ cMic cSrc cSt cAI cAJ h0 ad T) e1 T1 := by
  intro sz
  refine vx_ofW (cc := cX3_parse) (maxL := 4) (ret := none) (by decide) rfl ?_
  intro p e s m args below meth c s₁ B hml htab hv
  obtain ⟨rfl, ⟨hsz, hP, hK, hD0, hX, hN⟩, hA1, hT⟩ := hv
  have hx := B.exec
  have hb := B.bytes
  have hr := B.returns
  have hts := atoms_spec (ws := (Cond.code yX3_parse cX3_parse 4 none :: wsA)) B.pre
  have hown : s.vm.findClass RX3 = some m.cls := findClass_of_methodNamed B.named
  have hlocks := B.notSynchronized
  subst hsz
  have hD := hD0.self (sz := s.heap.size)
  generalize hAe : va_A (cW ad T.1 (cc cI cJ cZ cMic cSrc cSt cAI cAJ ad T)) s.heap.size = A at hD hX hA1 ⊢
  have hA : ∀ q : Nat, s.heap.size ≤ q → A q := fun q h => by rw [← hAe]; exact Or.inr h
  have G : gC cI cJ cZ cMic cSrc cSt cAI cAJ D ad A s.heap s.heap [] T := ⟨hP, hD, va_S.rf⟩
  have E : cE p c cX3_parse s m ([.ref (ad o), .int a0, .ref (ad a1)] : List Value).toArray (Cond.code yX3_parse cX3_parse 4 none :: wsA) D RX3 (CT cI cJ cZ cMic cSrc cSt cAI cAJ) := ⟨hx, hb, hts, hown, hK⟩
  have htab : ∀ x ∈ c.exceptionTable.toList, False := fun x hx => htab x hx
  have hA0 : ∀ a : Nat, A a → h0 ≤ a := hA1
  have hl := lv_entry ([.ref (ad o), .int a0, .ref (ad a1)]) (n := 4) (Nat.le_of_ble_eq_true rfl)
  rw [lg_entry_eq]
  generalize (lg_sl ([.ref (ad o), .int a0, .ref (ad a1)]) ++ List.replicate (4 - (lg_sl ([.ref (ad o), .int a0, .ref (ad a1)])).length) Slot.unset).toArray = ls at hl ⊢
  have hl : lv_has ls 4 [(0, .ref (ad o)), (1, .int a0), (2, .ref (ad a1))] := hl
  unfold g_X3_parse at h
  refine lv_aload_n hx hb dX3_parse_0 rfl (lv_at hl 0 rfl) ?_
  obtain ⟨g2, h⟩ := oif_some h
  obtain ⟨n3, en3, h⟩ := obind_some h
  refine c_get E G o 0 (v := .ref (ad n3)) (oO_k g2).1 (cc_o3 (oO_k g2).2) rfl (fun w h => .tail _ (iA_17 h)) (by decide) (.tail _ qA_174) rfl (by rw [en3]; rfl) dX3_parse_1 ?_
  clear en3
  refine lv_iload_n hx hb dX3_parse_4 rfl (lv_at hl 1 rfl) ?_
  obtain ⟨g4, h⟩ := oif_some h
  obtain ⟨T5, eT5, h⟩ := obind_some h
  refine q_cvv (As := [.int a0]) (rest := []) E G hA hX hN hml (u_X9_cut l hst D cI cJ cZ cMic cSrc cSt cAI cAJ ad T n3 a0 eT5) (cwV 1 hts (gaV qA_182 qA_183 qA_184 qA_185 qA_186) rfl rfl rfl (by decide +kernel) ⟨Nat.le_of_ble_eq_true rfl, Nat.le_of_ble_eq_true rfl⟩) (oO_k g4).1 (cc_o9 (oO_k g4).2) rfl rfl hl.1 rfl (lv_room (Nat.le_of_ble_eq_true rfl)) dX3_parse_5 ⟨Nat.zero_le _, Nat.zero_le _⟩ (fun T6 H locs hq G => ?_)
  rw [hq] at G
  clear hq eT5
  refine lv_aload_n hx hb dX3_parse_8 rfl (lv_at hl 0 rfl) ?_
  refine lv_iconst (v := 0) hx hb dX3_parse_9 (by decide) ?_
  obtain ⟨g7, h⟩ := oif_some h
  refine c_put E G o 1 (v := .int 0) (oO_k g7).1 (cc_o3 (oO_k g7).2) rfl (fun w h => .tail _ (iA_17 h)) tyX3 tyX3_ok nmX3 (by decide) (.tail _ qA_176) ⟨rfl, rfl, rfl⟩ rfl rfl (Nat.le_of_ble_eq_true rfl) dX3_parse_10 (fun H locs G => ?_)
  have G := gC_up_i (f := upd (T5.2.2.1 o) 1 0) (by rw [(oO_k g7).2]; rfl) G
  obtain ⟨T8, eT8, h⟩ := elet_some h
  have G : gC cI cJ cZ cMic cSrc cSt cAI cAJ D ad A s.heap H locs T8 := by rw [eT8]; exact G
  clear eT8
  refine lv_aload_n hx hb dX3_parse_13 rfl (lv_at hl 2 rfl) ?_
  obtain ⟨g9, h⟩ := oif_some h
  obtain ⟨T10, eT10, h⟩ := obind_some h
  refine q_cvv (As := []) (rest := []) E G hA hX hN hml (u_X6_clear l hst D cI cJ cZ cMic cSrc cSt cAI cAJ ad T8 a1 eT10) (cwV 0 hts (gaV qA_204 qA_205 qA_206 qA_207 qA_208) rfl rfl rfl (by decide +kernel) ⟨Nat.le_of_ble_eq_true rfl, Nat.le_of_ble_eq_true rfl⟩) (oO_k g9).1 (cc_o6 (oO_k g9).2) rfl rfl hl.1 rfl (lv_room (Nat.le_of_ble_eq_true rfl)) dX3_parse_14 ⟨Nat.zero_le _, Nat.zero_le _⟩ (fun T11 H locs hq G => ?_)
  rw [hq] at G
  clear hq eT10
  refine lv_aload_n hx hb dX3_parse_17 rfl (lv_at hl 0 rfl) ?_
  refine lv_aload_n hx hb dX3_parse_18 rfl (lv_at hl 2 rfl) ?_
  obtain ⟨g12, h⟩ := oif_some h
  rcases othr_t h with ⟨r0, eT13⟩ | ⟨r15, T13, eT13, h⟩
  · refine q_xvvX (As := [.ref (ad a1)]) (rest := []) E G hA hX hN hml (x_X3_parseHead l hst D cI cJ cZ cMic cSrc cSt cAI cAJ ad T10 h0 o a1 eT13) (cwV 1 hts (gaV qA_219 qA_220 qA_221 qA_222 qA_223) rfl rfl rfl (by decide +kernel) ⟨Nat.le_of_ble_eq_true rfl, Nat.le_of_ble_eq_true rfl⟩) (oO_k g12).1 (cc_o3 (oO_k g12).2) rfl rfl hl.1 rfl (lv_room (Nat.le_of_ble_eq_true rfl)) dX3_parse_19 ⟨Nat.le_of_ble_eq_true rfl, Nat.le_of_ble_eq_true rfl⟩ (yT0.blind) (yT0.go hT hA0 hA G) (fun E9 ce q9 T9 H locs hp G hce hcv hcl => ?_)
    obtain ⟨hE, hT⟩ := hp
    subst hE
    rw [hT] at G
    exact vx_out (fun x hx => (htab x hx).elim) hlocks hce hcv hcl (fun t ht hvm => ⟨T1, trivial, ⟨⟨rfl, rfl⟩, by rw [ht]; exact G.1, va_K.moved hvm hK, G.2.1⟩, G.2.2.F ht⟩) G.2.2.2.2 (Nat.le_refl _) (Nat.le_refl _)
  refine q_cvvX (As := [.ref (ad a1)]) (rest := []) E G hA hX hN hml (u_X3_parseHead l hst D cI cJ cZ cMic cSrc cSt cAI cAJ ad T10 h0 o a1 eT13) (cwV 1 hts (gaV qA_219 qA_220 qA_221 qA_222 qA_223) rfl rfl rfl (by decide +kernel) ⟨Nat.le_of_ble_eq_true rfl, Nat.le_of_ble_eq_true rfl⟩) (oO_k g12).1 (cc_o3 (oO_k g12).2) rfl rfl hl.1 rfl (lv_room (Nat.le_of_ble_eq_true rfl)) dX3_parse_19 ⟨Nat.zero_le _, Nat.zero_le _⟩ (yT0.blind) (yT0.go hT hA0 hA G) (fun T14 H locs hq G => ?_)
  rw [hq] at G
  clear hq eT13
  refine lv_iconst (v := 0) hx hb dX3_parse_22 (by decide) ?_
  refine lv_istore_n (lv' := [(3, .int 0), (0, .ref (ad o)), (1, .int a0), (2, .ref (ad a1))]) hx hb dX3_parse_23 rfl hl (by decide) rfl (fun ls hl => ?_)
  have hl := lv_sub hl [1, 3, 0] rfl
  exact x_X3_parse_b24 E hA hX hN hml hA0 hT trivial hst htab hlocks (fun H locs t G hvm h1 h2 => ⟨T1, trivial, ⟨⟨rfl, rfl⟩, (c_thrown G hK hvm h1 h2).1⟩, (c_thrown G hK hvm h1 h2).2⟩) _ _ _ _ _ _ _ _ h G hl
def g_X4_standsOut_b65 (k11 : AT → Nat → Int32 → Nat → Nat → Int32 → Option (Int32 × AT)) (k24 : AT → Nat → Int32 → Nat → Nat → Int32 → Int32 → Option (Int32 × AT)) (T : AT) (l0 : Nat) (l1 : Int32) (l2 : Nat) (l3 : Nat) (l4 : Int32) (l5 : Int32) : Option (Int32 × AT) := elet (l5 + Int32.ofInt (1)) fun v2 => k24 T l0 l1 l2 l3 l4 v2
set_option maxHeartbeats 4000000 in
set_option maxRecDepth 100000 in
theorem u_X4_standsOut_b65 {p : Program} {l : Launch} {e : Env} {s : State} {m : MethodId} {args : Array Value} {below : List Frame} {meth : Method} {c : Code} {Q : State → Prop} {D : va_G} {A : Nat → Prop} {cI cJ cZ cMic cSrc cSt cAI cAJ : ClassId} {ad : Nat → Nat} {r1 : Int32} {T1 : AT} (E : cE p c cX4_standsOut s m args (Cond.code yX4_standsOut cX4_standsOut 7 (some .boolean) :: wsA) D RX4 (CT cI cJ cZ cMic cSrc cSt cAI cAJ)) (hA : ∀ q : Nat, s.heap.size ≤ q → A q) (hX : xT A s) (hN : nX s) (hml : c.maxLocals = 7) (hst : l.stackTraces = false) (kr64 : ∀ (H : Heap) (locs : List Loc) (ls : Array Slot), (r1 = 0 ∨ r1 = 1) → gC cI cJ cZ cMic cSrc cSt cAI cAJ D ad A s.heap H locs T1 → W p l e { frames := 4, cells := 0, slots := 0, locals := 67 } s m args below meth c H locs 0 0 Q (F0 m 64 ls [.int r1])) (kr78 : ∀ (H : Heap) (locs : List Loc) (ls : Array Slot), (r1 = 0 ∨ r1 = 1) → gC cI cJ cZ cMic cSrc cSt cAI cAJ D ad A s.heap H locs T1 → W p l e { frames := 4, cells := 0, slots := 0, locals := 67 } s m args below meth c H locs 0 0 Q (F0 m 78 ls [.int r1])) {k11 : AT → Nat → Int32 → Nat → Nat → Int32 → Option (Int32 × AT)} {k24 : AT → Nat → Int32 → Nat → Nat → Int32 → Int32 → Option (Int32 × AT)} (hk11 : ∀ (T : AT) (H : Heap) (locs : List Loc) (ls : Array Slot) (l0 : Nat) (l1 : Int32) (l2 : Nat) (l3 : Nat) (l4 : Int32), k11 T l0 l1 l2 l3 l4 = some (r1, T1) → gC cI cJ cZ cMic cSrc cSt cAI cAJ D ad A s.heap H locs T → lv_has ls 7 [(0, .ref (ad l0)), (1, .int l1), (2, .ref (ad l2)), (3, .ref (ad l3)), (4, .int l4)] → W p l e { frames := 4, cells := 0, slots := 0, locals := 67 } s m args below meth c H locs 0 0 Q (F0 m 11 ls [])) (hk24 : ∀ (T : AT) (H : Heap) (locs : List Loc) (ls : Array Slot) (l0 : Nat) (l1 : Int32) (l2 : Nat) (l3 : Nat) (l4 : Int32) (l5 : Int32), k24 T l0 l1 l2 l3 l4 l5 = some (r1, T1) → gC cI cJ cZ cMic cSrc cSt cAI cAJ D ad A s.heap H locs T → lv_has ls 7 [(0, .ref (ad l0)), (1, .int l1), (2, .ref (ad l2)), (3, .ref (ad l3)), (4, .int l4), (5, .int l5)] → W p l e { frames := 4, cells := 0, slots := 0, locals := 67 } s m args below meth c H locs 0 0 Q (F0 m 24 ls [])) : ∀ (T : AT) (H : Heap) (locs : List Loc) (ls : Array Slot) (l0 : Nat) (l1 : Int32) (l2 : Nat) (l3 : Nat) (l4 : Int32) (l5 : Int32), g_X4_standsOut_b65 k11 k24 T l0 l1 l2 l3 l4 l5 = some (r1, T1) → gC cI cJ cZ cMic cSrc cSt cAI cAJ D ad A s.heap H locs T → lv_has ls 7 [(0, .ref (ad l0)), (1, .int l1), (2, .ref (ad l2)), (3, .ref (ad l3)), (4, .int l4), (5, .int l5)] → W p l e { frames := 4, cells := 0, slots := 0, locals := 67 } s m args below meth c H locs 0 0 Q (F0 m 65 ls []) := by
  have hx := E.1
  have hb := E.2.1
  have hts := E.2.2.1
  have hown := E.2.2.2.1
  have hK := E.2.2.2.2
  intro T H locs ls l0 l1 l2 l3 l4 l5 h G hl
  unfold g_X4_standsOut_b65 at h
  obtain ⟨v2, ev2, h⟩ := elet_some h
  refine lv_iinc (v := v2) (lv' := [(5, .int v2), (0, .ref (ad l0)), (1, .int l1), (2, .ref (ad l2)), (3, .ref (ad l3)), (4, .int l4)]) hx hb dX4_standsOut_65 hl (k := 5) rfl ev2.symm (by decide) rfl (fun ls hl => ?_)
  refine lv_goto (tgt := 24) hx hb dX4_standsOut_68 (by decide) ?_
  have hl := lv_sub hl [1, 2, 3, 4, 5, 0] rfl
  exact hk24 _ _ _ _ _ _ _ _ _ _ h G hl
def g_X4_standsOut_b24 (k11 : AT → Nat → Int32 → Nat → Nat → Int32 → Option (Int32 × AT)) : Nat → AT → Nat → Int32 → Nat → Nat → Int32 → Int32 → Option (Int32 × AT)
  | 0, _, _, _, _, _, _, _ => none
  | n + 1, T, l0, l1, l2, l3, l4, l5 => oif (aA T l3 100 = true) <| oif (inb 2 (T.2.1 l3).2 = true) <| elet (T.2.2.1 l3 (2 : Int32).toNatClampNeg) fun v4 => if v4 < l5 then (elet (l4 + Int32.ofInt (1)) fun v6 => k11 T l0 l1 l2 l3 v6) else (oif (oO T l2 1 = true) <| elet (T.2.2.1 l2 3) fun v8 => elet (l4 * v8) fun v9 => elet (v9 + l5) fun v10 => if v10 = l1 then (g_X4_standsOut_b65 k11 (g_X4_standsOut_b24 k11 n) T l0 l1 l2 l3 l4 l5) else (oif (oO T l0 4 = true) <| obind (T.2.2.2.2 l0 1) fun n13 => oif (oO T n13 10 = true) <| obind2 (g_X10_compare T n13 v10 l1) fun r17 T15 => if r17 < 0 then (g_X4_standsOut_b65 k11 (g_X4_standsOut_b24 k11 n) T15 l0 l1 l2 l3 l4 l5) else (some (0, T15))))
set_option maxHeartbeats 4000000 in
set_option maxRecDepth 100000 in
theorem u_X4_standsOut_b24 {p : Program} {l : Launch} {e : Env} {s : State} {m : MethodId} {args : Array Value} {below : List Frame} {meth : Method} {c : Code} {Q : State → Prop} {D : va_G} {A : Nat → Prop} {cI cJ cZ cMic cSrc cSt cAI cAJ : ClassId} {ad : Nat → Nat} {r1 : Int32} {T1 : AT} (E : cE p c cX4_standsOut s m args (Cond.code yX4_standsOut cX4_standsOut 7 (some .boolean) :: wsA) D RX4 (CT cI cJ cZ cMic cSrc cSt cAI cAJ)) (hA : ∀ q : Nat, s.heap.size ≤ q → A q) (hX : xT A s) (hN : nX s) (hml : c.maxLocals = 7) (hst : l.stackTraces = false) (kr64 : ∀ (H : Heap) (locs : List Loc) (ls : Array Slot), (r1 = 0 ∨ r1 = 1) → gC cI cJ cZ cMic cSrc cSt cAI cAJ D ad A s.heap H locs T1 → W p l e { frames := 4, cells := 0, slots := 0, locals := 67 } s m args below meth c H locs 0 0 Q (F0 m 64 ls [.int r1])) (kr78 : ∀ (H : Heap) (locs : List Loc) (ls : Array Slot), (r1 = 0 ∨ r1 = 1) → gC cI cJ cZ cMic cSrc cSt cAI cAJ D ad A s.heap H locs T1 → W p l e { frames := 4, cells := 0, slots := 0, locals := 67 } s m args below meth c H locs 0 0 Q (F0 m 78 ls [.int r1])) {k11 : AT → Nat → Int32 → Nat → Nat → Int32 → Option (Int32 × AT)} (hk11 : ∀ (T : AT) (H : Heap) (locs : List Loc) (ls : Array Slot) (l0 : Nat) (l1 : Int32) (l2 : Nat) (l3 : Nat) (l4 : Int32), k11 T l0 l1 l2 l3 l4 = some (r1, T1) → gC cI cJ cZ cMic cSrc cSt cAI cAJ D ad A s.heap H locs T → lv_has ls 7 [(0, .ref (ad l0)), (1, .int l1), (2, .ref (ad l2)), (3, .ref (ad l3)), (4, .int l4)] → W p l e { frames := 4, cells := 0, slots := 0, locals := 67 } s m args below meth c H locs 0 0 Q (F0 m 11 ls [])) : ∀ n : Nat, ∀ (T : AT) (H : Heap) (locs : List Loc) (ls : Array Slot) (l0 : Nat) (l1 : Int32) (l2 : Nat) (l3 : Nat) (l4 : Int32) (l5 : Int32), g_X4_standsOut_b24 k11 n T l0 l1 l2 l3 l4 l5 = some (r1, T1) → gC cI cJ cZ cMic cSrc cSt cAI cAJ D ad A s.heap H locs T → lv_has ls 7 [(0, .ref (ad l0)), (1, .int l1), (2, .ref (ad l2)), (3, .ref (ad l3)), (4, .int l4), (5, .int l5)] → W p l e { frames := 4, cells := 0, slots := 0, locals := 67 } s m args below meth c H locs 0 0 Q (F0 m 24 ls []) := by
  have hx := E.1
  have hb := E.2.1
  have hts := E.2.2.1
  have hown := E.2.2.2.1
  have hK := E.2.2.2.2
  intro n
  induction n with
  | zero =>
    intro T H locs ls l0 l1 l2 l3 l4 l5 h
    have h : (none : Option (Int32 × AT)) = some (r1, T1) := h
    cases h
  | succ n ih =>
    intro T H locs ls l0 l1 l2 l3 l4 l5 h G hl
    unfold g_X4_standsOut_b24 at h
    refine lv_iload hx hb dX4_standsOut_24 (lv_at hl 5 rfl) ?_
    refine lv_aload_n hx hb dX4_standsOut_26 rfl (lv_at hl 3 rfl) ?_
    refine lv_iconst (v := 2) hx hb dX4_standsOut_27 (by decide) ?_
    obtain ⟨g2, h⟩ := oif_some h
    obtain ⟨g3, h⟩ := oif_some h
    refine c_iald E G l3 0 (k := (2 : Int32).toNatClampNeg) (aA_k g2).1 (cc_a100 (aA_k g2).2.1) rfl (inb_k g3).1 (inb_k g3).2 (aA_k g2).2.2 dX4_standsOut_28 ?_
    refine lv_topi (fun v4 ev4 => ?_)
    have h := elet_at ev4 h
    clear ev4
    refine lv_icmp_gt (tgt := 71) hx hb dX4_standsOut_29 (by decide) (fun c5 => ?_) (fun c5 => ?_)
    · have h := oif_pos c5 h
      obtain ⟨v6, ev6, h⟩ := elet_some h
      refine lv_iinc (v := v6) (lv' := [(4, .int v6), (0, .ref (ad l0)), (1, .int l1), (2, .ref (ad l2)), (3, .ref (ad l3)), (5, .int l5)]) hx hb dX4_standsOut_71 hl (k := 4) rfl ev6.symm (by decide) rfl (fun ls hl => ?_)
      refine lv_goto (tgt := 11) hx hb dX4_standsOut_74 (by decide) ?_
      have hl := lv_sub hl [1, 2, 3, 4, 0] rfl
      exact hk11 _ _ _ _ _ _ _ _ _ h G hl
    · have h := oif_neg c5 h
      refine lv_iload hx hb dX4_standsOut_32 (lv_at hl 4 rfl) ?_
      refine lv_aload_n hx hb dX4_standsOut_34 rfl (lv_at hl 2 rfl) ?_
      obtain ⟨g7, h⟩ := oif_some h
      refine c_get E G l2 3 (oO_k g7).1 (cc_o1 (oO_k g7).2) rfl (fun w h => .tail _ (iA_15 h)) (by decide) (.tail _ qA_428) rfl rfl dX4_standsOut_35 ?_
      refine lv_topi (fun v8 ev8 => ?_)
      have h := elet_at ev8 h
      clear ev8
      refine lv_imul hx hb dX4_standsOut_38 ?_
      refine lv_topi (fun v9 ev9 => ?_)
      have h := elet_at ev9 h
      clear ev9
      refine lv_iload hx hb dX4_standsOut_39 (lv_at hl 5 rfl) ?_
      refine lv_iadd hx hb dX4_standsOut_41 ?_
      refine lv_topi (fun v10 ev10 => ?_)
      have h := elet_at ev10 h
      clear ev10
      refine lv_istore (lv' := [(6, .int v10), (0, .ref (ad l0)), (1, .int l1), (2, .ref (ad l2)), (3, .ref (ad l3)), (4, .int l4), (5, .int l5)]) hx hb dX4_standsOut_42 hl (by decide) rfl (fun ls hl => ?_)
      refine lv_iload hx hb dX4_standsOut_44 (lv_at hl 0 rfl) ?_
      refine lv_iload_n hx hb dX4_standsOut_46 rfl (lv_at hl 2 rfl) ?_
      refine lv_icmp_eq (tgt := 65) hx hb dX4_standsOut_47 (by decide) (fun c11 => ?_) (fun c11 => ?_)
      · have h := oif_pos c11 h
        have hl := lv_sub hl [1, 2, 3, 4, 5, 6] rfl
        exact u_X4_standsOut_b65 E hA hX hN hml hst kr64 kr78 hk11 ih _ _ _ _ _ _ _ _ _ _ h G hl
      · have h := oif_neg c11 h
        refine lv_aload_n hx hb dX4_standsOut_50 rfl (lv_at hl 1 rfl) ?_
        obtain ⟨g12, h⟩ := oif_some h
        obtain ⟨n13, en13, h⟩ := obind_some h
        refine c_get E G l0 1 (v := .ref (ad n13)) (oO_k g12).1 (cc_o4 (oO_k g12).2) rfl (fun w h => .tail _ (iA_21 h)) (by decide) (.tail _ qA_408) rfl (by rw [en13]; rfl) dX4_standsOut_51 ?_
        clear en13
        refine lv_iload hx hb dX4_standsOut_54 (lv_at hl 0 rfl) ?_
        refine lv_iload_n hx hb dX4_standsOut_56 rfl (lv_at hl 2 rfl) ?_
        obtain ⟨g14, h⟩ := oif_some h
        obtain ⟨r17, T15, eT15, h⟩ := obind2_some h
        refine q_cvi (As := [.int v10, .int l1]) (rest := []) E G hA hX hN hml (u_X10_compare l hst D cI cJ cZ cMic cSrc cSt cAI cAJ ad T n13 v10 l1 eT15) (cwV 2 hts (gaV qA_430 qA_120 qA_121 qA_6 qA_122) rfl rfl rfl (by decide +kernel) ⟨Nat.le_of_ble_eq_true rfl, Nat.le_of_ble_eq_true rfl⟩) (oO_k g14).1 (cc_o10 (oO_k g14).2) rfl rfl hl.1 rfl (lv_room (Nat.le_of_ble_eq_true rfl)) dX4_standsOut_57 ⟨Nat.zero_le _, Nat.zero_le _⟩ (fun q18 T16 H locs hq G => ?_)
        obtain ⟨hq1, hq2⟩ := hq
        rw [hq2] at G
        refine lv_to hq1 ?_
        clear hq1 hq2 eT15
        refine lv_if_lt (tgt := 65) hx hb dX4_standsOut_60 (by decide) (fun c19 => ?_) (fun c19 => ?_)
        · have h := oif_pos c19 h
          have hl := lv_sub hl [1, 2, 3, 4, 5, 6] rfl
          exact u_X4_standsOut_b65 E hA hX hN hml hst kr64 kr78 hk11 ih _ _ _ _ _ _ _ _ _ _ h G hl
        · have h := oif_neg c19 h
          refine lv_iconst (v := 0) hx hb dX4_standsOut_63 (by decide) ?_
          rw [(osome2 h).2] at G
          refine lv_to (osome2 h).1 ?_
          exact kr64 _ _ _ (.inl ((osome2 h).1).symm) G
def g_X4_standsOut_b11  : Nat → AT → Nat → Int32 → Nat → Nat → Int32 → Option (Int32 × AT)
  | 0, _, _, _, _, _, _ => none
  | n + 1, T, l0, l1, l2, l3, l4 => oif (aA T l3 100 = true) <| oif (inb 3 (T.2.1 l3).2 = true) <| elet (T.2.2.1 l3 (3 : Int32).toNatClampNeg) fun v4 => if v4 < l4 then (some (1, T)) else (oif (aA T l3 100 = true) <| oif (inb 0 (T.2.1 l3).2 = true) <| elet (T.2.2.1 l3 (0 : Int32).toNatClampNeg) fun v8 => g_X4_standsOut_b24 (g_X4_standsOut_b11 n) 16384 T l0 l1 l2 l3 l4 v8)
set_option maxHeartbeats 4000000 in
set_option maxRecDepth 100000 in
theorem u_X4_standsOut_b11 {p : Program} {l : Launch} {e : Env} {s : State} {m : MethodId} {args : Array Value} {below : List Frame} {meth : Method} {c : Code} {Q : State → Prop} {D : va_G} {A : Nat → Prop} {cI cJ cZ cMic cSrc cSt cAI cAJ : ClassId} {ad : Nat → Nat} {r1 : Int32} {T1 : AT} (E : cE p c cX4_standsOut s m args (Cond.code yX4_standsOut cX4_standsOut 7 (some .boolean) :: wsA) D RX4 (CT cI cJ cZ cMic cSrc cSt cAI cAJ)) (hA : ∀ q : Nat, s.heap.size ≤ q → A q) (hX : xT A s) (hN : nX s) (hml : c.maxLocals = 7) (hst : l.stackTraces = false) (kr64 : ∀ (H : Heap) (locs : List Loc) (ls : Array Slot), (r1 = 0 ∨ r1 = 1) → gC cI cJ cZ cMic cSrc cSt cAI cAJ D ad A s.heap H locs T1 → W p l e { frames := 4, cells := 0, slots := 0, locals := 67 } s m args below meth c H locs 0 0 Q (F0 m 64 ls [.int r1])) (kr78 : ∀ (H : Heap) (locs : List Loc) (ls : Array Slot), (r1 = 0 ∨ r1 = 1) → gC cI cJ cZ cMic cSrc cSt cAI cAJ D ad A s.heap H locs T1 → W p l e { frames := 4, cells := 0, slots := 0, locals := 67 } s m args below meth c H locs 0 0 Q (F0 m 78 ls [.int r1])) : ∀ n : Nat, ∀ (T : AT) (H : Heap) (locs : List Loc) (ls : Array Slot) (l0 : Nat) (l1 : Int32) (l2 : Nat) (l3 : Nat) (l4 : Int32), g_X4_standsOut_b11 n T l0 l1 l2 l3 l4 = some (r1, T1) → gC cI cJ cZ cMic cSrc cSt cAI cAJ D ad A s.heap H locs T → lv_has ls 7 [(0, .ref (ad l0)), (1, .int l1), (2, .ref (ad l2)), (3, .ref (ad l3)), (4, .int l4)] → W p l e { frames := 4, cells := 0, slots := 0, locals := 67 } s m args below meth c H locs 0 0 Q (F0 m 11 ls []) := by
  have hx := E.1
  have hb := E.2.1
  have hts := E.2.2.1
  have hown := E.2.2.2.1
  have hK := E.2.2.2.2
  intro n
  induction n with
  | zero =>
    intro T H locs ls l0 l1 l2 l3 l4 h
    have h : (none : Option (Int32 × AT)) = some (r1, T1) := h
    cases h
  | succ n ih =>
    intro T H locs ls l0 l1 l2 l3 l4 h G hl
    unfold g_X4_standsOut_b11 at h
    refine lv_iload hx hb dX4_standsOut_11 (lv_at hl 4 rfl) ?_
    refine lv_aload_n hx hb dX4_standsOut_13 rfl (lv_at hl 3 rfl) ?_
    refine lv_iconst (v := 3) hx hb dX4_standsOut_14 (by decide) ?_
    obtain ⟨g2, h⟩ := oif_some h
    obtain ⟨g3, h⟩ := oif_some h
    refine c_iald E G l3 0 (k := (3 : Int32).toNatClampNeg) (aA_k g2).1 (cc_a100 (aA_k g2).2.1) rfl (inb_k g3).1 (inb_k g3).2 (aA_k g2).2.2 dX4_standsOut_15 ?_
    refine lv_topi (fun v4 ev4 => ?_)
    have h := elet_at ev4 h
    clear ev4
    refine lv_icmp_gt (tgt := 77) hx hb dX4_standsOut_16 (by decide) (fun c5 => ?_) (fun c5 => ?_)
    · have h := oif_pos c5 h
      refine lv_iconst (v := 1) hx hb dX4_standsOut_77 (by decide) ?_
      rw [(osome2 h).2] at G
      refine lv_to (osome2 h).1 ?_
      exact kr78 _ _ _ (.inr ((osome2 h).1).symm) G
    · have h := oif_neg c5 h
      refine lv_aload_n hx hb dX4_standsOut_19 rfl (lv_at hl 3 rfl) ?_
      refine lv_iconst (v := 0) hx hb dX4_standsOut_20 (by decide) ?_
      obtain ⟨g6, h⟩ := oif_some h
      obtain ⟨g7, h⟩ := oif_some h
      refine c_iald E G l3 0 (k := (0 : Int32).toNatClampNeg) (aA_k g6).1 (cc_a100 (aA_k g6).2.1) rfl (inb_k g7).1 (inb_k g7).2 (aA_k g6).2.2 dX4_standsOut_21 ?_
      refine lv_topi (fun v8 ev8 => ?_)
      have h := elet_at ev8 h
      clear ev8
      refine lv_istore (lv' := [(5, .int v8), (0, .ref (ad l0)), (1, .int l1), (2, .ref (ad l2)), (3, .ref (ad l3)), (4, .int l4)]) hx hb dX4_standsOut_22 hl (by decide) rfl (fun ls hl => ?_)
      have hl := lv_sub hl [1, 2, 3, 4, 5, 0] rfl
      exact u_X4_standsOut_b24 E hA hX hN hml hst kr64 kr78 ih _ _ _ _ _ _ _ _ _ _ _ h G hl
def g_X4_standsOut (T : AT) (o : Nat) (a0 : Int32) (a1 : Nat) : Option (Int32 × AT) := oif (oO T a1 1 = true) <| obind2 (g_X1_areaAround T a1 a0) fun n5 T3 => oif (aA T3 n5 100 = true) <| oif (inb 1 (T3.2.1 n5).2 = true) <| elet (T3.2.2.1 n5 (1 : Int32).toNatClampNeg) fun v8 => g_X4_standsOut_b11 16384 T3 o a0 a1 n5 v8
set_option maxHeartbeats 4000000 in
set_option maxRecDepth 100000 in
theorem u_X4_standsOut (l : Launch) (hst : l.stackTraces = false) (D : va_G) (cI cJ cZ cMic cSrc cSt cAI cAJ : ClassId) (ad : Nat → Nat) (T : AT) (o : Nat) (a0 : Int32) (a1 : Nat) {r1 : Int32} {T1 : AT} (h : g_X4_standsOut T o a0 a1 = some (r1, T1)) : kCi l yX4_standsOut (Cond.code yX4_standsOut cX4_standsOut 7 (some .boolean) :: wsA) 4 67 cI cJ cZ cMic cSrc cSt cAI cAJ D ad T [.ref (ad o), .int a0, .ref (ad a1)] (fun r T9 => r = r1 ∧ T9 = T1) := by
  intro sz
  refine Met.ofW (cc := cX4_standsOut) (maxL := 7) (ret := (some .boolean)) (by decide) rfl ?_
  intro p e s m args below meth c s₁ B hml hv
  obtain ⟨rfl, hsz, hP, hK, hD0, hX, hN⟩ := hv
  have hx := B.exec
  have hb := B.bytes
  have hr := B.returns
  have hts := atoms_spec (ws := (Cond.code yX4_standsOut cX4_standsOut 7 (some .boolean) :: wsA)) B.pre
  have hown : s.vm.findClass RX4 = some m.cls := findClass_of_methodNamed B.named
  have hlocks := B.notSynchronized
  subst hsz
  have hD := hD0.self (sz := s.heap.size)
  generalize hAe : va_A (cW ad T.1 (cc cI cJ cZ cMic cSrc cSt cAI cAJ ad T)) s.heap.size = A at hD hX ⊢
  have hA : ∀ q : Nat, s.heap.size ≤ q → A q := fun q h => by rw [← hAe]; exact Or.inr h
  have G : gC cI cJ cZ cMic cSrc cSt cAI cAJ D ad A s.heap s.heap [] T := ⟨hP, hD, va_S.rf⟩
  have E : cE p c cX4_standsOut s m ([.ref (ad o), .int a0, .ref (ad a1)] : List Value).toArray (Cond.code yX4_standsOut cX4_standsOut 7 (some .boolean) :: wsA) D RX4 (CT cI cJ cZ cMic cSrc cSt cAI cAJ) := ⟨hx, hb, hts, hown, hK⟩
  have hl := lv_entry ([.ref (ad o), .int a0, .ref (ad a1)]) (n := 7) (Nat.le_of_ble_eq_true rfl)
  rw [lg_entry_eq]
  generalize (lg_sl ([.ref (ad o), .int a0, .ref (ad a1)]) ++ List.replicate (7 - (lg_sl ([.ref (ad o), .int a0, .ref (ad a1)])).length) Slot.unset).toArray = ls at hl ⊢
  have hl : lv_has ls 7 [(0, .ref (ad o)), (1, .int a0), (2, .ref (ad a1))] := hl
  unfold g_X4_standsOut at h
  refine lv_aload_n hx hb dX4_standsOut_0 rfl (lv_at hl 2 rfl) ?_
  refine lv_iload_n hx hb dX4_standsOut_1 rfl (lv_at hl 1 rfl) ?_
  obtain ⟨g2, h⟩ := oif_some h
  obtain ⟨n5, T3, eT3, h⟩ := obind2_some h
  refine q_cvr (As := [.int a0]) (rest := []) E G hA hX hN hml (u_X1_areaAround l hst D cI cJ cZ cMic cSrc cSt cAI cAJ ad T a1 a0 eT3) (cwV 1 hts (gaV qA_429 qA_134 qA_135 qA_37 qA_136) rfl rfl rfl (by decide +kernel) ⟨Nat.le_of_ble_eq_true rfl, Nat.le_of_ble_eq_true rfl⟩) (oO_k g2).1 (cc_o1 (oO_k g2).2) rfl rfl hl.1 rfl (lv_room (Nat.le_of_ble_eq_true rfl)) dX4_standsOut_2 ⟨Nat.zero_le _, Nat.zero_le _⟩ (fun T4 H locs hq G => ?_)
  rw [hq] at G
  clear hq eT3
  refine lv_astore_n (lv' := [(3, .ref (ad n5)), (0, .ref (ad o)), (1, .int a0), (2, .ref (ad a1))]) hx hb dX4_standsOut_5 rfl hl (by decide) rfl (fun ls hl => ?_)
  refine lv_aload_n hx hb dX4_standsOut_6 rfl (lv_at hl 0 rfl) ?_
  refine lv_iconst (v := 1) hx hb dX4_standsOut_7 (by decide) ?_
  obtain ⟨g6, h⟩ := oif_some h
  obtain ⟨g7, h⟩ := oif_some h
  refine c_iald E G n5 0 (k := (1 : Int32).toNatClampNeg) (aA_k g6).1 (cc_a100 (aA_k g6).2.1) rfl (inb_k g7).1 (inb_k g7).2 (aA_k g6).2.2 dX4_standsOut_8 ?_
  refine lv_topi (fun v8 ev8 => ?_)
  have h := elet_at ev8 h
  clear ev8
  refine lv_istore (lv' := [(4, .int v8), (3, .ref (ad n5)), (0, .ref (ad o)), (1, .int a0), (2, .ref (ad a1))]) hx hb dX4_standsOut_9 hl (by decide) rfl (fun ls hl => ?_)
  have hl := lv_sub hl [2, 3, 4, 1, 0] rfl
  exact u_X4_standsOut_b11 E hA hX hN hml hst (fun H locs ls gz G => W.zret (v := r1) hx hb hr (nar01 gz) (fun t ht hW => ⟨⟨r1, T1, rfl, ⟨rfl, rfl⟩, ⟨by rw [ht]; exact G.1, va_K.moved hW.alike hK, G.2.1⟩⟩, G.2.2.F ht⟩) G.2.2.2.2 dX4_standsOut_64) (fun H locs ls gz G => W.zret (v := r1) hx hb hr (nar01 gz) (fun t ht hW => ⟨⟨r1, T1, rfl, ⟨rfl, rfl⟩, ⟨by rw [ht]; exact G.1, va_K.moved hW.alike hK, G.2.1⟩⟩, G.2.2.F ht⟩) G.2.2.2.2 dX4_standsOut_78) _ _ _ _ _ _ _ _ _ _ h G hl
set_option maxHeartbeats 4000000 in
set_option maxRecDepth 100000 in
theorem s_X4_standsOut_b65 {r1 : Int32} {T1 : AT} {k11 : AT → Nat → Int32 → Nat → Nat → Int32 → Option (Int32 × AT)} {k24 : AT → Nat → Int32 → Nat → Nat → Int32 → Int32 → Option (Int32 × AT)} (hk11 : ∀ (T : AT) (l0 : Nat) (l1 : Int32) (l2 : Nat) (l3 : Nat) (l4 : Int32), k11 T l0 l1 l2 l3 l4 = some (r1, T1) → SP T T1) (hk24 : ∀ (T : AT) (l0 : Nat) (l1 : Int32) (l2 : Nat) (l3 : Nat) (l4 : Int32) (l5 : Int32), k24 T l0 l1 l2 l3 l4 l5 = some (r1, T1) → SP T T1) : ∀ (T : AT) (l0 : Nat) (l1 : Int32) (l2 : Nat) (l3 : Nat) (l4 : Int32) (l5 : Int32), g_X4_standsOut_b65 k11 k24 T l0 l1 l2 l3 l4 l5 = some (r1, T1) → SP T T1 := by
  intro T l0 l1 l2 l3 l4 l5 h
  have p0 := SP.rf T
  unfold g_X4_standsOut_b65 at h
  obtain ⟨v2, ev2, h⟩ := elet_some h
  exact SP.tr p0 (hk24 _ _ _ _ _ _ _ h)
set_option maxHeartbeats 4000000 in
set_option maxRecDepth 100000 in
theorem s_X4_standsOut_b24 {r1 : Int32} {T1 : AT} {k11 : AT → Nat → Int32 → Nat → Nat → Int32 → Option (Int32 × AT)} (hk11 : ∀ (T : AT) (l0 : Nat) (l1 : Int32) (l2 : Nat) (l3 : Nat) (l4 : Int32), k11 T l0 l1 l2 l3 l4 = some (r1, T1) → SP T T1) : ∀ n : Nat, ∀ (T : AT) (l0 : Nat) (l1 : Int32) (l2 : Nat) (l3 : Nat) (l4 : Int32) (l5 : Int32), g_X4_standsOut_b24 k11 n T l0 l1 l2 l3 l4 l5 = some (r1, T1) → SP T T1 := by
  intro n
  induction n with
  | zero =>
    intro T l0 l1 l2 l3 l4 l5 h
    have h : (none : Option (Int32 × AT)) = some (r1, T1) := h
    cases h
  | succ n ih =>
    intro T l0 l1 l2 l3 l4 l5 h
    have p0 := SP.rf T
    unfold g_X4_standsOut_b24 at h
    obtain ⟨g2, h⟩ := oif_some h
    obtain ⟨g3, h⟩ := oif_some h
    obtain ⟨v4, -, h⟩ := elet_some h
    rcases oif_or h with ⟨c5, h⟩ | ⟨c5, h⟩
    · have h := h
      obtain ⟨v6, ev6, h⟩ := elet_some h
      exact SP.tr p0 (hk11 _ _ _ _ _ _ h)
    · have h := h
      obtain ⟨g7, h⟩ := oif_some h
      obtain ⟨v8, -, h⟩ := elet_some h
      obtain ⟨v9, -, h⟩ := elet_some h
      obtain ⟨v10, -, h⟩ := elet_some h
      rcases oif_or h with ⟨c11, h⟩ | ⟨c11, h⟩
      · have h := h
        exact SP.tr p0 (s_X4_standsOut_b65 hk11 ih _ _ _ _ _ _ _ h)
      · have h := h
        obtain ⟨g12, h⟩ := oif_some h
        obtain ⟨n13, en13, h⟩ := obind_some h
        obtain ⟨g14, h⟩ := oif_some h
        obtain ⟨r16, T15, eT15, h⟩ := obind2_some h
        have p1 : SP T T15 := SP.tr p0 (s_X10_compare eT15)
        rcases oif_or h with ⟨c17, h⟩ | ⟨c17, h⟩
        · have h := h
          exact SP.tr p1 (s_X4_standsOut_b65 hk11 ih _ _ _ _ _ _ _ h)
        · have h := h
          rw [← (osome2 h).2]
          exact p1
set_option maxHeartbeats 4000000 in
set_option maxRecDepth 100000 in
theorem s_X4_standsOut_b11 {r1 : Int32} {T1 : AT} : ∀ n : Nat, ∀ (T : AT) (l0 : Nat) (l1 : Int32) (l2 : Nat) (l3 : Nat) (l4 : Int32), g_X4_standsOut_b11 n T l0 l1 l2 l3 l4 = some (r1, T1) → SP T T1 := by
  intro n
  induction n with
  | zero =>
    intro T l0 l1 l2 l3 l4 h
    have h : (none : Option (Int32 × AT)) = some (r1, T1) := h
    cases h
  | succ n ih =>
    intro T l0 l1 l2 l3 l4 h
    have p0 := SP.rf T
    unfold g_X4_standsOut_b11 at h
    obtain ⟨g2, h⟩ := oif_some h
    obtain ⟨g3, h⟩ := oif_some h
    obtain ⟨v4, -, h⟩ := elet_some h
    rcases oif_or h with ⟨c5, h⟩ | ⟨c5, h⟩
    · have h := h
      rw [← (osome2 h).2]
      exact p0
    · have h := h
      obtain ⟨g6, h⟩ := oif_some h
      obtain ⟨g7, h⟩ := oif_some h
      obtain ⟨v8, -, h⟩ := elet_some h
      exact SP.tr p0 (s_X4_standsOut_b24 ih _ _ _ _ _ _ _ _ h)
set_option maxHeartbeats 4000000 in
set_option maxRecDepth 100000 in
theorem s_X4_standsOut {T : AT} {o : Nat} {a0 : Int32} {a1 : Nat} {r1 : Int32} {T1 : AT} (h : g_X4_standsOut T o a0 a1 = some (r1, T1)) : SP T T1 := by
  have p0 := SP.rf T
  unfold g_X4_standsOut at h
  obtain ⟨g2, h⟩ := oif_some h
  obtain ⟨r4, T3, eT3, h⟩ := obind2_some h
  have p1 : SP T T3 := SP.tr p0 (s_X1_areaAround eT3)
  obtain ⟨g5, h⟩ := oif_some h
  obtain ⟨g6, h⟩ := oif_some h
  obtain ⟨v7, -, h⟩ := elet_some h
  exact SP.tr p1 (s_X4_standsOut_b11 _ _ _ _ _ _ _ h)
end
