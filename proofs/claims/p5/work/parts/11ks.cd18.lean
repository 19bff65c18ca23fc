def g_X11_cleaned (T : AT) (o : Nat) : Option (Nat × Int32 × AT) := oif (oO T o 11 = true) <| othr (g_X11_needCamera T o) 0 fun r5 T3 => oif (oO T3 o 11 = true) <| obind (T3.2.2.2.2 o 6) fun n8 => oif (oO T3 n8 8 = true) <| elet (T3.2.2.1 n8 2) fun v10 => some (0, v10, T3)
set_option maxHeartbeats 4000000 in
set_option maxRecDepth 100000 in
theorem u_X11_cleaned (l : Launch) (hst : l.stackTraces = false) (D : va_G) (cI cJ cZ cMic cSrc cSt cAI cAJ : ClassId) (ad : Nat → Nat) (T : AT) (o : Nat) {r1 : Int32} {T1 : AT} (h : g_X11_cleaned T o = some (0, r1, T1)) : kCi l yX11_cleaned (Cond.code yX11_cleaned cX11_cleaned 1 (some .int) :: wsA) 7 101 cI cJ cZ cMic cSrc cSt cAI cAJ D ad T [.ref (ad o)] (fun r T9 => r = r1 ∧ T9 = T1) := by
  intro sz
  refine Met.ofW (cc := cX11_cleaned) (maxL := 1) (ret := (some .int)) (by decide) rfl ?_
  intro p e s m args below meth c s₁ B hml hv
  obtain ⟨rfl, hsz, hP, hK, hD0, hX, hN⟩ := hv
  have hx := B.exec
  have hb := B.bytes
  have hr := B.returns
  have hts := atoms_spec (ws := (Cond.code yX11_cleaned cX11_cleaned 1 (some .int) :: wsA)) B.pre
  have hown : s.vm.findClass RX11 = some m.cls := findClass_of_methodNamed B.named
  have hlocks := B.notSynchronized
  subst hsz
  have hD := hD0.self (sz := s.heap.size)
  generalize hAe : va_A (cW ad T.1 (cc cI cJ cZ cMic cSrc cSt cAI cAJ ad T)) s.heap.size = A at hD hX ⊢
  have hA : ∀ q : Nat, s.heap.size ≤ q → A q := fun q h => by rw [← hAe]; exact Or.inr h
  have G : gC cI cJ cZ cMic cSrc cSt cAI cAJ D ad A s.heap s.heap [] T := ⟨hP, hD, va_S.rf⟩
  have E : cE p c cX11_cleaned s m ([.ref (ad o)] : List Value).toArray (Cond.code yX11_cleaned cX11_cleaned 1 (some .int) :: wsA) D RX11 (CT cI cJ cZ cMic cSrc cSt cAI cAJ) := ⟨hx, hb, hts, hown, hK⟩
  have hl := lv_entry ([.ref (ad o)]) (n := 1) (Nat.le_of_ble_eq_true rfl)
  rw [lg_entry_eq]
  generalize (lg_sl ([.ref (ad o)]) ++ List.replicate (1 - (lg_sl ([.ref (ad o)])).length) Slot.unset).toArray = ls at hl ⊢
  have hl : lv_has ls 1 [(0, .ref (ad o))] := hl
  unfold g_X11_cleaned at h
  refine lv_aload_n hx hb dX11_cleaned_0 rfl (lv_at hl 0 rfl) ?_
  obtain ⟨g2, h⟩ := oif_some h
  obtain ⟨r5, T3, eT3, h⟩ := othr_n h
  refine q_cvv (As := []) (rest := []) E G hA hX hN hml (u_X11_needCamera l hst D cI cJ cZ cMic cSrc cSt cAI cAJ ad T o eT3) (cwV 0 hts (gaV qA_728 qA_729 qA_730 qA_131 qA_731) rfl rfl rfl (by decide +kernel) ⟨Nat.le_of_ble_eq_true rfl, Nat.le_of_ble_eq_true rfl⟩) (oO_k g2).1 (cc_o11 (oO_k g2).2) rfl rfl hl.1 rfl (lv_room (Nat.le_of_ble_eq_true rfl)) dX11_cleaned_1 ⟨Nat.zero_le _, Nat.zero_le _⟩ (fun T4 H locs hq G => ?_)
  rw [hq] at G
  clear hq eT3
  refine lv_aload_n hx hb dX11_cleaned_4 rfl (lv_at hl 0 rfl) ?_
  obtain ⟨g7, h⟩ := oif_some h
  obtain ⟨n8, en8, h⟩ := obind_some h
  refine c_get E G o 6 (v := .ref (ad n8)) (oO_k g7).1 (cc_o11 (oO_k g7).2) rfl (fun w h => .tail _ (iA_23 h)) (by decide) (.tail _ qA_664) rfl (by rw [en8]; rfl) dX11_cleaned_5 ?_
  clear en8
  obtain ⟨g9, h⟩ := oif_some h
  refine c_get E G n8 2 (oO_k g9).1 (cc_o8 (oO_k g9).2) rfl (fun w h => .tail _ (iA_16 h)) (by decide) (.tail _ qA_940) rfl rfl dX11_cleaned_8 ?_
  refine lv_topi (fun v10 ev10 => ?_)
  have h := elet_at ev10 h
  clear ev10
  exact W.iret (v := v10) hx hb hr (fun t ht hW => ⟨⟨v10, T3, rfl, (osome3 h).2, ⟨by rw [ht]; exact G.1, va_K.moved hW.alike hK, G.2.1⟩⟩, G.2.2.F ht⟩) G.2.2.2.2 dX11_cleaned_11
set_option maxHeartbeats 4000000 in
set_option maxRecDepth 100000 in
theorem s_X11_cleaned {T : AT} {o : Nat} {e1 : Nat} {r1 : Int32} {T1 : AT} (h : g_X11_cleaned T o = some (e1, r1, T1)) : SP T T1 := by
  have p0 := SP.rf T
  unfold g_X11_cleaned at h
  obtain ⟨g2, h⟩ := oif_some h
  rcases othr_s h with ⟨k9, r9, e9, -⟩ | ⟨r4, T3, eT3, h⟩
  · exact SP.tr p0 (s_X11_needCamera e9)
  have p1 : SP T T3 := SP.tr p0 (s_X11_needCamera eT3)
  obtain ⟨g5, h⟩ := oif_some h
  obtain ⟨n6, en6, h⟩ := obind_some h
  obtain ⟨g7, h⟩ := oif_some h
  obtain ⟨v8, -, h⟩ := elet_some h
  rw [← (osome3 h).2.2]
  exact p1
set_option maxHeartbeats 4000000 in
set_option maxRecDepth 100000 in
theorem x_X11_cleaned (l : Launch) (hst : l.stackTraces = false) (D : va_G) (cI cJ cZ cMic cSrc cSt cAI cAJ : ClassId) (ad : Nat → Nat) (T : AT) (o : Nat) {e1 : Nat} {r1 : Int32} {T1 : AT} (h : g_X11_cleaned T o = some (e1 + 1, r1, T1)) : kXi l yX11_cleaned (Cond.code yX11_cleaned cX11_cleaned 1 (some .int) :: wsA) 7 101 cI cJ cZ cMic cSrc cSt cAI cAJ D ad T [.ref (ad o)] e1 T1 := by
  intro sz
  refine vx_ofW (cc := cX11_cleaned) (maxL := 1) (ret := (some .int)) (by decide) rfl ?_
  intro p e s m args below meth c s₁ B hml htab hv
  obtain ⟨rfl, hsz, hP, hK, hD0, hX, hN⟩ := hv
  have hx := B.exec
  have hb := B.bytes
  have hr := B.returns
  have hts := atoms_spec (ws := (Cond.code yX11_cleaned cX11_cleaned 1 (some .int) :: wsA)) B.pre
  have hown : s.vm.findClass RX11 = some m.cls := findClass_of_methodNamed B.named
  have hlocks := B.notSynchronized
  subst hsz
  have hD := hD0.self (sz := s.heap.size)
  generalize hAe : va_A (cW ad T.1 (cc cI cJ cZ cMic cSrc cSt cAI cAJ ad T)) s.heap.size = A at hD hX ⊢
  have hA : ∀ q : Nat, s.heap.size ≤ q → A q := fun q h => by rw [← hAe]; exact Or.inr h
  have G : gC cI cJ cZ cMic cSrc cSt cAI cAJ D ad A s.heap s.heap [] T := ⟨hP, hD, va_S.rf⟩
  have E : cE p c cX11_cleaned s m ([.ref (ad o)] : List Value).toArray (Cond.code yX11_cleaned cX11_cleaned 1 (some .int) :: wsA) D RX11 (CT cI cJ cZ cMic cSrc cSt cAI cAJ) := ⟨hx, hb, hts, hown, hK⟩
  have htab : ∀ x ∈ c.exceptionTable.toList, False := fun x hx => htab x hx
  have hl := lv_entry ([.ref (ad o)]) (n := 1) (Nat.le_of_ble_eq_true rfl)
  rw [lg_entry_eq]
  generalize (lg_sl ([.ref (ad o)]) ++ List.replicate (1 - (lg_sl ([.ref (ad o)])).length) Slot.unset).toArray = ls at hl ⊢
  have hl : lv_has ls 1 [(0, .ref (ad o))] := hl
  unfold g_X11_cleaned at h
  refine lv_aload_n hx hb dX11_cleaned_0 rfl (lv_at hl 0 rfl) ?_
  obtain ⟨g2, h⟩ := oif_some h
  rcases othr_t h with ⟨r0, eT3⟩ | ⟨r5, T3, eT3, h⟩
  · refine q_xvv (As := []) (rest := []) E G hA hX hN hml (x_X11_needCamera l hst D cI cJ cZ cMic cSrc cSt cAI cAJ ad T o eT3) (cwV 0 hts (gaV qA_728 qA_729 qA_730 qA_131 qA_731) rfl rfl rfl (by decide +kernel) ⟨Nat.le_of_ble_eq_true rfl, Nat.le_of_ble_eq_true rfl⟩) (oO_k g2).1 (cc_o11 (oO_k g2).2) rfl rfl hl.1 rfl (lv_room (Nat.le_of_ble_eq_true rfl)) dX11_cleaned_1 ⟨Nat.le_of_ble_eq_true rfl, Nat.le_of_ble_eq_true rfl⟩ (fun E9 ce q9 T9 H locs hp G hce hcv hcl => ?_)
    obtain ⟨hE, hT⟩ := hp
    subst hE
    rw [hT] at G
    exact vx_out (fun x hx => (htab x hx).elim) hlocks hce hcv hcl (fun t ht hvm => ⟨T1, trivial, ⟨⟨rfl, rfl⟩, by rw [ht]; exact G.1, va_K.moved hvm hK, G.2.1⟩, G.2.2.F ht⟩) G.2.2.2.2 (Nat.le_refl _) (Nat.le_refl _)
  refine q_cvv (As := []) (rest := []) E G hA hX hN hml (u_X11_needCamera l hst D cI cJ cZ cMic cSrc cSt cAI cAJ ad T o eT3) (cwV 0 hts (gaV qA_728 qA_729 qA_730 qA_131 qA_731) rfl rfl rfl (by decide +kernel) ⟨Nat.le_of_ble_eq_true rfl, Nat.le_of_ble_eq_true rfl⟩) (oO_k g2).1 (cc_o11 (oO_k g2).2) rfl rfl hl.1 rfl (lv_room (Nat.le_of_ble_eq_true rfl)) dX11_cleaned_1 ⟨Nat.zero_le _, Nat.zero_le _⟩ (fun T4 H locs hq G => ?_)
  rw [hq] at G
  clear hq eT3
  refine lv_aload_n hx hb dX11_cleaned_4 rfl (lv_at hl 0 rfl) ?_
  obtain ⟨g7, h⟩ := oif_some h
  obtain ⟨n8, en8, h⟩ := obind_some h
  refine c_get E G o 6 (v := .ref (ad n8)) (oO_k g7).1 (cc_o11 (oO_k g7).2) rfl (fun w h => .tail _ (iA_23 h)) (by decide) (.tail _ qA_664) rfl (by rw [en8]; rfl) dX11_cleaned_5 ?_
  clear en8
  obtain ⟨g9, h⟩ := oif_some h
  refine c_get E G n8 2 (oO_k g9).1 (cc_o8 (oO_k g9).2) rfl (fun w h => .tail _ (iA_16 h)) (by decide) (.tail _ qA_940) rfl rfl dX11_cleaned_8 ?_
  refine lv_topi (fun v10 ev10 => ?_)
  have h := elet_at ev10 h
  clear ev10
  exact (Nat.succ_ne_zero _ (congrArg Prod.fst (Option.some.inj h)).symm).elim
def g_X11_undo_b31  (T : AT) (l0 : Nat) : Option (Nat × Int32 × AT) := oif (oO T l0 11 = true) <| elet (T.2.2.1 l0 17) fun v3 => elet (v3 + 6) fun v4 => elet (v4 - 1) fun v5 => elet (v5 - v5 / 6 * 6) fun v6 => oif (oO T l0 11 = true) <| elet (uI T l0 17 v6) fun T8 => oif (oO T8 l0 11 = true) <| elet (T8.2.2.1 l0 16) fun v10 => elet (v10 - 1) fun v11 => oif (oO T8 l0 11 = true) <| elet (uI T8 l0 16 v11) fun T13 => oif (oO T13 l0 11 = true) <| obind (T13.2.2.2.2 l0 4) fun n15 => oif (oO T13 n15 4 = true) <| elet (uI T13 n15 0 0) fun T17 => oif (oO T17 l0 11 = true) <| elet (T17.2.2.1 l0 16) fun v19 => some (0, v19, T17)
def g_X11_undo (T : AT) (o : Nat) : Option (Nat × Int32 × AT) := oif (oO T o 11 = true) <| elet (T.2.2.1 o 16) fun v3 => if v3 = 0 then (some (1, 0, T)) else (oif (oO T o 11 = true) <| obind (T.2.2.2.2 o 6) fun n6 => oif (oO T o 11 = true) <| obind (T.2.2.2.2 o 8) fun n8 => oif (oO T o 11 = true) <| elet (T.2.2.1 o 17) fun v10 => oif (aA T n8 105 = true) <| oif (inb v10 (T.2.1 n8).2 = true) <| obind (T.2.2.2.2 n8 v10.toNatClampNeg) fun n13 => oif (oO T n6 8 = true) <| obind (g_X8_copyFrom T n6 n13) fun T15 => g_X11_undo_b31 T15 o)
set_option maxHeartbeats 4000000 in
set_option maxRecDepth 100000 in
theorem s_X11_undo_b31 {e1 : Nat} {r1 : Int32} {T1 : AT} : ∀ (T : AT) (l0 : Nat), g_X11_undo_b31 T l0 = some (e1, r1, T1) → GL T T1 := by
  intro T l0 h
  have p0 := GL.rf T
  unfold g_X11_undo_b31 at h
  obtain ⟨g2, h⟩ := oif_some h
  obtain ⟨v3, -, h⟩ := elet_some h
  obtain ⟨v4, -, h⟩ := elet_some h
  obtain ⟨v5, -, h⟩ := elet_some h
  obtain ⟨v6, -, h⟩ := elet_some h
  obtain ⟨g7, h⟩ := oif_some h
  obtain ⟨T8, eT8, h⟩ := elet_some h
  have p1 : GL T T8 := GL.tr p0 (by rw [eT8]; exact gl_sp sp_uI)
  obtain ⟨g9, h⟩ := oif_some h
  obtain ⟨v10, -, h⟩ := elet_some h
  obtain ⟨v11, -, h⟩ := elet_some h
  obtain ⟨g12, h⟩ := oif_some h
  obtain ⟨T13, eT13, h⟩ := elet_some h
  have p2 : GL T T13 := GL.tr p1 (by rw [eT13]; exact gl_sp sp_uI)
  obtain ⟨g14, h⟩ := oif_some h
  obtain ⟨n15, en15, h⟩ := obind_some h
  obtain ⟨g16, h⟩ := oif_some h
  obtain ⟨T17, eT17, h⟩ := elet_some h
  have p3 : GL T T17 := GL.tr p2 (by rw [eT17]; exact gl_sp sp_uI)
  obtain ⟨g18, h⟩ := oif_some h
  obtain ⟨v19, -, h⟩ := elet_some h
  rw [← (osome3 h).2.2]
  exact p3
set_option maxHeartbeats 4000000 in
set_option maxRecDepth 100000 in
theorem s_X11_undo {T : AT} {o : Nat} {e1 : Nat} {r1 : Int32} {T1 : AT} (h : g_X11_undo T o = some (e1, r1, T1)) : GL T T1 := by
  have p0 := GL.rf T
  unfold g_X11_undo at h
  obtain ⟨g2, h⟩ := oif_some h
  obtain ⟨v3, -, h⟩ := elet_some h
  rcases oif_or h with ⟨c4, h⟩ | ⟨c4, h⟩
  · have h := h
    rw [← (osome3 h).2.2]
    exact p0
  · have h := h
    obtain ⟨g5, h⟩ := oif_some h
    obtain ⟨n6, en6, h⟩ := obind_some h
    obtain ⟨g7, h⟩ := oif_some h
    obtain ⟨n8, en8, h⟩ := obind_some h
    obtain ⟨g9, h⟩ := oif_some h
    obtain ⟨v10, -, h⟩ := elet_some h
    obtain ⟨g11, h⟩ := oif_some h
    obtain ⟨g12, h⟩ := oif_some h
    obtain ⟨n13, en13, h⟩ := obind_some h
    obtain ⟨g14, h⟩ := oif_some h
    obtain ⟨T15, eT15, h⟩ := obind_some h
    have p1 : GL T T15 := GL.tr p0 (s_X8_copyFrom eT15)
    exact GL.tr p1 (s_X11_undo_b31 _ _ h)
set_option maxHeartbeats 4000000 in
set_option maxRecDepth 100000 in
theorem a_X11_undo_b31 {p : Program} {l : Launch} {e : Env} {s : State} {m : MethodId} {args : Array Value} {below : List Frame} {meth : Method} {c : Code} {Q : State → Prop} {D : va_G} {A : Nat → Prop} {cI cJ cZ cMic cSrc cSt cAI cAJ : ClassId} {ad0 : Nat → Nat} {T0 : AT} {r1 : Int32} {T1 : AT} (E : cE p c cX11_undo s m args (Cond.code yX11_undo cX11_undo 1 (some .int) :: wsA) D RX11 (CT cI cJ cZ cMic cSrc cSt cAI cAJ)) (hA : ∀ q : Nat, s.heap.size ≤ q → A q) (hX : xT A s) (hN : nX s) (hml : c.maxLocals = 1) (hst : l.stackTraces = false) (kr69 : ∀ (ad : Nat → Nat) (H : Heap) (locs : List Loc) (ls : Array Slot), (∀ n, n < T0.1 → ad n = ad0 n) → gC cI cJ cZ cMic cSrc cSt cAI cAJ D ad A s.heap H locs T1 → W p l e { frames := 6, cells := T1.1 - T0.1, slots := sg T1 - sg T0, locals := 84 } s m args below meth c H locs (T1.1 - T0.1) (sg T1 - sg T0) Q (F0 m 69 ls [.int r1])) : ∀ (T : AT) (ad : Nat → Nat) (H : Heap) (locs : List Loc) (ls : Array Slot) (l0 : Nat), g_X11_undo_b31 T l0 = some (0, r1, T1) → GL T0 T → RC T → (∀ n, n < T0.1 → ad n = ad0 n) → l0 < T.1 → gC cI cJ cZ cMic cSrc cSt cAI cAJ D ad A s.heap H locs T → lv_has ls 1 [(0, .ref (ad l0))] → W p l e { frames := 6, cells := T1.1 - T0.1, slots := sg T1 - sg T0, locals := 84 } s m args below meth c H locs (T.1 - T0.1) (sg T - sg T0) Q (F0 m 31 ls []) := by
  have hx := E.1
  have hb := E.2.1
  have hts := E.2.2.1
  have hown := E.2.2.2.1
  have hK := E.2.2.2.2
  intro T ad H locs ls l0 h hgl hrc had h_l0 G hl
  have hT1 := s_X11_undo_b31 _ _ h
  have hcs := cs_ok hgl hT1
  have cp0 := cpr0 hrc
  unfold g_X11_undo_b31 at h
  refine lv_aload_n hx hb dX11_undo_31 rfl (lv_at hl 0 rfl) ?_
  refine lv_aload_n hx hb dX11_undo_32 rfl (lv_at hl 0 rfl) ?_
  obtain ⟨g2, h⟩ := oif_some h
  refine c_get E G l0 17 (oO_k g2).1 (cc_o11 (oO_k g2).2) rfl (fun w h => .tail _ (iA_23 h)) (by decide) (.tail _ qA_929) rfl rfl dX11_undo_33 ?_
  refine lv_topi (fun v3 ev3 => ?_)
  have h := elet_at ev3 h
  clear ev3
  refine lv_bipush (v := 6) hx hb dX11_undo_36 (by decide) ?_
  refine lv_iadd hx hb dX11_undo_38 ?_
  refine lv_topi (fun v4 ev4 => ?_)
  have h := elet_at ev4 h
  clear ev4
  refine lv_iconst (v := 1) hx hb dX11_undo_39 (by decide) ?_
  refine lv_isub hx hb dX11_undo_40 ?_
  refine lv_topi (fun v5 ev5 => ?_)
  have h := elet_at ev5 h
  clear ev5
  refine lv_bipush (v := 6) hx hb dX11_undo_41 (by decide) ?_
  refine lv_irem hx hb dX11_undo_43 (by decide) ?_
  refine lv_topi (fun v6 ev6 => ?_)
  have h := elet_at ev6 h
  clear ev6
  obtain ⟨g7, h⟩ := oif_some h
  refine c_put E G l0 17 (v := .int v6) (oO_k g7).1 (cc_o11 (oO_k g7).2) rfl (fun w h => .tail _ (iA_23 h)) tyX11 tyX11_ok nmX11 (by decide) (.tail _ qA_929) ⟨rfl, rfl, rfl⟩ rfl rfl (Nat.le_of_ble_eq_true rfl) dX11_undo_44 (fun H locs G => ?_)
  have G := gC_up_i (f := upd (T.2.2.1 l0) 17 v6) (by rw [(oO_k g7).2]; rfl) G
  obtain ⟨T8, eT8, h⟩ := elet_some h
  have G : gC cI cJ cZ cMic cSrc cSt cAI cAJ D ad A s.heap H locs T8 := by rw [eT8]; exact G
  have cp1 := show CPR T T8 from by rw [eT8]; exact cpr_sp cp0 sp_uI
  clear eT8
  refine lv_aload_n hx hb dX11_undo_47 rfl (lv_at hl 0 rfl) ?_
  refine lv_dup hx hb dX11_undo_48 rfl ?_
  obtain ⟨g9, h⟩ := oif_some h
  refine c_get E G l0 16 (oO_k g9).1 (cc_o11 (oO_k g9).2) rfl (fun w h => .tail _ (iA_23 h)) (by decide) (.tail _ qA_703) rfl rfl dX11_undo_49 ?_
  refine lv_topi (fun v10 ev10 => ?_)
  have h := elet_at ev10 h
  clear ev10
  refine lv_iconst (v := 1) hx hb dX11_undo_52 (by decide) ?_
  refine lv_isub hx hb dX11_undo_53 ?_
  refine lv_topi (fun v11 ev11 => ?_)
  have h := elet_at ev11 h
  clear ev11
  obtain ⟨g12, h⟩ := oif_some h
  refine c_put E G l0 16 (v := .int v11) (oO_k g12).1 (cc_o11 (oO_k g12).2) rfl (fun w h => .tail _ (iA_23 h)) tyX11 tyX11_ok nmX11 (by decide) (.tail _ qA_703) ⟨rfl, rfl, rfl⟩ rfl rfl (Nat.le_of_ble_eq_true rfl) dX11_undo_54 (fun H locs G => ?_)
  have G := gC_up_i (f := upd (T8.2.2.1 l0) 16 v11) (by rw [(oO_k g12).2]; rfl) G
  obtain ⟨T13, eT13, h⟩ := elet_some h
  have G : gC cI cJ cZ cMic cSrc cSt cAI cAJ D ad A s.heap H locs T13 := by rw [eT13]; exact G
  have cp2 := show CPR T T13 from by rw [eT13]; exact cpr_sp cp1 sp_uI
  clear eT13
  refine lv_aload_n hx hb dX11_undo_57 rfl (lv_at hl 0 rfl) ?_
  obtain ⟨g14, h⟩ := oif_some h
  obtain ⟨n15, en15, h⟩ := obind_some h
  have h_n15 : n15 < T.1 := by rw [← cp2.1]; exact cp2.2.2 _ _ _ en15
  refine c_get E G l0 4 (v := .ref (ad n15)) (oO_k g14).1 (cc_o11 (oO_k g14).2) rfl (fun w h => .tail _ (iA_23 h)) (by decide) (.tail _ qA_660) rfl (by rw [en15]; rfl) dX11_undo_58 ?_
  clear en15
  refine lv_iconst (v := 0) hx hb dX11_undo_61 (by decide) ?_
  obtain ⟨g16, h⟩ := oif_some h
  refine c_put E G n15 0 (v := .int 0) (oO_k g16).1 (cc_o4 (oO_k g16).2) rfl (fun w h => .tail _ (iA_21 h)) tyX4 tyX4_ok nmX4 (by decide) (.tail _ qA_704) ⟨rfl, rfl, rfl⟩ rfl rfl (Nat.le_of_ble_eq_true rfl) dX11_undo_62 (fun H locs G => ?_)
  have G := gC_up_i (f := upd (T13.2.2.1 n15) 0 0) (by rw [(oO_k g16).2]; rfl) G
  obtain ⟨T17, eT17, h⟩ := elet_some h
  have G : gC cI cJ cZ cMic cSrc cSt cAI cAJ D ad A s.heap H locs T17 := by rw [eT17]; exact G
  have cp3 := show CPR T T17 from by rw [eT17]; exact cpr_sp cp2 sp_uI
  clear eT17
  refine lv_aload_n hx hb dX11_undo_65 rfl (lv_at hl 0 rfl) ?_
  obtain ⟨g18, h⟩ := oif_some h
  refine c_get E G l0 16 (oO_k g18).1 (cc_o11 (oO_k g18).2) rfl (fun w h => .tail _ (iA_23 h)) (by decide) (.tail _ qA_703) rfl rfl dX11_undo_66 ?_
  refine lv_topi (fun v19 ev19 => ?_)
  have h := elet_at ev19 h
  clear ev19
  rw [(osome3 h).2.2] at G
  refine w_cast (c2 := T1.1 - T0.1) (s2 := sg T1 - sg T0) (by rw [← (osome3 h).2.2, cp3.1] <;> rfl) (by rw [← (osome3 h).2.2, sg_cpr cp3] <;> rfl) ?_
  refine lv_to ((osome3 h).2.1) ?_
  exact kr69 ad _ _ _ had G
set_option maxHeartbeats 4000000 in
set_option maxRecDepth 100000 in
theorem a_X11_undo (l : Launch) (hst : l.stackTraces = false) (D : va_G) (cI cJ cZ cMic cSrc cSt cAI cAJ : ClassId) (ad : Nat → Nat) (T : AT) (o : Nat) {r1 : Int32} {T1 : AT} (h : g_X11_undo T o = some (0, r1, T1)) (hrc : RC T) (h_o : o < T.1) : kAi l yX11_undo (Cond.code yX11_undo cX11_undo 1 (some .int) :: wsA) 6 84 cI cJ cZ cMic cSrc cSt cAI cAJ D ad T [.ref (ad o)] r1 T1 := by
  intro sz
  refine Met.ofW (cc := cX11_undo) (maxL := 1) (ret := (some .int)) (by decide) rfl ?_
  intro p e s m args below meth c s₁ B hml hv
  obtain ⟨rfl, hsz, hP, hK, hD0, hX, hN⟩ := hv
  have hx := B.exec
  have hb := B.bytes
  have hr := B.returns
  have hts := atoms_spec (ws := (Cond.code yX11_undo cX11_undo 1 (some .int) :: wsA)) B.pre
  have hown : s.vm.findClass RX11 = some m.cls := findClass_of_methodNamed B.named
  have hlocks := B.notSynchronized
  subst hsz
  have hD := hD0.self (sz := s.heap.size)
  generalize hAe : va_A (cW ad T.1 (cc cI cJ cZ cMic cSrc cSt cAI cAJ ad T)) s.heap.size = A at hD hX ⊢
  have hA : ∀ q : Nat, s.heap.size ≤ q → A q := fun q h => by rw [← hAe]; exact Or.inr h
  have G : gC cI cJ cZ cMic cSrc cSt cAI cAJ D ad A s.heap s.heap [] T := ⟨hP, hD, va_S.rf⟩
  have E : cE p c cX11_undo s m ([.ref (ad o)] : List Value).toArray (Cond.code yX11_undo cX11_undo 1 (some .int) :: wsA) D RX11 (CT cI cJ cZ cMic cSrc cSt cAI cAJ) := ⟨hx, hb, hts, hown, hK⟩
  have hl := lv_entry ([.ref (ad o)]) (n := 1) (Nat.le_of_ble_eq_true rfl)
  rw [lg_entry_eq]
  generalize (lg_sl ([.ref (ad o)]) ++ List.replicate (1 - (lg_sl ([.ref (ad o)])).length) Slot.unset).toArray = ls at hl ⊢
  have hl : lv_has ls 1 [(0, .ref (ad o))] := hl
  have hgl := GL.rf T
  have had : ∀ n, n < T.1 → ad n = ad n := fun _ _ => rfl
  have hT1 := s_X11_undo h
  have hcs := cs_ok hgl hT1
  refine w_cast (Nat.sub_self T.1).symm (Nat.sub_self (sg T)).symm ?_
  have cp0 := cpr0 hrc
  unfold g_X11_undo at h
  refine lv_aload_n hx hb dX11_undo_0 rfl (lv_at hl 0 rfl) ?_
  obtain ⟨g2, h⟩ := oif_some h
  refine c_get E G o 16 (oO_k g2).1 (cc_o11 (oO_k g2).2) rfl (fun w h => .tail _ (iA_23 h)) (by decide) (.tail _ qA_703) rfl rfl dX11_undo_1 ?_
  refine lv_topi (fun v3 ev3 => ?_)
  have h := elet_at ev3 h
  clear ev3
  refine lv_if_ne (tgt := 15) hx hb dX11_undo_4 (by decide) (fun c4 => ?_) (fun c4 => ?_)
  · have h := oif_neg c4 h
    refine lv_aload_n hx hb dX11_undo_15 rfl (lv_at hl 0 rfl) ?_
    obtain ⟨g5, h⟩ := oif_some h
    obtain ⟨n6, en6, h⟩ := obind_some h
    have h_n6 : n6 < T.1 := by rw [← cp0.1]; exact cp0.2.2 _ _ _ en6
    refine c_get E G o 6 (v := .ref (ad n6)) (oO_k g5).1 (cc_o11 (oO_k g5).2) rfl (fun w h => .tail _ (iA_23 h)) (by decide) (.tail _ qA_664) rfl (by rw [en6]; rfl) dX11_undo_16 ?_
    clear en6
    refine lv_aload_n hx hb dX11_undo_19 rfl (lv_at hl 0 rfl) ?_
    obtain ⟨g7, h⟩ := oif_some h
    obtain ⟨n8, en8, h⟩ := obind_some h
    have h_n8 : n8 < T.1 := by rw [← cp0.1]; exact cp0.2.2 _ _ _ en8
    refine c_get E G o 8 (v := .ref (ad n8)) (oO_k g7).1 (cc_o11 (oO_k g7).2) rfl (fun w h => .tail _ (iA_23 h)) (by decide) (.tail _ qA_666) rfl (by rw [en8]; rfl) dX11_undo_20 ?_
    clear en8
    refine lv_aload_n hx hb dX11_undo_23 rfl (lv_at hl 0 rfl) ?_
    obtain ⟨g9, h⟩ := oif_some h
    refine c_get E G o 17 (oO_k g9).1 (cc_o11 (oO_k g9).2) rfl (fun w h => .tail _ (iA_23 h)) (by decide) (.tail _ qA_929) rfl rfl dX11_undo_24 ?_
    refine lv_topi (fun v10 ev10 => ?_)
    have h := elet_at ev10 h
    clear ev10
    obtain ⟨g11, h⟩ := oif_some h
    obtain ⟨g12, h⟩ := oif_some h
    obtain ⟨n13, en13, h⟩ := obind_some h
    have h_n13 : n13 < T.1 := by rw [← cp0.1]; exact cp0.2.2 _ _ _ en13
    refine c_aldq E G n8 5 (k := v10.toNatClampNeg) (v := .ref (ad n13)) (aA_k g11).1 (cc_a105 (aA_k g11).2.1) rfl (inb_k g12).1 (inb_k g12).2 (aA_k g11).2.2 (by show va_rf ((T.2.2.2.2 n8 v10.toNatClampNeg).map ad) = _; rw [en13]; rfl) dX11_undo_27 ?_
    clear en13
    obtain ⟨g14, h⟩ := oif_some h
    obtain ⟨T15, eT15, h⟩ := obind_some h
    have hg2 := s_X8_copyFrom eT15
    have hrc2 := hg2.2.2 cp0.2.2
    have hT2 := s_X11_undo_b31 _ _ h
    refine q_avv (As := [.ref (ad n13)]) (rest := []) E G hA hX hN hml (a_X8_copyFrom l hst D cI cJ cZ cMic cSrc cSt cAI cAJ ad T n6 n13 eT15 cp0.2.2 (by rw [cp0.1]; exact h_n6) (by rw [cp0.1]; exact h_n13)) (cwV 1 hts (gaV qA_911 qA_912 qA_913 qA_47 qA_603) rfl rfl rfl (by decide +kernel) ⟨Nat.le_of_ble_eq_true rfl, Nat.le_of_ble_eq_true rfl⟩) (oO_k g14).1 (cc_o8 (oO_k g14).2) rfl rfl hl.1 rfl (lv_room (Nat.le_of_ble_eq_true rfl)) dX11_undo_28 (cs_av hgl cp0 hg2 hT2) (fun ad2 H locs hga G => ?_)
    refine w_cast (c2 := T15.1 - T.1) (s2 := sg T15 - sg T) (cs_f1 hgl cp0 hg2) (cs_f2 hgl cp0 hg2) ?_
    have hl := lv_sub hl [0] rfl
    rw [show ad o = ad2 o from (hga o (by rw [cp0.1]; exact h_o)).symm] at hl
    exact a_X11_undo_b31 E hA hX hN hml hst (fun ad H locs ls had G => W.iret (v := r1) hx hb hr (fun t ht hW => ⟨⟨r1, (T1, ad), rfl, ⟨rfl, rfl, had⟩, ⟨by rw [ht]; exact G.1, va_K.moved hW.alike hK, G.2.1⟩⟩, G.2.2.F ht⟩) G.2.2.2.2 dX11_undo_69) _ _ _ _ _ _ h (GL.tr (gl_cpr hgl cp0) hg2) hrc2 (fun n hn => (hga n (by rw [cp0.1]; exact Nat.lt_of_lt_of_le hn hgl.1)).trans (had n hn)) (Nat.lt_of_lt_of_le (by rw [cp0.1]; exact h_o) hg2.1) G hl
  · have h := oif_pos c4 h
    exact absurd (osome3 h).1 (by decide)
set_option maxHeartbeats 4000000 in
set_option maxRecDepth 100000 in
theorem b_X11_undo_b31 {p : Program} {l : Launch} {e : Env} {s : State} {m : MethodId} {args : Array Value} {below : List Frame} {meth : Method} {c : Code} {Qc : Array Value → State → Outcome → State → Prop} {XC : String → State → State → Prop} {D : va_G} {A : Nat → Prop} {cI cJ cZ cMic cSrc cSt cAI cAJ : ClassId} {ad0 : Nat → Nat} {T0 : AT} {e1 : Nat} {r1 : Int32} {T1 : AT} (E : cE p c cX11_undo s m args (Cond.code yX11_undo cX11_undo 1 (some .int) :: wsA) D RX11 (CT cI cJ cZ cMic cSrc cSt cAI cAJ)) (hA : ∀ q : Nat, s.heap.size ≤ q → A q) (hX : xT A s) (hN : nX s) (hml : c.maxLocals = 1) (hst : l.stackTraces = false) (htab : ∀ x ∈ c.exceptionTable.toList, False) (hlocks : meth.locks = false) (kx : ∀ (ad : Nat → Nat) (H : Heap) (locs : List Loc) (t : State), (∀ n, n < T0.1 → ad n = ad0 n) → gC cI cJ cZ cMic cSrc cSt cAI cAJ D ad A s.heap H locs T1 → s.vm.Alike t.vm → H.size ≤ t.heap.size → (∀ q, q < H.size → t.heap[q]? = H[q]?) → XC (exn e1) s t) : ∀ (T : AT) (ad : Nat → Nat) (H : Heap) (locs : List Loc) (ls : Array Slot) (l0 : Nat), g_X11_undo_b31 T l0 = some (e1 + 1, r1, T1) → GL T0 T → RC T → (∀ n, n < T0.1 → ad n = ad0 n) → l0 < T.1 → gC cI cJ cZ cMic cSrc cSt cAI cAJ D ad A s.heap H locs T → lv_has ls 1 [(0, .ref (ad l0))] → W p l e { frames := 6, cells := T1.1 - T0.1 + 1, slots := sg T1 - sg T0 + 6, locals := 84 } s m args below meth c H locs (T.1 - T0.1) (sg T - sg T0) (vx_MQ below Qc XC args s (T1.1 - T0.1 + 1) (sg T1 - sg T0 + 6) A) (F0 m 31 ls []) := by
  have hx := E.1
  have hb := E.2.1
  have hts := E.2.2.1
  have hown := E.2.2.2.1
  have hK := E.2.2.2.2
  intro T ad H locs ls l0 h hgl hrc had h_l0 G hl
  have hT1 := s_X11_undo_b31 _ _ h
  have hcs := cs_okx hgl hT1
  have hcx := cs_okx1 hgl hT1
  have cp0 := cpr0 hrc
  unfold g_X11_undo_b31 at h
  refine lv_aload_n hx hb dX11_undo_31 rfl (lv_at hl 0 rfl) ?_
  refine lv_aload_n hx hb dX11_undo_32 rfl (lv_at hl 0 rfl) ?_
  obtain ⟨g2, h⟩ := oif_some h
  refine c_get E G l0 17 (oO_k g2).1 (cc_o11 (oO_k g2).2) rfl (fun w h => .tail _ (iA_23 h)) (by decide) (.tail _ qA_929) rfl rfl dX11_undo_33 ?_
  refine lv_topi (fun v3 ev3 => ?_)
  have h := elet_at ev3 h
  clear ev3
  refine lv_bipush (v := 6) hx hb dX11_undo_36 (by decide) ?_
  refine lv_iadd hx hb dX11_undo_38 ?_
  refine lv_topi (fun v4 ev4 => ?_)
  have h := elet_at ev4 h
  clear ev4
  refine lv_iconst (v := 1) hx hb dX11_undo_39 (by decide) ?_
  refine lv_isub hx hb dX11_undo_40 ?_
  refine lv_topi (fun v5 ev5 => ?_)
  have h := elet_at ev5 h
  clear ev5
  refine lv_bipush (v := 6) hx hb dX11_undo_41 (by decide) ?_
  refine lv_irem hx hb dX11_undo_43 (by decide) ?_
  refine lv_topi (fun v6 ev6 => ?_)
  have h := elet_at ev6 h
  clear ev6
  obtain ⟨g7, h⟩ := oif_some h
  refine c_put E G l0 17 (v := .int v6) (oO_k g7).1 (cc_o11 (oO_k g7).2) rfl (fun w h => .tail _ (iA_23 h)) tyX11 tyX11_ok nmX11 (by decide) (.tail _ qA_929) ⟨rfl, rfl, rfl⟩ rfl rfl (Nat.le_of_ble_eq_true rfl) dX11_undo_44 (fun H locs G => ?_)
  have G := gC_up_i (f := upd (T.2.2.1 l0) 17 v6) (by rw [(oO_k g7).2]; rfl) G
  obtain ⟨T8, eT8, h⟩ := elet_some h
  have G : gC cI cJ cZ cMic cSrc cSt cAI cAJ D ad A s.heap H locs T8 := by rw [eT8]; exact G
  have cp1 := show CPR T T8 from by rw [eT8]; exact cpr_sp cp0 sp_uI
  clear eT8
  refine lv_aload_n hx hb dX11_undo_47 rfl (lv_at hl 0 rfl) ?_
  refine lv_dup hx hb dX11_undo_48 rfl ?_
  obtain ⟨g9, h⟩ := oif_some h
  refine c_get E G l0 16 (oO_k g9).1 (cc_o11 (oO_k g9).2) rfl (fun w h => .tail _ (iA_23 h)) (by decide) (.tail _ qA_703) rfl rfl dX11_undo_49 ?_
  refine lv_topi (fun v10 ev10 => ?_)
  have h := elet_at ev10 h
  clear ev10
  refine lv_iconst (v := 1) hx hb dX11_undo_52 (by decide) ?_
  refine lv_isub hx hb dX11_undo_53 ?_
  refine lv_topi (fun v11 ev11 => ?_)
  have h := elet_at ev11 h
  clear ev11
  obtain ⟨g12, h⟩ := oif_some h
  refine c_put E G l0 16 (v := .int v11) (oO_k g12).1 (cc_o11 (oO_k g12).2) rfl (fun w h => .tail _ (iA_23 h)) tyX11 tyX11_ok nmX11 (by decide) (.tail _ qA_703) ⟨rfl, rfl, rfl⟩ rfl rfl (Nat.le_of_ble_eq_true rfl) dX11_undo_54 (fun H locs G => ?_)
  have G := gC_up_i (f := upd (T8.2.2.1 l0) 16 v11) (by rw [(oO_k g12).2]; rfl) G
  obtain ⟨T13, eT13, h⟩ := elet_some h
  have G : gC cI cJ cZ cMic cSrc cSt cAI cAJ D ad A s.heap H locs T13 := by rw [eT13]; exact G
  have cp2 := show CPR T T13 from by rw [eT13]; exact cpr_sp cp1 sp_uI
  clear eT13
  refine lv_aload_n hx hb dX11_undo_57 rfl (lv_at hl 0 rfl) ?_
  obtain ⟨g14, h⟩ := oif_some h
  obtain ⟨n15, en15, h⟩ := obind_some h
  have h_n15 : n15 < T.1 := by rw [← cp2.1]; exact cp2.2.2 _ _ _ en15
  refine c_get E G l0 4 (v := .ref (ad n15)) (oO_k g14).1 (cc_o11 (oO_k g14).2) rfl (fun w h => .tail _ (iA_23 h)) (by decide) (.tail _ qA_660) rfl (by rw [en15]; rfl) dX11_undo_58 ?_
  clear en15
  refine lv_iconst (v := 0) hx hb dX11_undo_61 (by decide) ?_
  obtain ⟨g16, h⟩ := oif_some h
  refine c_put E G n15 0 (v := .int 0) (oO_k g16).1 (cc_o4 (oO_k g16).2) rfl (fun w h => .tail _ (iA_21 h)) tyX4 tyX4_ok nmX4 (by decide) (.tail _ qA_704) ⟨rfl, rfl, rfl⟩ rfl rfl (Nat.le_of_ble_eq_true rfl) dX11_undo_62 (fun H locs G => ?_)
  have G := gC_up_i (f := upd (T13.2.2.1 n15) 0 0) (by rw [(oO_k g16).2]; rfl) G
  obtain ⟨T17, eT17, h⟩ := elet_some h
  have G : gC cI cJ cZ cMic cSrc cSt cAI cAJ D ad A s.heap H locs T17 := by rw [eT17]; exact G
  have cp3 := show CPR T T17 from by rw [eT17]; exact cpr_sp cp2 sp_uI
  clear eT17
  refine lv_aload_n hx hb dX11_undo_65 rfl (lv_at hl 0 rfl) ?_
  obtain ⟨g18, h⟩ := oif_some h
  refine c_get E G l0 16 (oO_k g18).1 (cc_o11 (oO_k g18).2) rfl (fun w h => .tail _ (iA_23 h)) (by decide) (.tail _ qA_703) rfl rfl dX11_undo_66 ?_
  refine lv_topi (fun v19 ev19 => ?_)
  have h := elet_at ev19 h
  clear ev19
  exact (Nat.succ_ne_zero _ (congrArg Prod.fst (Option.some.inj h)).symm).elim
set_option maxHeartbeats 4000000 in
set_option maxRecDepth 100000 in
theorem b_X11_undo (l : Launch) (hst : l.stackTraces = false) (D : va_G) (cI cJ cZ cMic cSrc cSt cAI cAJ : ClassId) (ad : Nat → Nat) (T : AT) (o : Nat) {e1 : Nat} {r1 : Int32} {T1 : AT} (h : g_X11_undo T o = some (e1 + 1, r1, T1)) (hrc : RC T) (h_o : o < T.1) : kAXi l yX11_undo (Cond.code yX11_undo cX11_undo 1 (some .int) :: wsA) 6 84 cI cJ cZ cMic cSrc cSt cAI cAJ D ad T [.ref (ad o)] e1 T1 := by
  intro sz
  refine vx_ofW (cc := cX11_undo) (maxL := 1) (ret := (some .int)) (by decide) rfl ?_
  intro p e s m args below meth c s₁ B hml htab hv
  obtain ⟨rfl, hsz, hP, hK, hD0, hX, hN⟩ := hv
  have hx := B.exec
  have hb := B.bytes
  have hr := B.returns
  have hts := atoms_spec (ws := (Cond.code yX11_undo cX11_undo 1 (some .int) :: wsA)) B.pre
  have hown : s.vm.findClass RX11 = some m.cls := findClass_of_methodNamed B.named
  have hlocks := B.notSynchronized
  subst hsz
  have hD := hD0.self (sz := s.heap.size)
  generalize hAe : va_A (cW ad T.1 (cc cI cJ cZ cMic cSrc cSt cAI cAJ ad T)) s.heap.size = A at hD hX ⊢
  have hA : ∀ q : Nat, s.heap.size ≤ q → A q := fun q h => by rw [← hAe]; exact Or.inr h
  have G : gC cI cJ cZ cMic cSrc cSt cAI cAJ D ad A s.heap s.heap [] T := ⟨hP, hD, va_S.rf⟩
  have E : cE p c cX11_undo s m ([.ref (ad o)] : List Value).toArray (Cond.code yX11_undo cX11_undo 1 (some .int) :: wsA) D RX11 (CT cI cJ cZ cMic cSrc cSt cAI cAJ) := ⟨hx, hb, hts, hown, hK⟩
  have htab : ∀ x ∈ c.exceptionTable.toList, False := fun x hx => htab x hx
  have hl := lv_entry ([.ref (ad o)]) (n := 1) (Nat.le_of_ble_eq_true rfl)
  rw [lg_entry_eq]
  generalize (lg_sl ([.ref (ad o)]) ++ List.replicate (1 - (lg_sl ([.ref (ad o)])).length) Slot.unset).toArray = ls at hl ⊢
  have hl : lv_has ls 1 [(0, .ref (ad o))] := hl
  have hgl := GL.rf T
  have had : ∀ n, n < T.1 → ad n = ad n := fun _ _ => rfl
  have hT1 := s_X11_undo h
  have hcs := cs_okx hgl hT1
  have hcx := cs_okx1 hgl hT1
  refine w_cast (Nat.sub_self T.1).symm (Nat.sub_self (sg T)).symm ?_
  have cp0 := cpr0 hrc
  unfold g_X11_undo at h
  refine lv_aload_n hx hb dX11_undo_0 rfl (lv_at hl 0 rfl) ?_
  obtain ⟨g2, h⟩ := oif_some h
  refine c_get E G o 16 (oO_k g2).1 (cc_o11 (oO_k g2).2) rfl (fun w h => .tail _ (iA_23 h)) (by decide) (.tail _ qA_703) rfl rfl dX11_undo_1 ?_
  refine lv_topi (fun v3 ev3 => ?_)
  have h := elet_at ev3 h
  clear ev3
  refine lv_if_ne (tgt := 15) hx hb dX11_undo_4 (by decide) (fun c4 => ?_) (fun c4 => ?_)
  · have h := oif_neg c4 h
    refine lv_aload_n hx hb dX11_undo_15 rfl (lv_at hl 0 rfl) ?_
    obtain ⟨g5, h⟩ := oif_some h
    obtain ⟨n6, en6, h⟩ := obind_some h
    have h_n6 : n6 < T.1 := by rw [← cp0.1]; exact cp0.2.2 _ _ _ en6
    refine c_get E G o 6 (v := .ref (ad n6)) (oO_k g5).1 (cc_o11 (oO_k g5).2) rfl (fun w h => .tail _ (iA_23 h)) (by decide) (.tail _ qA_664) rfl (by rw [en6]; rfl) dX11_undo_16 ?_
    clear en6
    refine lv_aload_n hx hb dX11_undo_19 rfl (lv_at hl 0 rfl) ?_
    obtain ⟨g7, h⟩ := oif_some h
    obtain ⟨n8, en8, h⟩ := obind_some h
    have h_n8 : n8 < T.1 := by rw [← cp0.1]; exact cp0.2.2 _ _ _ en8
    refine c_get E G o 8 (v := .ref (ad n8)) (oO_k g7).1 (cc_o11 (oO_k g7).2) rfl (fun w h => .tail _ (iA_23 h)) (by decide) (.tail _ qA_666) rfl (by rw [en8]; rfl) dX11_undo_20 ?_
    clear en8
    refine lv_aload_n hx hb dX11_undo_23 rfl (lv_at hl 0 rfl) ?_
    obtain ⟨g9, h⟩ := oif_some h
    refine c_get E G o 17 (oO_k g9).1 (cc_o11 (oO_k g9).2) rfl (fun w h => .tail _ (iA_23 h)) (by decide) (.tail _ qA_929) rfl rfl dX11_undo_24 ?_
    refine lv_topi (fun v10 ev10 => ?_)
    have h := elet_at ev10 h
    clear ev10
    obtain ⟨g11, h⟩ := oif_some h
    obtain ⟨g12, h⟩ := oif_some h
    obtain ⟨n13, en13, h⟩ := obind_some h
    have h_n13 : n13 < T.1 := by rw [← cp0.1]; exact cp0.2.2 _ _ _ en13
    refine c_aldq E G n8 5 (k := v10.toNatClampNeg) (v := .ref (ad n13)) (aA_k g11).1 (cc_a105 (aA_k g11).2.1) rfl (inb_k g12).1 (inb_k g12).2 (aA_k g11).2.2 (by show va_rf ((T.2.2.2.2 n8 v10.toNatClampNeg).map ad) = _; rw [en13]; rfl) dX11_undo_27 ?_
    clear en13
    obtain ⟨g14, h⟩ := oif_some h
    obtain ⟨T15, eT15, h⟩ := obind_some h
    have hg2 := s_X8_copyFrom eT15
    have hrc2 := hg2.2.2 cp0.2.2
    have hT2 := s_X11_undo_b31 _ _ h
    refine q_avv (As := [.ref (ad n13)]) (rest := []) E G hA hX hN hml (a_X8_copyFrom l hst D cI cJ cZ cMic cSrc cSt cAI cAJ ad T n6 n13 eT15 cp0.2.2 (by rw [cp0.1]; exact h_n6) (by rw [cp0.1]; exact h_n13)) (cwV 1 hts (gaV qA_911 qA_912 qA_913 qA_47 qA_603) rfl rfl rfl (by decide +kernel) ⟨Nat.le_of_ble_eq_true rfl, Nat.le_of_ble_eq_true rfl⟩) (oO_k g14).1 (cc_o8 (oO_k g14).2) rfl rfl hl.1 rfl (lv_room (Nat.le_of_ble_eq_true rfl)) dX11_undo_28 (cs_avx hgl cp0 hg2 hT2) (fun ad2 H locs hga G => ?_)
    refine w_cast (c2 := T15.1 - T.1) (s2 := sg T15 - sg T) (cs_f1 hgl cp0 hg2) (cs_f2 hgl cp0 hg2) ?_
    have hl := lv_sub hl [0] rfl
    rw [show ad o = ad2 o from (hga o (by rw [cp0.1]; exact h_o)).symm] at hl
    exact b_X11_undo_b31 E hA hX hN hml hst htab hlocks (fun ad H locs t had G hvm h1 h2 => ⟨(T1, ad), trivial, ⟨⟨rfl, rfl, had⟩, (c_thrown G hK hvm h1 h2).1⟩, (c_thrown G hK hvm h1 h2).2⟩) _ _ _ _ _ _ h (GL.tr (gl_cpr hgl cp0) hg2) hrc2 (fun n hn => (hga n (by rw [cp0.1]; exact Nat.lt_of_lt_of_le hn hgl.1)).trans (had n hn)) (Nat.lt_of_lt_of_le (by rw [cp0.1]; exact h_o) hg2.1) G hl
  · have h := oif_pos c4 h
    have hz : exn e1 = xISE := by rw [show e1 = 0 by have := (osome3 h).1; omega]; rfl
    rw [(osome3 h).2.2] at G
    refine w_cast (c2 := T1.1 - T.1) (s2 := sg T1 - sg T) (by rw [← (osome3 h).2.2, cp0.1] <;> rfl) (by rw [← (osome3 h).2.2, sg_cpr cp0] <;> rfl) ?_
    refine vx_throw0 (own := RX11) (cls := xISE) (names := ["java/lang/RuntimeException", "java/lang/Exception"]) (ik := 397) (ic := 399) (A := A) hx hb hst hown (by decide +kernel) (by decide +kernel) (hts _ (.tail _ qA_732)) (hts _ (.tail _ qA_733)) (vx_hat (B := xB) (fun w h => hts w (.tail _ (iA_26 h))) (by decide +kernel) hX.use) (by decide +kernel) hX.1 hX.2.1 G.2.2 (hl.1.trans hml.symm) dX11_undo_7 dX11_undo_10 dX11_undo_11 dX11_undo_14 (fun x hx => (htab x hx).elim) (Nat.le_of_ble_eq_true rfl) (Nat.le_of_ble_eq_true rfl) (Nat.le_refl _) (Nat.le_refl _) hlocks (fun t hvm h1 h2 => ?_) G.2.2.2.2 (Nat.le_refl _) (Nat.le_refl _)
    exact ⟨(T1, ad), trivial, ⟨⟨hz.symm, rfl, had⟩, (c_thrown G hK hvm h1 h2).1⟩, (c_thrown G hK hvm h1 h2).2⟩
def g_X11_undoable (T : AT) (o : Nat) : Option (Int32 × AT) := oif (oO T o 11 = true) <| elet (T.2.2.1 o 16) fun v3 => some (v3, T)
set_option maxHeartbeats 4000000 in
set_option maxRecDepth 100000 in
theorem u_X11_undoable (l : Launch) (hst : l.stackTraces = false) (D : va_G) (cI cJ cZ cMic cSrc cSt cAI cAJ : ClassId) (ad : Nat → Nat) (T : AT) (o : Nat) {r1 : Int32} {T1 : AT} (h : g_X11_undoable T o = some (r1, T1)) : kCi l yX11_undoable (Cond.code yX11_undoable cX11_undoable 1 (some .int) :: wsA) 1 0 cI cJ cZ cMic cSrc cSt cAI cAJ D ad T [.ref (ad o)] (fun r T9 => r = r1 ∧ T9 = T1) := by
  intro sz
  refine Met.ofW (cc := cX11_undoable) (maxL := 1) (ret := (some .int)) (by decide) rfl ?_
  intro p e s m args below meth c s₁ B hml hv
  obtain ⟨rfl, hsz, hP, hK, hD0, hX, hN⟩ := hv
  have hx := B.exec
  have hb := B.bytes
  have hr := B.returns
  have hts := atoms_spec (ws := (Cond.code yX11_undoable cX11_undoable 1 (some .int) :: wsA)) B.pre
  have hown : s.vm.findClass RX11 = some m.cls := findClass_of_methodNamed B.named
  have hlocks := B.notSynchronized
  subst hsz
  have hD := hD0.self (sz := s.heap.size)
  generalize hAe : va_A (cW ad T.1 (cc cI cJ cZ cMic cSrc cSt cAI cAJ ad T)) s.heap.size = A at hD hX ⊢
  have hA : ∀ q : Nat, s.heap.size ≤ q → A q := fun q h => by rw [← hAe]; exact Or.inr h
  have G : gC cI cJ cZ cMic cSrc cSt cAI cAJ D ad A s.heap s.heap [] T := ⟨hP, hD, va_S.rf⟩
  have E : cE p c cX11_undoable s m ([.ref (ad o)] : List Value).toArray (Cond.code yX11_undoable cX11_undoable 1 (some .int) :: wsA) D RX11 (CT cI cJ cZ cMic cSrc cSt cAI cAJ) := ⟨hx, hb, hts, hown, hK⟩
  have hl := lv_entry ([.ref (ad o)]) (n := 1) (Nat.le_of_ble_eq_true rfl)
  rw [lg_entry_eq]
  generalize (lg_sl ([.ref (ad o)]) ++ List.replicate (1 - (lg_sl ([.ref (ad o)])).length) Slot.unset).toArray = ls at hl ⊢
  have hl : lv_has ls 1 [(0, .ref (ad o))] := hl
  unfold g_X11_undoable at h
  refine lv_aload_n hx hb dX11_undoable_0 rfl (lv_at hl 0 rfl) ?_
  obtain ⟨g2, h⟩ := oif_some h
  refine c_get E G o 16 (oO_k g2).1 (cc_o11 (oO_k g2).2) rfl (fun w h => .tail _ (iA_23 h)) (by decide) (.tail _ qA_703) rfl rfl dX11_undoable_1 ?_
  refine lv_topi (fun v3 ev3 => ?_)
  have h := elet_at ev3 h
  clear ev3
  exact W.iret (v := v3) hx hb hr (fun t ht hW => ⟨⟨v3, T, rfl, osome2 h, ⟨by rw [ht]; exact G.1, va_K.moved hW.alike hK, G.2.1⟩⟩, G.2.2.F ht⟩) G.2.2.2.2 dX11_undoable_4
set_option maxHeartbeats 4000000 in
set_option maxRecDepth 100000 in
theorem s_X11_undoable {T : AT} {o : Nat} {r1 : Int32} {T1 : AT} (h : g_X11_undoable T o = some (r1, T1)) : SP T T1 := by
  have p0 := SP.rf T
  unfold g_X11_undoable at h
  obtain ⟨g2, h⟩ := oif_some h
  obtain ⟨v3, -, h⟩ := elet_some h
  rw [← (osome2 h).2]
  exact p0
def g_X11_save_b33  (T : AT) (s0 : Nat) : Option (Nat × Int32 × AT) := oif (oO T s0 4 = true) <| elet (T.2.2.1 s0 2) fun v3 => some (0, v3, T)
def g_X11_save_b22  (T : AT) (l0 : Nat) (l1 : Int32) : Option (Nat × Int32 × AT) := oif (oO T l0 11 = true) <| obind (T.2.2.2.2 l0 10) fun n3 => oif (aA T n3 102 = true) <| oif (inb l1 (T.2.1 n3).2 = true) <| elet (uI T n3 l1.toNatClampNeg 1) fun T6 => oif (oO T6 l0 11 = true) <| obind2 (g_X11_powersNow T6 l0) fun r9 T8 => oif (Nat.blt r9 T8.1 = true) <| g_X11_save_b33 T8 r9
def g_X11_save (T : AT) (o : Nat) (a0 : Int32) : Option (Nat × Int32 × AT) := oif (oO T o 11 = true) <| othr (g_X11_needCamera T o) 0 fun r5 T3 => othr (g_X11_needIndex T3 a0 (2 : Int32)) 0 fun r9 T7 => oif (oO T7 o 11 = true) <| obind (T7.2.2.2.2 o 9) fun n12 => oif (aA T7 n12 105 = true) <| oif (inb a0 (T7.2.1 n12).2 = true) <| obind (T7.2.2.2.2 n12 a0.toNatClampNeg) fun n15 => oif (oO T7 o 11 = true) <| obind (T7.2.2.2.2 o 6) fun n17 => oif (oO T7 n15 8 = true) <| obind (g_X8_copyFrom T7 n15 n17) fun T19 => g_X11_save_b22 T19 o a0
set_option maxHeartbeats 4000000 in
set_option maxRecDepth 100000 in
theorem s_X11_save_b33 {e1 : Nat} {r1 : Int32} {T1 : AT} : ∀ (T : AT) (s0 : Nat), g_X11_save_b33 T s0 = some (e1, r1, T1) → GL T T1 := by
  intro T s0 h
  have p0 := GL.rf T
  unfold g_X11_save_b33 at h
  obtain ⟨g2, h⟩ := oif_some h
  obtain ⟨v3, -, h⟩ := elet_some h
  rw [← (osome3 h).2.2]
  exact p0
set_option maxHeartbeats 4000000 in
set_option maxRecDepth 100000 in
theorem s_X11_save_b22 {e1 : Nat} {r1 : Int32} {T1 : AT} : ∀ (T : AT) (l0 : Nat) (l1 : Int32), g_X11_save_b22 T l0 l1 = some (e1, r1, T1) → GL T T1 := by
  intro T l0 l1 h
  have p0 := GL.rf T
  unfold g_X11_save_b22 at h
  obtain ⟨g2, h⟩ := oif_some h
  obtain ⟨n3, en3, h⟩ := obind_some h
  obtain ⟨g4, h⟩ := oif_some h
  obtain ⟨g5, h⟩ := oif_some h
  obtain ⟨T6, eT6, h⟩ := elet_some h
  have p1 : GL T T6 := GL.tr p0 (by rw [eT6]; exact gl_sp sp_uI)
  obtain ⟨g7, h⟩ := oif_some h
  obtain ⟨r9, T8, eT8, h⟩ := obind2_some h
  obtain ⟨g10, h⟩ := oif_some h
  have p2 : GL T T8 := GL.tr p1 (s_X11_powersNow eT8)
  exact GL.tr p2 (s_X11_save_b33 _ _ h)
set_option maxHeartbeats 4000000 in
set_option maxRecDepth 100000 in
theorem s_X11_save {T : AT} {o : Nat} {a0 : Int32} {e1 : Nat} {r1 : Int32} {T1 : AT} (h : g_X11_save T o a0 = some (e1, r1, T1)) : GL T T1 := by
  have p0 := GL.rf T
  unfold g_X11_save at h
  obtain ⟨g2, h⟩ := oif_some h
  rcases othr_s h with ⟨k9, r9, e9, -⟩ | ⟨r4, T3, eT3, h⟩
  · exact GL.tr p0 (gl_sp (s_X11_needCamera e9))
  have p1 : GL T T3 := GL.tr p0 (gl_sp (s_X11_needCamera eT3))
  rcases othr_s h with ⟨k9, r9, e9, -⟩ | ⟨r6, T5, eT5, h⟩
  · exact GL.tr p1 (gl_sp (s_X11_needIndex e9))
  have p2 : GL T T5 := GL.tr p1 (gl_sp (s_X11_needIndex eT5))
  obtain ⟨g7, h⟩ := oif_some h
  obtain ⟨n8, en8, h⟩ := obind_some h
  obtain ⟨g9, h⟩ := oif_some h
  obtain ⟨g10, h⟩ := oif_some h
  obtain ⟨n11, en11, h⟩ := obind_some h
  obtain ⟨g12, h⟩ := oif_some h
  obtain ⟨n13, en13, h⟩ := obind_some h
  obtain ⟨g14, h⟩ := oif_some h
  obtain ⟨T15, eT15, h⟩ := obind_some h
  have p3 : GL T T15 := GL.tr p2 (s_X8_copyFrom eT15)
  exact GL.tr p3 (s_X11_save_b22 _ _ _ h)
set_option maxHeartbeats 4000000 in
set_option maxRecDepth 100000 in
theorem a_X11_save_b33 {p : Program} {l : Launch} {e : Env} {s : State} {m : MethodId} {args : Array Value} {below : List Frame} {meth : Method} {c : Code} {Q : State → Prop} {D : va_G} {A : Nat → Prop} {cI cJ cZ cMic cSrc cSt cAI cAJ : ClassId} {ad0 : Nat → Nat} {T0 : AT} {r1 : Int32} {T1 : AT} (E : cE p c cX11_save s m args (Cond.code yX11_save cX11_save 2 (some .int) :: wsA) D RX11 (CT cI cJ cZ cMic cSrc cSt cAI cAJ)) (hA : ∀ q : Nat, s.heap.size ≤ q → A q) (hX : xT A s) (hN : nX s) (hml : c.maxLocals = 2) (hst : l.stackTraces = false) (kr36 : ∀ (ad : Nat → Nat) (H : Heap) (locs : List Loc) (ls : Array Slot), (∀ n, n < T0.1 → ad n = ad0 n) → gC cI cJ cZ cMic cSrc cSt cAI cAJ D ad A s.heap H locs T1 → W p l e { frames := 7, cells := T1.1 - T0.1, slots := sg T1 - sg T0, locals := 149 } s m args below meth c H locs (T1.1 - T0.1) (sg T1 - sg T0) Q (F0 m 36 ls [.int r1])) : ∀ (T : AT) (ad : Nat → Nat) (H : Heap) (locs : List Loc) (ls : Array Slot) (s0 : Nat), g_X11_save_b33 T s0 = some (0, r1, T1) → GL T0 T → RC T → (∀ n, n < T0.1 → ad n = ad0 n) → s0 < T.1 → gC cI cJ cZ cMic cSrc cSt cAI cAJ D ad A s.heap H locs T → lv_has ls 2 [] → W p l e { frames := 7, cells := T1.1 - T0.1, slots := sg T1 - sg T0, locals := 149 } s m args below meth c H locs (T.1 - T0.1) (sg T - sg T0) Q (F0 m 33 ls [.ref (ad s0)]) := by
  have hx := E.1
  have hb := E.2.1
  have hts := E.2.2.1
  have hown := E.2.2.2.1
  have hK := E.2.2.2.2
  intro T ad H locs ls s0 h hgl hrc had h_s0 G hl
  have hT1 := s_X11_save_b33 _ _ h
  have hcs := cs_ok hgl hT1
  have cp0 := cpr0 hrc
  unfold g_X11_save_b33 at h
  obtain ⟨g2, h⟩ := oif_some h
  refine c_get E G s0 2 (oO_k g2).1 (cc_o4 (oO_k g2).2) rfl (fun w h => .tail _ (iA_21 h)) (by decide) (.tail _ qA_812) rfl rfl dX11_save_33 ?_
  refine lv_topi (fun v3 ev3 => ?_)
  have h := elet_at ev3 h
  clear ev3
  rw [(osome3 h).2.2] at G
  refine w_cast (c2 := T1.1 - T0.1) (s2 := sg T1 - sg T0) (by rw [← (osome3 h).2.2, cp0.1] <;> rfl) (by rw [← (osome3 h).2.2, sg_cpr cp0] <;> rfl) ?_
  refine lv_to ((osome3 h).2.1) ?_
  exact kr36 ad _ _ _ had G
set_option maxHeartbeats 4000000 in
set_option maxRecDepth 100000 in
theorem a_X11_save_b22 {p : Program} {l : Launch} {e : Env} {s : State} {m : MethodId} {args : Array Value} {below : List Frame} {meth : Method} {c : Code} {Q : State → Prop} {D : va_G} {A : Nat → Prop} {cI cJ cZ cMic cSrc cSt cAI cAJ : ClassId} {ad0 : Nat → Nat} {T0 : AT} {r1 : Int32} {T1 : AT} (E : cE p c cX11_save s m args (Cond.code yX11_save cX11_save 2 (some .int) :: wsA) D RX11 (CT cI cJ cZ cMic cSrc cSt cAI cAJ)) (hA : ∀ q : Nat, s.heap.size ≤ q → A q) (hX : xT A s) (hN : nX s) (hml : c.maxLocals = 2) (hst : l.stackTraces = false) (kr36 : ∀ (ad : Nat → Nat) (H : Heap) (locs : List Loc) (ls : Array Slot), (∀ n, n < T0.1 → ad n = ad0 n) → gC cI cJ cZ cMic cSrc cSt cAI cAJ D ad A s.heap H locs T1 → W p l e { frames := 7, cells := T1.1 - T0.1, slots := sg T1 - sg T0, locals := 149 } s m args below meth c H locs (T1.1 - T0.1) (sg T1 - sg T0) Q (F0 m 36 ls [.int r1])) : ∀ (T : AT) (ad : Nat → Nat) (H : Heap) (locs : List Loc) (ls : Array Slot) (l0 : Nat) (l1 : Int32), g_X11_save_b22 T l0 l1 = some (0, r1, T1) → GL T0 T → RC T → (∀ n, n < T0.1 → ad n = ad0 n) → l0 < T.1 → gC cI cJ cZ cMic cSrc cSt cAI cAJ D ad A s.heap H locs T → lv_has ls 2 [(0, .ref (ad l0)), (1, .int l1)] → W p l e { frames := 7, cells := T1.1 - T0.1, slots := sg T1 - sg T0, locals := 149 } s m args below meth c H locs (T.1 - T0.1) (sg T - sg T0) Q (F0 m 22 ls []) := by
  have hx := E.1
  have hb := E.2.1
  have hts := E.2.2.1
  have hown := E.2.2.2.1
  have hK := E.2.2.2.2
  intro T ad H locs ls l0 l1 h hgl hrc had h_l0 G hl
  have hT1 := s_X11_save_b22 _ _ _ h
  have hcs := cs_ok hgl hT1
  have cp0 := cpr0 hrc
  unfold g_X11_save_b22 at h
  refine lv_aload_n hx hb dX11_save_22 rfl (lv_at hl 0 rfl) ?_
  obtain ⟨g2, h⟩ := oif_some h
  obtain ⟨n3, en3, h⟩ := obind_some h
  have h_n3 : n3 < T.1 := by rw [← cp0.1]; exact cp0.2.2 _ _ _ en3
  refine c_get E G l0 10 (v := .ref (ad n3)) (oO_k g2).1 (cc_o11 (oO_k g2).2) rfl (fun w h => .tail _ (iA_23 h)) (by decide) (.tail _ qA_668) rfl (by rw [en3]; rfl) dX11_save_23 ?_
  clear en3
  refine lv_iload_n hx hb dX11_save_26 rfl (lv_at hl 1 rfl) ?_
  refine lv_iconst (v := 1) hx hb dX11_save_27 (by decide) ?_
  obtain ⟨g4, h⟩ := oif_some h
  obtain ⟨g5, h⟩ := oif_some h
  refine c_zast E G n3 2 (k := l1.toNatClampNeg) (v := 1) (aA_k g4).1 (cc_a102 (aA_k g4).2.1) rfl (inb_k g5).1 (inb_k g5).2 (aA_k g4).2.2 rfl dX11_save_28 (fun H locs G => ?_)
  have G := gC_up_i (f := upd (T.2.2.1 n3) l1.toNatClampNeg 1) (ccv_102 (aA_k g4).2.1) G
  obtain ⟨T6, eT6, h⟩ := elet_some h
  have G : gC cI cJ cZ cMic cSrc cSt cAI cAJ D ad A s.heap H locs T6 := by rw [eT6]; exact G
  have cp1 := show CPR T T6 from by rw [eT6]; exact cpr_sp cp0 sp_uI
  clear eT6
  refine lv_aload_n hx hb dX11_save_29 rfl (lv_at hl 0 rfl) ?_
  obtain ⟨g7, h⟩ := oif_some h
  obtain ⟨r9, T8, eT8, h⟩ := obind2_some h
  obtain ⟨g10, h⟩ := oif_some h
  have hg2 := s_X11_powersNow eT8
  have hrc2 := hg2.2.2 cp1.2.2
  have hT2 := s_X11_save_b33 _ _ h
  refine q_avr (As := []) (rest := []) E G hA hX hN hml (a_X11_powersNow l hst D cI cJ cZ cMic cSrc cSt cAI cAJ ad T6 l0 eT8 cp1.2.2 (by rw [cp1.1]; exact h_l0)) (cwV 0 hts (gaV qA_799 qA_800 qA_801 qA_131 qA_802) rfl rfl rfl (by decide +kernel) ⟨Nat.le_of_ble_eq_true rfl, Nat.le_of_ble_eq_true rfl⟩) (oO_k g7).1 (cc_o11 (oO_k g7).2) rfl rfl hl.1 rfl (lv_room (Nat.le_of_ble_eq_true rfl)) dX11_save_30 (cs_av hgl cp1 hg2 hT2) (fun ad2 H locs hga G => ?_)
  refine w_cast (c2 := T8.1 - T0.1) (s2 := sg T8 - sg T0) (cs_f1 hgl cp1 hg2) (cs_f2 hgl cp1 hg2) ?_
  have h_new : r9 < T8.1 := Nat.le_of_ble_eq_true g10
  have hl := lv_sub hl [] rfl
  exact a_X11_save_b33 E hA hX hN hml hst kr36 _ _ _ _ _ _ h (GL.tr (gl_cpr hgl cp1) hg2) hrc2 (fun n hn => (hga n (by rw [cp1.1]; exact Nat.lt_of_lt_of_le hn hgl.1)).trans (had n hn)) h_new G hl
set_option maxHeartbeats 4000000 in
set_option maxRecDepth 100000 in
theorem a_X11_save (l : Launch) (hst : l.stackTraces = false) (D : va_G) (cI cJ cZ cMic cSrc cSt cAI cAJ : ClassId) (ad : Nat → Nat) (T : AT) (o : Nat) (a0 : Int32) {r1 : Int32} {T1 : AT} (h : g_X11_save T o a0 = some (0, r1, T1)) (hrc : RC T) (h_o : o < T.1) : kAi l yX11_save (Cond.code yX11_save cX11_save 2 (some .int) :: wsA) 7 149 cI cJ cZ cMic cSrc cSt cAI cAJ D ad T [.ref (ad o), .int a0] r1 T1 := by
  intro sz
  refine Met.ofW (cc := cX11_save) (maxL := 2) (ret := (some .int)) (by decide) rfl ?_
  intro p e s m args below meth c s₁ B hml hv
  obtain ⟨rfl, hsz, hP, hK, hD0, hX, hN⟩ := hv
  have hx := B.exec
  have hb := B.bytes
  have hr := B.returns
  have hts := atoms_spec (ws := (Cond.code yX11_save cX11_save 2 (some .int) :: wsA)) B.pre
  have hown : s.vm.findClass RX11 = some m.cls := findClass_of_methodNamed B.named
  have hlocks := B.notSynchronized
  subst hsz
  have hD := hD0.self (sz := s.heap.size)
  generalize hAe : va_A (cW ad T.1 (cc cI cJ cZ cMic cSrc cSt cAI cAJ ad T)) s.heap.size = A at hD hX ⊢
  have hA : ∀ q : Nat, s.heap.size ≤ q → A q := fun q h => by rw [← hAe]; exact Or.inr h
  have G : gC cI cJ cZ cMic cSrc cSt cAI cAJ D ad A s.heap s.heap [] T := ⟨hP, hD, va_S.rf⟩
  have E : cE p c cX11_save s m ([.ref (ad o), .int a0] : List Value).toArray (Cond.code yX11_save cX11_save 2 (some .int) :: wsA) D RX11 (CT cI cJ cZ cMic cSrc cSt cAI cAJ) := ⟨hx, hb, hts, hown, hK⟩
  have hl := lv_entry ([.ref (ad o), .int a0]) (n := 2) (Nat.le_of_ble_eq_true rfl)
  rw [lg_entry_eq]
  generalize (lg_sl ([.ref (ad o), .int a0]) ++ List.replicate (2 - (lg_sl ([.ref (ad o), .int a0])).length) Slot.unset).toArray = ls at hl ⊢
  have hl : lv_has ls 2 [(0, .ref (ad o)), (1, .int a0)] := hl
  have hgl := GL.rf T
  have had : ∀ n, n < T.1 → ad n = ad n := fun _ _ => rfl
  have hT1 := s_X11_save h
  have hcs := cs_ok hgl hT1
  refine w_cast (Nat.sub_self T.1).symm (Nat.sub_self (sg T)).symm ?_
  have cp0 := cpr0 hrc
  unfold g_X11_save at h
  refine lv_aload_n hx hb dX11_save_0 rfl (lv_at hl 0 rfl) ?_
  obtain ⟨g2, h⟩ := oif_some h
  obtain ⟨r5, T3, eT3, h⟩ := othr_n h
  refine q_cvv (As := []) (rest := []) E G hA hX hN hml (u_X11_needCamera l hst D cI cJ cZ cMic cSrc cSt cAI cAJ ad T o eT3) (cwV 0 hts (gaV qA_728 qA_729 qA_730 qA_131 qA_731) rfl rfl rfl (by decide +kernel) ⟨Nat.le_of_ble_eq_true rfl, Nat.le_of_ble_eq_true rfl⟩) (oO_k g2).1 (cc_o11 (oO_k g2).2) rfl rfl hl.1 rfl (lv_room (Nat.le_of_ble_eq_true rfl)) dX11_save_1 hcs (fun T4 H locs hq G => ?_)
  rw [hq] at G
  clear hq
  have cp1 := cpr_sp cp0 (s_X11_needCamera eT3)
  refine lv_iload_n hx hb dX11_save_4 rfl (lv_at hl 1 rfl) ?_
  refine lv_iconst (v := 2) hx hb dX11_save_5 (by decide) ?_
  obtain ⟨r9, T7, eT7, h⟩ := othr_n h
  refine q_csv (As := [.int a0, .int 2]) (rest := []) E G hA hX hN hml (u_X11_needIndex l hst D cI cJ cZ cMic cSrc cSt cAI cAJ ad T3 a0 (2 : Int32) eT7) (cwS 2 hts (gaS qA_738 qA_739 qA_131 qA_740) rfl rfl rfl (by decide +kernel) ⟨Nat.le_of_ble_eq_true rfl, Nat.le_of_ble_eq_true rfl⟩) rfl hl.1 rfl (lv_room (Nat.le_of_ble_eq_true rfl)) dX11_save_6 hcs (fun T8 H locs hq G => ?_)
  rw [hq] at G
  clear hq
  have cp2 := cpr_sp cp1 (s_X11_needIndex eT7)
  refine lv_aload_n hx hb dX11_save_9 rfl (lv_at hl 0 rfl) ?_
  obtain ⟨g11, h⟩ := oif_some h
  obtain ⟨n12, en12, h⟩ := obind_some h
  have h_n12 : n12 < T.1 := by rw [← cp2.1]; exact cp2.2.2 _ _ _ en12
  refine c_get E G o 9 (v := .ref (ad n12)) (oO_k g11).1 (cc_o11 (oO_k g11).2) rfl (fun w h => .tail _ (iA_23 h)) (by decide) (.tail _ qA_667) rfl (by rw [en12]; rfl) dX11_save_10 ?_
  clear en12
  refine lv_iload_n hx hb dX11_save_13 rfl (lv_at hl 1 rfl) ?_
  obtain ⟨g13, h⟩ := oif_some h
  obtain ⟨g14, h⟩ := oif_some h
  obtain ⟨n15, en15, h⟩ := obind_some h
  have h_n15 : n15 < T.1 := by rw [← cp2.1]; exact cp2.2.2 _ _ _ en15
  refine c_aldq E G n12 5 (k := a0.toNatClampNeg) (v := .ref (ad n15)) (aA_k g13).1 (cc_a105 (aA_k g13).2.1) rfl (inb_k g14).1 (inb_k g14).2 (aA_k g13).2.2 (by show va_rf ((T7.2.2.2.2 n12 a0.toNatClampNeg).map ad) = _; rw [en15]; rfl) dX11_save_14 ?_
  clear en15
  refine lv_aload_n hx hb dX11_save_15 rfl (lv_at hl 0 rfl) ?_
  obtain ⟨g16, h⟩ := oif_some h
  obtain ⟨n17, en17, h⟩ := obind_some h
  have h_n17 : n17 < T.1 := by rw [← cp2.1]; exact cp2.2.2 _ _ _ en17
  refine c_get E G o 6 (v := .ref (ad n17)) (oO_k g16).1 (cc_o11 (oO_k g16).2) rfl (fun w h => .tail _ (iA_23 h)) (by decide) (.tail _ qA_664) rfl (by rw [en17]; rfl) dX11_save_16 ?_
  clear en17
  obtain ⟨g18, h⟩ := oif_some h
  obtain ⟨T19, eT19, h⟩ := obind_some h
  have hg2 := s_X8_copyFrom eT19
  have hrc2 := hg2.2.2 cp2.2.2
  have hT2 := s_X11_save_b22 _ _ _ h
  refine q_avv (As := [.ref (ad n17)]) (rest := []) E G hA hX hN hml (a_X8_copyFrom l hst D cI cJ cZ cMic cSrc cSt cAI cAJ ad T7 n15 n17 eT19 cp2.2.2 (by rw [cp2.1]; exact h_n15) (by rw [cp2.1]; exact h_n17)) (cwV 1 hts (gaV qA_911 qA_912 qA_913 qA_47 qA_603) rfl rfl rfl (by decide +kernel) ⟨Nat.le_of_ble_eq_true rfl, Nat.le_of_ble_eq_true rfl⟩) (oO_k g18).1 (cc_o8 (oO_k g18).2) rfl rfl hl.1 rfl (lv_room (Nat.le_of_ble_eq_true rfl)) dX11_save_19 (cs_av hgl cp2 hg2 hT2) (fun ad2 H locs hga G => ?_)
  refine w_cast (c2 := T19.1 - T.1) (s2 := sg T19 - sg T) (cs_f1 hgl cp2 hg2) (cs_f2 hgl cp2 hg2) ?_
  have hl := lv_sub hl [0, 1] rfl
  rw [show ad o = ad2 o from (hga o (by rw [cp2.1]; exact h_o)).symm] at hl
  exact a_X11_save_b22 E hA hX hN hml hst (fun ad H locs ls had G => W.iret (v := r1) hx hb hr (fun t ht hW => ⟨⟨r1, (T1, ad), rfl, ⟨rfl, rfl, had⟩, ⟨by rw [ht]; exact G.1, va_K.moved hW.alike hK, G.2.1⟩⟩, G.2.2.F ht⟩) G.2.2.2.2 dX11_save_36) _ _ _ _ _ _ _ h (GL.tr (gl_cpr hgl cp2) hg2) hrc2 (fun n hn => (hga n (by rw [cp2.1]; exact Nat.lt_of_lt_of_le hn hgl.1)).trans (had n hn)) (Nat.lt_of_lt_of_le (by rw [cp2.1]; exact h_o) hg2.1) G hl
set_option maxHeartbeats 4000000 in
set_option maxRecDepth 100000 in
theorem b_X11_save_b33 {p : Program} {l : Launch} {e : Env} {s : State} {m : MethodId} {args : Array Value} {below : List Frame} {meth : Method} {c : Code} {Qc : Array Value → State → Outcome → State → Prop} {XC : String → State → State → Prop} {D : va_G} {A : Nat → Prop} {cI cJ cZ cMic cSrc cSt cAI cAJ : ClassId} {ad0 : Nat → Nat} {T0 : AT} {e1 : Nat} {r1 : Int32} {T1 : AT} (E : cE p c cX11_save s m args (Cond.code yX11_save cX11_save 2 (some .int) :: wsA) D RX11 (CT cI cJ cZ cMic cSrc cSt cAI cAJ)) (hA : ∀ q : Nat, s.heap.size ≤ q → A q) (hX : xT A s) (hN : nX s) (hml : c.maxLocals = 2) (hst : l.stackTraces = false) (htab : ∀ x ∈ c.exceptionTable.toList, False) (hlocks : meth.locks = false) (kx : ∀ (ad : Nat → Nat) (H : Heap) (locs : List Loc) (t : State), (∀ n, n < T0.1 → ad n = ad0 n) → gC cI cJ cZ cMic cSrc cSt cAI cAJ D ad A s.heap H locs T1 → s.vm.Alike t.vm → H.size ≤ t.heap.size → (∀ q, q < H.size → t.heap[q]? = H[q]?) → XC (exn e1) s t) : ∀ (T : AT) (ad : Nat → Nat) (H : Heap) (locs : List Loc) (ls : Array Slot) (s0 : Nat), g_X11_save_b33 T s0 = some (e1 + 1, r1, T1) → GL T0 T → RC T → (∀ n, n < T0.1 → ad n = ad0 n) → s0 < T.1 → gC cI cJ cZ cMic cSrc cSt cAI cAJ D ad A s.heap H locs T → lv_has ls 2 [] → W p l e { frames := 7, cells := T1.1 - T0.1 + 1, slots := sg T1 - sg T0 + 6, locals := 149 } s m args below meth c H locs (T.1 - T0.1) (sg T - sg T0) (vx_MQ below Qc XC args s (T1.1 - T0.1 + 1) (sg T1 - sg T0 + 6) A) (F0 m 33 ls [.ref (ad s0)]) := by
  have hx := E.1
  have hb := E.2.1
  have hts := E.2.2.1
  have hown := E.2.2.2.1
  have hK := E.2.2.2.2
  intro T ad H locs ls s0 h hgl hrc had h_s0 G hl
  have hT1 := s_X11_save_b33 _ _ h
  have hcs := cs_okx hgl hT1
  have hcx := cs_okx1 hgl hT1
  have cp0 := cpr0 hrc
  unfold g_X11_save_b33 at h
  obtain ⟨g2, h⟩ := oif_some h
  refine c_get E G s0 2 (oO_k g2).1 (cc_o4 (oO_k g2).2) rfl (fun w h => .tail _ (iA_21 h)) (by decide) (.tail _ qA_812) rfl rfl dX11_save_33 ?_
  refine lv_topi (fun v3 ev3 => ?_)
  have h := elet_at ev3 h
  clear ev3
  exact (Nat.succ_ne_zero _ (congrArg Prod.fst (Option.some.inj h)).symm).elim
set_option maxHeartbeats 4000000 in
set_option maxRecDepth 100000 in
theorem b_X11_save_b22 {p : Program} {l : Launch} {e : Env} {s : State} {m : MethodId} {args : Array Value} {below : List Frame} {meth : Method} {c : Code} {Qc : Array Value → State → Outcome → State → Prop} {XC : String → State → State → Prop} {D : va_G} {A : Nat → Prop} {cI cJ cZ cMic cSrc cSt cAI cAJ : ClassId} {ad0 : Nat → Nat} {T0 : AT} {e1 : Nat} {r1 : Int32} {T1 : AT} (E : cE p c cX11_save s m args (Cond.code yX11_save cX11_save 2 (some .int) :: wsA) D RX11 (CT cI cJ cZ cMic cSrc cSt cAI cAJ)) (hA : ∀ q : Nat, s.heap.size ≤ q → A q) (hX : xT A s) (hN : nX s) (hml : c.maxLocals = 2) (hst : l.stackTraces = false) (htab : ∀ x ∈ c.exceptionTable.toList, False) (hlocks : meth.locks = false) (kx : ∀ (ad : Nat → Nat) (H : Heap) (locs : List Loc) (t : State), (∀ n, n < T0.1 → ad n = ad0 n) → gC cI cJ cZ cMic cSrc cSt cAI cAJ D ad A s.heap H locs T1 → s.vm.Alike t.vm → H.size ≤ t.heap.size → (∀ q, q < H.size → t.heap[q]? = H[q]?) → XC (exn e1) s t) : ∀ (T : AT) (ad : Nat → Nat) (H : Heap) (locs : List Loc) (ls : Array Slot) (l0 : Nat) (l1 : Int32), g_X11_save_b22 T l0 l1 = some (e1 + 1, r1, T1) → GL T0 T → RC T → (∀ n, n < T0.1 → ad n = ad0 n) → l0 < T.1 → gC cI cJ cZ cMic cSrc cSt cAI cAJ D ad A s.heap H locs T → lv_has ls 2 [(0, .ref (ad l0)), (1, .int l1)] → W p l e { frames := 7, cells := T1.1 - T0.1 + 1, slots := sg T1 - sg T0 + 6, locals := 149 } s m args below meth c H locs (T.1 - T0.1) (sg T - sg T0) (vx_MQ below Qc XC args s (T1.1 - T0.1 + 1) (sg T1 - sg T0 + 6) A) (F0 m 22 ls []) := by
  have hx := E.1
  have hb := E.2.1
  have hts := E.2.2.1
  have hown := E.2.2.2.1
  have hK := E.2.2.2.2
  intro T ad H locs ls l0 l1 h hgl hrc had h_l0 G hl
  have hT1 := s_X11_save_b22 _ _ _ h
  have hcs := cs_okx hgl hT1
  have hcx := cs_okx1 hgl hT1
  have cp0 := cpr0 hrc
  unfold g_X11_save_b22 at h
  refine lv_aload_n hx hb dX11_save_22 rfl (lv_at hl 0 rfl) ?_
  obtain ⟨g2, h⟩ := oif_some h
  obtain ⟨n3, en3, h⟩ := obind_some h
  have h_n3 : n3 < T.1 := by rw [← cp0.1]; exact cp0.2.2 _ _ _ en3
  refine c_get E G l0 10 (v := .ref (ad n3)) (oO_k g2).1 (cc_o11 (oO_k g2).2) rfl (fun w h => .tail _ (iA_23 h)) (by decide) (.tail _ qA_668) rfl (by rw [en3]; rfl) dX11_save_23 ?_
  clear en3
  refine lv_iload_n hx hb dX11_save_26 rfl (lv_at hl 1 rfl) ?_
  refine lv_iconst (v := 1) hx hb dX11_save_27 (by decide) ?_
  obtain ⟨g4, h⟩ := oif_some h
  obtain ⟨g5, h⟩ := oif_some h
  refine c_zast E G n3 2 (k := l1.toNatClampNeg) (v := 1) (aA_k g4).1 (cc_a102 (aA_k g4).2.1) rfl (inb_k g5).1 (inb_k g5).2 (aA_k g4).2.2 rfl dX11_save_28 (fun H locs G => ?_)
  have G := gC_up_i (f := upd (T.2.2.1 n3) l1.toNatClampNeg 1) (ccv_102 (aA_k g4).2.1) G
  obtain ⟨T6, eT6, h⟩ := elet_some h
  have G : gC cI cJ cZ cMic cSrc cSt cAI cAJ D ad A s.heap H locs T6 := by rw [eT6]; exact G
  have cp1 := show CPR T T6 from by rw [eT6]; exact cpr_sp cp0 sp_uI
  clear eT6
  refine lv_aload_n hx hb dX11_save_29 rfl (lv_at hl 0 rfl) ?_
  obtain ⟨g7, h⟩ := oif_some h
  obtain ⟨r9, T8, eT8, h⟩ := obind2_some h
  obtain ⟨g10, h⟩ := oif_some h
  have hg2 := s_X11_powersNow eT8
  have hrc2 := hg2.2.2 cp1.2.2
  have hT2 := s_X11_save_b33 _ _ h
  refine q_avr (As := []) (rest := []) E G hA hX hN hml (a_X11_powersNow l hst D cI cJ cZ cMic cSrc cSt cAI cAJ ad T6 l0 eT8 cp1.2.2 (by rw [cp1.1]; exact h_l0)) (cwV 0 hts (gaV qA_799 qA_800 qA_801 qA_131 qA_802) rfl rfl rfl (by decide +kernel) ⟨Nat.le_of_ble_eq_true rfl, Nat.le_of_ble_eq_true rfl⟩) (oO_k g7).1 (cc_o11 (oO_k g7).2) rfl rfl hl.1 rfl (lv_room (Nat.le_of_ble_eq_true rfl)) dX11_save_30 (cs_avx hgl cp1 hg2 hT2) (fun ad2 H locs hga G => ?_)
  refine w_cast (c2 := T8.1 - T0.1) (s2 := sg T8 - sg T0) (cs_f1 hgl cp1 hg2) (cs_f2 hgl cp1 hg2) ?_
  have h_new : r9 < T8.1 := Nat.le_of_ble_eq_true g10
  have hl := lv_sub hl [] rfl
  exact b_X11_save_b33 E hA hX hN hml hst htab hlocks kx _ _ _ _ _ _ h (GL.tr (gl_cpr hgl cp1) hg2) hrc2 (fun n hn => (hga n (by rw [cp1.1]; exact Nat.lt_of_lt_of_le hn hgl.1)).trans (had n hn)) h_new G hl
set_option maxHeartbeats 4000000 in
set_option maxRecDepth 100000 in
theorem b_X11_save (l : Launch) (hst : l.stackTraces = false) (D : va_G) (cI cJ cZ cMic cSrc cSt cAI cAJ : ClassId) (ad : Nat → Nat) (T : AT) (o : Nat) (a0 : Int32) {e1 : Nat} {r1 : Int32} {T1 : AT} (h : g_X11_save T o a0 = some (e1 + 1, r1, T1)) (hrc : RC T) (h_o : o < T.1) : kAXi l yX11_save (Cond.code yX11_save cX11_save 2 (some .int) :: wsA) 7 149 cI cJ cZ cMic cSrc cSt cAI cAJ D ad T [.ref (ad o), .int a0] e1 T1 := by
  intro sz
  refine vx_ofW (cc := cX11_save) (maxL := 2) (ret := (some .int)) (by decide) rfl ?_
  intro p e s m args below meth c s₁ B hml htab hv
  obtain ⟨rfl, hsz, hP, hK, hD0, hX, hN⟩ := hv
  have hx := B.exec
  have hb := B.bytes
  have hr := B.returns
  have hts := atoms_spec (ws := (Cond.code yX11_save cX11_save 2 (some .int) :: wsA)) B.pre
  have hown : s.vm.findClass RX11 = some m.cls := findClass_of_methodNamed B.named
  have hlocks := B.notSynchronized
  subst hsz
  have hD := hD0.self (sz := s.heap.size)
  generalize hAe : va_A (cW ad T.1 (cc cI cJ cZ cMic cSrc cSt cAI cAJ ad T)) s.heap.size = A at hD hX ⊢
  have hA : ∀ q : Nat, s.heap.size ≤ q → A q := fun q h => by rw [← hAe]; exact Or.inr h
  have G : gC cI cJ cZ cMic cSrc cSt cAI cAJ D ad A s.heap s.heap [] T := ⟨hP, hD, va_S.rf⟩
  have E : cE p c cX11_save s m ([.ref (ad o), .int a0] : List Value).toArray (Cond.code yX11_save cX11_save 2 (some .int) :: wsA) D RX11 (CT cI cJ cZ cMic cSrc cSt cAI cAJ) := ⟨hx, hb, hts, hown, hK⟩
  have htab : ∀ x ∈ c.exceptionTable.toList, False := fun x hx => htab x hx
  have hl := lv_entry ([.ref (ad o), .int a0]) (n := 2) (Nat.le_of_ble_eq_true rfl)
  rw [lg_entry_eq]
  generalize (lg_sl ([.ref (ad o), .int a0]) ++ List.replicate (2 - (lg_sl ([.ref (ad o), .int a0])).length) Slot.unset).toArray = ls at hl ⊢
  have hl : lv_has ls 2 [(0, .ref (ad o)), (1, .int a0)] := hl
  have hgl := GL.rf T
  have had : ∀ n, n < T.1 → ad n = ad n := fun _ _ => rfl
  have hT1 := s_X11_save h
  have hcs := cs_okx hgl hT1
  have hcx := cs_okx1 hgl hT1
  refine w_cast (Nat.sub_self T.1).symm (Nat.sub_self (sg T)).symm ?_
  have cp0 := cpr0 hrc
  unfold g_X11_save at h
  refine lv_aload_n hx hb dX11_save_0 rfl (lv_at hl 0 rfl) ?_
  obtain ⟨g2, h⟩ := oif_some h
  rcases othr_t h with ⟨r0, eT3⟩ | ⟨r5, T3, eT3, h⟩
  · refine q_xvv (As := []) (rest := []) E G hA hX hN hml (x_X11_needCamera l hst D cI cJ cZ cMic cSrc cSt cAI cAJ ad T o eT3) (cwV 0 hts (gaV qA_728 qA_729 qA_730 qA_131 qA_731) rfl rfl rfl (by decide +kernel) ⟨Nat.le_of_ble_eq_true rfl, Nat.le_of_ble_eq_true rfl⟩) (oO_k g2).1 (cc_o11 (oO_k g2).2) rfl rfl hl.1 rfl (lv_room (Nat.le_of_ble_eq_true rfl)) dX11_save_1 hcx (fun E9 ce q9 T9 H locs hp G hce hcv hcl => ?_)
    obtain ⟨hE, hT⟩ := hp
    subst hE
    rw [hT] at G
    exact vx_out (fun x hx => (htab x hx).elim) hlocks hce hcv hcl (fun t ht hvm => ⟨(T1, ad), trivial, ⟨⟨rfl, rfl, had⟩, by rw [ht]; exact G.1, va_K.moved hvm hK, G.2.1⟩, G.2.2.F ht⟩) G.2.2.2.2 hcx.1 hcx.2
  refine q_cvv (As := []) (rest := []) E G hA hX hN hml (u_X11_needCamera l hst D cI cJ cZ cMic cSrc cSt cAI cAJ ad T o eT3) (cwV 0 hts (gaV qA_728 qA_729 qA_730 qA_131 qA_731) rfl rfl rfl (by decide +kernel) ⟨Nat.le_of_ble_eq_true rfl, Nat.le_of_ble_eq_true rfl⟩) (oO_k g2).1 (cc_o11 (oO_k g2).2) rfl rfl hl.1 rfl (lv_room (Nat.le_of_ble_eq_true rfl)) dX11_save_1 hcs (fun T4 H locs hq G => ?_)
  rw [hq] at G
  clear hq
  have cp1 := cpr_sp cp0 (s_X11_needCamera eT3)
  refine lv_iload_n hx hb dX11_save_4 rfl (lv_at hl 1 rfl) ?_
  refine lv_iconst (v := 2) hx hb dX11_save_5 (by decide) ?_
  rcases othr_t h with ⟨r0, eT7⟩ | ⟨r9, T7, eT7, h⟩
  · refine q_xsv (As := [.int a0, .int 2]) (rest := []) E G hA hX hN hml (x_X11_needIndex l hst D cI cJ cZ cMic cSrc cSt cAI cAJ ad T3 a0 (2 : Int32) eT7) (cwS 2 hts (gaS qA_738 qA_739 qA_131 qA_740) rfl rfl rfl (by decide +kernel) ⟨Nat.le_of_ble_eq_true rfl, Nat.le_of_ble_eq_true rfl⟩) rfl hl.1 rfl (lv_room (Nat.le_of_ble_eq_true rfl)) dX11_save_6 hcx (fun E9 ce q9 T9 H locs hp G hce hcv hcl => ?_)
    obtain ⟨hE, hT⟩ := hp
    subst hE
    rw [hT] at G
    exact vx_out (fun x hx => (htab x hx).elim) hlocks hce hcv hcl (fun t ht hvm => ⟨(T1, ad), trivial, ⟨⟨rfl, rfl, had⟩, by rw [ht]; exact G.1, va_K.moved hvm hK, G.2.1⟩, G.2.2.F ht⟩) G.2.2.2.2 hcx.1 hcx.2
  refine q_csv (As := [.int a0, .int 2]) (rest := []) E G hA hX hN hml (u_X11_needIndex l hst D cI cJ cZ cMic cSrc cSt cAI cAJ ad T3 a0 (2 : Int32) eT7) (cwS 2 hts (gaS qA_738 qA_739 qA_131 qA_740) rfl rfl rfl (by decide +kernel) ⟨Nat.le_of_ble_eq_true rfl, Nat.le_of_ble_eq_true rfl⟩) rfl hl.1 rfl (lv_room (Nat.le_of_ble_eq_true rfl)) dX11_save_6 hcs (fun T8 H locs hq G => ?_)
  rw [hq] at G
  clear hq
  have cp2 := cpr_sp cp1 (s_X11_needIndex eT7)
  refine lv_aload_n hx hb dX11_save_9 rfl (lv_at hl 0 rfl) ?_
  obtain ⟨g11, h⟩ := oif_some h
  obtain ⟨n12, en12, h⟩ := obind_some h
  have h_n12 : n12 < T.1 := by rw [← cp2.1]; exact cp2.2.2 _ _ _ en12
  refine c_get E G o 9 (v := .ref (ad n12)) (oO_k g11).1 (cc_o11 (oO_k g11).2) rfl (fun w h => .tail _ (iA_23 h)) (by decide) (.tail _ qA_667) rfl (by rw [en12]; rfl) dX11_save_10 ?_
  clear en12
  refine lv_iload_n hx hb dX11_save_13 rfl (lv_at hl 1 rfl) ?_
  obtain ⟨g13, h⟩ := oif_some h
  obtain ⟨g14, h⟩ := oif_some h
  obtain ⟨n15, en15, h⟩ := obind_some h
  have h_n15 : n15 < T.1 := by rw [← cp2.1]; exact cp2.2.2 _ _ _ en15
  refine c_aldq E G n12 5 (k := a0.toNatClampNeg) (v := .ref (ad n15)) (aA_k g13).1 (cc_a105 (aA_k g13).2.1) rfl (inb_k g14).1 (inb_k g14).2 (aA_k g13).2.2 (by show va_rf ((T7.2.2.2.2 n12 a0.toNatClampNeg).map ad) = _; rw [en15]; rfl) dX11_save_14 ?_
  clear en15
  refine lv_aload_n hx hb dX11_save_15 rfl (lv_at hl 0 rfl) ?_
  obtain ⟨g16, h⟩ := oif_some h
  obtain ⟨n17, en17, h⟩ := obind_some h
  have h_n17 : n17 < T.1 := by rw [← cp2.1]; exact cp2.2.2 _ _ _ en17
  refine c_get E G o 6 (v := .ref (ad n17)) (oO_k g16).1 (cc_o11 (oO_k g16).2) rfl (fun w h => .tail _ (iA_23 h)) (by decide) (.tail _ qA_664) rfl (by rw [en17]; rfl) dX11_save_16 ?_
  clear en17
  obtain ⟨g18, h⟩ := oif_some h
  obtain ⟨T19, eT19, h⟩ := obind_some h
  have hg2 := s_X8_copyFrom eT19
  have hrc2 := hg2.2.2 cp2.2.2
  have hT2 := s_X11_save_b22 _ _ _ h
  refine q_avv (As := [.ref (ad n17)]) (rest := []) E G hA hX hN hml (a_X8_copyFrom l hst D cI cJ cZ cMic cSrc cSt cAI cAJ ad T7 n15 n17 eT19 cp2.2.2 (by rw [cp2.1]; exact h_n15) (by rw [cp2.1]; exact h_n17)) (cwV 1 hts (gaV qA_911 qA_912 qA_913 qA_47 qA_603) rfl rfl rfl (by decide +kernel) ⟨Nat.le_of_ble_eq_true rfl, Nat.le_of_ble_eq_true rfl⟩) (oO_k g18).1 (cc_o8 (oO_k g18).2) rfl rfl hl.1 rfl (lv_room (Nat.le_of_ble_eq_true rfl)) dX11_save_19 (cs_avx hgl cp2 hg2 hT2) (fun ad2 H locs hga G => ?_)
  refine w_cast (c2 := T19.1 - T.1) (s2 := sg T19 - sg T) (cs_f1 hgl cp2 hg2) (cs_f2 hgl cp2 hg2) ?_
  have hl := lv_sub hl [0, 1] rfl
  rw [show ad o = ad2 o from (hga o (by rw [cp2.1]; exact h_o)).symm] at hl
  exact b_X11_save_b22 E hA hX hN hml hst htab hlocks (fun ad H locs t had G hvm h1 h2 => ⟨(T1, ad), trivial, ⟨⟨rfl, rfl, had⟩, (c_thrown G hK hvm h1 h2).1⟩, (c_thrown G hK hvm h1 h2).2⟩) _ _ _ _ _ _ _ h (GL.tr (gl_cpr hgl cp2) hg2) hrc2 (fun n hn => (hga n (by rw [cp2.1]; exact Nat.lt_of_lt_of_le hn hgl.1)).trans (had n hn)) (Nat.lt_of_lt_of_le (by rw [cp2.1]; exact h_o) hg2.1) G hl
def g_X11_restore_b52  (T : AT) (s0 : Nat) : Option (Nat × Int32 × AT) := oif (oO T s0 4 = true) <| elet (T.2.2.1 s0 2) fun v3 => some (0, v3, T)
def g_X11_restore_b35  (T : AT) (l0 : Nat) : Option (Nat × Int32 × AT) := oif (oO T l0 11 = true) <| elet (uI T l0 16 0) fun T3 => oif (oO T3 l0 11 = true) <| obind (T3.2.2.2.2 l0 4) fun n5 => oif (oO T3 n5 4 = true) <| elet (uI T3 n5 0 0) fun T7 => oif (oO T7 l0 11 = true) <| obind2 (g_X11_powersNow T7 l0) fun r10 T9 => oif (Nat.blt r10 T9.1 = true) <| g_X11_restore_b52 T9 r10
def g_X11_restore (T : AT) (o : Nat) (a0 : Int32) : Option (Nat × Int32 × AT) := othr (g_X11_needIndex T a0 (2 : Int32)) 0 fun r4 T2 => oif (oO T2 o 11 = true) <| obind (T2.2.2.2.2 o 10) fun n7 => oif (aA T2 n7 102 = true) <| oif (inb a0 (T2.2.1 n7).2 = true) <| elet (T2.2.2.1 n7 a0.toNatClampNeg) fun v10 => if v10 = 0 then (some (1, 0, T2)) else (oif (oO T2 o 11 = true) <| obind (T2.2.2.2.2 o 6) fun n13 => oif (oO T2 o 11 = true) <| obind (T2.2.2.2.2 o 9) fun n15 => oif (aA T2 n15 105 = true) <| oif (inb a0 (T2.2.1 n15).2 = true) <| obind (T2.2.2.2.2 n15 a0.toNatClampNeg) fun n18 => oif (oO T2 n13 8 = true) <| obind (g_X8_copyFrom T2 n13 n18) fun T20 => g_X11_restore_b35 T20 o)
set_option maxHeartbeats 4000000 in
set_option maxRecDepth 100000 in
theorem s_X11_restore_b52 {e1 : Nat} {r1 : Int32} {T1 : AT} : ∀ (T : AT) (s0 : Nat), g_X11_restore_b52 T s0 = some (e1, r1, T1) → GL T T1 := by
  intro T s0 h
  have p0 := GL.rf T
  unfold g_X11_restore_b52 at h
  obtain ⟨g2, h⟩ := oif_some h
  obtain ⟨v3, -, h⟩ := elet_some h
  rw [← (osome3 h).2.2]
  exact p0
set_option maxHeartbeats 4000000 in
set_option maxRecDepth 100000 in
theorem s_X11_restore_b35 {e1 : Nat} {r1 : Int32} {T1 : AT} : ∀ (T : AT) (l0 : Nat), g_X11_restore_b35 T l0 = some (e1, r1, T1) → GL T T1 := by
  intro T l0 h
  have p0 := GL.rf T
  unfold g_X11_restore_b35 at h
  obtain ⟨g2, h⟩ := oif_some h
  obtain ⟨T3, eT3, h⟩ := elet_some h
  have p1 : GL T T3 := GL.tr p0 (by rw [eT3]; exact gl_sp sp_uI)
  obtain ⟨g4, h⟩ := oif_some h
  obtain ⟨n5, en5, h⟩ := obind_some h
  obtain ⟨g6, h⟩ := oif_some h
  obtain ⟨T7, eT7, h⟩ := elet_some h
  have p2 : GL T T7 := GL.tr p1 (by rw [eT7]; exact gl_sp sp_uI)
  obtain ⟨g8, h⟩ := oif_some h
  obtain ⟨r10, T9, eT9, h⟩ := obind2_some h
  obtain ⟨g11, h⟩ := oif_some h
  have p3 : GL T T9 := GL.tr p2 (s_X11_powersNow eT9)
  exact GL.tr p3 (s_X11_restore_b52 _ _ h)
set_option maxHeartbeats 4000000 in
set_option maxRecDepth 100000 in
theorem s_X11_restore {T : AT} {o : Nat} {a0 : Int32} {e1 : Nat} {r1 : Int32} {T1 : AT} (h : g_X11_restore T o a0 = some (e1, r1, T1)) : GL T T1 := by
  have p0 := GL.rf T
  unfold g_X11_restore at h
  rcases othr_s h with ⟨k9, r9, e9, -⟩ | ⟨r3, T2, eT2, h⟩
  · exact GL.tr p0 (gl_sp (s_X11_needIndex e9))
  have p1 : GL T T2 := GL.tr p0 (gl_sp (s_X11_needIndex eT2))
  obtain ⟨g4, h⟩ := oif_some h
  obtain ⟨n5, en5, h⟩ := obind_some h
  obtain ⟨g6, h⟩ := oif_some h
  obtain ⟨g7, h⟩ := oif_some h
  obtain ⟨v8, -, h⟩ := elet_some h
  rcases oif_or h with ⟨c9, h⟩ | ⟨c9, h⟩
  · have h := h
    rw [← (osome3 h).2.2]
    exact p1
  · have h := h
    obtain ⟨g10, h⟩ := oif_some h
    obtain ⟨n11, en11, h⟩ := obind_some h
    obtain ⟨g12, h⟩ := oif_some h
    obtain ⟨n13, en13, h⟩ := obind_some h
    obtain ⟨g14, h⟩ := oif_some h
    obtain ⟨g15, h⟩ := oif_some h
    obtain ⟨n16, en16, h⟩ := obind_some h
    obtain ⟨g17, h⟩ := oif_some h
    obtain ⟨T18, eT18, h⟩ := obind_some h
    have p2 : GL T T18 := GL.tr p1 (s_X8_copyFrom eT18)
    exact GL.tr p2 (s_X11_restore_b35 _ _ h)
set_option maxHeartbeats 4000000 in
set_option maxRecDepth 100000 in
theorem a_X11_restore_b52 {p : Program} {l : Launch} {e : Env} {s : State} {m : MethodId} {args : Array Value} {below : List Frame} {meth : Method} {c : Code} {Q : State → Prop} {D : va_G} {A : Nat → Prop} {cI cJ cZ cMic cSrc cSt cAI cAJ : ClassId} {ad0 : Nat → Nat} {T0 : AT} {r1 : Int32} {T1 : AT} (E : cE p c cX11_restore s m args (Cond.code yX11_restore cX11_restore 2 (some .int) :: wsA) D RX11 (CT cI cJ cZ cMic cSrc cSt cAI cAJ)) (hA : ∀ q : Nat, s.heap.size ≤ q → A q) (hX : xT A s) (hN : nX s) (hml : c.maxLocals = 2) (hst : l.stackTraces = false) (kr55 : ∀ (ad : Nat → Nat) (H : Heap) (locs : List Loc) (ls : Array Slot), (∀ n, n < T0.1 → ad n = ad0 n) → gC cI cJ cZ cMic cSrc cSt cAI cAJ D ad A s.heap H locs T1 → W p l e { frames := 7, cells := T1.1 - T0.1, slots := sg T1 - sg T0, locals := 149 } s m args below meth c H locs (T1.1 - T0.1) (sg T1 - sg T0) Q (F0 m 55 ls [.int r1])) : ∀ (T : AT) (ad : Nat → Nat) (H : Heap) (locs : List Loc) (ls : Array Slot) (s0 : Nat), g_X11_restore_b52 T s0 = some (0, r1, T1) → GL T0 T → RC T → (∀ n, n < T0.1 → ad n = ad0 n) → s0 < T.1 → gC cI cJ cZ cMic cSrc cSt cAI cAJ D ad A s.heap H locs T → lv_has ls 2 [] → W p l e { frames := 7, cells := T1.1 - T0.1, slots := sg T1 - sg T0, locals := 149 } s m args below meth c H locs (T.1 - T0.1) (sg T - sg T0) Q (F0 m 52 ls [.ref (ad s0)]) := by
  have hx := E.1
  have hb := E.2.1
  have hts := E.2.2.1
  have hown := E.2.2.2.1
  have hK := E.2.2.2.2
  intro T ad H locs ls s0 h hgl hrc had h_s0 G hl
  have hT1 := s_X11_restore_b52 _ _ h
  have hcs := cs_ok hgl hT1
  have cp0 := cpr0 hrc
  unfold g_X11_restore_b52 at h
  obtain ⟨g2, h⟩ := oif_some h
  refine c_get E G s0 2 (oO_k g2).1 (cc_o4 (oO_k g2).2) rfl (fun w h => .tail _ (iA_21 h)) (by decide) (.tail _ qA_812) rfl rfl dX11_restore_52 ?_
  refine lv_topi (fun v3 ev3 => ?_)
  have h := elet_at ev3 h
  clear ev3
  rw [(osome3 h).2.2] at G
  refine w_cast (c2 := T1.1 - T0.1) (s2 := sg T1 - sg T0) (by rw [← (osome3 h).2.2, cp0.1] <;> rfl) (by rw [← (osome3 h).2.2, sg_cpr cp0] <;> rfl) ?_
  refine lv_to ((osome3 h).2.1) ?_
  exact kr55 ad _ _ _ had G
set_option maxHeartbeats 4000000 in
set_option maxRecDepth 100000 in
theorem a_X11_restore_b35 {p : Program} {l : Launch} {e : Env} {s : State} {m : MethodId} {args : Array Value} {below : List Frame} {meth : Method} {c : Code} {Q : State → Prop} {D : va_G} {A : Nat → Prop} {cI cJ cZ cMic cSrc cSt cAI cAJ : ClassId} {ad0 : Nat → Nat} {T0 : AT} {r1 : Int32} {T1 : AT} (E : cE p c cX11_restore s m args (Cond.code yX11_restore cX11_restore 2 (some .int) :: wsA) D RX11 (CT cI cJ cZ cMic cSrc cSt cAI cAJ)) (hA : ∀ q : Nat, s.heap.size ≤ q → A q) (hX : xT A s) (hN : nX s) (hml : c.maxLocals = 2) (hst : l.stackTraces = false) (kr55 : ∀ (ad : Nat → Nat) (H : Heap) (locs : List Loc) (ls : Array Slot), (∀ n, n < T0.1 → ad n = ad0 n) → gC cI cJ cZ cMic cSrc cSt cAI cAJ D ad A s.heap H locs T1 → W p l e { frames := 7, cells := T1.1 - T0.1, slots := sg T1 - sg T0, locals := 149 } s m args below meth c H locs (T1.1 - T0.1) (sg T1 - sg T0) Q (F0 m 55 ls [.int r1])) : ∀ (T : AT) (ad : Nat → Nat) (H : Heap) (locs : List Loc) (ls : Array Slot) (l0 : Nat), g_X11_restore_b35 T l0 = some (0, r1, T1) → GL T0 T → RC T → (∀ n, n < T0.1 → ad n = ad0 n) → l0 < T.1 → gC cI cJ cZ cMic cSrc cSt cAI cAJ D ad A s.heap H locs T → lv_has ls 2 [(0, .ref (ad l0))] → W p l e { frames := 7, cells := T1.1 - T0.1, slots := sg T1 - sg T0, locals := 149 } s m args below meth c H locs (T.1 - T0.1) (sg T - sg T0) Q (F0 m 35 ls []) := by
  have hx := E.1
  have hb := E.2.1
  have hts := E.2.2.1
  have hown := E.2.2.2.1
  have hK := E.2.2.2.2
  intro T ad H locs ls l0 h hgl hrc had h_l0 G hl
  have hT1 := s_X11_restore_b35 _ _ h
  have hcs := cs_ok hgl hT1
  have cp0 := cpr0 hrc
  unfold g_X11_restore_b35 at h
  refine lv_aload_n hx hb dX11_restore_35 rfl (lv_at hl 0 rfl) ?_
  refine lv_iconst (v := 0) hx hb dX11_restore_36 (by decide) ?_
  obtain ⟨g2, h⟩ := oif_some h
  refine c_put E G l0 16 (v := .int 0) (oO_k g2).1 (cc_o11 (oO_k g2).2) rfl (fun w h => .tail _ (iA_23 h)) tyX11 tyX11_ok nmX11 (by decide) (.tail _ qA_703) ⟨rfl, rfl, rfl⟩ rfl rfl (Nat.le_of_ble_eq_true rfl) dX11_restore_37 (fun H locs G => ?_)
  have G := gC_up_i (f := upd (T.2.2.1 l0) 16 0) (by rw [(oO_k g2).2]; rfl) G
  obtain ⟨T3, eT3, h⟩ := elet_some h
  have G : gC cI cJ cZ cMic cSrc cSt cAI cAJ D ad A s.heap H locs T3 := by rw [eT3]; exact G
  have cp1 := show CPR T T3 from by rw [eT3]; exact cpr_sp cp0 sp_uI
  clear eT3
  refine lv_aload_n hx hb dX11_restore_40 rfl (lv_at hl 0 rfl) ?_
  obtain ⟨g4, h⟩ := oif_some h
  obtain ⟨n5, en5, h⟩ := obind_some h
  have h_n5 : n5 < T.1 := by rw [← cp1.1]; exact cp1.2.2 _ _ _ en5
  refine c_get E G l0 4 (v := .ref (ad n5)) (oO_k g4).1 (cc_o11 (oO_k g4).2) rfl (fun w h => .tail _ (iA_23 h)) (by decide) (.tail _ qA_660) rfl (by rw [en5]; rfl) dX11_restore_41 ?_
  clear en5
  refine lv_iconst (v := 0) hx hb dX11_restore_44 (by decide) ?_
  obtain ⟨g6, h⟩ := oif_some h
  refine c_put E G n5 0 (v := .int 0) (oO_k g6).1 (cc_o4 (oO_k g6).2) rfl (fun w h => .tail _ (iA_21 h)) tyX4 tyX4_ok nmX4 (by decide) (.tail _ qA_704) ⟨rfl, rfl, rfl⟩ rfl rfl (Nat.le_of_ble_eq_true rfl) dX11_restore_45 (fun H locs G => ?_)
  have G := gC_up_i (f := upd (T3.2.2.1 n5) 0 0) (by rw [(oO_k g6).2]; rfl) G
  obtain ⟨T7, eT7, h⟩ := elet_some h
  have G : gC cI cJ cZ cMic cSrc cSt cAI cAJ D ad A s.heap H locs T7 := by rw [eT7]; exact G
  have cp2 := show CPR T T7 from by rw [eT7]; exact cpr_sp cp1 sp_uI
  clear eT7
  refine lv_aload_n hx hb dX11_restore_48 rfl (lv_at hl 0 rfl) ?_
  obtain ⟨g8, h⟩ := oif_some h
  obtain ⟨r10, T9, eT9, h⟩ := obind2_some h
  obtain ⟨g11, h⟩ := oif_some h
  have hg2 := s_X11_powersNow eT9
  have hrc2 := hg2.2.2 cp2.2.2
  have hT2 := s_X11_restore_b52 _ _ h
  refine q_avr (As := []) (rest := []) E G hA hX hN hml (a_X11_powersNow l hst D cI cJ cZ cMic cSrc cSt cAI cAJ ad T7 l0 eT9 cp2.2.2 (by rw [cp2.1]; exact h_l0)) (cwV 0 hts (gaV qA_799 qA_800 qA_801 qA_131 qA_802) rfl rfl rfl (by decide +kernel) ⟨Nat.le_of_ble_eq_true rfl, Nat.le_of_ble_eq_true rfl⟩) (oO_k g8).1 (cc_o11 (oO_k g8).2) rfl rfl hl.1 rfl (lv_room (Nat.le_of_ble_eq_true rfl)) dX11_restore_49 (cs_av hgl cp2 hg2 hT2) (fun ad2 H locs hga G => ?_)
  refine w_cast (c2 := T9.1 - T0.1) (s2 := sg T9 - sg T0) (cs_f1 hgl cp2 hg2) (cs_f2 hgl cp2 hg2) ?_
  have h_new : r10 < T9.1 := Nat.le_of_ble_eq_true g11
  have hl := lv_sub hl [] rfl
  exact a_X11_restore_b52 E hA hX hN hml hst kr55 _ _ _ _ _ _ h (GL.tr (gl_cpr hgl cp2) hg2) hrc2 (fun n hn => (hga n (by rw [cp2.1]; exact Nat.lt_of_lt_of_le hn hgl.1)).trans (had n hn)) h_new G hl
set_option maxHeartbeats 4000000 in
set_option maxRecDepth 100000 in
theorem a_X11_restore (l : Launch) (hst : l.stackTraces = false) (D : va_G) (cI cJ cZ cMic cSrc cSt cAI cAJ : ClassId) (ad : Nat → Nat) (T : AT) (o : Nat) (a0 : Int32) {r1 : Int32} {T1 : AT} (h : g_X11_restore T o a0 = some (0, r1, T1)) (hrc : RC T) (h_o : o < T.1) : kAi l yX11_restore (Cond.code yX11_restore cX11_restore 2 (some .int) :: wsA) 7 149 cI cJ cZ cMic cSrc cSt cAI cAJ D ad T [.ref (ad o), .int a0] r1 T1 := by
  intro sz
  refine Met.ofW (cc := cX11_restore) (maxL := 2) (ret := (some .int)) (by decide) rfl ?_
  intro p e s m args below meth c s₁ B hml hv
  obtain ⟨rfl, hsz, hP, hK, hD0, hX, hN⟩ := hv
  have hx := B.exec
  have hb := B.bytes
  have hr := B.returns
  have hts := atoms_spec (ws := (Cond.code yX11_restore cX11_restore 2 (some .int) :: wsA)) B.pre
  have hown : s.vm.findClass RX11 = some m.cls := findClass_of_methodNamed B.named
  have hlocks := B.notSynchronized
  subst hsz
  have hD := hD0.self (sz := s.heap.size)
  generalize hAe : va_A (cW ad T.1 (cc cI cJ cZ cMic cSrc cSt cAI cAJ ad T)) s.heap.size = A at hD hX ⊢
  have hA : ∀ q : Nat, s.heap.size ≤ q → A q := fun q h => by rw [← hAe]; exact Or.inr h
  have G : gC cI cJ cZ cMic cSrc cSt cAI cAJ D ad A s.heap s.heap [] T := ⟨hP, hD, va_S.rf⟩
  have E : cE p c cX11_restore s m ([.ref (ad o), .int a0] : List Value).toArray (Cond.code yX11_restore cX11_restore 2 (some .int) :: wsA) D RX11 (CT cI cJ cZ cMic cSrc cSt cAI cAJ) := ⟨hx, hb, hts, hown, hK⟩
  have hl := lv_entry ([.ref (ad o), .int a0]) (n := 2) (Nat.le_of_ble_eq_true rfl)
  rw [lg_entry_eq]
  generalize (lg_sl ([.ref (ad o), .int a0]) ++ List.replicate (2 - (lg_sl ([.ref (ad o), .int a0])).length) Slot.unset).toArray = ls at hl ⊢
  have hl : lv_has ls 2 [(0, .ref (ad o)), (1, .int a0)] := hl
  have hgl := GL.rf T
  have had : ∀ n, n < T.1 → ad n = ad n := fun _ _ => rfl
  have hT1 := s_X11_restore h
  have hcs := cs_ok hgl hT1
  refine w_cast (Nat.sub_self T.1).symm (Nat.sub_self (sg T)).symm ?_
  have cp0 := cpr0 hrc
  unfold g_X11_restore at h
  refine lv_iload_n hx hb dX11_restore_0 rfl (lv_at hl 1 rfl) ?_
  refine lv_iconst (v := 2) hx hb dX11_restore_1 (by decide) ?_
  obtain ⟨r4, T2, eT2, h⟩ := othr_n h
  refine q_csv (As := [.int a0, .int 2]) (rest := []) E G hA hX hN hml (u_X11_needIndex l hst D cI cJ cZ cMic cSrc cSt cAI cAJ ad T a0 (2 : Int32) eT2) (cwS 2 hts (gaS qA_738 qA_739 qA_131 qA_740) rfl rfl rfl (by decide +kernel) ⟨Nat.le_of_ble_eq_true rfl, Nat.le_of_ble_eq_true rfl⟩) rfl hl.1 rfl (lv_room (Nat.le_of_ble_eq_true rfl)) dX11_restore_2 hcs (fun T3 H locs hq G => ?_)
  rw [hq] at G
  clear hq
  have cp1 := cpr_sp cp0 (s_X11_needIndex eT2)
  refine lv_aload_n hx hb dX11_restore_5 rfl (lv_at hl 0 rfl) ?_
  obtain ⟨g6, h⟩ := oif_some h
  obtain ⟨n7, en7, h⟩ := obind_some h
  have h_n7 : n7 < T.1 := by rw [← cp1.1]; exact cp1.2.2 _ _ _ en7
  refine c_get E G o 10 (v := .ref (ad n7)) (oO_k g6).1 (cc_o11 (oO_k g6).2) rfl (fun w h => .tail _ (iA_23 h)) (by decide) (.tail _ qA_668) rfl (by rw [en7]; rfl) dX11_restore_6 ?_
  clear en7
  refine lv_iload_n hx hb dX11_restore_9 rfl (lv_at hl 1 rfl) ?_
  obtain ⟨g8, h⟩ := oif_some h
  obtain ⟨g9, h⟩ := oif_some h
  refine c_zald E G n7 2 (k := a0.toNatClampNeg) (aA_k g8).1 (cc_a102 (aA_k g8).2.1) rfl (inb_k g9).1 (inb_k g9).2 (aA_k g8).2.2 dX11_restore_10 ?_
  refine lv_topi (fun v10 ev10 => ?_)
  have h := elet_at ev10 h
  clear ev10
  refine lv_if_ne (tgt := 22) hx hb dX11_restore_11 (by decide) (fun c11 => ?_) (fun c11 => ?_)
  · have h := oif_neg c11 h
    refine lv_aload_n hx hb dX11_restore_22 rfl (lv_at hl 0 rfl) ?_
    obtain ⟨g12, h⟩ := oif_some h
    obtain ⟨n13, en13, h⟩ := obind_some h
    have h_n13 : n13 < T.1 := by rw [← cp1.1]; exact cp1.2.2 _ _ _ en13
    refine c_get E G o 6 (v := .ref (ad n13)) (oO_k g12).1 (cc_o11 (oO_k g12).2) rfl (fun w h => .tail _ (iA_23 h)) (by decide) (.tail _ qA_664) rfl (by rw [en13]; rfl) dX11_restore_23 ?_
    clear en13
    refine lv_aload_n hx hb dX11_restore_26 rfl (lv_at hl 0 rfl) ?_
    obtain ⟨g14, h⟩ := oif_some h
    obtain ⟨n15, en15, h⟩ := obind_some h
    have h_n15 : n15 < T.1 := by rw [← cp1.1]; exact cp1.2.2 _ _ _ en15
    refine c_get E G o 9 (v := .ref (ad n15)) (oO_k g14).1 (cc_o11 (oO_k g14).2) rfl (fun w h => .tail _ (iA_23 h)) (by decide) (.tail _ qA_667) rfl (by rw [en15]; rfl) dX11_restore_27 ?_
    clear en15
    refine lv_iload_n hx hb dX11_restore_30 rfl (lv_at hl 1 rfl) ?_
    obtain ⟨g16, h⟩ := oif_some h
    obtain ⟨g17, h⟩ := oif_some h
    obtain ⟨n18, en18, h⟩ := obind_some h
    have h_n18 : n18 < T.1 := by rw [← cp1.1]; exact cp1.2.2 _ _ _ en18
    refine c_aldq E G n15 5 (k := a0.toNatClampNeg) (v := .ref (ad n18)) (aA_k g16).1 (cc_a105 (aA_k g16).2.1) rfl (inb_k g17).1 (inb_k g17).2 (aA_k g16).2.2 (by show va_rf ((T2.2.2.2.2 n15 a0.toNatClampNeg).map ad) = _; rw [en18]; rfl) dX11_restore_31 ?_
    clear en18
    obtain ⟨g19, h⟩ := oif_some h
    obtain ⟨T20, eT20, h⟩ := obind_some h
    have hg2 := s_X8_copyFrom eT20
    have hrc2 := hg2.2.2 cp1.2.2
    have hT2 := s_X11_restore_b35 _ _ h
    refine q_avv (As := [.ref (ad n18)]) (rest := []) E G hA hX hN hml (a_X8_copyFrom l hst D cI cJ cZ cMic cSrc cSt cAI cAJ ad T2 n13 n18 eT20 cp1.2.2 (by rw [cp1.1]; exact h_n13) (by rw [cp1.1]; exact h_n18)) (cwV 1 hts (gaV qA_911 qA_912 qA_913 qA_47 qA_603) rfl rfl rfl (by decide +kernel) ⟨Nat.le_of_ble_eq_true rfl, Nat.le_of_ble_eq_true rfl⟩) (oO_k g19).1 (cc_o8 (oO_k g19).2) rfl rfl hl.1 rfl (lv_room (Nat.le_of_ble_eq_true rfl)) dX11_restore_32 (cs_av hgl cp1 hg2 hT2) (fun ad2 H locs hga G => ?_)
    refine w_cast (c2 := T20.1 - T.1) (s2 := sg T20 - sg T) (cs_f1 hgl cp1 hg2) (cs_f2 hgl cp1 hg2) ?_
    have hl := lv_sub hl [0] rfl
    rw [show ad o = ad2 o from (hga o (by rw [cp1.1]; exact h_o)).symm] at hl
    exact a_X11_restore_b35 E hA hX hN hml hst (fun ad H locs ls had G => W.iret (v := r1) hx hb hr (fun t ht hW => ⟨⟨r1, (T1, ad), rfl, ⟨rfl, rfl, had⟩, ⟨by rw [ht]; exact G.1, va_K.moved hW.alike hK, G.2.1⟩⟩, G.2.2.F ht⟩) G.2.2.2.2 dX11_restore_55) _ _ _ _ _ _ h (GL.tr (gl_cpr hgl cp1) hg2) hrc2 (fun n hn => (hga n (by rw [cp1.1]; exact Nat.lt_of_lt_of_le hn hgl.1)).trans (had n hn)) (Nat.lt_of_lt_of_le (by rw [cp1.1]; exact h_o) hg2.1) G hl
  · have h := oif_pos c11 h
    exact absurd (osome3 h).1 (by decide)
set_option maxHeartbeats 4000000 in
set_option maxRecDepth 100000 in
theorem b_X11_restore_b52 {p : Program} {l : Launch} {e : Env} {s : State} {m : MethodId} {args : Array Value} {below : List Frame} {meth : Method} {c : Code} {Qc : Array Value → State → Outcome → State → Prop} {XC : String → State → State → Prop} {D : va_G} {A : Nat → Prop} {cI cJ cZ cMic cSrc cSt cAI cAJ : ClassId} {ad0 : Nat → Nat} {T0 : AT} {e1 : Nat} {r1 : Int32} {T1 : AT} (E : cE p c cX11_restore s m args (Cond.code yX11_restore cX11_restore 2 (some .int) :: wsA) D RX11 (CT cI cJ cZ cMic cSrc cSt cAI cAJ)) (hA : ∀ q : Nat, s.heap.size ≤ q → A q) (hX : xT A s) (hN : nX s) (hml : c.maxLocals = 2) (hst : l.stackTraces = false) (htab : ∀ x ∈ c.exceptionTable.toList, False) (hlocks : meth.locks = false) (kx : ∀ (ad : Nat → Nat) (H : Heap) (locs : List Loc) (t : State), (∀ n, n < T0.1 → ad n = ad0 n) → gC cI cJ cZ cMic cSrc cSt cAI cAJ D ad A s.heap H locs T1 → s.vm.Alike t.vm → H.size ≤ t.heap.size → (∀ q, q < H.size → t.heap[q]? = H[q]?) → XC (exn e1) s t) : ∀ (T : AT) (ad : Nat → Nat) (H : Heap) (locs : List Loc) (ls : Array Slot) (s0 : Nat), g_X11_restore_b52 T s0 = some (e1 + 1, r1, T1) → GL T0 T → RC T → (∀ n, n < T0.1 → ad n = ad0 n) → s0 < T.1 → gC cI cJ cZ cMic cSrc cSt cAI cAJ D ad A s.heap H locs T → lv_has ls 2 [] → W p l e { frames := 7, cells := T1.1 - T0.1 + 1, slots := sg T1 - sg T0 + 6, locals := 149 } s m args below meth c H locs (T.1 - T0.1) (sg T - sg T0) (vx_MQ below Qc XC args s (T1.1 - T0.1 + 1) (sg T1 - sg T0 + 6) A) (F0 m 52 ls [.ref (ad s0)]) := by
  have hx := E.1
  have hb := E.2.1
  have hts := E.2.2.1
  have hown := E.2.2.2.1
  have hK := E.2.2.2.2
  intro T ad H locs ls s0 h hgl hrc had h_s0 G hl
  have hT1 := s_X11_restore_b52 _ _ h
  have hcs := cs_okx hgl hT1
  have hcx := cs_okx1 hgl hT1
  have cp0 := cpr0 hrc
  unfold g_X11_restore_b52 at h
  obtain ⟨g2, h⟩ := oif_some h
  refine c_get E G s0 2 (oO_k g2).1 (cc_o4 (oO_k g2).2) rfl (fun w h => .tail _ (iA_21 h)) (by decide) (.tail _ qA_812) rfl rfl dX11_restore_52 ?_
  refine lv_topi (fun v3 ev3 => ?_)
  have h := elet_at ev3 h
  clear ev3
  exact (Nat.succ_ne_zero _ (congrArg Prod.fst (Option.some.inj h)).symm).elim
set_option maxHeartbeats 4000000 in
set_option maxRecDepth 100000 in
theorem b_X11_restore_b35 {p : Program} {l : Launch} {e : Env} {s : State} {m : MethodId} {args : Array Value} {below : List Frame} {meth : Method} {c : Code} {Qc : Array Value → State → Outcome → State → Prop} {XC : String → State → State → Prop} {D : va_G} {A : Nat → Prop} {cI cJ cZ cMic cSrc cSt cAI cAJ : ClassId} {ad0 : Nat → Nat} {T0 : AT} {e1 : Nat} {r1 : Int32} {T1 : AT} (E : cE p c cX11_restore s m args (Cond.code yX11_restore cX11_restore 2 (some .int) :: wsA) D RX11 (CT cI cJ cZ cMic cSrc cSt cAI cAJ)) (hA : ∀ q : Nat, s.heap.size ≤ q → A q) (hX : xT A s) (hN : nX s) (hml : c.maxLocals = 2) (hst : l.stackTraces = false) (htab : ∀ x ∈ c.exceptionTable.toList, False) (hlocks : meth.locks = false) (kx : ∀ (ad : Nat → Nat) (H : Heap) (locs : List Loc) (t : State), (∀ n, n < T0.1 → ad n = ad0 n) → gC cI cJ cZ cMic cSrc cSt cAI cAJ D ad A s.heap H locs T1 → s.vm.Alike t.vm → H.size ≤ t.heap.size → (∀ q, q < H.size → t.heap[q]? = H[q]?) → XC (exn e1) s t) : ∀ (T : AT) (ad : Nat → Nat) (H : Heap) (locs : List Loc) (ls : Array Slot) (l0 : Nat), g_X11_restore_b35 T l0 = some (e1 + 1, r1, T1) → GL T0 T → RC T → (∀ n, n < T0.1 → ad n = ad0 n) → l0 < T.1 → gC cI cJ cZ cMic cSrc cSt cAI cAJ D ad A s.heap H locs T → lv_has ls 2 [(0, .ref (ad l0))] → W p l e { frames := 7, cells := T1.1 - T0.1 + 1, slots := sg T1 - sg T0 + 6, locals := 149 } s m args below meth c H locs (T.1 - T0.1) (sg T - sg T0) (vx_MQ below Qc XC args s (T1.1 - T0.1 + 1) (sg T1 - sg T0 + 6) A) (F0 m 35 ls []) := by
  have hx := E.1
  have hb := E.2.1
  have hts := E.2.2.1
  have hown := E.2.2.2.1
  have hK := E.2.2.2.2
  intro T ad H locs ls l0 h hgl hrc had h_l0 G hl
  have hT1 := s_X11_restore_b35 _ _ h
  have hcs := cs_okx hgl hT1
  have hcx := cs_okx1 hgl hT1
  have cp0 := cpr0 hrc
  unfold g_X11_restore_b35 at h
  refine lv_aload_n hx hb dX11_restore_35 rfl (lv_at hl 0 rfl) ?_
  refine lv_iconst (v := 0) hx hb dX11_restore_36 (by decide) ?_
  obtain ⟨g2, h⟩ := oif_some h
  refine c_put E G l0 16 (v := .int 0) (oO_k g2).1 (cc_o11 (oO_k g2).2) rfl (fun w h => .tail _ (iA_23 h)) tyX11 tyX11_ok nmX11 (by decide) (.tail _ qA_703) ⟨rfl, rfl, rfl⟩ rfl rfl (Nat.le_of_ble_eq_true rfl) dX11_restore_37 (fun H locs G => ?_)
  have G := gC_up_i (f := upd (T.2.2.1 l0) 16 0) (by rw [(oO_k g2).2]; rfl) G
  obtain ⟨T3, eT3, h⟩ := elet_some h
  have G : gC cI cJ cZ cMic cSrc cSt cAI cAJ D ad A s.heap H locs T3 := by rw [eT3]; exact G
  have cp1 := show CPR T T3 from by rw [eT3]; exact cpr_sp cp0 sp_uI
  clear eT3
  refine lv_aload_n hx hb dX11_restore_40 rfl (lv_at hl 0 rfl) ?_
  obtain ⟨g4, h⟩ := oif_some h
  obtain ⟨n5, en5, h⟩ := obind_some h
  have h_n5 : n5 < T.1 := by rw [← cp1.1]; exact cp1.2.2 _ _ _ en5
  refine c_get E G l0 4 (v := .ref (ad n5)) (oO_k g4).1 (cc_o11 (oO_k g4).2) rfl (fun w h => .tail _ (iA_23 h)) (by decide) (.tail _ qA_660) rfl (by rw [en5]; rfl) dX11_restore_41 ?_
  clear en5
  refine lv_iconst (v := 0) hx hb dX11_restore_44 (by decide) ?_
  obtain ⟨g6, h⟩ := oif_some h
  refine c_put E G n5 0 (v := .int 0) (oO_k g6).1 (cc_o4 (oO_k g6).2) rfl (fun w h => .tail _ (iA_21 h)) tyX4 tyX4_ok nmX4 (by decide) (.tail _ qA_704) ⟨rfl, rfl, rfl⟩ rfl rfl (Nat.le_of_ble_eq_true rfl) dX11_restore_45 (fun H locs G => ?_)
  have G := gC_up_i (f := upd (T3.2.2.1 n5) 0 0) (by rw [(oO_k g6).2]; rfl) G
  obtain ⟨T7, eT7, h⟩ := elet_some h
  have G : gC cI cJ cZ cMic cSrc cSt cAI cAJ D ad A s.heap H locs T7 := by rw [eT7]; exact G
  have cp2 := show CPR T T7 from by rw [eT7]; exact cpr_sp cp1 sp_uI
  clear eT7
  refine lv_aload_n hx hb dX11_restore_48 rfl (lv_at hl 0 rfl) ?_
  obtain ⟨g8, h⟩ := oif_some h
  obtain ⟨r10, T9, eT9, h⟩ := obind2_some h
  obtain ⟨g11, h⟩ := oif_some h
  have hg2 := s_X11_powersNow eT9
  have hrc2 := hg2.2.2 cp2.2.2
  have hT2 := s_X11_restore_b52 _ _ h
  refine q_avr (As := []) (rest := []) E G hA hX hN hml (a_X11_powersNow l hst D cI cJ cZ cMic cSrc cSt cAI cAJ ad T7 l0 eT9 cp2.2.2 (by rw [cp2.1]; exact h_l0)) (cwV 0 hts (gaV qA_799 qA_800 qA_801 qA_131 qA_802) rfl rfl rfl (by decide +kernel) ⟨Nat.le_of_ble_eq_true rfl, Nat.le_of_ble_eq_true rfl⟩) (oO_k g8).1 (cc_o11 (oO_k g8).2) rfl rfl hl.1 rfl (lv_room (Nat.le_of_ble_eq_true rfl)) dX11_restore_49 (cs_avx hgl cp2 hg2 hT2) (fun ad2 H locs hga G => ?_)
  refine w_cast (c2 := T9.1 - T0.1) (s2 := sg T9 - sg T0) (cs_f1 hgl cp2 hg2) (cs_f2 hgl cp2 hg2) ?_
  have h_new : r10 < T9.1 := Nat.le_of_ble_eq_true g11
  have hl := lv_sub hl [] rfl
  exact b_X11_restore_b52 E hA hX hN hml hst htab hlocks kx _ _ _ _ _ _ h (GL.tr (gl_cpr hgl cp2) hg2) hrc2 (fun n hn => (hga n (by rw [cp2.1]; exact Nat.lt_of_lt_of_le hn hgl.1)).trans (had n hn)) h_new G hl
set_option maxHeartbeats 4000000 in
set_option maxRecDepth 100000 in
theorem b_X11_restore (l : Launch) (hst : l.stackTraces = false) (D : va_G) (cI cJ cZ cMic cSrc cSt cAI cAJ : ClassId) (ad : Nat → Nat) (T : AT) (o : Nat) (a0 : Int32) {e1 : Nat} {r1 : Int32} {T1 : AT} (h : g_X11_restore T o a0 = some (e1 + 1, r1, T1)) (hrc : RC T) (h_o : o < T.1) : kAXi l yX11_restore (Cond.code yX11_restore cX11_restore 2 (some .int) :: wsA) 7 149 cI cJ cZ cMic cSrc cSt cAI cAJ D ad T [.ref (ad o), .int a0] e1 T1 := by
  intro sz
  refine vx_ofW (cc := cX11_restore) (maxL := 2) (ret := (some .int)) (by decide) rfl ?_
  intro p e s m args below meth c s₁ B hml htab hv
  obtain ⟨rfl, hsz, hP, hK, hD0, hX, hN⟩ := hv
  have hx := B.exec
  have hb := B.bytes
  have hr := B.returns
  have hts := atoms_spec (ws := (Cond.code yX11_restore cX11_restore 2 (some .int) :: wsA)) B.pre
  have hown : s.vm.findClass RX11 = some m.cls := findClass_of_methodNamed B.named
  have hlocks := B.notSynchronized
  subst hsz
  have hD := hD0.self (sz := s.heap.size)
  generalize hAe : va_A (cW ad T.1 (cc cI cJ cZ cMic cSrc cSt cAI cAJ ad T)) s.heap.size = A at hD hX ⊢
  have hA : ∀ q : Nat, s.heap.size ≤ q → A q := fun q h => by rw [← hAe]; exact Or.inr h
  have G : gC cI cJ cZ cMic cSrc cSt cAI cAJ D ad A s.heap s.heap [] T := ⟨hP, hD, va_S.rf⟩
  have E : cE p c cX11_restore s m ([.ref (ad o), .int a0] : List Value).toArray (Cond.code yX11_restore cX11_restore 2 (some .int) :: wsA) D RX11 (CT cI cJ cZ cMic cSrc cSt cAI cAJ) := ⟨hx, hb, hts, hown, hK⟩
  have htab : ∀ x ∈ c.exceptionTable.toList, False := fun x hx => htab x hx
  have hl := lv_entry ([.ref (ad o), .int a0]) (n := 2) (Nat.le_of_ble_eq_true rfl)
  rw [lg_entry_eq]
  generalize (lg_sl ([.ref (ad o), .int a0]) ++ List.replicate (2 - (lg_sl ([.ref (ad o), .int a0])).length) Slot.unset).toArray = ls at hl ⊢
  have hl : lv_has ls 2 [(0, .ref (ad o)), (1, .int a0)] := hl
  have hgl := GL.rf T
  have had : ∀ n, n < T.1 → ad n = ad n := fun _ _ => rfl
  have hT1 := s_X11_restore h
  have hcs := cs_okx hgl hT1
  have hcx := cs_okx1 hgl hT1
  refine w_cast (Nat.sub_self T.1).symm (Nat.sub_self (sg T)).symm ?_
  have cp0 := cpr0 hrc
  unfold g_X11_restore at h
  refine lv_iload_n hx hb dX11_restore_0 rfl (lv_at hl 1 rfl) ?_
  refine lv_iconst (v := 2) hx hb dX11_restore_1 (by decide) ?_
  rcases othr_t h with ⟨r0, eT2⟩ | ⟨r4, T2, eT2, h⟩
  · refine q_xsv (As := [.int a0, .int 2]) (rest := []) E G hA hX hN hml (x_X11_needIndex l hst D cI cJ cZ cMic cSrc cSt cAI cAJ ad T a0 (2 : Int32) eT2) (cwS 2 hts (gaS qA_738 qA_739 qA_131 qA_740) rfl rfl rfl (by decide +kernel) ⟨Nat.le_of_ble_eq_true rfl, Nat.le_of_ble_eq_true rfl⟩) rfl hl.1 rfl (lv_room (Nat.le_of_ble_eq_true rfl)) dX11_restore_2 hcx (fun E9 ce q9 T9 H locs hp G hce hcv hcl => ?_)
    obtain ⟨hE, hT⟩ := hp
    subst hE
    rw [hT] at G
    exact vx_out (fun x hx => (htab x hx).elim) hlocks hce hcv hcl (fun t ht hvm => ⟨(T1, ad), trivial, ⟨⟨rfl, rfl, had⟩, by rw [ht]; exact G.1, va_K.moved hvm hK, G.2.1⟩, G.2.2.F ht⟩) G.2.2.2.2 hcx.1 hcx.2
  refine q_csv (As := [.int a0, .int 2]) (rest := []) E G hA hX hN hml (u_X11_needIndex l hst D cI cJ cZ cMic cSrc cSt cAI cAJ ad T a0 (2 : Int32) eT2) (cwS 2 hts (gaS qA_738 qA_739 qA_131 qA_740) rfl rfl rfl (by decide +kernel) ⟨Nat.le_of_ble_eq_true rfl, Nat.le_of_ble_eq_true rfl⟩) rfl hl.1 rfl (lv_room (Nat.le_of_ble_eq_true rfl)) dX11_restore_2 hcs (fun T3 H locs hq G => ?_)
  rw [hq] at G
  clear hq
  have cp1 := cpr_sp cp0 (s_X11_needIndex eT2)
  refine lv_aload_n hx hb dX11_restore_5 rfl (lv_at hl 0 rfl) ?_
  obtain ⟨g6, h⟩ := oif_some h
  obtain ⟨n7, en7, h⟩ := obind_some h
  have h_n7 : n7 < T.1 := by rw [← cp1.1]; exact cp1.2.2 _ _ _ en7
  refine c_get E G o 10 (v := .ref (ad n7)) (oO_k g6).1 (cc_o11 (oO_k g6).2) rfl (fun w h => .tail _ (iA_23 h)) (by decide) (.tail _ qA_668) rfl (by rw [en7]; rfl) dX11_restore_6 ?_
  clear en7
  refine lv_iload_n hx hb dX11_restore_9 rfl (lv_at hl 1 rfl) ?_
  obtain ⟨g8, h⟩ := oif_some h
  obtain ⟨g9, h⟩ := oif_some h
  refine c_zald E G n7 2 (k := a0.toNatClampNeg) (aA_k g8).1 (cc_a102 (aA_k g8).2.1) rfl (inb_k g9).1 (inb_k g9).2 (aA_k g8).2.2 dX11_restore_10 ?_
  refine lv_topi (fun v10 ev10 => ?_)
  have h := elet_at ev10 h
  clear ev10
  refine lv_if_ne (tgt := 22) hx hb dX11_restore_11 (by decide) (fun c11 => ?_) (fun c11 => ?_)
  · have h := oif_neg c11 h
    refine lv_aload_n hx hb dX11_restore_22 rfl (lv_at hl 0 rfl) ?_
    obtain ⟨g12, h⟩ := oif_some h
    obtain ⟨n13, en13, h⟩ := obind_some h
    have h_n13 : n13 < T.1 := by rw [← cp1.1]; exact cp1.2.2 _ _ _ en13
    refine c_get E G o 6 (v := .ref (ad n13)) (oO_k g12).1 (cc_o11 (oO_k g12).2) rfl (fun w h => .tail _ (iA_23 h)) (by decide) (.tail _ qA_664) rfl (by rw [en13]; rfl) dX11_restore_23 ?_
    clear en13
    refine lv_aload_n hx hb dX11_restore_26 rfl (lv_at hl 0 rfl) ?_
    obtain ⟨g14, h⟩ := oif_some h
    obtain ⟨n15, en15, h⟩ := obind_some h
    have h_n15 : n15 < T.1 := by rw [← cp1.1]; exact cp1.2.2 _ _ _ en15
    refine c_get E G o 9 (v := .ref (ad n15)) (oO_k g14).1 (cc_o11 (oO_k g14).2) rfl (fun w h => .tail _ (iA_23 h)) (by decide) (.tail _ qA_667) rfl (by rw [en15]; rfl) dX11_restore_27 ?_
    clear en15
    refine lv_iload_n hx hb dX11_restore_30 rfl (lv_at hl 1 rfl) ?_
    obtain ⟨g16, h⟩ := oif_some h
    obtain ⟨g17, h⟩ := oif_some h
    obtain ⟨n18, en18, h⟩ := obind_some h
    have h_n18 : n18 < T.1 := by rw [← cp1.1]; exact cp1.2.2 _ _ _ en18
    refine c_aldq E G n15 5 (k := a0.toNatClampNeg) (v := .ref (ad n18)) (aA_k g16).1 (cc_a105 (aA_k g16).2.1) rfl (inb_k g17).1 (inb_k g17).2 (aA_k g16).2.2 (by show va_rf ((T2.2.2.2.2 n15 a0.toNatClampNeg).map ad) = _; rw [en18]; rfl) dX11_restore_31 ?_
    clear en18
    obtain ⟨g19, h⟩ := oif_some h
    obtain ⟨T20, eT20, h⟩ := obind_some h
    have hg2 := s_X8_copyFrom eT20
    have hrc2 := hg2.2.2 cp1.2.2
    have hT2 := s_X11_restore_b35 _ _ h
    refine q_avv (As := [.ref (ad n18)]) (rest := []) E G hA hX hN hml (a_X8_copyFrom l hst D cI cJ cZ cMic cSrc cSt cAI cAJ ad T2 n13 n18 eT20 cp1.2.2 (by rw [cp1.1]; exact h_n13) (by rw [cp1.1]; exact h_n18)) (cwV 1 hts (gaV qA_911 qA_912 qA_913 qA_47 qA_603) rfl rfl rfl (by decide +kernel) ⟨Nat.le_of_ble_eq_true rfl, Nat.le_of_ble_eq_true rfl⟩) (oO_k g19).1 (cc_o8 (oO_k g19).2) rfl rfl hl.1 rfl (lv_room (Nat.le_of_ble_eq_true rfl)) dX11_restore_32 (cs_avx hgl cp1 hg2 hT2) (fun ad2 H locs hga G => ?_)
    refine w_cast (c2 := T20.1 - T.1) (s2 := sg T20 - sg T) (cs_f1 hgl cp1 hg2) (cs_f2 hgl cp1 hg2) ?_
    have hl := lv_sub hl [0] rfl
    rw [show ad o = ad2 o from (hga o (by rw [cp1.1]; exact h_o)).symm] at hl
    exact b_X11_restore_b35 E hA hX hN hml hst htab hlocks (fun ad H locs t had G hvm h1 h2 => ⟨(T1, ad), trivial, ⟨⟨rfl, rfl, had⟩, (c_thrown G hK hvm h1 h2).1⟩, (c_thrown G hK hvm h1 h2).2⟩) _ _ _ _ _ _ h (GL.tr (gl_cpr hgl cp1) hg2) hrc2 (fun n hn => (hga n (by rw [cp1.1]; exact Nat.lt_of_lt_of_le hn hgl.1)).trans (had n hn)) (Nat.lt_of_lt_of_le (by rw [cp1.1]; exact h_o) hg2.1) G hl
  · have h := oif_pos c11 h
    have hz : exn e1 = xISE := by rw [show e1 = 0 by have := (osome3 h).1; omega]; rfl
    rw [(osome3 h).2.2] at G
    refine w_cast (c2 := T1.1 - T.1) (s2 := sg T1 - sg T) (by rw [← (osome3 h).2.2, cp1.1] <;> rfl) (by rw [← (osome3 h).2.2, sg_cpr cp1] <;> rfl) ?_
    refine vx_throw0 (own := RX11) (cls := xISE) (names := ["java/lang/RuntimeException", "java/lang/Exception"]) (ik := 397) (ic := 399) (A := A) hx hb hst hown (by decide +kernel) (by decide +kernel) (hts _ (.tail _ qA_732)) (hts _ (.tail _ qA_733)) (vx_hat (B := xB) (fun w h => hts w (.tail _ (iA_26 h))) (by decide +kernel) hX.use) (by decide +kernel) hX.1 hX.2.1 G.2.2 (hl.1.trans hml.symm) dX11_restore_14 dX11_restore_17 dX11_restore_18 dX11_restore_21 (fun x hx => (htab x hx).elim) (Nat.le_of_ble_eq_true rfl) (Nat.le_of_ble_eq_true rfl) (Nat.le_refl _) (Nat.le_refl _) hlocks (fun t hvm h1 h2 => ?_) G.2.2.2.2 (Nat.le_refl _) (Nat.le_refl _)
    exact ⟨(T1, ad), trivial, ⟨⟨hz.symm, rfl, had⟩, (c_thrown G hK hvm h1 h2).1⟩, (c_thrown G hK hvm h1 h2).2⟩
