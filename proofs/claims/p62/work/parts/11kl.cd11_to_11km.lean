section
/-! 11kl.cd11.lean.txt -/
def g_X11_isMuted (T : AT) (o : Nat) (a0 : Int32) : Option (Nat × Int32 × AT) := oif (oO T o 11 = true) <| othr (g_X11_needCamera T o) 0 fun r5 T3 => oif (oO T3 o 11 = true) <| othr (g_X11_needMic T3 o a0) 0 fun r10 T8 => oif (oO T8 o 11 = true) <| obind (T8.2.2.2.2 o 6) fun n13 => oif (oO T8 n13 8 = true) <| obind (T8.2.2.2.2 n13 3) fun n15 => oif (aA T8 n15 102 = true) <| oif (inb a0 (T8.2.1 n15).2 = true) <| elet (T8.2.2.1 n15 a0.toNatClampNeg) fun v18 => oif (v18 = 0 ∨ v18 = 1) <| some (0, v18, T8)
set_option maxHeartbeats 4000000 in
set_option maxRecDepth 100000 in
theorem u_X11_isMuted (l : Launch) (hst : l.stackTraces = false) (D : va_G) (cI cJ cZ cMic cSrc cSt cAI cAJ : ClassId) (ad : Nat → Nat) (T : AT) (o : Nat) (a0 : Int32) {r1 : Int32} {T1 : AT} (h : g_X11_isMuted T o a0 = some (0, r1, T1)) : kCi l yX11_isMuted (Cond.code yX11_isMuted cX11_isMuted 2 (some .boolean) :: wsA) 8 123 cI cJ cZ cMic cSrc cSt cAI cAJ D ad T [.ref (ad o), .int a0] (fun r T9 => r = r1 ∧ T9 = T1) := by
  intro sz
  refine Met.ofW (cc := cX11_isMuted) (maxL := 2) (ret := (some .boolean)) (by decide) rfl ?_
  intro p e s m args below meth c s₁ B hml hv
  obtain ⟨rfl, hsz, hP, hK, hD0, hX, hN⟩ := hv
  have hx := B.exec
  have hb := B.bytes
  have hr := B.returns
  have hts := atoms_spec (ws := (Cond.code yX11_isMuted cX11_isMuted 2 (some .boolean) :: wsA)) B.pre
  have hown : s.vm.findClass RX11 = some m.cls := findClass_of_methodNamed B.named
  have hlocks := B.notSynchronized
  subst hsz
  have hD := hD0.self (sz := s.heap.size)
  generalize hAe : va_A (cW ad T.1 (cc cI cJ cZ cMic cSrc cSt cAI cAJ ad T)) s.heap.size = A at hD hX ⊢
  have hA : ∀ q : Nat, s.heap.size ≤ q → A q := fun q h => by rw [← hAe]; exact Or.inr h
  have G : gC cI cJ cZ cMic cSrc cSt cAI cAJ D ad A s.heap s.heap [] T := ⟨hP, hD, va_S.rf⟩
  have E : cE p c cX11_isMuted s m ([.ref (ad o), .int a0] : List Value).toArray (Cond.code yX11_isMuted cX11_isMuted 2 (some .boolean) :: wsA) D RX11 (CT cI cJ cZ cMic cSrc cSt cAI cAJ) := ⟨hx, hb, hts, hown, hK⟩
  have hl := lv_entry ([.ref (ad o), .int a0]) (n := 2) (Nat.le_of_ble_eq_true rfl)
  rw [lg_entry_eq]
  generalize (lg_sl ([.ref (ad o), .int a0]) ++ List.replicate (2 - (lg_sl ([.ref (ad o), .int a0])).length) Slot.unset).toArray = ls at hl ⊢
  have hl : lv_has ls 2 [(0, .ref (ad o)), (1, .int a0)] := hl
  unfold g_X11_isMuted at h
  refine lv_aload_n hx hb dX11_isMuted_0 rfl (lv_at hl 0 rfl) ?_
  obtain ⟨g2, h⟩ := oif_some h
  obtain ⟨r5, T3, eT3, h⟩ := othr_n h
  refine q_cvv (As := []) (rest := []) E G hA hX hN hml (u_X11_needCamera l hst D cI cJ cZ cMic cSrc cSt cAI cAJ ad T o eT3) (cwV 0 hts (gaV qA_728 qA_729 qA_730 qA_131 qA_731) rfl rfl rfl (by decide +kernel) ⟨Nat.le_of_ble_eq_true rfl, Nat.le_of_ble_eq_true rfl⟩) (oO_k g2).1 (cc_o11 (oO_k g2).2) rfl rfl hl.1 rfl (lv_room (Nat.le_of_ble_eq_true rfl)) dX11_isMuted_1 ⟨Nat.zero_le _, Nat.zero_le _⟩ (fun T4 H locs hq G => ?_)
  rw [hq] at G
  clear hq eT3
  refine lv_aload_n hx hb dX11_isMuted_4 rfl (lv_at hl 0 rfl) ?_
  refine lv_iload_n hx hb dX11_isMuted_5 rfl (lv_at hl 1 rfl) ?_
  obtain ⟨g7, h⟩ := oif_some h
  obtain ⟨r10, T8, eT8, h⟩ := othr_n h
  refine q_cvv (As := [.int a0]) (rest := []) E G hA hX hN hml (u_X11_needMic l hst D cI cJ cZ cMic cSrc cSt cAI cAJ ad T3 o a0 eT8) (cwV 1 hts (gaV qA_734 qA_735 qA_736 qA_131 qA_737) rfl rfl rfl (by decide +kernel) ⟨Nat.le_of_ble_eq_true rfl, Nat.le_of_ble_eq_true rfl⟩) (oO_k g7).1 (cc_o11 (oO_k g7).2) rfl rfl hl.1 rfl (lv_room (Nat.le_of_ble_eq_true rfl)) dX11_isMuted_6 ⟨Nat.zero_le _, Nat.zero_le _⟩ (fun T9 H locs hq G => ?_)
  rw [hq] at G
  clear hq eT8
  refine lv_aload_n hx hb dX11_isMuted_9 rfl (lv_at hl 0 rfl) ?_
  obtain ⟨g12, h⟩ := oif_some h
  obtain ⟨n13, en13, h⟩ := obind_some h
  refine c_get E G o 6 (v := .ref (ad n13)) (oO_k g12).1 (cc_o11 (oO_k g12).2) rfl (fun w h => .tail _ (iA_23 h)) (by decide) (.tail _ qA_664) rfl (by rw [en13]; rfl) dX11_isMuted_10 ?_
  clear en13
  obtain ⟨g14, h⟩ := oif_some h
  obtain ⟨n15, en15, h⟩ := obind_some h
  refine c_get E G n13 3 (v := .ref (ad n15)) (oO_k g14).1 (cc_o8 (oO_k g14).2) rfl (fun w h => .tail _ (iA_16 h)) (by decide) (.tail _ qA_746) rfl (by rw [en15]; rfl) dX11_isMuted_13 ?_
  clear en15
  refine lv_iload_n hx hb dX11_isMuted_16 rfl (lv_at hl 1 rfl) ?_
  obtain ⟨g16, h⟩ := oif_some h
  obtain ⟨g17, h⟩ := oif_some h
  refine c_zald E G n15 2 (k := a0.toNatClampNeg) (aA_k g16).1 (cc_a102 (aA_k g16).2.1) rfl (inb_k g17).1 (inb_k g17).2 (aA_k g16).2.2 dX11_isMuted_17 ?_
  refine lv_topi (fun v18 ev18 => ?_)
  have h := elet_at ev18 h
  clear ev18
  obtain ⟨gz, h⟩ := oif_some h
  exact W.zret (v := v18) hx hb hr (nar01 gz) (fun t ht hW => ⟨⟨v18, T8, rfl, (osome3 h).2, ⟨by rw [ht]; exact G.1, va_K.moved hW.alike hK, G.2.1⟩⟩, G.2.2.F ht⟩) G.2.2.2.2 dX11_isMuted_18
set_option maxHeartbeats 4000000 in
set_option maxRecDepth 100000 in
theorem s_X11_isMuted {T : AT} {o : Nat} {a0 : Int32} {e1 : Nat} {r1 : Int32} {T1 : AT} (h : g_X11_isMuted T o a0 = some (e1, r1, T1)) : SP T T1 := by
  have p0 := SP.rf T
  unfold g_X11_isMuted at h
  obtain ⟨g2, h⟩ := oif_some h
  rcases othr_s h with ⟨k9, r9, e9, -⟩ | ⟨r4, T3, eT3, h⟩
  · exact SP.tr p0 (s_X11_needCamera e9)
  have p1 : SP T T3 := SP.tr p0 (s_X11_needCamera eT3)
  obtain ⟨g5, h⟩ := oif_some h
  rcases othr_s h with ⟨k9, r9, e9, -⟩ | ⟨r7, T6, eT6, h⟩
  · exact SP.tr p1 (s_X11_needMic e9)
  have p2 : SP T T6 := SP.tr p1 (s_X11_needMic eT6)
  obtain ⟨g8, h⟩ := oif_some h
  obtain ⟨n9, en9, h⟩ := obind_some h
  obtain ⟨g10, h⟩ := oif_some h
  obtain ⟨n11, en11, h⟩ := obind_some h
  obtain ⟨g12, h⟩ := oif_some h
  obtain ⟨g13, h⟩ := oif_some h
  obtain ⟨v14, -, h⟩ := elet_some h
  obtain ⟨gz, h⟩ := oif_some h
  rw [← (osome3 h).2.2]
  exact p2
set_option maxHeartbeats 4000000 in
set_option maxRecDepth 100000 in
theorem x_X11_isMuted (l : Launch) (hst : l.stackTraces = false) (D : va_G) (cI cJ cZ cMic cSrc cSt cAI cAJ : ClassId) (ad : Nat → Nat) (T : AT) (o : Nat) (a0 : Int32) {e1 : Nat} {r1 : Int32} {T1 : AT} (h : g_X11_isMuted T o a0 = some (e1 + 1, r1, T1)) : kXi l yX11_isMuted (Cond.code yX11_isMuted cX11_isMuted 2 (some .boolean) :: wsA) 8 123 cI cJ cZ cMic cSrc cSt cAI cAJ D ad T [.ref (ad o), .int a0] e1 T1 := by
  intro sz
  refine vx_ofW (cc := cX11_isMuted) (maxL := 2) (ret := (some .boolean)) (by decide) rfl ?_
  intro p e s m args below meth c s₁ B hml htab hv
  obtain ⟨rfl, hsz, hP, hK, hD0, hX, hN⟩ := hv
  have hx := B.exec
  have hb := B.bytes
  have hr := B.returns
  have hts := atoms_spec (ws := (Cond.code yX11_isMuted cX11_isMuted 2 (some .boolean) :: wsA)) B.pre
  have hown : s.vm.findClass RX11 = some m.cls := findClass_of_methodNamed B.named
  have hlocks := B.notSynchronized
  subst hsz
  have hD := hD0.self (sz := s.heap.size)
  generalize hAe : va_A (cW ad T.1 (cc cI cJ cZ cMic cSrc cSt cAI cAJ ad T)) s.heap.size = A at hD hX ⊢
  have hA : ∀ q : Nat, s.heap.size ≤ q → A q := fun q h => by rw [← hAe]; exact Or.inr h
  have G : gC cI cJ cZ cMic cSrc cSt cAI cAJ D ad A s.heap s.heap [] T := ⟨hP, hD, va_S.rf⟩
  have E : cE p c cX11_isMuted s m ([.ref (ad o), .int a0] : List Value).toArray (Cond.code yX11_isMuted cX11_isMuted 2 (some .boolean) :: wsA) D RX11 (CT cI cJ cZ cMic cSrc cSt cAI cAJ) := ⟨hx, hb, hts, hown, hK⟩
  have htab : ∀ x ∈ c.exceptionTable.toList, False := fun x hx => htab x hx
  have hl := lv_entry ([.ref (ad o), .int a0]) (n := 2) (Nat.le_of_ble_eq_true rfl)
  rw [lg_entry_eq]
  generalize (lg_sl ([.ref (ad o), .int a0]) ++ List.replicate (2 - (lg_sl ([.ref (ad o), .int a0])).length) Slot.unset).toArray = ls at hl ⊢
  have hl : lv_has ls 2 [(0, .ref (ad o)), (1, .int a0)] := hl
  unfold g_X11_isMuted at h
  refine lv_aload_n hx hb dX11_isMuted_0 rfl (lv_at hl 0 rfl) ?_
  obtain ⟨g2, h⟩ := oif_some h
  rcases othr_t h with ⟨r0, eT3⟩ | ⟨r5, T3, eT3, h⟩
  · refine q_xvv (As := []) (rest := []) E G hA hX hN hml (x_X11_needCamera l hst D cI cJ cZ cMic cSrc cSt cAI cAJ ad T o eT3) (cwV 0 hts (gaV qA_728 qA_729 qA_730 qA_131 qA_731) rfl rfl rfl (by decide +kernel) ⟨Nat.le_of_ble_eq_true rfl, Nat.le_of_ble_eq_true rfl⟩) (oO_k g2).1 (cc_o11 (oO_k g2).2) rfl rfl hl.1 rfl (lv_room (Nat.le_of_ble_eq_true rfl)) dX11_isMuted_1 ⟨Nat.le_of_ble_eq_true rfl, Nat.le_of_ble_eq_true rfl⟩ (fun E9 ce q9 T9 H locs hp G hce hcv hcl => ?_)
    obtain ⟨hE, hT⟩ := hp
    subst hE
    rw [hT] at G
    exact vx_out (fun x hx => (htab x hx).elim) hlocks hce hcv hcl (fun t ht hvm => ⟨T1, trivial, ⟨⟨rfl, rfl⟩, by rw [ht]; exact G.1, va_K.moved hvm hK, G.2.1⟩, G.2.2.F ht⟩) G.2.2.2.2 (Nat.le_refl _) (Nat.le_refl _)
  refine q_cvv (As := []) (rest := []) E G hA hX hN hml (u_X11_needCamera l hst D cI cJ cZ cMic cSrc cSt cAI cAJ ad T o eT3) (cwV 0 hts (gaV qA_728 qA_729 qA_730 qA_131 qA_731) rfl rfl rfl (by decide +kernel) ⟨Nat.le_of_ble_eq_true rfl, Nat.le_of_ble_eq_true rfl⟩) (oO_k g2).1 (cc_o11 (oO_k g2).2) rfl rfl hl.1 rfl (lv_room (Nat.le_of_ble_eq_true rfl)) dX11_isMuted_1 ⟨Nat.zero_le _, Nat.zero_le _⟩ (fun T4 H locs hq G => ?_)
  rw [hq] at G
  clear hq eT3
  refine lv_aload_n hx hb dX11_isMuted_4 rfl (lv_at hl 0 rfl) ?_
  refine lv_iload_n hx hb dX11_isMuted_5 rfl (lv_at hl 1 rfl) ?_
  obtain ⟨g7, h⟩ := oif_some h
  rcases othr_t h with ⟨r0, eT8⟩ | ⟨r10, T8, eT8, h⟩
  · refine q_xvv (As := [.int a0]) (rest := []) E G hA hX hN hml (x_X11_needMic l hst D cI cJ cZ cMic cSrc cSt cAI cAJ ad T3 o a0 eT8) (cwV 1 hts (gaV qA_734 qA_735 qA_736 qA_131 qA_737) rfl rfl rfl (by decide +kernel) ⟨Nat.le_of_ble_eq_true rfl, Nat.le_of_ble_eq_true rfl⟩) (oO_k g7).1 (cc_o11 (oO_k g7).2) rfl rfl hl.1 rfl (lv_room (Nat.le_of_ble_eq_true rfl)) dX11_isMuted_6 ⟨Nat.le_of_ble_eq_true rfl, Nat.le_of_ble_eq_true rfl⟩ (fun E9 ce q9 T9 H locs hp G hce hcv hcl => ?_)
    obtain ⟨hE, hT⟩ := hp
    subst hE
    rw [hT] at G
    exact vx_out (fun x hx => (htab x hx).elim) hlocks hce hcv hcl (fun t ht hvm => ⟨T1, trivial, ⟨⟨rfl, rfl⟩, by rw [ht]; exact G.1, va_K.moved hvm hK, G.2.1⟩, G.2.2.F ht⟩) G.2.2.2.2 (Nat.le_refl _) (Nat.le_refl _)
  refine q_cvv (As := [.int a0]) (rest := []) E G hA hX hN hml (u_X11_needMic l hst D cI cJ cZ cMic cSrc cSt cAI cAJ ad T3 o a0 eT8) (cwV 1 hts (gaV qA_734 qA_735 qA_736 qA_131 qA_737) rfl rfl rfl (by decide +kernel) ⟨Nat.le_of_ble_eq_true rfl, Nat.le_of_ble_eq_true rfl⟩) (oO_k g7).1 (cc_o11 (oO_k g7).2) rfl rfl hl.1 rfl (lv_room (Nat.le_of_ble_eq_true rfl)) dX11_isMuted_6 ⟨Nat.zero_le _, Nat.zero_le _⟩ (fun T9 H locs hq G => ?_)
  rw [hq] at G
  clear hq eT8
  refine lv_aload_n hx hb dX11_isMuted_9 rfl (lv_at hl 0 rfl) ?_
  obtain ⟨g12, h⟩ := oif_some h
  obtain ⟨n13, en13, h⟩ := obind_some h
  refine c_get E G o 6 (v := .ref (ad n13)) (oO_k g12).1 (cc_o11 (oO_k g12).2) rfl (fun w h => .tail _ (iA_23 h)) (by decide) (.tail _ qA_664) rfl (by rw [en13]; rfl) dX11_isMuted_10 ?_
  clear en13
  obtain ⟨g14, h⟩ := oif_some h
  obtain ⟨n15, en15, h⟩ := obind_some h
  refine c_get E G n13 3 (v := .ref (ad n15)) (oO_k g14).1 (cc_o8 (oO_k g14).2) rfl (fun w h => .tail _ (iA_16 h)) (by decide) (.tail _ qA_746) rfl (by rw [en15]; rfl) dX11_isMuted_13 ?_
  clear en15
  refine lv_iload_n hx hb dX11_isMuted_16 rfl (lv_at hl 1 rfl) ?_
  obtain ⟨g16, h⟩ := oif_some h
  obtain ⟨g17, h⟩ := oif_some h
  refine c_zald E G n15 2 (k := a0.toNatClampNeg) (aA_k g16).1 (cc_a102 (aA_k g16).2.1) rfl (inb_k g17).1 (inb_k g17).2 (aA_k g16).2.2 dX11_isMuted_17 ?_
  refine lv_topi (fun v18 ev18 => ?_)
  have h := elet_at ev18 h
  clear ev18
  obtain ⟨gz, h⟩ := oif_some h
  exact (Nat.succ_ne_zero _ (congrArg Prod.fst (Option.some.inj h)).symm).elim
def g_X11_columns (T : AT) (o : Nat) : Option (Int32 × AT) := oif (oO T o 11 = true) <| obind (T.2.2.2.2 o 14) fun n3 => oif (oO T n3 6 = true) <| obind (T.2.2.2.2 n3 6) fun n5 => oif (oO T n5 1 = true) <| elet (T.2.2.1 n5 3) fun v7 => some (v7, T)
set_option maxHeartbeats 4000000 in
set_option maxRecDepth 100000 in
theorem u_X11_columns (l : Launch) (hst : l.stackTraces = false) (D : va_G) (cI cJ cZ cMic cSrc cSt cAI cAJ : ClassId) (ad : Nat → Nat) (T : AT) (o : Nat) {r1 : Int32} {T1 : AT} (h : g_X11_columns T o = some (r1, T1)) : kCi l yX11_columns (Cond.code yX11_columns cX11_columns 1 (some .int) :: wsA) 1 0 cI cJ cZ cMic cSrc cSt cAI cAJ D ad T [.ref (ad o)] (fun r T9 => r = r1 ∧ T9 = T1) := by
  intro sz
  refine Met.ofW (cc := cX11_columns) (maxL := 1) (ret := (some .int)) (by decide) rfl ?_
  intro p e s m args below meth c s₁ B hml hv
  obtain ⟨rfl, hsz, hP, hK, hD0, hX, hN⟩ := hv
  have hx := B.exec
  have hb := B.bytes
  have hr := B.returns
  have hts := atoms_spec (ws := (Cond.code yX11_columns cX11_columns 1 (some .int) :: wsA)) B.pre
  have hown : s.vm.findClass RX11 = some m.cls := findClass_of_methodNamed B.named
  have hlocks := B.notSynchronized
  subst hsz
  have hD := hD0.self (sz := s.heap.size)
  generalize hAe : va_A (cW ad T.1 (cc cI cJ cZ cMic cSrc cSt cAI cAJ ad T)) s.heap.size = A at hD hX ⊢
  have hA : ∀ q : Nat, s.heap.size ≤ q → A q := fun q h => by rw [← hAe]; exact Or.inr h
  have G : gC cI cJ cZ cMic cSrc cSt cAI cAJ D ad A s.heap s.heap [] T := ⟨hP, hD, va_S.rf⟩
  have E : cE p c cX11_columns s m ([.ref (ad o)] : List Value).toArray (Cond.code yX11_columns cX11_columns 1 (some .int) :: wsA) D RX11 (CT cI cJ cZ cMic cSrc cSt cAI cAJ) := ⟨hx, hb, hts, hown, hK⟩
  have hl := lv_entry ([.ref (ad o)]) (n := 1) (Nat.le_of_ble_eq_true rfl)
  rw [lg_entry_eq]
  generalize (lg_sl ([.ref (ad o)]) ++ List.replicate (1 - (lg_sl ([.ref (ad o)])).length) Slot.unset).toArray = ls at hl ⊢
  have hl : lv_has ls 1 [(0, .ref (ad o))] := hl
  unfold g_X11_columns at h
  refine lv_aload_n hx hb dX11_columns_0 rfl (lv_at hl 0 rfl) ?_
  obtain ⟨g2, h⟩ := oif_some h
  obtain ⟨n3, en3, h⟩ := obind_some h
  refine c_get E G o 14 (v := .ref (ad n3)) (oO_k g2).1 (cc_o11 (oO_k g2).2) rfl (fun w h => .tail _ (iA_23 h)) (by decide) (.tail _ qA_675) rfl (by rw [en3]; rfl) dX11_columns_1 ?_
  clear en3
  obtain ⟨g4, h⟩ := oif_some h
  obtain ⟨n5, en5, h⟩ := obind_some h
  refine c_get E G n3 6 (v := .ref (ad n5)) (oO_k g4).1 (cc_o6 (oO_k g4).2) rfl (fun w h => .tail _ (iA_14 h)) (by decide) (.tail _ qA_695) rfl (by rw [en5]; rfl) dX11_columns_4 ?_
  clear en5
  obtain ⟨g6, h⟩ := oif_some h
  refine c_get E G n5 3 (oO_k g6).1 (cc_o1 (oO_k g6).2) rfl (fun w h => .tail _ (iA_15 h)) (by decide) (.tail _ qA_748) rfl rfl dX11_columns_7 ?_
  refine lv_topi (fun v7 ev7 => ?_)
  have h := elet_at ev7 h
  clear ev7
  exact W.iret (v := v7) hx hb hr (fun t ht hW => ⟨⟨v7, T, rfl, osome2 h, ⟨by rw [ht]; exact G.1, va_K.moved hW.alike hK, G.2.1⟩⟩, G.2.2.F ht⟩) G.2.2.2.2 dX11_columns_10
set_option maxHeartbeats 4000000 in
set_option maxRecDepth 100000 in
theorem s_X11_columns {T : AT} {o : Nat} {r1 : Int32} {T1 : AT} (h : g_X11_columns T o = some (r1, T1)) : SP T T1 := by
  have p0 := SP.rf T
  unfold g_X11_columns at h
  obtain ⟨g2, h⟩ := oif_some h
  obtain ⟨n3, en3, h⟩ := obind_some h
  obtain ⟨g4, h⟩ := oif_some h
  obtain ⟨n5, en5, h⟩ := obind_some h
  obtain ⟨g6, h⟩ := oif_some h
  obtain ⟨v7, -, h⟩ := elet_some h
  rw [← (osome2 h).2]
  exact p0
def g_X11_rows (T : AT) (o : Nat) : Option (Int32 × AT) := oif (oO T o 11 = true) <| obind (T.2.2.2.2 o 14) fun n3 => oif (oO T n3 6 = true) <| obind (T.2.2.2.2 n3 6) fun n5 => oif (oO T n5 1 = true) <| elet (T.2.2.1 n5 4) fun v7 => some (v7, T)
set_option maxHeartbeats 4000000 in
set_option maxRecDepth 100000 in
theorem u_X11_rows (l : Launch) (hst : l.stackTraces = false) (D : va_G) (cI cJ cZ cMic cSrc cSt cAI cAJ : ClassId) (ad : Nat → Nat) (T : AT) (o : Nat) {r1 : Int32} {T1 : AT} (h : g_X11_rows T o = some (r1, T1)) : kCi l yX11_rows (Cond.code yX11_rows cX11_rows 1 (some .int) :: wsA) 1 0 cI cJ cZ cMic cSrc cSt cAI cAJ D ad T [.ref (ad o)] (fun r T9 => r = r1 ∧ T9 = T1) := by
  intro sz
  refine Met.ofW (cc := cX11_rows) (maxL := 1) (ret := (some .int)) (by decide) rfl ?_
  intro p e s m args below meth c s₁ B hml hv
  obtain ⟨rfl, hsz, hP, hK, hD0, hX, hN⟩ := hv
  have hx := B.exec
  have hb := B.bytes
  have hr := B.returns
  have hts := atoms_spec (ws := (Cond.code yX11_rows cX11_rows 1 (some .int) :: wsA)) B.pre
  have hown : s.vm.findClass RX11 = some m.cls := findClass_of_methodNamed B.named
  have hlocks := B.notSynchronized
  subst hsz
  have hD := hD0.self (sz := s.heap.size)
  generalize hAe : va_A (cW ad T.1 (cc cI cJ cZ cMic cSrc cSt cAI cAJ ad T)) s.heap.size = A at hD hX ⊢
  have hA : ∀ q : Nat, s.heap.size ≤ q → A q := fun q h => by rw [← hAe]; exact Or.inr h
  have G : gC cI cJ cZ cMic cSrc cSt cAI cAJ D ad A s.heap s.heap [] T := ⟨hP, hD, va_S.rf⟩
  have E : cE p c cX11_rows s m ([.ref (ad o)] : List Value).toArray (Cond.code yX11_rows cX11_rows 1 (some .int) :: wsA) D RX11 (CT cI cJ cZ cMic cSrc cSt cAI cAJ) := ⟨hx, hb, hts, hown, hK⟩
  have hl := lv_entry ([.ref (ad o)]) (n := 1) (Nat.le_of_ble_eq_true rfl)
  rw [lg_entry_eq]
  generalize (lg_sl ([.ref (ad o)]) ++ List.replicate (1 - (lg_sl ([.ref (ad o)])).length) Slot.unset).toArray = ls at hl ⊢
  have hl : lv_has ls 1 [(0, .ref (ad o))] := hl
  unfold g_X11_rows at h
  refine lv_aload_n hx hb dX11_rows_0 rfl (lv_at hl 0 rfl) ?_
  obtain ⟨g2, h⟩ := oif_some h
  obtain ⟨n3, en3, h⟩ := obind_some h
  refine c_get E G o 14 (v := .ref (ad n3)) (oO_k g2).1 (cc_o11 (oO_k g2).2) rfl (fun w h => .tail _ (iA_23 h)) (by decide) (.tail _ qA_675) rfl (by rw [en3]; rfl) dX11_rows_1 ?_
  clear en3
  obtain ⟨g4, h⟩ := oif_some h
  obtain ⟨n5, en5, h⟩ := obind_some h
  refine c_get E G n3 6 (v := .ref (ad n5)) (oO_k g4).1 (cc_o6 (oO_k g4).2) rfl (fun w h => .tail _ (iA_14 h)) (by decide) (.tail _ qA_695) rfl (by rw [en5]; rfl) dX11_rows_4 ?_
  clear en5
  obtain ⟨g6, h⟩ := oif_some h
  refine c_get E G n5 4 (oO_k g6).1 (cc_o1 (oO_k g6).2) rfl (fun w h => .tail _ (iA_15 h)) (by decide) (.tail _ qA_750) rfl rfl dX11_rows_7 ?_
  refine lv_topi (fun v7 ev7 => ?_)
  have h := elet_at ev7 h
  clear ev7
  exact W.iret (v := v7) hx hb hr (fun t ht hW => ⟨⟨v7, T, rfl, osome2 h, ⟨by rw [ht]; exact G.1, va_K.moved hW.alike hK, G.2.1⟩⟩, G.2.2.F ht⟩) G.2.2.2.2 dX11_rows_10
set_option maxHeartbeats 4000000 in
set_option maxRecDepth 100000 in
theorem s_X11_rows {T : AT} {o : Nat} {r1 : Int32} {T1 : AT} (h : g_X11_rows T o = some (r1, T1)) : SP T T1 := by
  have p0 := SP.rf T
  unfold g_X11_rows at h
  obtain ⟨g2, h⟩ := oif_some h
  obtain ⟨n3, en3, h⟩ := obind_some h
  obtain ⟨g4, h⟩ := oif_some h
  obtain ⟨n5, en5, h⟩ := obind_some h
  obtain ⟨g6, h⟩ := oif_some h
  obtain ⟨v7, -, h⟩ := elet_some h
  rw [← (osome2 h).2]
  exact p0
def g_X11_needCell (T : AT) (o : Nat) (a0 : Int32) : Option (Nat × Int32 × AT) := oif (oO T o 11 = true) <| obind (T.2.2.2.2 o 14) fun n3 => oif (oO T n3 6 = true) <| obind (T.2.2.2.2 n3 6) fun n5 => oif (oO T n5 1 = true) <| obind2 (g_X1_cells T n5) fun r9 T7 => othr (g_X11_needIndex T7 a0 r9) 0 fun r13 T11 => some (0, 0, T11)
set_option maxHeartbeats 4000000 in
set_option maxRecDepth 100000 in
theorem u_X11_needCell (l : Launch) (hst : l.stackTraces = false) (D : va_G) (cI cJ cZ cMic cSrc cSt cAI cAJ : ClassId) (ad : Nat → Nat) (T : AT) (o : Nat) (a0 : Int32) {r1 : Int32} {T1 : AT} (h : g_X11_needCell T o a0 = some (0, r1, T1)) : kCv l yX11_needCell (Cond.code yX11_needCell cX11_needCell 2 none :: wsA) 7 102 cI cJ cZ cMic cSrc cSt cAI cAJ D ad T [.ref (ad o), .int a0] (fun T9 => T9 = T1) := by
  intro sz
  refine Met.ofW (cc := cX11_needCell) (maxL := 2) (ret := none) (by decide) rfl ?_
  intro p e s m args below meth c s₁ B hml hv
  obtain ⟨rfl, hsz, hP, hK, hD0, hX, hN⟩ := hv
  have hx := B.exec
  have hb := B.bytes
  have hr := B.returns
  have hts := atoms_spec (ws := (Cond.code yX11_needCell cX11_needCell 2 none :: wsA)) B.pre
  have hown : s.vm.findClass RX11 = some m.cls := findClass_of_methodNamed B.named
  have hlocks := B.notSynchronized
  subst hsz
  have hD := hD0.self (sz := s.heap.size)
  generalize hAe : va_A (cW ad T.1 (cc cI cJ cZ cMic cSrc cSt cAI cAJ ad T)) s.heap.size = A at hD hX ⊢
  have hA : ∀ q : Nat, s.heap.size ≤ q → A q := fun q h => by rw [← hAe]; exact Or.inr h
  have G : gC cI cJ cZ cMic cSrc cSt cAI cAJ D ad A s.heap s.heap [] T := ⟨hP, hD, va_S.rf⟩
  have E : cE p c cX11_needCell s m ([.ref (ad o), .int a0] : List Value).toArray (Cond.code yX11_needCell cX11_needCell 2 none :: wsA) D RX11 (CT cI cJ cZ cMic cSrc cSt cAI cAJ) := ⟨hx, hb, hts, hown, hK⟩
  have hl := lv_entry ([.ref (ad o), .int a0]) (n := 2) (Nat.le_of_ble_eq_true rfl)
  rw [lg_entry_eq]
  generalize (lg_sl ([.ref (ad o), .int a0]) ++ List.replicate (2 - (lg_sl ([.ref (ad o), .int a0])).length) Slot.unset).toArray = ls at hl ⊢
  have hl : lv_has ls 2 [(0, .ref (ad o)), (1, .int a0)] := hl
  unfold g_X11_needCell at h
  refine lv_iload_n hx hb dX11_needCell_0 rfl (lv_at hl 1 rfl) ?_
  refine lv_aload_n hx hb dX11_needCell_1 rfl (lv_at hl 0 rfl) ?_
  obtain ⟨g2, h⟩ := oif_some h
  obtain ⟨n3, en3, h⟩ := obind_some h
  refine c_get E G o 14 (v := .ref (ad n3)) (oO_k g2).1 (cc_o11 (oO_k g2).2) rfl (fun w h => .tail _ (iA_23 h)) (by decide) (.tail _ qA_675) rfl (by rw [en3]; rfl) dX11_needCell_2 ?_
  clear en3
  obtain ⟨g4, h⟩ := oif_some h
  obtain ⟨n5, en5, h⟩ := obind_some h
  refine c_get E G n3 6 (v := .ref (ad n5)) (oO_k g4).1 (cc_o6 (oO_k g4).2) rfl (fun w h => .tail _ (iA_14 h)) (by decide) (.tail _ qA_695) rfl (by rw [en5]; rfl) dX11_needCell_5 ?_
  clear en5
  obtain ⟨g6, h⟩ := oif_some h
  obtain ⟨r9, T7, eT7, h⟩ := obind2_some h
  refine q_cvi (As := []) (rest := [.int a0]) E G hA hX hN hml (u_X1_cells l hst D cI cJ cZ cMic cSrc cSt cAI cAJ ad T n5 eT7) (cwV 0 hts (gaV qA_714 qA_35 qA_36 qA_37 qA_38) rfl rfl rfl (by decide +kernel) ⟨Nat.le_of_ble_eq_true rfl, Nat.le_of_ble_eq_true rfl⟩) (oO_k g6).1 (cc_o1 (oO_k g6).2) rfl rfl hl.1 rfl (lv_room (Nat.le_of_ble_eq_true rfl)) dX11_needCell_8 ⟨Nat.zero_le _, Nat.zero_le _⟩ (fun q10 T8 H locs hq G => ?_)
  obtain ⟨hq1, hq2⟩ := hq
  rw [hq2] at G
  refine lv_to hq1 ?_
  clear hq1 hq2 eT7
  obtain ⟨r13, T11, eT11, h⟩ := othr_n h
  refine q_csv (As := [.int a0, .int r9]) (rest := []) E G hA hX hN hml (u_X11_needIndex l hst D cI cJ cZ cMic cSrc cSt cAI cAJ ad T7 a0 r9 eT11) (cwS 2 hts (gaS qA_738 qA_739 qA_131 qA_740) rfl rfl rfl (by decide +kernel) ⟨Nat.le_of_ble_eq_true rfl, Nat.le_of_ble_eq_true rfl⟩) rfl hl.1 rfl (lv_room (Nat.le_of_ble_eq_true rfl)) dX11_needCell_11 ⟨Nat.zero_le _, Nat.zero_le _⟩ (fun T12 H locs hq G => ?_)
  rw [hq] at G
  clear hq eT11
  exact W.vret hx hb hr (fun t ht hW => ⟨⟨T11, rfl, (osome3 h).2.2, ⟨by rw [ht]; exact G.1, va_K.moved hW.alike hK, G.2.1⟩⟩, G.2.2.F ht⟩) G.2.2.2.2 dX11_needCell_14
set_option maxHeartbeats 4000000 in
set_option maxRecDepth 100000 in
theorem s_X11_needCell {T : AT} {o : Nat} {a0 : Int32} {e1 : Nat} {r1 : Int32} {T1 : AT} (h : g_X11_needCell T o a0 = some (e1, r1, T1)) : SP T T1 := by
  have p0 := SP.rf T
  unfold g_X11_needCell at h
  obtain ⟨g2, h⟩ := oif_some h
  obtain ⟨n3, en3, h⟩ := obind_some h
  obtain ⟨g4, h⟩ := oif_some h
  obtain ⟨n5, en5, h⟩ := obind_some h
  obtain ⟨g6, h⟩ := oif_some h
  obtain ⟨r8, T7, eT7, h⟩ := obind2_some h
  have p1 : SP T T7 := SP.tr p0 (s_X1_cells eT7)
  rcases othr_s h with ⟨k9, r9, e9, -⟩ | ⟨r10, T9, eT9, h⟩
  · exact SP.tr p1 (s_X11_needIndex e9)
  have p2 : SP T T9 := SP.tr p1 (s_X11_needIndex eT9)
  rw [← (osome3 h).2.2]
  exact p2
set_option maxHeartbeats 4000000 in
set_option maxRecDepth 100000 in
theorem x_X11_needCell (l : Launch) (hst : l.stackTraces = false) (D : va_G) (cI cJ cZ cMic cSrc cSt cAI cAJ : ClassId) (ad : Nat → Nat) (T : AT) (o : Nat) (a0 : Int32) {e1 : Nat} {r1 : Int32} {T1 : AT} (h : g_X11_needCell T o a0 = some (e1 + 1, r1, T1)) : kXv l yX11_needCell (Cond.code yX11_needCell cX11_needCell 2 none :: wsA) 7 102 cI cJ cZ cMic cSrc cSt cAI cAJ D ad T [.ref (ad o), .int a0] e1 T1 := by
  intro sz
  refine vx_ofW (cc := cX11_needCell) (maxL := 2) (ret := none) (by decide) rfl ?_
  intro p e s m args below meth c s₁ B hml htab hv
  obtain ⟨rfl, hsz, hP, hK, hD0, hX, hN⟩ := hv
  have hx := B.exec
  have hb := B.bytes
  have hr := B.returns
  have hts := atoms_spec (ws := (Cond.code yX11_needCell cX11_needCell 2 none :: wsA)) B.pre
  have hown : s.vm.findClass RX11 = some m.cls := findClass_of_methodNamed B.named
  have hlocks := B.notSynchronized
  subst hsz
  have hD := hD0.self (sz := s.heap.size)
  generalize hAe : va_A (cW ad T.1 (cc cI cJ cZ cMic cSrc cSt cAI cAJ ad T)) s.heap.size = A at hD hX ⊢
  have hA : ∀ q : Nat, s.heap.size ≤ q → A q := fun q h => by rw [← hAe]; exact Or.inr h
  have G : gC cI cJ cZ cMic cSrc cSt cAI cAJ D ad A s.heap s.heap [] T := ⟨hP, hD, va_S.rf⟩
  have E : cE p c cX11_needCell s m ([.ref (ad o), .int a0] : List Value).toArray (Cond.code yX11_needCell cX11_needCell 2 none :: wsA) D RX11 (CT cI cJ cZ cMic cSrc cSt cAI cAJ) := ⟨hx, hb, hts, hown, hK⟩
  have htab : ∀ x ∈ c.exceptionTable.toList, False := fun x hx => htab x hx
  have hl := lv_entry ([.ref (ad o), .int a0]) (n := 2) (Nat.le_of_ble_eq_true rfl)
  rw [lg_entry_eq]
  generalize (lg_sl ([.ref (ad o), .int a0]) ++ List.replicate (2 - (lg_sl ([.ref (ad o), .int a0])).length) Slot.unset).toArray = ls at hl ⊢
  have hl : lv_has ls 2 [(0, .ref (ad o)), (1, .int a0)] := hl
  unfold g_X11_needCell at h
  refine lv_iload_n hx hb dX11_needCell_0 rfl (lv_at hl 1 rfl) ?_
  refine lv_aload_n hx hb dX11_needCell_1 rfl (lv_at hl 0 rfl) ?_
  obtain ⟨g2, h⟩ := oif_some h
  obtain ⟨n3, en3, h⟩ := obind_some h
  refine c_get E G o 14 (v := .ref (ad n3)) (oO_k g2).1 (cc_o11 (oO_k g2).2) rfl (fun w h => .tail _ (iA_23 h)) (by decide) (.tail _ qA_675) rfl (by rw [en3]; rfl) dX11_needCell_2 ?_
  clear en3
  obtain ⟨g4, h⟩ := oif_some h
  obtain ⟨n5, en5, h⟩ := obind_some h
  refine c_get E G n3 6 (v := .ref (ad n5)) (oO_k g4).1 (cc_o6 (oO_k g4).2) rfl (fun w h => .tail _ (iA_14 h)) (by decide) (.tail _ qA_695) rfl (by rw [en5]; rfl) dX11_needCell_5 ?_
  clear en5
  obtain ⟨g6, h⟩ := oif_some h
  obtain ⟨r9, T7, eT7, h⟩ := obind2_some h
  refine q_cvi (As := []) (rest := [.int a0]) E G hA hX hN hml (u_X1_cells l hst D cI cJ cZ cMic cSrc cSt cAI cAJ ad T n5 eT7) (cwV 0 hts (gaV qA_714 qA_35 qA_36 qA_37 qA_38) rfl rfl rfl (by decide +kernel) ⟨Nat.le_of_ble_eq_true rfl, Nat.le_of_ble_eq_true rfl⟩) (oO_k g6).1 (cc_o1 (oO_k g6).2) rfl rfl hl.1 rfl (lv_room (Nat.le_of_ble_eq_true rfl)) dX11_needCell_8 ⟨Nat.zero_le _, Nat.zero_le _⟩ (fun q10 T8 H locs hq G => ?_)
  obtain ⟨hq1, hq2⟩ := hq
  rw [hq2] at G
  refine lv_to hq1 ?_
  clear hq1 hq2 eT7
  rcases othr_t h with ⟨r0, eT11⟩ | ⟨r13, T11, eT11, h⟩
  · refine q_xsv (As := [.int a0, .int r9]) (rest := []) E G hA hX hN hml (x_X11_needIndex l hst D cI cJ cZ cMic cSrc cSt cAI cAJ ad T7 a0 r9 eT11) (cwS 2 hts (gaS qA_738 qA_739 qA_131 qA_740) rfl rfl rfl (by decide +kernel) ⟨Nat.le_of_ble_eq_true rfl, Nat.le_of_ble_eq_true rfl⟩) rfl hl.1 rfl (lv_room (Nat.le_of_ble_eq_true rfl)) dX11_needCell_11 ⟨Nat.le_of_ble_eq_true rfl, Nat.le_of_ble_eq_true rfl⟩ (fun E9 ce q9 T9 H locs hp G hce hcv hcl => ?_)
    obtain ⟨hE, hT⟩ := hp
    subst hE
    rw [hT] at G
    exact vx_out (fun x hx => (htab x hx).elim) hlocks hce hcv hcl (fun t ht hvm => ⟨T1, trivial, ⟨⟨rfl, rfl⟩, by rw [ht]; exact G.1, va_K.moved hvm hK, G.2.1⟩, G.2.2.F ht⟩) G.2.2.2.2 (Nat.le_refl _) (Nat.le_refl _)
  refine q_csv (As := [.int a0, .int r9]) (rest := []) E G hA hX hN hml (u_X11_needIndex l hst D cI cJ cZ cMic cSrc cSt cAI cAJ ad T7 a0 r9 eT11) (cwS 2 hts (gaS qA_738 qA_739 qA_131 qA_740) rfl rfl rfl (by decide +kernel) ⟨Nat.le_of_ble_eq_true rfl, Nat.le_of_ble_eq_true rfl⟩) rfl hl.1 rfl (lv_room (Nat.le_of_ble_eq_true rfl)) dX11_needCell_11 ⟨Nat.zero_le _, Nat.zero_le _⟩ (fun T12 H locs hq G => ?_)
  rw [hq] at G
  clear hq eT11
  exact (Nat.succ_ne_zero _ (congrArg Prod.fst (Option.some.inj h)).symm).elim
def g_X11_cellAt_b44  (T : AT) (s0 : Int32) : Option (Nat × Int32 × AT) := some (0, s0, T)
set_option maxHeartbeats 4000000 in
set_option maxRecDepth 100000 in
theorem u_X11_cellAt_b44 {p : Program} {l : Launch} {e : Env} {s : State} {m : MethodId} {args : Array Value} {below : List Frame} {meth : Method} {c : Code} {Q : State → Prop} {D : va_G} {A : Nat → Prop} {cI cJ cZ cMic cSrc cSt cAI cAJ : ClassId} {ad : Nat → Nat} {r1 : Int32} {T1 : AT} (E : cE p c cX11_cellAt s m args (Cond.code yX11_cellAt cX11_cellAt 3 (some .int) :: wsA) D RX11 (CT cI cJ cZ cMic cSrc cSt cAI cAJ)) (hA : ∀ q : Nat, s.heap.size ≤ q → A q) (hX : xT A s) (hN : nX s) (hml : c.maxLocals = 3) (hst : l.stackTraces = false) (kr44 : ∀ (H : Heap) (locs : List Loc) (ls : Array Slot), gC cI cJ cZ cMic cSrc cSt cAI cAJ D ad A s.heap H locs T1 → W p l e { frames := 8, cells := 0, slots := 0, locals := 123 } s m args below meth c H locs 0 0 Q (F0 m 44 ls [.int r1])) : ∀ (T : AT) (H : Heap) (locs : List Loc) (ls : Array Slot) (s0 : Int32), g_X11_cellAt_b44 T s0 = some (0, r1, T1) → gC cI cJ cZ cMic cSrc cSt cAI cAJ D ad A s.heap H locs T → lv_has ls 3 [] → W p l e { frames := 8, cells := 0, slots := 0, locals := 123 } s m args below meth c H locs 0 0 Q (F0 m 44 ls [.int s0]) := by
  have hx := E.1
  have hb := E.2.1
  have hts := E.2.2.1
  have hown := E.2.2.2.1
  have hK := E.2.2.2.2
  intro T H locs ls s0 h G hl
  unfold g_X11_cellAt_b44 at h
  rw [(osome3 h).2.2] at G
  refine lv_to (osome3 h).2.1 ?_
  exact kr44 _ _ _ G
def g_X11_cellAt (T : AT) (o : Nat) (a0 : Int32) (a1 : Int32) : Option (Nat × Int32 × AT) := oif (oO T o 11 = true) <| othr (g_X11_needCamera T o) 0 fun r5 T3 => oif (oO T3 o 11 = true) <| othr (g_X11_needCell T3 o a0) 0 fun r10 T8 => othr (g_X11_needRange T8 a1 (0 : Int32) (1 : Int32)) 0 fun r14 T12 => if a1 = 0 then (oif (oO T12 o 11 = true) <| obind (T12.2.2.2.2 o 14) fun n18 => oif (oO T12 n18 6 = true) <| obind (T12.2.2.2.2 n18 6) fun n20 => oif (oO T12 n20 1 = true) <| obind2 (g_X1_centreX T12 n20 a0) fun r24 T22 => g_X11_cellAt_b44 T22 r24) else (oif (oO T12 o 11 = true) <| obind (T12.2.2.2.2 o 14) fun n27 => oif (oO T12 n27 6 = true) <| obind (T12.2.2.2.2 n27 6) fun n29 => oif (oO T12 n29 1 = true) <| obind2 (g_X1_centreY T12 n29 a0) fun r33 T31 => g_X11_cellAt_b44 T31 r33)
set_option maxHeartbeats 4000000 in
set_option maxRecDepth 100000 in
theorem u_X11_cellAt (l : Launch) (hst : l.stackTraces = false) (D : va_G) (cI cJ cZ cMic cSrc cSt cAI cAJ : ClassId) (ad : Nat → Nat) (T : AT) (o : Nat) (a0 : Int32) (a1 : Int32) {r1 : Int32} {T1 : AT} (h : g_X11_cellAt T o a0 a1 = some (0, r1, T1)) : kCi l yX11_cellAt (Cond.code yX11_cellAt cX11_cellAt 3 (some .int) :: wsA) 8 123 cI cJ cZ cMic cSrc cSt cAI cAJ D ad T [.ref (ad o), .int a0, .int a1] (fun r T9 => r = r1 ∧ T9 = T1) := by
  intro sz
  refine Met.ofW (cc := cX11_cellAt) (maxL := 3) (ret := (some .int)) (by decide) rfl ?_
  intro p e s m args below meth c s₁ B hml hv
  obtain ⟨rfl, hsz, hP, hK, hD0, hX, hN⟩ := hv
  have hx := B.exec
  have hb := B.bytes
  have hr := B.returns
  have hts := atoms_spec (ws := (Cond.code yX11_cellAt cX11_cellAt 3 (some .int) :: wsA)) B.pre
  have hown : s.vm.findClass RX11 = some m.cls := findClass_of_methodNamed B.named
  have hlocks := B.notSynchronized
  subst hsz
  have hD := hD0.self (sz := s.heap.size)
  generalize hAe : va_A (cW ad T.1 (cc cI cJ cZ cMic cSrc cSt cAI cAJ ad T)) s.heap.size = A at hD hX ⊢
  have hA : ∀ q : Nat, s.heap.size ≤ q → A q := fun q h => by rw [← hAe]; exact Or.inr h
  have G : gC cI cJ cZ cMic cSrc cSt cAI cAJ D ad A s.heap s.heap [] T := ⟨hP, hD, va_S.rf⟩
  have E : cE p c cX11_cellAt s m ([.ref (ad o), .int a0, .int a1] : List Value).toArray (Cond.code yX11_cellAt cX11_cellAt 3 (some .int) :: wsA) D RX11 (CT cI cJ cZ cMic cSrc cSt cAI cAJ) := ⟨hx, hb, hts, hown, hK⟩
  have hl := lv_entry ([.ref (ad o), .int a0, .int a1]) (n := 3) (Nat.le_of_ble_eq_true rfl)
  rw [lg_entry_eq]
  generalize (lg_sl ([.ref (ad o), .int a0, .int a1]) ++ List.replicate (3 - (lg_sl ([.ref (ad o), .int a0, .int a1])).length) Slot.unset).toArray = ls at hl ⊢
  have hl : lv_has ls 3 [(0, .ref (ad o)), (1, .int a0), (2, .int a1)] := hl
  unfold g_X11_cellAt at h
  refine lv_aload_n hx hb dX11_cellAt_0 rfl (lv_at hl 0 rfl) ?_
  obtain ⟨g2, h⟩ := oif_some h
  obtain ⟨r5, T3, eT3, h⟩ := othr_n h
  refine q_cvv (As := []) (rest := []) E G hA hX hN hml (u_X11_needCamera l hst D cI cJ cZ cMic cSrc cSt cAI cAJ ad T o eT3) (cwV 0 hts (gaV qA_728 qA_729 qA_730 qA_131 qA_731) rfl rfl rfl (by decide +kernel) ⟨Nat.le_of_ble_eq_true rfl, Nat.le_of_ble_eq_true rfl⟩) (oO_k g2).1 (cc_o11 (oO_k g2).2) rfl rfl hl.1 rfl (lv_room (Nat.le_of_ble_eq_true rfl)) dX11_cellAt_1 ⟨Nat.zero_le _, Nat.zero_le _⟩ (fun T4 H locs hq G => ?_)
  rw [hq] at G
  clear hq eT3
  refine lv_aload_n hx hb dX11_cellAt_4 rfl (lv_at hl 0 rfl) ?_
  refine lv_iload_n hx hb dX11_cellAt_5 rfl (lv_at hl 1 rfl) ?_
  obtain ⟨g7, h⟩ := oif_some h
  obtain ⟨r10, T8, eT8, h⟩ := othr_n h
  refine q_cvv (As := [.int a0]) (rest := []) E G hA hX hN hml (u_X11_needCell l hst D cI cJ cZ cMic cSrc cSt cAI cAJ ad T3 o a0 eT8) (cwV 1 hts (gaV qA_752 qA_753 qA_754 qA_131 qA_755) rfl rfl rfl (by decide +kernel) ⟨Nat.le_of_ble_eq_true rfl, Nat.le_of_ble_eq_true rfl⟩) (oO_k g7).1 (cc_o11 (oO_k g7).2) rfl rfl hl.1 rfl (lv_room (Nat.le_of_ble_eq_true rfl)) dX11_cellAt_6 ⟨Nat.zero_le _, Nat.zero_le _⟩ (fun T9 H locs hq G => ?_)
  rw [hq] at G
  clear hq eT8
  refine lv_iload_n hx hb dX11_cellAt_9 rfl (lv_at hl 2 rfl) ?_
  refine lv_iconst (v := 0) hx hb dX11_cellAt_10 (by decide) ?_
  refine lv_iconst (v := 1) hx hb dX11_cellAt_11 (by decide) ?_
  obtain ⟨r14, T12, eT12, h⟩ := othr_n h
  refine q_csv (As := [.int a1, .int 0, .int 1]) (rest := []) E G hA hX hN hml (u_X11_needRange l hst D cI cJ cZ cMic cSrc cSt cAI cAJ ad T8 a1 (0 : Int32) (1 : Int32) eT12) (cwS 3 hts (gaS qA_741 qA_742 qA_131 qA_743) rfl rfl rfl (by decide +kernel) ⟨Nat.le_of_ble_eq_true rfl, Nat.le_of_ble_eq_true rfl⟩) rfl hl.1 rfl (lv_room (Nat.le_of_ble_eq_true rfl)) dX11_cellAt_12 ⟨Nat.zero_le _, Nat.zero_le _⟩ (fun T13 H locs hq G => ?_)
  rw [hq] at G
  clear hq eT12
  refine lv_iload_n hx hb dX11_cellAt_15 rfl (lv_at hl 2 rfl) ?_
  refine lv_if_ne (tgt := 33) hx hb dX11_cellAt_16 (by decide) (fun c16 => ?_) (fun c16 => ?_)
  · have h := oif_neg c16 h
    refine lv_aload_n hx hb dX11_cellAt_33 rfl (lv_at hl 0 rfl) ?_
    obtain ⟨g26, h⟩ := oif_some h
    obtain ⟨n27, en27, h⟩ := obind_some h
    refine c_get E G o 14 (v := .ref (ad n27)) (oO_k g26).1 (cc_o11 (oO_k g26).2) rfl (fun w h => .tail _ (iA_23 h)) (by decide) (.tail _ qA_675) rfl (by rw [en27]; rfl) dX11_cellAt_34 ?_
    clear en27
    obtain ⟨g28, h⟩ := oif_some h
    obtain ⟨n29, en29, h⟩ := obind_some h
    refine c_get E G n27 6 (v := .ref (ad n29)) (oO_k g28).1 (cc_o6 (oO_k g28).2) rfl (fun w h => .tail _ (iA_14 h)) (by decide) (.tail _ qA_695) rfl (by rw [en29]; rfl) dX11_cellAt_37 ?_
    clear en29
    refine lv_iload_n hx hb dX11_cellAt_40 rfl (lv_at hl 1 rfl) ?_
    obtain ⟨g30, h⟩ := oif_some h
    obtain ⟨r33, T31, eT31, h⟩ := obind2_some h
    refine q_cvi (As := [.int a0]) (rest := []) E G hA hX hN hml (u_X1_centreY l hst D cI cJ cZ cMic cSrc cSt cAI cAJ ad T12 n29 a0 eT31) (cwV 1 hts (gaV qA_757 qA_555 qA_556 qA_37 qA_167) rfl rfl rfl (by decide +kernel) ⟨Nat.le_of_ble_eq_true rfl, Nat.le_of_ble_eq_true rfl⟩) (oO_k g30).1 (cc_o1 (oO_k g30).2) rfl rfl hl.1 rfl (lv_room (Nat.le_of_ble_eq_true rfl)) dX11_cellAt_41 ⟨Nat.zero_le _, Nat.zero_le _⟩ (fun q34 T32 H locs hq G => ?_)
    obtain ⟨hq1, hq2⟩ := hq
    rw [hq2] at G
    refine lv_to hq1 ?_
    clear hq1 hq2 eT31
    have hl := lv_sub hl [] rfl
    exact u_X11_cellAt_b44 E hA hX hN hml hst (fun H locs ls G => W.iret (v := r1) hx hb hr (fun t ht hW => ⟨⟨r1, T1, rfl, ⟨rfl, rfl⟩, ⟨by rw [ht]; exact G.1, va_K.moved hW.alike hK, G.2.1⟩⟩, G.2.2.F ht⟩) G.2.2.2.2 dX11_cellAt_44) _ _ _ _ _ h G hl
  · have h := oif_pos c16 h
    refine lv_aload_n hx hb dX11_cellAt_19 rfl (lv_at hl 0 rfl) ?_
    obtain ⟨g17, h⟩ := oif_some h
    obtain ⟨n18, en18, h⟩ := obind_some h
    refine c_get E G o 14 (v := .ref (ad n18)) (oO_k g17).1 (cc_o11 (oO_k g17).2) rfl (fun w h => .tail _ (iA_23 h)) (by decide) (.tail _ qA_675) rfl (by rw [en18]; rfl) dX11_cellAt_20 ?_
    clear en18
    obtain ⟨g19, h⟩ := oif_some h
    obtain ⟨n20, en20, h⟩ := obind_some h
    refine c_get E G n18 6 (v := .ref (ad n20)) (oO_k g19).1 (cc_o6 (oO_k g19).2) rfl (fun w h => .tail _ (iA_14 h)) (by decide) (.tail _ qA_695) rfl (by rw [en20]; rfl) dX11_cellAt_23 ?_
    clear en20
    refine lv_iload_n hx hb dX11_cellAt_26 rfl (lv_at hl 1 rfl) ?_
    obtain ⟨g21, h⟩ := oif_some h
    obtain ⟨r24, T22, eT22, h⟩ := obind2_some h
    refine q_cvi (As := [.int a0]) (rest := []) E G hA hX hN hml (u_X1_centreX l hst D cI cJ cZ cMic cSrc cSt cAI cAJ ad T12 n20 a0 eT22) (cwV 1 hts (gaV qA_756 qA_552 qA_553 qA_37 qA_164) rfl rfl rfl (by decide +kernel) ⟨Nat.le_of_ble_eq_true rfl, Nat.le_of_ble_eq_true rfl⟩) (oO_k g21).1 (cc_o1 (oO_k g21).2) rfl rfl hl.1 rfl (lv_room (Nat.le_of_ble_eq_true rfl)) dX11_cellAt_27 ⟨Nat.zero_le _, Nat.zero_le _⟩ (fun q25 T23 H locs hq G => ?_)
    obtain ⟨hq1, hq2⟩ := hq
    rw [hq2] at G
    refine lv_to hq1 ?_
    clear hq1 hq2 eT22
    refine lv_goto (tgt := 44) hx hb dX11_cellAt_30 (by decide) ?_
    have hl := lv_sub hl [] rfl
    exact u_X11_cellAt_b44 E hA hX hN hml hst (fun H locs ls G => W.iret (v := r1) hx hb hr (fun t ht hW => ⟨⟨r1, T1, rfl, ⟨rfl, rfl⟩, ⟨by rw [ht]; exact G.1, va_K.moved hW.alike hK, G.2.1⟩⟩, G.2.2.F ht⟩) G.2.2.2.2 dX11_cellAt_44) _ _ _ _ _ h G hl
set_option maxHeartbeats 4000000 in
set_option maxRecDepth 100000 in
theorem s_X11_cellAt_b44 {e1 : Nat} {r1 : Int32} {T1 : AT} : ∀ (T : AT) (s0 : Int32), g_X11_cellAt_b44 T s0 = some (e1, r1, T1) → SP T T1 := by
  intro T s0 h
  have p0 := SP.rf T
  unfold g_X11_cellAt_b44 at h
  rw [← (osome3 h).2.2]
  exact p0
set_option maxHeartbeats 4000000 in
set_option maxRecDepth 100000 in
theorem s_X11_cellAt {T : AT} {o : Nat} {a0 : Int32} {a1 : Int32} {e1 : Nat} {r1 : Int32} {T1 : AT} (h : g_X11_cellAt T o a0 a1 = some (e1, r1, T1)) : SP T T1 := by
  have p0 := SP.rf T
  unfold g_X11_cellAt at h
  obtain ⟨g2, h⟩ := oif_some h
  rcases othr_s h with ⟨k9, r9, e9, -⟩ | ⟨r4, T3, eT3, h⟩
  · exact SP.tr p0 (s_X11_needCamera e9)
  have p1 : SP T T3 := SP.tr p0 (s_X11_needCamera eT3)
  obtain ⟨g5, h⟩ := oif_some h
  rcases othr_s h with ⟨k9, r9, e9, -⟩ | ⟨r7, T6, eT6, h⟩
  · exact SP.tr p1 (s_X11_needCell e9)
  have p2 : SP T T6 := SP.tr p1 (s_X11_needCell eT6)
  rcases othr_s h with ⟨k9, r9, e9, -⟩ | ⟨r9, T8, eT8, h⟩
  · exact SP.tr p2 (s_X11_needRange e9)
  have p3 : SP T T8 := SP.tr p2 (s_X11_needRange eT8)
  rcases oif_or h with ⟨c10, h⟩ | ⟨c10, h⟩
  · have h := h
    obtain ⟨g11, h⟩ := oif_some h
    obtain ⟨n12, en12, h⟩ := obind_some h
    obtain ⟨g13, h⟩ := oif_some h
    obtain ⟨n14, en14, h⟩ := obind_some h
    obtain ⟨g15, h⟩ := oif_some h
    obtain ⟨r17, T16, eT16, h⟩ := obind2_some h
    have p4 : SP T T16 := SP.tr p3 (s_X1_centreX eT16)
    exact SP.tr p4 (s_X11_cellAt_b44 _ _ h)
  · have h := h
    obtain ⟨g18, h⟩ := oif_some h
    obtain ⟨n19, en19, h⟩ := obind_some h
    obtain ⟨g20, h⟩ := oif_some h
    obtain ⟨n21, en21, h⟩ := obind_some h
    obtain ⟨g22, h⟩ := oif_some h
    obtain ⟨r24, T23, eT23, h⟩ := obind2_some h
    have p4 : SP T T23 := SP.tr p3 (s_X1_centreY eT23)
    exact SP.tr p4 (s_X11_cellAt_b44 _ _ h)
set_option maxHeartbeats 4000000 in
set_option maxRecDepth 100000 in
theorem x_X11_cellAt_b44 {p : Program} {l : Launch} {e : Env} {s : State} {m : MethodId} {args : Array Value} {below : List Frame} {meth : Method} {c : Code} {Qc : Array Value → State → Outcome → State → Prop} {XC : String → State → State → Prop} {D : va_G} {A : Nat → Prop} {cI cJ cZ cMic cSrc cSt cAI cAJ : ClassId} {ad : Nat → Nat} {e1 : Nat} {r1 : Int32} {T1 : AT} (E : cE p c cX11_cellAt s m args (Cond.code yX11_cellAt cX11_cellAt 3 (some .int) :: wsA) D RX11 (CT cI cJ cZ cMic cSrc cSt cAI cAJ)) (hA : ∀ q : Nat, s.heap.size ≤ q → A q) (hX : xT A s) (hN : nX s) (hml : c.maxLocals = 3) (hz9 : True) (hst : l.stackTraces = false) (htab : ∀ x ∈ c.exceptionTable.toList, False) (hlocks : meth.locks = false) (kx : ∀ (H : Heap) (locs : List Loc) (t : State), gC cI cJ cZ cMic cSrc cSt cAI cAJ D ad A s.heap H locs T1 → s.vm.Alike t.vm → H.size ≤ t.heap.size → (∀ q, q < H.size → t.heap[q]? = H[q]?) → XC (exn e1) s t) : ∀ (T : AT) (H : Heap) (locs : List Loc) (ls : Array Slot) (s0 : Int32), g_X11_cellAt_b44 T s0 = some (e1 + 1, r1, T1) → gC cI cJ cZ cMic cSrc cSt cAI cAJ D ad A s.heap H locs T → lv_has ls 3 [] → W p l e { frames := 8, cells := 1, slots := 6, locals := 123 } s m args below meth c H locs 0 0 (vx_MQ below Qc XC args s 1 6 A) (F0 m 44 ls [.int s0]) := by
  have hx := E.1
  have hb := E.2.1
  have hts := E.2.2.1
  have hown := E.2.2.2.1
  have hK := E.2.2.2.2
  intro T H locs ls s0 h G hl
  unfold g_X11_cellAt_b44 at h
  exact (Nat.succ_ne_zero _ (congrArg Prod.fst (Option.some.inj h)).symm).elim
set_option maxHeartbeats 4000000 in
set_option maxRecDepth 100000 in
theorem x_X11_cellAt (l : Launch) (hst : l.stackTraces = false) (D : va_G) (cI cJ cZ cMic cSrc cSt cAI cAJ : ClassId) (ad : Nat → Nat) (T : AT) (o : Nat) (a0 : Int32) (a1 : Int32) {e1 : Nat} {r1 : Int32} {T1 : AT} (h : g_X11_cellAt T o a0 a1 = some (e1 + 1, r1, T1)) : kXi l yX11_cellAt (Cond.code yX11_cellAt cX11_cellAt 3 (some .int) :: wsA) 8 123 cI cJ cZ cMic cSrc cSt cAI cAJ D ad T [.ref (ad o), .int a0, .int a1] e1 T1 := by
  intro sz
  refine vx_ofW (cc := cX11_cellAt) (maxL := 3) (ret := (some .int)) (by decide) rfl ?_
  intro p e s m args below meth c s₁ B hml htab hv
  obtain ⟨rfl, hsz, hP, hK, hD0, hX, hN⟩ := hv
  have hx := B.exec
  have hb := B.bytes
  have hr := B.returns
  have hts := atoms_spec (ws := (Cond.code yX11_cellAt cX11_cellAt 3 (some .int) :: wsA)) B.pre
  have hown : s.vm.findClass RX11 = some m.cls := findClass_of_methodNamed B.named
  have hlocks := B.notSynchronized
  subst hsz
  have hD := hD0.self (sz := s.heap.size)
  generalize hAe : va_A (cW ad T.1 (cc cI cJ cZ cMic cSrc cSt cAI cAJ ad T)) s.heap.size = A at hD hX ⊢
  have hA : ∀ q : Nat, s.heap.size ≤ q → A q := fun q h => by rw [← hAe]; exact Or.inr h
  have G : gC cI cJ cZ cMic cSrc cSt cAI cAJ D ad A s.heap s.heap [] T := ⟨hP, hD, va_S.rf⟩
  have E : cE p c cX11_cellAt s m ([.ref (ad o), .int a0, .int a1] : List Value).toArray (Cond.code yX11_cellAt cX11_cellAt 3 (some .int) :: wsA) D RX11 (CT cI cJ cZ cMic cSrc cSt cAI cAJ) := ⟨hx, hb, hts, hown, hK⟩
  have htab : ∀ x ∈ c.exceptionTable.toList, False := fun x hx => htab x hx
  have hl := lv_entry ([.ref (ad o), .int a0, .int a1]) (n := 3) (Nat.le_of_ble_eq_true rfl)
  rw [lg_entry_eq]
  generalize (lg_sl ([.ref (ad o), .int a0, .int a1]) ++ List.replicate (3 - (lg_sl ([.ref (ad o), .int a0, .int a1])).length) Slot.unset).toArray = ls at hl ⊢
  have hl : lv_has ls 3 [(0, .ref (ad o)), (1, .int a0), (2, .int a1)] := hl
  unfold g_X11_cellAt at h
  refine lv_aload_n hx hb dX11_cellAt_0 rfl (lv_at hl 0 rfl) ?_
  obtain ⟨g2, h⟩ := oif_some h
  rcases othr_t h with ⟨r0, eT3⟩ | ⟨r5, T3, eT3, h⟩
  · refine q_xvv (As := []) (rest := []) E G hA hX hN hml (x_X11_needCamera l hst D cI cJ cZ cMic cSrc cSt cAI cAJ ad T o eT3) (cwV 0 hts (gaV qA_728 qA_729 qA_730 qA_131 qA_731) rfl rfl rfl (by decide +kernel) ⟨Nat.le_of_ble_eq_true rfl, Nat.le_of_ble_eq_true rfl⟩) (oO_k g2).1 (cc_o11 (oO_k g2).2) rfl rfl hl.1 rfl (lv_room (Nat.le_of_ble_eq_true rfl)) dX11_cellAt_1 ⟨Nat.le_of_ble_eq_true rfl, Nat.le_of_ble_eq_true rfl⟩ (fun E9 ce q9 T9 H locs hp G hce hcv hcl => ?_)
    obtain ⟨hE, hT⟩ := hp
    subst hE
    rw [hT] at G
    exact vx_out (fun x hx => (htab x hx).elim) hlocks hce hcv hcl (fun t ht hvm => ⟨T1, trivial, ⟨⟨rfl, rfl⟩, by rw [ht]; exact G.1, va_K.moved hvm hK, G.2.1⟩, G.2.2.F ht⟩) G.2.2.2.2 (Nat.le_refl _) (Nat.le_refl _)
  refine q_cvv (As := []) (rest := []) E G hA hX hN hml (u_X11_needCamera l hst D cI cJ cZ cMic cSrc cSt cAI cAJ ad T o eT3) (cwV 0 hts (gaV qA_728 qA_729 qA_730 qA_131 qA_731) rfl rfl rfl (by decide +kernel) ⟨Nat.le_of_ble_eq_true rfl, Nat.le_of_ble_eq_true rfl⟩) (oO_k g2).1 (cc_o11 (oO_k g2).2) rfl rfl hl.1 rfl (lv_room (Nat.le_of_ble_eq_true rfl)) dX11_cellAt_1 ⟨Nat.zero_le _, Nat.zero_le _⟩ (fun T4 H locs hq G => ?_)
  rw [hq] at G
  clear hq eT3
  refine lv_aload_n hx hb dX11_cellAt_4 rfl (lv_at hl 0 rfl) ?_
  refine lv_iload_n hx hb dX11_cellAt_5 rfl (lv_at hl 1 rfl) ?_
  obtain ⟨g7, h⟩ := oif_some h
  rcases othr_t h with ⟨r0, eT8⟩ | ⟨r10, T8, eT8, h⟩
  · refine q_xvv (As := [.int a0]) (rest := []) E G hA hX hN hml (x_X11_needCell l hst D cI cJ cZ cMic cSrc cSt cAI cAJ ad T3 o a0 eT8) (cwV 1 hts (gaV qA_752 qA_753 qA_754 qA_131 qA_755) rfl rfl rfl (by decide +kernel) ⟨Nat.le_of_ble_eq_true rfl, Nat.le_of_ble_eq_true rfl⟩) (oO_k g7).1 (cc_o11 (oO_k g7).2) rfl rfl hl.1 rfl (lv_room (Nat.le_of_ble_eq_true rfl)) dX11_cellAt_6 ⟨Nat.le_of_ble_eq_true rfl, Nat.le_of_ble_eq_true rfl⟩ (fun E9 ce q9 T9 H locs hp G hce hcv hcl => ?_)
    obtain ⟨hE, hT⟩ := hp
    subst hE
    rw [hT] at G
    exact vx_out (fun x hx => (htab x hx).elim) hlocks hce hcv hcl (fun t ht hvm => ⟨T1, trivial, ⟨⟨rfl, rfl⟩, by rw [ht]; exact G.1, va_K.moved hvm hK, G.2.1⟩, G.2.2.F ht⟩) G.2.2.2.2 (Nat.le_refl _) (Nat.le_refl _)
  refine q_cvv (As := [.int a0]) (rest := []) E G hA hX hN hml (u_X11_needCell l hst D cI cJ cZ cMic cSrc cSt cAI cAJ ad T3 o a0 eT8) (cwV 1 hts (gaV qA_752 qA_753 qA_754 qA_131 qA_755) rfl rfl rfl (by decide +kernel) ⟨Nat.le_of_ble_eq_true rfl, Nat.le_of_ble_eq_true rfl⟩) (oO_k g7).1 (cc_o11 (oO_k g7).2) rfl rfl hl.1 rfl (lv_room (Nat.le_of_ble_eq_true rfl)) dX11_cellAt_6 ⟨Nat.zero_le _, Nat.zero_le _⟩ (fun T9 H locs hq G => ?_)
  rw [hq] at G
  clear hq eT8
  refine lv_iload_n hx hb dX11_cellAt_9 rfl (lv_at hl 2 rfl) ?_
  refine lv_iconst (v := 0) hx hb dX11_cellAt_10 (by decide) ?_
  refine lv_iconst (v := 1) hx hb dX11_cellAt_11 (by decide) ?_
  rcases othr_t h with ⟨r0, eT12⟩ | ⟨r14, T12, eT12, h⟩
  · refine q_xsv (As := [.int a1, .int 0, .int 1]) (rest := []) E G hA hX hN hml (x_X11_needRange l hst D cI cJ cZ cMic cSrc cSt cAI cAJ ad T8 a1 (0 : Int32) (1 : Int32) eT12) (cwS 3 hts (gaS qA_741 qA_742 qA_131 qA_743) rfl rfl rfl (by decide +kernel) ⟨Nat.le_of_ble_eq_true rfl, Nat.le_of_ble_eq_true rfl⟩) rfl hl.1 rfl (lv_room (Nat.le_of_ble_eq_true rfl)) dX11_cellAt_12 ⟨Nat.le_of_ble_eq_true rfl, Nat.le_of_ble_eq_true rfl⟩ (fun E9 ce q9 T9 H locs hp G hce hcv hcl => ?_)
    obtain ⟨hE, hT⟩ := hp
    subst hE
    rw [hT] at G
    exact vx_out (fun x hx => (htab x hx).elim) hlocks hce hcv hcl (fun t ht hvm => ⟨T1, trivial, ⟨⟨rfl, rfl⟩, by rw [ht]; exact G.1, va_K.moved hvm hK, G.2.1⟩, G.2.2.F ht⟩) G.2.2.2.2 (Nat.le_refl _) (Nat.le_refl _)
  refine q_csv (As := [.int a1, .int 0, .int 1]) (rest := []) E G hA hX hN hml (u_X11_needRange l hst D cI cJ cZ cMic cSrc cSt cAI cAJ ad T8 a1 (0 : Int32) (1 : Int32) eT12) (cwS 3 hts (gaS qA_741 qA_742 qA_131 qA_743) rfl rfl rfl (by decide +kernel) ⟨Nat.le_of_ble_eq_true rfl, Nat.le_of_ble_eq_true rfl⟩) rfl hl.1 rfl (lv_room (Nat.le_of_ble_eq_true rfl)) dX11_cellAt_12 ⟨Nat.zero_le _, Nat.zero_le _⟩ (fun T13 H locs hq G => ?_)
  rw [hq] at G
  clear hq eT12
  refine lv_iload_n hx hb dX11_cellAt_15 rfl (lv_at hl 2 rfl) ?_
  refine lv_if_ne (tgt := 33) hx hb dX11_cellAt_16 (by decide) (fun c16 => ?_) (fun c16 => ?_)
  · have h := oif_neg c16 h
    refine lv_aload_n hx hb dX11_cellAt_33 rfl (lv_at hl 0 rfl) ?_
    obtain ⟨g26, h⟩ := oif_some h
    obtain ⟨n27, en27, h⟩ := obind_some h
    refine c_get E G o 14 (v := .ref (ad n27)) (oO_k g26).1 (cc_o11 (oO_k g26).2) rfl (fun w h => .tail _ (iA_23 h)) (by decide) (.tail _ qA_675) rfl (by rw [en27]; rfl) dX11_cellAt_34 ?_
    clear en27
    obtain ⟨g28, h⟩ := oif_some h
    obtain ⟨n29, en29, h⟩ := obind_some h
    refine c_get E G n27 6 (v := .ref (ad n29)) (oO_k g28).1 (cc_o6 (oO_k g28).2) rfl (fun w h => .tail _ (iA_14 h)) (by decide) (.tail _ qA_695) rfl (by rw [en29]; rfl) dX11_cellAt_37 ?_
    clear en29
    refine lv_iload_n hx hb dX11_cellAt_40 rfl (lv_at hl 1 rfl) ?_
    obtain ⟨g30, h⟩ := oif_some h
    obtain ⟨r33, T31, eT31, h⟩ := obind2_some h
    refine q_cvi (As := [.int a0]) (rest := []) E G hA hX hN hml (u_X1_centreY l hst D cI cJ cZ cMic cSrc cSt cAI cAJ ad T12 n29 a0 eT31) (cwV 1 hts (gaV qA_757 qA_555 qA_556 qA_37 qA_167) rfl rfl rfl (by decide +kernel) ⟨Nat.le_of_ble_eq_true rfl, Nat.le_of_ble_eq_true rfl⟩) (oO_k g30).1 (cc_o1 (oO_k g30).2) rfl rfl hl.1 rfl (lv_room (Nat.le_of_ble_eq_true rfl)) dX11_cellAt_41 ⟨Nat.zero_le _, Nat.zero_le _⟩ (fun q34 T32 H locs hq G => ?_)
    obtain ⟨hq1, hq2⟩ := hq
    rw [hq2] at G
    refine lv_to hq1 ?_
    clear hq1 hq2 eT31
    have hl := lv_sub hl [] rfl
    exact x_X11_cellAt_b44 E hA hX hN hml trivial hst htab hlocks (fun H locs t G hvm h1 h2 => ⟨T1, trivial, ⟨⟨rfl, rfl⟩, (c_thrown G hK hvm h1 h2).1⟩, (c_thrown G hK hvm h1 h2).2⟩) _ _ _ _ _ h G hl
  · have h := oif_pos c16 h
    refine lv_aload_n hx hb dX11_cellAt_19 rfl (lv_at hl 0 rfl) ?_
    obtain ⟨g17, h⟩ := oif_some h
    obtain ⟨n18, en18, h⟩ := obind_some h
    refine c_get E G o 14 (v := .ref (ad n18)) (oO_k g17).1 (cc_o11 (oO_k g17).2) rfl (fun w h => .tail _ (iA_23 h)) (by decide) (.tail _ qA_675) rfl (by rw [en18]; rfl) dX11_cellAt_20 ?_
    clear en18
    obtain ⟨g19, h⟩ := oif_some h
    obtain ⟨n20, en20, h⟩ := obind_some h
    refine c_get E G n18 6 (v := .ref (ad n20)) (oO_k g19).1 (cc_o6 (oO_k g19).2) rfl (fun w h => .tail _ (iA_14 h)) (by decide) (.tail _ qA_695) rfl (by rw [en20]; rfl) dX11_cellAt_23 ?_
    clear en20
    refine lv_iload_n hx hb dX11_cellAt_26 rfl (lv_at hl 1 rfl) ?_
    obtain ⟨g21, h⟩ := oif_some h
    obtain ⟨r24, T22, eT22, h⟩ := obind2_some h
    refine q_cvi (As := [.int a0]) (rest := []) E G hA hX hN hml (u_X1_centreX l hst D cI cJ cZ cMic cSrc cSt cAI cAJ ad T12 n20 a0 eT22) (cwV 1 hts (gaV qA_756 qA_552 qA_553 qA_37 qA_164) rfl rfl rfl (by decide +kernel) ⟨Nat.le_of_ble_eq_true rfl, Nat.le_of_ble_eq_true rfl⟩) (oO_k g21).1 (cc_o1 (oO_k g21).2) rfl rfl hl.1 rfl (lv_room (Nat.le_of_ble_eq_true rfl)) dX11_cellAt_27 ⟨Nat.zero_le _, Nat.zero_le _⟩ (fun q25 T23 H locs hq G => ?_)
    obtain ⟨hq1, hq2⟩ := hq
    rw [hq2] at G
    refine lv_to hq1 ?_
    clear hq1 hq2 eT22
    refine lv_goto (tgt := 44) hx hb dX11_cellAt_30 (by decide) ?_
    have hl := lv_sub hl [] rfl
    exact x_X11_cellAt_b44 E hA hX hN hml trivial hst htab hlocks (fun H locs t G hvm h1 h2 => ⟨T1, trivial, ⟨⟨rfl, rfl⟩, (c_thrown G hK hvm h1 h2).1⟩, (c_thrown G hK hvm h1 h2).2⟩) _ _ _ _ _ h G hl
def g_X11_sources (T : AT) (o : Nat) : Option (Int32 × AT) := oif (oO T o 11 = true) <| obind (T.2.2.2.2 o 14) fun n3 => oif (oO T n3 6 = true) <| elet (T.2.2.1 n3 8) fun v5 => some (v5, T)
set_option maxHeartbeats 4000000 in
set_option maxRecDepth 100000 in
theorem u_X11_sources (l : Launch) (hst : l.stackTraces = false) (D : va_G) (cI cJ cZ cMic cSrc cSt cAI cAJ : ClassId) (ad : Nat → Nat) (T : AT) (o : Nat) {r1 : Int32} {T1 : AT} (h : g_X11_sources T o = some (r1, T1)) : kCi l yX11_sources (Cond.code yX11_sources cX11_sources 1 (some .int) :: wsA) 1 0 cI cJ cZ cMic cSrc cSt cAI cAJ D ad T [.ref (ad o)] (fun r T9 => r = r1 ∧ T9 = T1) := by
  intro sz
  refine Met.ofW (cc := cX11_sources) (maxL := 1) (ret := (some .int)) (by decide) rfl ?_
  intro p e s m args below meth c s₁ B hml hv
  obtain ⟨rfl, hsz, hP, hK, hD0, hX, hN⟩ := hv
  have hx := B.exec
  have hb := B.bytes
  have hr := B.returns
  have hts := atoms_spec (ws := (Cond.code yX11_sources cX11_sources 1 (some .int) :: wsA)) B.pre
  have hown : s.vm.findClass RX11 = some m.cls := findClass_of_methodNamed B.named
  have hlocks := B.notSynchronized
  subst hsz
  have hD := hD0.self (sz := s.heap.size)
  generalize hAe : va_A (cW ad T.1 (cc cI cJ cZ cMic cSrc cSt cAI cAJ ad T)) s.heap.size = A at hD hX ⊢
  have hA : ∀ q : Nat, s.heap.size ≤ q → A q := fun q h => by rw [← hAe]; exact Or.inr h
  have G : gC cI cJ cZ cMic cSrc cSt cAI cAJ D ad A s.heap s.heap [] T := ⟨hP, hD, va_S.rf⟩
  have E : cE p c cX11_sources s m ([.ref (ad o)] : List Value).toArray (Cond.code yX11_sources cX11_sources 1 (some .int) :: wsA) D RX11 (CT cI cJ cZ cMic cSrc cSt cAI cAJ) := ⟨hx, hb, hts, hown, hK⟩
  have hl := lv_entry ([.ref (ad o)]) (n := 1) (Nat.le_of_ble_eq_true rfl)
  rw [lg_entry_eq]
  generalize (lg_sl ([.ref (ad o)]) ++ List.replicate (1 - (lg_sl ([.ref (ad o)])).length) Slot.unset).toArray = ls at hl ⊢
  have hl : lv_has ls 1 [(0, .ref (ad o))] := hl
  unfold g_X11_sources at h
  refine lv_aload_n hx hb dX11_sources_0 rfl (lv_at hl 0 rfl) ?_
  obtain ⟨g2, h⟩ := oif_some h
  obtain ⟨n3, en3, h⟩ := obind_some h
  refine c_get E G o 14 (v := .ref (ad n3)) (oO_k g2).1 (cc_o11 (oO_k g2).2) rfl (fun w h => .tail _ (iA_23 h)) (by decide) (.tail _ qA_675) rfl (by rw [en3]; rfl) dX11_sources_1 ?_
  clear en3
  obtain ⟨g4, h⟩ := oif_some h
  refine c_get E G n3 8 (oO_k g4).1 (cc_o6 (oO_k g4).2) rfl (fun w h => .tail _ (iA_14 h)) (by decide) (.tail _ qA_759) rfl rfl dX11_sources_4 ?_
  refine lv_topi (fun v5 ev5 => ?_)
  have h := elet_at ev5 h
  clear ev5
  exact W.iret (v := v5) hx hb hr (fun t ht hW => ⟨⟨v5, T, rfl, osome2 h, ⟨by rw [ht]; exact G.1, va_K.moved hW.alike hK, G.2.1⟩⟩, G.2.2.F ht⟩) G.2.2.2.2 dX11_sources_7
set_option maxHeartbeats 4000000 in
set_option maxRecDepth 100000 in
theorem s_X11_sources {T : AT} {o : Nat} {r1 : Int32} {T1 : AT} (h : g_X11_sources T o = some (r1, T1)) : SP T T1 := by
  have p0 := SP.rf T
  unfold g_X11_sources at h
  obtain ⟨g2, h⟩ := oif_some h
  obtain ⟨n3, en3, h⟩ := obind_some h
  obtain ⟨g4, h⟩ := oif_some h
  obtain ⟨v5, -, h⟩ := elet_some h
  rw [← (osome2 h).2]
  exact p0
def g_X11_needSource (T : AT) (o : Nat) (a0 : Int32) : Option (Nat × Int32 × AT) := oif (oO T o 11 = true) <| obind (T.2.2.2.2 o 14) fun n3 => oif (oO T n3 6 = true) <| elet (T.2.2.1 n3 8) fun v5 => othr (g_X11_needIndex T a0 v5) 0 fun r8 T6 => some (0, 0, T6)
set_option maxHeartbeats 4000000 in
set_option maxRecDepth 100000 in
theorem u_X11_needSource (l : Launch) (hst : l.stackTraces = false) (D : va_G) (cI cJ cZ cMic cSrc cSt cAI cAJ : ClassId) (ad : Nat → Nat) (T : AT) (o : Nat) (a0 : Int32) {r1 : Int32} {T1 : AT} (h : g_X11_needSource T o a0 = some (0, r1, T1)) : kCv l yX11_needSource (Cond.code yX11_needSource cX11_needSource 2 none :: wsA) 7 102 cI cJ cZ cMic cSrc cSt cAI cAJ D ad T [.ref (ad o), .int a0] (fun T9 => T9 = T1) := by
  intro sz
  refine Met.ofW (cc := cX11_needSource) (maxL := 2) (ret := none) (by decide) rfl ?_
  intro p e s m args below meth c s₁ B hml hv
  obtain ⟨rfl, hsz, hP, hK, hD0, hX, hN⟩ := hv
  have hx := B.exec
  have hb := B.bytes
  have hr := B.returns
  have hts := atoms_spec (ws := (Cond.code yX11_needSource cX11_needSource 2 none :: wsA)) B.pre
  have hown : s.vm.findClass RX11 = some m.cls := findClass_of_methodNamed B.named
  have hlocks := B.notSynchronized
  subst hsz
  have hD := hD0.self (sz := s.heap.size)
  generalize hAe : va_A (cW ad T.1 (cc cI cJ cZ cMic cSrc cSt cAI cAJ ad T)) s.heap.size = A at hD hX ⊢
  have hA : ∀ q : Nat, s.heap.size ≤ q → A q := fun q h => by rw [← hAe]; exact Or.inr h
  have G : gC cI cJ cZ cMic cSrc cSt cAI cAJ D ad A s.heap s.heap [] T := ⟨hP, hD, va_S.rf⟩
  have E : cE p c cX11_needSource s m ([.ref (ad o), .int a0] : List Value).toArray (Cond.code yX11_needSource cX11_needSource 2 none :: wsA) D RX11 (CT cI cJ cZ cMic cSrc cSt cAI cAJ) := ⟨hx, hb, hts, hown, hK⟩
  have hl := lv_entry ([.ref (ad o), .int a0]) (n := 2) (Nat.le_of_ble_eq_true rfl)
  rw [lg_entry_eq]
  generalize (lg_sl ([.ref (ad o), .int a0]) ++ List.replicate (2 - (lg_sl ([.ref (ad o), .int a0])).length) Slot.unset).toArray = ls at hl ⊢
  have hl : lv_has ls 2 [(0, .ref (ad o)), (1, .int a0)] := hl
  unfold g_X11_needSource at h
  refine lv_iload_n hx hb dX11_needSource_0 rfl (lv_at hl 1 rfl) ?_
  refine lv_aload_n hx hb dX11_needSource_1 rfl (lv_at hl 0 rfl) ?_
  obtain ⟨g2, h⟩ := oif_some h
  obtain ⟨n3, en3, h⟩ := obind_some h
  refine c_get E G o 14 (v := .ref (ad n3)) (oO_k g2).1 (cc_o11 (oO_k g2).2) rfl (fun w h => .tail _ (iA_23 h)) (by decide) (.tail _ qA_675) rfl (by rw [en3]; rfl) dX11_needSource_2 ?_
  clear en3
  obtain ⟨g4, h⟩ := oif_some h
  refine c_get E G n3 8 (oO_k g4).1 (cc_o6 (oO_k g4).2) rfl (fun w h => .tail _ (iA_14 h)) (by decide) (.tail _ qA_759) rfl rfl dX11_needSource_5 ?_
  refine lv_topi (fun v5 ev5 => ?_)
  have h := elet_at ev5 h
  clear ev5
  obtain ⟨r8, T6, eT6, h⟩ := othr_n h
  refine q_csv (As := [.int a0, .int v5]) (rest := []) E G hA hX hN hml (u_X11_needIndex l hst D cI cJ cZ cMic cSrc cSt cAI cAJ ad T a0 v5 eT6) (cwS 2 hts (gaS qA_738 qA_739 qA_131 qA_740) rfl rfl rfl (by decide +kernel) ⟨Nat.le_of_ble_eq_true rfl, Nat.le_of_ble_eq_true rfl⟩) rfl hl.1 rfl (lv_room (Nat.le_of_ble_eq_true rfl)) dX11_needSource_8 ⟨Nat.zero_le _, Nat.zero_le _⟩ (fun T7 H locs hq G => ?_)
  rw [hq] at G
  clear hq eT6
  exact W.vret hx hb hr (fun t ht hW => ⟨⟨T6, rfl, (osome3 h).2.2, ⟨by rw [ht]; exact G.1, va_K.moved hW.alike hK, G.2.1⟩⟩, G.2.2.F ht⟩) G.2.2.2.2 dX11_needSource_11
set_option maxHeartbeats 4000000 in
set_option maxRecDepth 100000 in
theorem s_X11_needSource {T : AT} {o : Nat} {a0 : Int32} {e1 : Nat} {r1 : Int32} {T1 : AT} (h : g_X11_needSource T o a0 = some (e1, r1, T1)) : SP T T1 := by
  have p0 := SP.rf T
  unfold g_X11_needSource at h
  obtain ⟨g2, h⟩ := oif_some h
  obtain ⟨n3, en3, h⟩ := obind_some h
  obtain ⟨g4, h⟩ := oif_some h
  obtain ⟨v5, -, h⟩ := elet_some h
  rcases othr_s h with ⟨k9, r9, e9, -⟩ | ⟨r7, T6, eT6, h⟩
  · exact SP.tr p0 (s_X11_needIndex e9)
  have p1 : SP T T6 := SP.tr p0 (s_X11_needIndex eT6)
  rw [← (osome3 h).2.2]
  exact p1
set_option maxHeartbeats 4000000 in
set_option maxRecDepth 100000 in
theorem x_X11_needSource (l : Launch) (hst : l.stackTraces = false) (D : va_G) (cI cJ cZ cMic cSrc cSt cAI cAJ : ClassId) (ad : Nat → Nat) (T : AT) (o : Nat) (a0 : Int32) {e1 : Nat} {r1 : Int32} {T1 : AT} (h : g_X11_needSource T o a0 = some (e1 + 1, r1, T1)) : kXv l yX11_needSource (Cond.code yX11_needSource cX11_needSource 2 none :: wsA) 7 102 cI cJ cZ cMic cSrc cSt cAI cAJ D ad T [.ref (ad o), .int a0] e1 T1 := by
  intro sz
  refine vx_ofW (cc := cX11_needSource) (maxL := 2) (ret := none) (by decide) rfl ?_
  intro p e s m args below meth c s₁ B hml htab hv
  obtain ⟨rfl, hsz, hP, hK, hD0, hX, hN⟩ := hv
  have hx := B.exec
  have hb := B.bytes
  have hr := B.returns
  have hts := atoms_spec (ws := (Cond.code yX11_needSource cX11_needSource 2 none :: wsA)) B.pre
  have hown : s.vm.findClass RX11 = some m.cls := findClass_of_methodNamed B.named
  have hlocks := B.notSynchronized
  subst hsz
  have hD := hD0.self (sz := s.heap.size)
  generalize hAe : va_A (cW ad T.1 (cc cI cJ cZ cMic cSrc cSt cAI cAJ ad T)) s.heap.size = A at hD hX ⊢
  have hA : ∀ q : Nat, s.heap.size ≤ q → A q := fun q h => by rw [← hAe]; exact Or.inr h
  have G : gC cI cJ cZ cMic cSrc cSt cAI cAJ D ad A s.heap s.heap [] T := ⟨hP, hD, va_S.rf⟩
  have E : cE p c cX11_needSource s m ([.ref (ad o), .int a0] : List Value).toArray (Cond.code yX11_needSource cX11_needSource 2 none :: wsA) D RX11 (CT cI cJ cZ cMic cSrc cSt cAI cAJ) := ⟨hx, hb, hts, hown, hK⟩
  have htab : ∀ x ∈ c.exceptionTable.toList, False := fun x hx => htab x hx
  have hl := lv_entry ([.ref (ad o), .int a0]) (n := 2) (Nat.le_of_ble_eq_true rfl)
  rw [lg_entry_eq]
  generalize (lg_sl ([.ref (ad o), .int a0]) ++ List.replicate (2 - (lg_sl ([.ref (ad o), .int a0])).length) Slot.unset).toArray = ls at hl ⊢
  have hl : lv_has ls 2 [(0, .ref (ad o)), (1, .int a0)] := hl
  unfold g_X11_needSource at h
  refine lv_iload_n hx hb dX11_needSource_0 rfl (lv_at hl 1 rfl) ?_
  refine lv_aload_n hx hb dX11_needSource_1 rfl (lv_at hl 0 rfl) ?_
  obtain ⟨g2, h⟩ := oif_some h
  obtain ⟨n3, en3, h⟩ := obind_some h
  refine c_get E G o 14 (v := .ref (ad n3)) (oO_k g2).1 (cc_o11 (oO_k g2).2) rfl (fun w h => .tail _ (iA_23 h)) (by decide) (.tail _ qA_675) rfl (by rw [en3]; rfl) dX11_needSource_2 ?_
  clear en3
  obtain ⟨g4, h⟩ := oif_some h
  refine c_get E G n3 8 (oO_k g4).1 (cc_o6 (oO_k g4).2) rfl (fun w h => .tail _ (iA_14 h)) (by decide) (.tail _ qA_759) rfl rfl dX11_needSource_5 ?_
  refine lv_topi (fun v5 ev5 => ?_)
  have h := elet_at ev5 h
  clear ev5
  rcases othr_t h with ⟨r0, eT6⟩ | ⟨r8, T6, eT6, h⟩
  · refine q_xsv (As := [.int a0, .int v5]) (rest := []) E G hA hX hN hml (x_X11_needIndex l hst D cI cJ cZ cMic cSrc cSt cAI cAJ ad T a0 v5 eT6) (cwS 2 hts (gaS qA_738 qA_739 qA_131 qA_740) rfl rfl rfl (by decide +kernel) ⟨Nat.le_of_ble_eq_true rfl, Nat.le_of_ble_eq_true rfl⟩) rfl hl.1 rfl (lv_room (Nat.le_of_ble_eq_true rfl)) dX11_needSource_8 ⟨Nat.le_of_ble_eq_true rfl, Nat.le_of_ble_eq_true rfl⟩ (fun E9 ce q9 T9 H locs hp G hce hcv hcl => ?_)
    obtain ⟨hE, hT⟩ := hp
    subst hE
    rw [hT] at G
    exact vx_out (fun x hx => (htab x hx).elim) hlocks hce hcv hcl (fun t ht hvm => ⟨T1, trivial, ⟨⟨rfl, rfl⟩, by rw [ht]; exact G.1, va_K.moved hvm hK, G.2.1⟩, G.2.2.F ht⟩) G.2.2.2.2 (Nat.le_refl _) (Nat.le_refl _)
  refine q_csv (As := [.int a0, .int v5]) (rest := []) E G hA hX hN hml (u_X11_needIndex l hst D cI cJ cZ cMic cSrc cSt cAI cAJ ad T a0 v5 eT6) (cwS 2 hts (gaS qA_738 qA_739 qA_131 qA_740) rfl rfl rfl (by decide +kernel) ⟨Nat.le_of_ble_eq_true rfl, Nat.le_of_ble_eq_true rfl⟩) rfl hl.1 rfl (lv_room (Nat.le_of_ble_eq_true rfl)) dX11_needSource_8 ⟨Nat.zero_le _, Nat.zero_le _⟩ (fun T7 H locs hq G => ?_)
  rw [hq] at G
  clear hq eT6
  exact (Nat.succ_ne_zero _ (congrArg Prod.fst (Option.some.inj h)).symm).elim
def g_X11_sourceAt_b80  (T : AT) (s0 : Int32) : Option (Nat × Int32 × AT) := some (0, s0, T)
set_option maxHeartbeats 4000000 in
set_option maxRecDepth 100000 in
theorem u_X11_sourceAt_b80 {p : Program} {l : Launch} {e : Env} {s : State} {m : MethodId} {args : Array Value} {below : List Frame} {meth : Method} {c : Code} {Q : State → Prop} {D : va_G} {A : Nat → Prop} {cI cJ cZ cMic cSrc cSt cAI cAJ : ClassId} {ad : Nat → Nat} {r1 : Int32} {T1 : AT} (E : cE p c cX11_sourceAt s m args (Cond.code yX11_sourceAt cX11_sourceAt 4 (some .int) :: wsA) D RX11 (CT cI cJ cZ cMic cSrc cSt cAI cAJ)) (hA : ∀ q : Nat, s.heap.size ≤ q → A q) (hX : xT A s) (hN : nX s) (hml : c.maxLocals = 4) (hst : l.stackTraces = false) (kr80 : ∀ (H : Heap) (locs : List Loc) (ls : Array Slot), gC cI cJ cZ cMic cSrc cSt cAI cAJ D ad A s.heap H locs T1 → W p l e { frames := 8, cells := 0, slots := 0, locals := 123 } s m args below meth c H locs 0 0 Q (F0 m 80 ls [.int r1])) : ∀ (T : AT) (H : Heap) (locs : List Loc) (ls : Array Slot) (s0 : Int32), g_X11_sourceAt_b80 T s0 = some (0, r1, T1) → gC cI cJ cZ cMic cSrc cSt cAI cAJ D ad A s.heap H locs T → lv_has ls 4 [] → W p l e { frames := 8, cells := 0, slots := 0, locals := 123 } s m args below meth c H locs 0 0 Q (F0 m 80 ls [.int s0]) := by
  have hx := E.1
  have hb := E.2.1
  have hts := E.2.2.1
  have hown := E.2.2.2.1
  have hK := E.2.2.2.2
  intro T H locs ls s0 h G hl
  unfold g_X11_sourceAt_b80 at h
  rw [(osome3 h).2.2] at G
  refine lv_to (osome3 h).2.1 ?_
  exact kr80 _ _ _ G
def g_X11_sourceAt (T : AT) (o : Nat) (a0 : Int32) (a1 : Int32) (a2 : Int32) : Option (Nat × Int32 × AT) := oif (oO T o 11 = true) <| othr (g_X11_needCamera T o) 0 fun r5 T3 => oif (oO T3 o 11 = true) <| othr (g_X11_needSource T3 o a0) 0 fun r10 T8 => othr (g_X11_needRange T8 a1 (0 : Int32) (1 : Int32)) 0 fun r14 T12 => oif (oO T12 o 11 = true) <| obind (T12.2.2.2.2 o 14) fun n17 => oif (oO T12 n17 6 = true) <| elet (T12.2.2.1 n17 2) fun v19 => elet (v19 - 1) fun v20 => othr (g_X11_needRange T12 a2 (0 : Int32) v20) 0 fun r23 T21 => if a1 = 0 then (oif (oO T21 o 11 = true) <| obind (T21.2.2.2.2 o 6) fun n27 => oif (oO T21 n27 8 = true) <| obind (T21.2.2.2.2 n27 6) fun n29 => oif (aA T21 n29 100 = true) <| oif (inb a0 (T21.2.1 n29).2 = true) <| elet (T21.2.2.1 n29 a0.toNatClampNeg) fun v32 => oif (oO T21 o 11 = true) <| obind (T21.2.2.2.2 o 6) fun n34 => oif (oO T21 n34 8 = true) <| obind (T21.2.2.2.2 n34 8) fun n36 => oif (aA T21 n36 100 = true) <| oif (inb a0 (T21.2.1 n36).2 = true) <| elet (T21.2.2.1 n36 a0.toNatClampNeg) fun v39 => obind (g_X11_moved v32 v39 a2) fun r40 => g_X11_sourceAt_b80 T21 r40) else (oif (oO T21 o 11 = true) <| obind (T21.2.2.2.2 o 6) fun n43 => oif (oO T21 n43 8 = true) <| obind (T21.2.2.2.2 n43 7) fun n45 => oif (aA T21 n45 100 = true) <| oif (inb a0 (T21.2.1 n45).2 = true) <| elet (T21.2.2.1 n45 a0.toNatClampNeg) fun v48 => oif (oO T21 o 11 = true) <| obind (T21.2.2.2.2 o 6) fun n50 => oif (oO T21 n50 8 = true) <| obind (T21.2.2.2.2 n50 9) fun n52 => oif (aA T21 n52 100 = true) <| oif (inb a0 (T21.2.1 n52).2 = true) <| elet (T21.2.2.1 n52 a0.toNatClampNeg) fun v55 => obind (g_X11_moved v48 v55 a2) fun r56 => g_X11_sourceAt_b80 T21 r56)
set_option maxHeartbeats 4000000 in
set_option maxRecDepth 100000 in
theorem u_X11_sourceAt (l : Launch) (hst : l.stackTraces = false) (D : va_G) (cI cJ cZ cMic cSrc cSt cAI cAJ : ClassId) (ad : Nat → Nat) (T : AT) (o : Nat) (a0 : Int32) (a1 : Int32) (a2 : Int32) {r1 : Int32} {T1 : AT} (h : g_X11_sourceAt T o a0 a1 a2 = some (0, r1, T1)) : kCi l yX11_sourceAt (Cond.code yX11_sourceAt cX11_sourceAt 4 (some .int) :: wsA) 8 123 cI cJ cZ cMic cSrc cSt cAI cAJ D ad T [.ref (ad o), .int a0, .int a1, .int a2] (fun r T9 => r = r1 ∧ T9 = T1) := by
  intro sz
  refine Met.ofW (cc := cX11_sourceAt) (maxL := 4) (ret := (some .int)) (by decide) rfl ?_
  intro p e s m args below meth c s₁ B hml hv
  obtain ⟨rfl, hsz, hP, hK, hD0, hX, hN⟩ := hv
  have hx := B.exec
  have hb := B.bytes
  have hr := B.returns
  have hts := atoms_spec (ws := (Cond.code yX11_sourceAt cX11_sourceAt 4 (some .int) :: wsA)) B.pre
  have hown : s.vm.findClass RX11 = some m.cls := findClass_of_methodNamed B.named
  have hlocks := B.notSynchronized
  subst hsz
  have hD := hD0.self (sz := s.heap.size)
  generalize hAe : va_A (cW ad T.1 (cc cI cJ cZ cMic cSrc cSt cAI cAJ ad T)) s.heap.size = A at hD hX ⊢
  have hA : ∀ q : Nat, s.heap.size ≤ q → A q := fun q h => by rw [← hAe]; exact Or.inr h
  have G : gC cI cJ cZ cMic cSrc cSt cAI cAJ D ad A s.heap s.heap [] T := ⟨hP, hD, va_S.rf⟩
  have E : cE p c cX11_sourceAt s m ([.ref (ad o), .int a0, .int a1, .int a2] : List Value).toArray (Cond.code yX11_sourceAt cX11_sourceAt 4 (some .int) :: wsA) D RX11 (CT cI cJ cZ cMic cSrc cSt cAI cAJ) := ⟨hx, hb, hts, hown, hK⟩
  have hl := lv_entry ([.ref (ad o), .int a0, .int a1, .int a2]) (n := 4) (Nat.le_of_ble_eq_true rfl)
  rw [lg_entry_eq]
  generalize (lg_sl ([.ref (ad o), .int a0, .int a1, .int a2]) ++ List.replicate (4 - (lg_sl ([.ref (ad o), .int a0, .int a1, .int a2])).length) Slot.unset).toArray = ls at hl ⊢
  have hl : lv_has ls 4 [(0, .ref (ad o)), (1, .int a0), (2, .int a1), (3, .int a2)] := hl
  unfold g_X11_sourceAt at h
  refine lv_aload_n hx hb dX11_sourceAt_0 rfl (lv_at hl 0 rfl) ?_
  obtain ⟨g2, h⟩ := oif_some h
  obtain ⟨r5, T3, eT3, h⟩ := othr_n h
  refine q_cvv (As := []) (rest := []) E G hA hX hN hml (u_X11_needCamera l hst D cI cJ cZ cMic cSrc cSt cAI cAJ ad T o eT3) (cwV 0 hts (gaV qA_728 qA_729 qA_730 qA_131 qA_731) rfl rfl rfl (by decide +kernel) ⟨Nat.le_of_ble_eq_true rfl, Nat.le_of_ble_eq_true rfl⟩) (oO_k g2).1 (cc_o11 (oO_k g2).2) rfl rfl hl.1 rfl (lv_room (Nat.le_of_ble_eq_true rfl)) dX11_sourceAt_1 ⟨Nat.zero_le _, Nat.zero_le _⟩ (fun T4 H locs hq G => ?_)
  rw [hq] at G
  clear hq eT3
  refine lv_aload_n hx hb dX11_sourceAt_4 rfl (lv_at hl 0 rfl) ?_
  refine lv_iload_n hx hb dX11_sourceAt_5 rfl (lv_at hl 1 rfl) ?_
  obtain ⟨g7, h⟩ := oif_some h
  obtain ⟨r10, T8, eT8, h⟩ := othr_n h
  refine q_cvv (As := [.int a0]) (rest := []) E G hA hX hN hml (u_X11_needSource l hst D cI cJ cZ cMic cSrc cSt cAI cAJ ad T3 o a0 eT8) (cwV 1 hts (gaV qA_766 qA_767 qA_768 qA_131 qA_769) rfl rfl rfl (by decide +kernel) ⟨Nat.le_of_ble_eq_true rfl, Nat.le_of_ble_eq_true rfl⟩) (oO_k g7).1 (cc_o11 (oO_k g7).2) rfl rfl hl.1 rfl (lv_room (Nat.le_of_ble_eq_true rfl)) dX11_sourceAt_6 ⟨Nat.zero_le _, Nat.zero_le _⟩ (fun T9 H locs hq G => ?_)
  rw [hq] at G
  clear hq eT8
  refine lv_iload_n hx hb dX11_sourceAt_9 rfl (lv_at hl 2 rfl) ?_
  refine lv_iconst (v := 0) hx hb dX11_sourceAt_10 (by decide) ?_
  refine lv_iconst (v := 1) hx hb dX11_sourceAt_11 (by decide) ?_
  obtain ⟨r14, T12, eT12, h⟩ := othr_n h
  refine q_csv (As := [.int a1, .int 0, .int 1]) (rest := []) E G hA hX hN hml (u_X11_needRange l hst D cI cJ cZ cMic cSrc cSt cAI cAJ ad T8 a1 (0 : Int32) (1 : Int32) eT12) (cwS 3 hts (gaS qA_741 qA_742 qA_131 qA_743) rfl rfl rfl (by decide +kernel) ⟨Nat.le_of_ble_eq_true rfl, Nat.le_of_ble_eq_true rfl⟩) rfl hl.1 rfl (lv_room (Nat.le_of_ble_eq_true rfl)) dX11_sourceAt_12 ⟨Nat.zero_le _, Nat.zero_le _⟩ (fun T13 H locs hq G => ?_)
  rw [hq] at G
  clear hq eT12
  refine lv_iload_n hx hb dX11_sourceAt_15 rfl (lv_at hl 3 rfl) ?_
  refine lv_iconst (v := 0) hx hb dX11_sourceAt_16 (by decide) ?_
  refine lv_aload_n hx hb dX11_sourceAt_17 rfl (lv_at hl 0 rfl) ?_
  obtain ⟨g16, h⟩ := oif_some h
  obtain ⟨n17, en17, h⟩ := obind_some h
  refine c_get E G o 14 (v := .ref (ad n17)) (oO_k g16).1 (cc_o11 (oO_k g16).2) rfl (fun w h => .tail _ (iA_23 h)) (by decide) (.tail _ qA_675) rfl (by rw [en17]; rfl) dX11_sourceAt_18 ?_
  clear en17
  obtain ⟨g18, h⟩ := oif_some h
  refine c_get E G n17 2 (oO_k g18).1 (cc_o6 (oO_k g18).2) rfl (fun w h => .tail _ (iA_14 h)) (by decide) (.tail _ qA_761) rfl rfl dX11_sourceAt_21 ?_
  refine lv_topi (fun v19 ev19 => ?_)
  have h := elet_at ev19 h
  clear ev19
  refine lv_iconst (v := 1) hx hb dX11_sourceAt_24 (by decide) ?_
  refine lv_isub hx hb dX11_sourceAt_25 ?_
  refine lv_topi (fun v20 ev20 => ?_)
  have h := elet_at ev20 h
  clear ev20
  obtain ⟨r23, T21, eT21, h⟩ := othr_n h
  refine q_csv (As := [.int a2, .int 0, .int v20]) (rest := []) E G hA hX hN hml (u_X11_needRange l hst D cI cJ cZ cMic cSrc cSt cAI cAJ ad T12 a2 (0 : Int32) v20 eT21) (cwS 3 hts (gaS qA_741 qA_742 qA_131 qA_743) rfl rfl rfl (by decide +kernel) ⟨Nat.le_of_ble_eq_true rfl, Nat.le_of_ble_eq_true rfl⟩) rfl hl.1 rfl (lv_room (Nat.le_of_ble_eq_true rfl)) dX11_sourceAt_26 ⟨Nat.zero_le _, Nat.zero_le _⟩ (fun T22 H locs hq G => ?_)
  rw [hq] at G
  clear hq eT21
  refine lv_iload_n hx hb dX11_sourceAt_29 rfl (lv_at hl 2 rfl) ?_
  refine lv_if_ne (tgt := 58) hx hb dX11_sourceAt_30 (by decide) (fun c25 => ?_) (fun c25 => ?_)
  · have h := oif_neg c25 h
    refine lv_aload_n hx hb dX11_sourceAt_58 rfl (lv_at hl 0 rfl) ?_
    obtain ⟨g42, h⟩ := oif_some h
    obtain ⟨n43, en43, h⟩ := obind_some h
    refine c_get E G o 6 (v := .ref (ad n43)) (oO_k g42).1 (cc_o11 (oO_k g42).2) rfl (fun w h => .tail _ (iA_23 h)) (by decide) (.tail _ qA_664) rfl (by rw [en43]; rfl) dX11_sourceAt_59 ?_
    clear en43
    obtain ⟨g44, h⟩ := oif_some h
    obtain ⟨n45, en45, h⟩ := obind_some h
    refine c_get E G n43 7 (v := .ref (ad n45)) (oO_k g44).1 (cc_o8 (oO_k g44).2) rfl (fun w h => .tail _ (iA_16 h)) (by decide) (.tail _ qA_764) rfl (by rw [en45]; rfl) dX11_sourceAt_62 ?_
    clear en45
    refine lv_iload_n hx hb dX11_sourceAt_65 rfl (lv_at hl 1 rfl) ?_
    obtain ⟨g46, h⟩ := oif_some h
    obtain ⟨g47, h⟩ := oif_some h
    refine c_iald E G n45 0 (k := a0.toNatClampNeg) (aA_k g46).1 (cc_a100 (aA_k g46).2.1) rfl (inb_k g47).1 (inb_k g47).2 (aA_k g46).2.2 dX11_sourceAt_66 ?_
    refine lv_topi (fun v48 ev48 => ?_)
    have h := elet_at ev48 h
    clear ev48
    refine lv_aload_n hx hb dX11_sourceAt_67 rfl (lv_at hl 0 rfl) ?_
    obtain ⟨g49, h⟩ := oif_some h
    obtain ⟨n50, en50, h⟩ := obind_some h
    refine c_get E G o 6 (v := .ref (ad n50)) (oO_k g49).1 (cc_o11 (oO_k g49).2) rfl (fun w h => .tail _ (iA_23 h)) (by decide) (.tail _ qA_664) rfl (by rw [en50]; rfl) dX11_sourceAt_68 ?_
    clear en50
    obtain ⟨g51, h⟩ := oif_some h
    obtain ⟨n52, en52, h⟩ := obind_some h
    refine c_get E G n50 9 (v := .ref (ad n52)) (oO_k g51).1 (cc_o8 (oO_k g51).2) rfl (fun w h => .tail _ (iA_16 h)) (by decide) (.tail _ qA_765) rfl (by rw [en52]; rfl) dX11_sourceAt_71 ?_
    clear en52
    refine lv_iload_n hx hb dX11_sourceAt_74 rfl (lv_at hl 1 rfl) ?_
    obtain ⟨g53, h⟩ := oif_some h
    obtain ⟨g54, h⟩ := oif_some h
    refine c_iald E G n52 0 (k := a0.toNatClampNeg) (aA_k g53).1 (cc_a100 (aA_k g53).2.1) rfl (inb_k g54).1 (inb_k g54).2 (aA_k g53).2.2 dX11_sourceAt_75 ?_
    refine lv_topi (fun v55 ev55 => ?_)
    have h := elet_at ev55 h
    clear ev55
    refine lv_iload_n hx hb dX11_sourceAt_76 rfl (lv_at hl 3 rfl) ?_
    obtain ⟨r56, er56, h⟩ := obind_some h
    refine q_sti (As := [.int v48, .int v55, .int a2]) (rest := []) ⟨hx, hb, hml, hown, hts⟩ hN (u_X11_moved l v48 v55 a2 er56) (cwS 3 hts (gaS qA_770 qA_481 qA_131 qA_482) rfl rfl rfl (by decide +kernel) ⟨Nat.le_of_ble_eq_true rfl, Nat.le_of_ble_eq_true rfl⟩) rfl hl.1 rfl (lv_room (Nat.le_of_ble_eq_true rfl)) dX11_sourceAt_77 ⟨Nat.zero_le _, Nat.zero_le _⟩ (fun q57 hq => ?_)
    refine lv_to hq ?_
    clear hq er56
    have hl := lv_sub hl [] rfl
    exact u_X11_sourceAt_b80 E hA hX hN hml hst (fun H locs ls G => W.iret (v := r1) hx hb hr (fun t ht hW => ⟨⟨r1, T1, rfl, ⟨rfl, rfl⟩, ⟨by rw [ht]; exact G.1, va_K.moved hW.alike hK, G.2.1⟩⟩, G.2.2.F ht⟩) G.2.2.2.2 dX11_sourceAt_80) _ _ _ _ _ h G hl
  · have h := oif_pos c25 h
    refine lv_aload_n hx hb dX11_sourceAt_33 rfl (lv_at hl 0 rfl) ?_
    obtain ⟨g26, h⟩ := oif_some h
    obtain ⟨n27, en27, h⟩ := obind_some h
    refine c_get E G o 6 (v := .ref (ad n27)) (oO_k g26).1 (cc_o11 (oO_k g26).2) rfl (fun w h => .tail _ (iA_23 h)) (by decide) (.tail _ qA_664) rfl (by rw [en27]; rfl) dX11_sourceAt_34 ?_
    clear en27
    obtain ⟨g28, h⟩ := oif_some h
    obtain ⟨n29, en29, h⟩ := obind_some h
    refine c_get E G n27 6 (v := .ref (ad n29)) (oO_k g28).1 (cc_o8 (oO_k g28).2) rfl (fun w h => .tail _ (iA_16 h)) (by decide) (.tail _ qA_762) rfl (by rw [en29]; rfl) dX11_sourceAt_37 ?_
    clear en29
    refine lv_iload_n hx hb dX11_sourceAt_40 rfl (lv_at hl 1 rfl) ?_
    obtain ⟨g30, h⟩ := oif_some h
    obtain ⟨g31, h⟩ := oif_some h
    refine c_iald E G n29 0 (k := a0.toNatClampNeg) (aA_k g30).1 (cc_a100 (aA_k g30).2.1) rfl (inb_k g31).1 (inb_k g31).2 (aA_k g30).2.2 dX11_sourceAt_41 ?_
    refine lv_topi (fun v32 ev32 => ?_)
    have h := elet_at ev32 h
    clear ev32
    refine lv_aload_n hx hb dX11_sourceAt_42 rfl (lv_at hl 0 rfl) ?_
    obtain ⟨g33, h⟩ := oif_some h
    obtain ⟨n34, en34, h⟩ := obind_some h
    refine c_get E G o 6 (v := .ref (ad n34)) (oO_k g33).1 (cc_o11 (oO_k g33).2) rfl (fun w h => .tail _ (iA_23 h)) (by decide) (.tail _ qA_664) rfl (by rw [en34]; rfl) dX11_sourceAt_43 ?_
    clear en34
    obtain ⟨g35, h⟩ := oif_some h
    obtain ⟨n36, en36, h⟩ := obind_some h
    refine c_get E G n34 8 (v := .ref (ad n36)) (oO_k g35).1 (cc_o8 (oO_k g35).2) rfl (fun w h => .tail _ (iA_16 h)) (by decide) (.tail _ qA_763) rfl (by rw [en36]; rfl) dX11_sourceAt_46 ?_
    clear en36
    refine lv_iload_n hx hb dX11_sourceAt_49 rfl (lv_at hl 1 rfl) ?_
    obtain ⟨g37, h⟩ := oif_some h
    obtain ⟨g38, h⟩ := oif_some h
    refine c_iald E G n36 0 (k := a0.toNatClampNeg) (aA_k g37).1 (cc_a100 (aA_k g37).2.1) rfl (inb_k g38).1 (inb_k g38).2 (aA_k g37).2.2 dX11_sourceAt_50 ?_
    refine lv_topi (fun v39 ev39 => ?_)
    have h := elet_at ev39 h
    clear ev39
    refine lv_iload_n hx hb dX11_sourceAt_51 rfl (lv_at hl 3 rfl) ?_
    obtain ⟨r40, er40, h⟩ := obind_some h
    refine q_sti (As := [.int v32, .int v39, .int a2]) (rest := []) ⟨hx, hb, hml, hown, hts⟩ hN (u_X11_moved l v32 v39 a2 er40) (cwS 3 hts (gaS qA_770 qA_481 qA_131 qA_482) rfl rfl rfl (by decide +kernel) ⟨Nat.le_of_ble_eq_true rfl, Nat.le_of_ble_eq_true rfl⟩) rfl hl.1 rfl (lv_room (Nat.le_of_ble_eq_true rfl)) dX11_sourceAt_52 ⟨Nat.zero_le _, Nat.zero_le _⟩ (fun q41 hq => ?_)
    refine lv_to hq ?_
    clear hq er40
    refine lv_goto (tgt := 80) hx hb dX11_sourceAt_55 (by decide) ?_
    have hl := lv_sub hl [] rfl
    exact u_X11_sourceAt_b80 E hA hX hN hml hst (fun H locs ls G => W.iret (v := r1) hx hb hr (fun t ht hW => ⟨⟨r1, T1, rfl, ⟨rfl, rfl⟩, ⟨by rw [ht]; exact G.1, va_K.moved hW.alike hK, G.2.1⟩⟩, G.2.2.F ht⟩) G.2.2.2.2 dX11_sourceAt_80) _ _ _ _ _ h G hl
set_option maxHeartbeats 4000000 in
set_option maxRecDepth 100000 in
theorem s_X11_sourceAt_b80 {e1 : Nat} {r1 : Int32} {T1 : AT} : ∀ (T : AT) (s0 : Int32), g_X11_sourceAt_b80 T s0 = some (e1, r1, T1) → SP T T1 := by
  intro T s0 h
  have p0 := SP.rf T
  unfold g_X11_sourceAt_b80 at h
  rw [← (osome3 h).2.2]
  exact p0
set_option maxHeartbeats 4000000 in
set_option maxRecDepth 100000 in
theorem s_X11_sourceAt {T : AT} {o : Nat} {a0 : Int32} {a1 : Int32} {a2 : Int32} {e1 : Nat} {r1 : Int32} {T1 : AT} (h : g_X11_sourceAt T o a0 a1 a2 = some (e1, r1, T1)) : SP T T1 := by
  have p0 := SP.rf T
  unfold g_X11_sourceAt at h
  obtain ⟨g2, h⟩ := oif_some h
  rcases othr_s h with ⟨k9, r9, e9, -⟩ | ⟨r4, T3, eT3, h⟩
  · exact SP.tr p0 (s_X11_needCamera e9)
  have p1 : SP T T3 := SP.tr p0 (s_X11_needCamera eT3)
  obtain ⟨g5, h⟩ := oif_some h
  rcases othr_s h with ⟨k9, r9, e9, -⟩ | ⟨r7, T6, eT6, h⟩
  · exact SP.tr p1 (s_X11_needSource e9)
  have p2 : SP T T6 := SP.tr p1 (s_X11_needSource eT6)
  rcases othr_s h with ⟨k9, r9, e9, -⟩ | ⟨r9, T8, eT8, h⟩
  · exact SP.tr p2 (s_X11_needRange e9)
  have p3 : SP T T8 := SP.tr p2 (s_X11_needRange eT8)
  obtain ⟨g10, h⟩ := oif_some h
  obtain ⟨n11, en11, h⟩ := obind_some h
  obtain ⟨g12, h⟩ := oif_some h
  obtain ⟨v13, -, h⟩ := elet_some h
  obtain ⟨v14, -, h⟩ := elet_some h
  rcases othr_s h with ⟨k9, r9, e9, -⟩ | ⟨r16, T15, eT15, h⟩
  · exact SP.tr p3 (s_X11_needRange e9)
  have p4 : SP T T15 := SP.tr p3 (s_X11_needRange eT15)
  rcases oif_or h with ⟨c17, h⟩ | ⟨c17, h⟩
  · have h := h
    obtain ⟨g18, h⟩ := oif_some h
    obtain ⟨n19, en19, h⟩ := obind_some h
    obtain ⟨g20, h⟩ := oif_some h
    obtain ⟨n21, en21, h⟩ := obind_some h
    obtain ⟨g22, h⟩ := oif_some h
    obtain ⟨g23, h⟩ := oif_some h
    obtain ⟨v24, -, h⟩ := elet_some h
    obtain ⟨g25, h⟩ := oif_some h
    obtain ⟨n26, en26, h⟩ := obind_some h
    obtain ⟨g27, h⟩ := oif_some h
    obtain ⟨n28, en28, h⟩ := obind_some h
    obtain ⟨g29, h⟩ := oif_some h
    obtain ⟨g30, h⟩ := oif_some h
    obtain ⟨v31, -, h⟩ := elet_some h
    obtain ⟨r32, -, h⟩ := obind_some h
    exact SP.tr p4 (s_X11_sourceAt_b80 _ _ h)
  · have h := h
    obtain ⟨g33, h⟩ := oif_some h
    obtain ⟨n34, en34, h⟩ := obind_some h
    obtain ⟨g35, h⟩ := oif_some h
    obtain ⟨n36, en36, h⟩ := obind_some h
    obtain ⟨g37, h⟩ := oif_some h
    obtain ⟨g38, h⟩ := oif_some h
    obtain ⟨v39, -, h⟩ := elet_some h
    obtain ⟨g40, h⟩ := oif_some h
    obtain ⟨n41, en41, h⟩ := obind_some h
    obtain ⟨g42, h⟩ := oif_some h
    obtain ⟨n43, en43, h⟩ := obind_some h
    obtain ⟨g44, h⟩ := oif_some h
    obtain ⟨g45, h⟩ := oif_some h
    obtain ⟨v46, -, h⟩ := elet_some h
    obtain ⟨r47, -, h⟩ := obind_some h
    exact SP.tr p4 (s_X11_sourceAt_b80 _ _ h)
set_option maxHeartbeats 4000000 in
set_option maxRecDepth 100000 in
theorem x_X11_sourceAt_b80 {p : Program} {l : Launch} {e : Env} {s : State} {m : MethodId} {args : Array Value} {below : List Frame} {meth : Method} {c : Code} {Qc : Array Value → State → Outcome → State → Prop} {XC : String → State → State → Prop} {D : va_G} {A : Nat → Prop} {cI cJ cZ cMic cSrc cSt cAI cAJ : ClassId} {ad : Nat → Nat} {e1 : Nat} {r1 : Int32} {T1 : AT} (E : cE p c cX11_sourceAt s m args (Cond.code yX11_sourceAt cX11_sourceAt 4 (some .int) :: wsA) D RX11 (CT cI cJ cZ cMic cSrc cSt cAI cAJ)) (hA : ∀ q : Nat, s.heap.size ≤ q → A q) (hX : xT A s) (hN : nX s) (hml : c.maxLocals = 4) (hz9 : True) (hst : l.stackTraces = false) (htab : ∀ x ∈ c.exceptionTable.toList, False) (hlocks : meth.locks = false) (kx : ∀ (H : Heap) (locs : List Loc) (t : State), gC cI cJ cZ cMic cSrc cSt cAI cAJ D ad A s.heap H locs T1 → s.vm.Alike t.vm → H.size ≤ t.heap.size → (∀ q, q < H.size → t.heap[q]? = H[q]?) → XC (exn e1) s t) : ∀ (T : AT) (H : Heap) (locs : List Loc) (ls : Array Slot) (s0 : Int32), g_X11_sourceAt_b80 T s0 = some (e1 + 1, r1, T1) → gC cI cJ cZ cMic cSrc cSt cAI cAJ D ad A s.heap H locs T → lv_has ls 4 [] → W p l e { frames := 8, cells := 1, slots := 6, locals := 123 } s m args below meth c H locs 0 0 (vx_MQ below Qc XC args s 1 6 A) (F0 m 80 ls [.int s0]) := by
  have hx := E.1
  have hb := E.2.1
  have hts := E.2.2.1
  have hown := E.2.2.2.1
  have hK := E.2.2.2.2
  intro T H locs ls s0 h G hl
  unfold g_X11_sourceAt_b80 at h
  exact (Nat.succ_ne_zero _ (congrArg Prod.fst (Option.some.inj h)).symm).elim
set_option maxHeartbeats 4000000 in
set_option maxRecDepth 100000 in
theorem x_X11_sourceAt (l : Launch) (hst : l.stackTraces = false) (D : va_G) (cI cJ cZ cMic cSrc cSt cAI cAJ : ClassId) (ad : Nat → Nat) (T : AT) (o : Nat) (a0 : Int32) (a1 : Int32) (a2 : Int32) {e1 : Nat} {r1 : Int32} {T1 : AT} (h : g_X11_sourceAt T o a0 a1 a2 = some (e1 + 1, r1, T1)) : kXi l yX11_sourceAt (Cond.code yX11_sourceAt cX11_sourceAt 4 (some .int) :: wsA) 8 123 cI cJ cZ cMic cSrc cSt cAI cAJ D ad T [.ref (ad o), .int a0, .int a1, .int a2] e1 T1 := by
  intro sz
  refine vx_ofW (cc := cX11_sourceAt) (maxL := 4) (ret := (some .int)) (by decide) rfl ?_
  intro p e s m args below meth c s₁ B hml htab hv
  obtain ⟨rfl, hsz, hP, hK, hD0, hX, hN⟩ := hv
  have hx := B.exec
  have hb := B.bytes
  have hr := B.returns
  have hts := atoms_spec (ws := (Cond.code yX11_sourceAt cX11_sourceAt 4 (some .int) :: wsA)) B.pre
  have hown : s.vm.findClass RX11 = some m.cls := findClass_of_methodNamed B.named
  have hlocks := B.notSynchronized
  subst hsz
  have hD := hD0.self (sz := s.heap.size)
  generalize hAe : va_A (cW ad T.1 (cc cI cJ cZ cMic cSrc cSt cAI cAJ ad T)) s.heap.size = A at hD hX ⊢
  have hA : ∀ q : Nat, s.heap.size ≤ q → A q := fun q h => by rw [← hAe]; exact Or.inr h
  have G : gC cI cJ cZ cMic cSrc cSt cAI cAJ D ad A s.heap s.heap [] T := ⟨hP, hD, va_S.rf⟩
  have E : cE p c cX11_sourceAt s m ([.ref (ad o), .int a0, .int a1, .int a2] : List Value).toArray (Cond.code yX11_sourceAt cX11_sourceAt 4 (some .int) :: wsA) D RX11 (CT cI cJ cZ cMic cSrc cSt cAI cAJ) := ⟨hx, hb, hts, hown, hK⟩
  have htab : ∀ x ∈ c.exceptionTable.toList, False := fun x hx => htab x hx
  have hl := lv_entry ([.ref (ad o), .int a0, .int a1, .int a2]) (n := 4) (Nat.le_of_ble_eq_true rfl)
  rw [lg_entry_eq]
  generalize (lg_sl ([.ref (ad o), .int a0, .int a1, .int a2]) ++ List.replicate (4 - (lg_sl ([.ref (ad o), .int a0, .int a1, .int a2])).length) Slot.unset).toArray = ls at hl ⊢
  have hl : lv_has ls 4 [(0, .ref (ad o)), (1, .int a0), (2, .int a1), (3, .int a2)] := hl
  unfold g_X11_sourceAt at h
  refine lv_aload_n hx hb dX11_sourceAt_0 rfl (lv_at hl 0 rfl) ?_
  obtain ⟨g2, h⟩ := oif_some h
  rcases othr_t h with ⟨r0, eT3⟩ | ⟨r5, T3, eT3, h⟩
  · refine q_xvv (As := []) (rest := []) E G hA hX hN hml (x_X11_needCamera l hst D cI cJ cZ cMic cSrc cSt cAI cAJ ad T o eT3) (cwV 0 hts (gaV qA_728 qA_729 qA_730 qA_131 qA_731) rfl rfl rfl (by decide +kernel) ⟨Nat.le_of_ble_eq_true rfl, Nat.le_of_ble_eq_true rfl⟩) (oO_k g2).1 (cc_o11 (oO_k g2).2) rfl rfl hl.1 rfl (lv_room (Nat.le_of_ble_eq_true rfl)) dX11_sourceAt_1 ⟨Nat.le_of_ble_eq_true rfl, Nat.le_of_ble_eq_true rfl⟩ (fun E9 ce q9 T9 H locs hp G hce hcv hcl => ?_)
    obtain ⟨hE, hT⟩ := hp
    subst hE
    rw [hT] at G
    exact vx_out (fun x hx => (htab x hx).elim) hlocks hce hcv hcl (fun t ht hvm => ⟨T1, trivial, ⟨⟨rfl, rfl⟩, by rw [ht]; exact G.1, va_K.moved hvm hK, G.2.1⟩, G.2.2.F ht⟩) G.2.2.2.2 (Nat.le_refl _) (Nat.le_refl _)
  refine q_cvv (As := []) (rest := []) E G hA hX hN hml (u_X11_needCamera l hst D cI cJ cZ cMic cSrc cSt cAI cAJ ad T o eT3) (cwV 0 hts (gaV qA_728 qA_729 qA_730 qA_131 qA_731) rfl rfl rfl (by decide +kernel) ⟨Nat.le_of_ble_eq_true rfl, Nat.le_of_ble_eq_true rfl⟩) (oO_k g2).1 (cc_o11 (oO_k g2).2) rfl rfl hl.1 rfl (lv_room (Nat.le_of_ble_eq_true rfl)) dX11_sourceAt_1 ⟨Nat.zero_le _, Nat.zero_le _⟩ (fun T4 H locs hq G => ?_)
  rw [hq] at G
  clear hq eT3
  refine lv_aload_n hx hb dX11_sourceAt_4 rfl (lv_at hl 0 rfl) ?_
  refine lv_iload_n hx hb dX11_sourceAt_5 rfl (lv_at hl 1 rfl) ?_
  obtain ⟨g7, h⟩ := oif_some h
  rcases othr_t h with ⟨r0, eT8⟩ | ⟨r10, T8, eT8, h⟩
  · refine q_xvv (As := [.int a0]) (rest := []) E G hA hX hN hml (x_X11_needSource l hst D cI cJ cZ cMic cSrc cSt cAI cAJ ad T3 o a0 eT8) (cwV 1 hts (gaV qA_766 qA_767 qA_768 qA_131 qA_769) rfl rfl rfl (by decide +kernel) ⟨Nat.le_of_ble_eq_true rfl, Nat.le_of_ble_eq_true rfl⟩) (oO_k g7).1 (cc_o11 (oO_k g7).2) rfl rfl hl.1 rfl (lv_room (Nat.le_of_ble_eq_true rfl)) dX11_sourceAt_6 ⟨Nat.le_of_ble_eq_true rfl, Nat.le_of_ble_eq_true rfl⟩ (fun E9 ce q9 T9 H locs hp G hce hcv hcl => ?_)
    obtain ⟨hE, hT⟩ := hp
    subst hE
    rw [hT] at G
    exact vx_out (fun x hx => (htab x hx).elim) hlocks hce hcv hcl (fun t ht hvm => ⟨T1, trivial, ⟨⟨rfl, rfl⟩, by rw [ht]; exact G.1, va_K.moved hvm hK, G.2.1⟩, G.2.2.F ht⟩) G.2.2.2.2 (Nat.le_refl _) (Nat.le_refl _)
  refine q_cvv (As := [.int a0]) (rest := []) E G hA hX hN hml (u_X11_needSource l hst D cI cJ cZ cMic cSrc cSt cAI cAJ ad T3 o a0 eT8) (cwV 1 hts (gaV qA_766 qA_767 qA_768 qA_131 qA_769) rfl rfl rfl (by decide +kernel) ⟨Nat.le_of_ble_eq_true rfl, Nat.le_of_ble_eq_true rfl⟩) (oO_k g7).1 (cc_o11 (oO_k g7).2) rfl rfl hl.1 rfl (lv_room (Nat.le_of_ble_eq_true rfl)) dX11_sourceAt_6 ⟨Nat.zero_le _, Nat.zero_le _⟩ (fun T9 H locs hq G => ?_)
  rw [hq] at G
  clear hq eT8
  refine lv_iload_n hx hb dX11_sourceAt_9 rfl (lv_at hl 2 rfl) ?_
  refine lv_iconst (v := 0) hx hb dX11_sourceAt_10 (by decide) ?_
  refine lv_iconst (v := 1) hx hb dX11_sourceAt_11 (by decide) ?_
  rcases othr_t h with ⟨r0, eT12⟩ | ⟨r14, T12, eT12, h⟩
  · refine q_xsv (As := [.int a1, .int 0, .int 1]) (rest := []) E G hA hX hN hml (x_X11_needRange l hst D cI cJ cZ cMic cSrc cSt cAI cAJ ad T8 a1 (0 : Int32) (1 : Int32) eT12) (cwS 3 hts (gaS qA_741 qA_742 qA_131 qA_743) rfl rfl rfl (by decide +kernel) ⟨Nat.le_of_ble_eq_true rfl, Nat.le_of_ble_eq_true rfl⟩) rfl hl.1 rfl (lv_room (Nat.le_of_ble_eq_true rfl)) dX11_sourceAt_12 ⟨Nat.le_of_ble_eq_true rfl, Nat.le_of_ble_eq_true rfl⟩ (fun E9 ce q9 T9 H locs hp G hce hcv hcl => ?_)
    obtain ⟨hE, hT⟩ := hp
    subst hE
    rw [hT] at G
    exact vx_out (fun x hx => (htab x hx).elim) hlocks hce hcv hcl (fun t ht hvm => ⟨T1, trivial, ⟨⟨rfl, rfl⟩, by rw [ht]; exact G.1, va_K.moved hvm hK, G.2.1⟩, G.2.2.F ht⟩) G.2.2.2.2 (Nat.le_refl _) (Nat.le_refl _)
  refine q_csv (As := [.int a1, .int 0, .int 1]) (rest := []) E G hA hX hN hml (u_X11_needRange l hst D cI cJ cZ cMic cSrc cSt cAI cAJ ad T8 a1 (0 : Int32) (1 : Int32) eT12) (cwS 3 hts (gaS qA_741 qA_742 qA_131 qA_743) rfl rfl rfl (by decide +kernel) ⟨Nat.le_of_ble_eq_true rfl, Nat.le_of_ble_eq_true rfl⟩) rfl hl.1 rfl (lv_room (Nat.le_of_ble_eq_true rfl)) dX11_sourceAt_12 ⟨Nat.zero_le _, Nat.zero_le _⟩ (fun T13 H locs hq G => ?_)
  rw [hq] at G
  clear hq eT12
  refine lv_iload_n hx hb dX11_sourceAt_15 rfl (lv_at hl 3 rfl) ?_
  refine lv_iconst (v := 0) hx hb dX11_sourceAt_16 (by decide) ?_
  refine lv_aload_n hx hb dX11_sourceAt_17 rfl (lv_at hl 0 rfl) ?_
  obtain ⟨g16, h⟩ := oif_some h
  obtain ⟨n17, en17, h⟩ := obind_some h
  refine c_get E G o 14 (v := .ref (ad n17)) (oO_k g16).1 (cc_o11 (oO_k g16).2) rfl (fun w h => .tail _ (iA_23 h)) (by decide) (.tail _ qA_675) rfl (by rw [en17]; rfl) dX11_sourceAt_18 ?_
  clear en17
  obtain ⟨g18, h⟩ := oif_some h
  refine c_get E G n17 2 (oO_k g18).1 (cc_o6 (oO_k g18).2) rfl (fun w h => .tail _ (iA_14 h)) (by decide) (.tail _ qA_761) rfl rfl dX11_sourceAt_21 ?_
  refine lv_topi (fun v19 ev19 => ?_)
  have h := elet_at ev19 h
  clear ev19
  refine lv_iconst (v := 1) hx hb dX11_sourceAt_24 (by decide) ?_
  refine lv_isub hx hb dX11_sourceAt_25 ?_
  refine lv_topi (fun v20 ev20 => ?_)
  have h := elet_at ev20 h
  clear ev20
  rcases othr_t h with ⟨r0, eT21⟩ | ⟨r23, T21, eT21, h⟩
  · refine q_xsv (As := [.int a2, .int 0, .int v20]) (rest := []) E G hA hX hN hml (x_X11_needRange l hst D cI cJ cZ cMic cSrc cSt cAI cAJ ad T12 a2 (0 : Int32) v20 eT21) (cwS 3 hts (gaS qA_741 qA_742 qA_131 qA_743) rfl rfl rfl (by decide +kernel) ⟨Nat.le_of_ble_eq_true rfl, Nat.le_of_ble_eq_true rfl⟩) rfl hl.1 rfl (lv_room (Nat.le_of_ble_eq_true rfl)) dX11_sourceAt_26 ⟨Nat.le_of_ble_eq_true rfl, Nat.le_of_ble_eq_true rfl⟩ (fun E9 ce q9 T9 H locs hp G hce hcv hcl => ?_)
    obtain ⟨hE, hT⟩ := hp
    subst hE
    rw [hT] at G
    exact vx_out (fun x hx => (htab x hx).elim) hlocks hce hcv hcl (fun t ht hvm => ⟨T1, trivial, ⟨⟨rfl, rfl⟩, by rw [ht]; exact G.1, va_K.moved hvm hK, G.2.1⟩, G.2.2.F ht⟩) G.2.2.2.2 (Nat.le_refl _) (Nat.le_refl _)
  refine q_csv (As := [.int a2, .int 0, .int v20]) (rest := []) E G hA hX hN hml (u_X11_needRange l hst D cI cJ cZ cMic cSrc cSt cAI cAJ ad T12 a2 (0 : Int32) v20 eT21) (cwS 3 hts (gaS qA_741 qA_742 qA_131 qA_743) rfl rfl rfl (by decide +kernel) ⟨Nat.le_of_ble_eq_true rfl, Nat.le_of_ble_eq_true rfl⟩) rfl hl.1 rfl (lv_room (Nat.le_of_ble_eq_true rfl)) dX11_sourceAt_26 ⟨Nat.zero_le _, Nat.zero_le _⟩ (fun T22 H locs hq G => ?_)
  rw [hq] at G
  clear hq eT21
  refine lv_iload_n hx hb dX11_sourceAt_29 rfl (lv_at hl 2 rfl) ?_
  refine lv_if_ne (tgt := 58) hx hb dX11_sourceAt_30 (by decide) (fun c25 => ?_) (fun c25 => ?_)
  · have h := oif_neg c25 h
    refine lv_aload_n hx hb dX11_sourceAt_58 rfl (lv_at hl 0 rfl) ?_
    obtain ⟨g42, h⟩ := oif_some h
    obtain ⟨n43, en43, h⟩ := obind_some h
    refine c_get E G o 6 (v := .ref (ad n43)) (oO_k g42).1 (cc_o11 (oO_k g42).2) rfl (fun w h => .tail _ (iA_23 h)) (by decide) (.tail _ qA_664) rfl (by rw [en43]; rfl) dX11_sourceAt_59 ?_
    clear en43
    obtain ⟨g44, h⟩ := oif_some h
    obtain ⟨n45, en45, h⟩ := obind_some h
    refine c_get E G n43 7 (v := .ref (ad n45)) (oO_k g44).1 (cc_o8 (oO_k g44).2) rfl (fun w h => .tail _ (iA_16 h)) (by decide) (.tail _ qA_764) rfl (by rw [en45]; rfl) dX11_sourceAt_62 ?_
    clear en45
    refine lv_iload_n hx hb dX11_sourceAt_65 rfl (lv_at hl 1 rfl) ?_
    obtain ⟨g46, h⟩ := oif_some h
    obtain ⟨g47, h⟩ := oif_some h
    refine c_iald E G n45 0 (k := a0.toNatClampNeg) (aA_k g46).1 (cc_a100 (aA_k g46).2.1) rfl (inb_k g47).1 (inb_k g47).2 (aA_k g46).2.2 dX11_sourceAt_66 ?_
    refine lv_topi (fun v48 ev48 => ?_)
    have h := elet_at ev48 h
    clear ev48
    refine lv_aload_n hx hb dX11_sourceAt_67 rfl (lv_at hl 0 rfl) ?_
    obtain ⟨g49, h⟩ := oif_some h
    obtain ⟨n50, en50, h⟩ := obind_some h
    refine c_get E G o 6 (v := .ref (ad n50)) (oO_k g49).1 (cc_o11 (oO_k g49).2) rfl (fun w h => .tail _ (iA_23 h)) (by decide) (.tail _ qA_664) rfl (by rw [en50]; rfl) dX11_sourceAt_68 ?_
    clear en50
    obtain ⟨g51, h⟩ := oif_some h
    obtain ⟨n52, en52, h⟩ := obind_some h
    refine c_get E G n50 9 (v := .ref (ad n52)) (oO_k g51).1 (cc_o8 (oO_k g51).2) rfl (fun w h => .tail _ (iA_16 h)) (by decide) (.tail _ qA_765) rfl (by rw [en52]; rfl) dX11_sourceAt_71 ?_
    clear en52
    refine lv_iload_n hx hb dX11_sourceAt_74 rfl (lv_at hl 1 rfl) ?_
    obtain ⟨g53, h⟩ := oif_some h
    obtain ⟨g54, h⟩ := oif_some h
    refine c_iald E G n52 0 (k := a0.toNatClampNeg) (aA_k g53).1 (cc_a100 (aA_k g53).2.1) rfl (inb_k g54).1 (inb_k g54).2 (aA_k g53).2.2 dX11_sourceAt_75 ?_
    refine lv_topi (fun v55 ev55 => ?_)
    have h := elet_at ev55 h
    clear ev55
    refine lv_iload_n hx hb dX11_sourceAt_76 rfl (lv_at hl 3 rfl) ?_
    obtain ⟨r56, er56, h⟩ := obind_some h
    refine q_sti (As := [.int v48, .int v55, .int a2]) (rest := []) ⟨hx, hb, hml, hown, hts⟩ hN (u_X11_moved l v48 v55 a2 er56) (cwS 3 hts (gaS qA_770 qA_481 qA_131 qA_482) rfl rfl rfl (by decide +kernel) ⟨Nat.le_of_ble_eq_true rfl, Nat.le_of_ble_eq_true rfl⟩) rfl hl.1 rfl (lv_room (Nat.le_of_ble_eq_true rfl)) dX11_sourceAt_77 ⟨Nat.zero_le _, Nat.zero_le _⟩ (fun q57 hq => ?_)
    refine lv_to hq ?_
    clear hq er56
    have hl := lv_sub hl [] rfl
    exact x_X11_sourceAt_b80 E hA hX hN hml trivial hst htab hlocks (fun H locs t G hvm h1 h2 => ⟨T1, trivial, ⟨⟨rfl, rfl⟩, (c_thrown G hK hvm h1 h2).1⟩, (c_thrown G hK hvm h1 h2).2⟩) _ _ _ _ _ h G hl
  · have h := oif_pos c25 h
    refine lv_aload_n hx hb dX11_sourceAt_33 rfl (lv_at hl 0 rfl) ?_
    obtain ⟨g26, h⟩ := oif_some h
    obtain ⟨n27, en27, h⟩ := obind_some h
    refine c_get E G o 6 (v := .ref (ad n27)) (oO_k g26).1 (cc_o11 (oO_k g26).2) rfl (fun w h => .tail _ (iA_23 h)) (by decide) (.tail _ qA_664) rfl (by rw [en27]; rfl) dX11_sourceAt_34 ?_
    clear en27
    obtain ⟨g28, h⟩ := oif_some h
    obtain ⟨n29, en29, h⟩ := obind_some h
    refine c_get E G n27 6 (v := .ref (ad n29)) (oO_k g28).1 (cc_o8 (oO_k g28).2) rfl (fun w h => .tail _ (iA_16 h)) (by decide) (.tail _ qA_762) rfl (by rw [en29]; rfl) dX11_sourceAt_37 ?_
    clear en29
    refine lv_iload_n hx hb dX11_sourceAt_40 rfl (lv_at hl 1 rfl) ?_
    obtain ⟨g30, h⟩ := oif_some h
    obtain ⟨g31, h⟩ := oif_some h
    refine c_iald E G n29 0 (k := a0.toNatClampNeg) (aA_k g30).1 (cc_a100 (aA_k g30).2.1) rfl (inb_k g31).1 (inb_k g31).2 (aA_k g30).2.2 dX11_sourceAt_41 ?_
    refine lv_topi (fun v32 ev32 => ?_)
    have h := elet_at ev32 h
    clear ev32
    refine lv_aload_n hx hb dX11_sourceAt_42 rfl (lv_at hl 0 rfl) ?_
    obtain ⟨g33, h⟩ := oif_some h
    obtain ⟨n34, en34, h⟩ := obind_some h
    refine c_get E G o 6 (v := .ref (ad n34)) (oO_k g33).1 (cc_o11 (oO_k g33).2) rfl (fun w h => .tail _ (iA_23 h)) (by decide) (.tail _ qA_664) rfl (by rw [en34]; rfl) dX11_sourceAt_43 ?_
    clear en34
    obtain ⟨g35, h⟩ := oif_some h
    obtain ⟨n36, en36, h⟩ := obind_some h
    refine c_get E G n34 8 (v := .ref (ad n36)) (oO_k g35).1 (cc_o8 (oO_k g35).2) rfl (fun w h => .tail _ (iA_16 h)) (by decide) (.tail _ qA_763) rfl (by rw [en36]; rfl) dX11_sourceAt_46 ?_
    clear en36
    refine lv_iload_n hx hb dX11_sourceAt_49 rfl (lv_at hl 1 rfl) ?_
    obtain ⟨g37, h⟩ := oif_some h
    obtain ⟨g38, h⟩ := oif_some h
    refine c_iald E G n36 0 (k := a0.toNatClampNeg) (aA_k g37).1 (cc_a100 (aA_k g37).2.1) rfl (inb_k g38).1 (inb_k g38).2 (aA_k g37).2.2 dX11_sourceAt_50 ?_
    refine lv_topi (fun v39 ev39 => ?_)
    have h := elet_at ev39 h
    clear ev39
    refine lv_iload_n hx hb dX11_sourceAt_51 rfl (lv_at hl 3 rfl) ?_
    obtain ⟨r40, er40, h⟩ := obind_some h
    refine q_sti (As := [.int v32, .int v39, .int a2]) (rest := []) ⟨hx, hb, hml, hown, hts⟩ hN (u_X11_moved l v32 v39 a2 er40) (cwS 3 hts (gaS qA_770 qA_481 qA_131 qA_482) rfl rfl rfl (by decide +kernel) ⟨Nat.le_of_ble_eq_true rfl, Nat.le_of_ble_eq_true rfl⟩) rfl hl.1 rfl (lv_room (Nat.le_of_ble_eq_true rfl)) dX11_sourceAt_52 ⟨Nat.zero_le _, Nat.zero_le _⟩ (fun q41 hq => ?_)
    refine lv_to hq ?_
    clear hq er40
    refine lv_goto (tgt := 80) hx hb dX11_sourceAt_55 (by decide) ?_
    have hl := lv_sub hl [] rfl
    exact x_X11_sourceAt_b80 E hA hX hN hml trivial hst htab hlocks (fun H locs t G hvm h1 h2 => ⟨T1, trivial, ⟨⟨rfl, rfl⟩, (c_thrown G hK hvm h1 h2).1⟩, (c_thrown G hK hvm h1 h2).2⟩) _ _ _ _ _ h G hl
def g_X11_isOn (T : AT) (o : Nat) (a0 : Int32) : Option (Nat × Int32 × AT) := oif (oO T o 11 = true) <| othr (g_X11_needCamera T o) 0 fun r5 T3 => oif (oO T3 o 11 = true) <| othr (g_X11_needSource T3 o a0) 0 fun r10 T8 => oif (oO T8 o 11 = true) <| obind (T8.2.2.2.2 o 6) fun n13 => oif (oO T8 n13 8 = true) <| obind (T8.2.2.2.2 n13 5) fun n15 => oif (aA T8 n15 102 = true) <| oif (inb a0 (T8.2.1 n15).2 = true) <| elet (T8.2.2.1 n15 a0.toNatClampNeg) fun v18 => oif (v18 = 0 ∨ v18 = 1) <| some (0, v18, T8)
set_option maxHeartbeats 4000000 in
set_option maxRecDepth 100000 in
theorem u_X11_isOn (l : Launch) (hst : l.stackTraces = false) (D : va_G) (cI cJ cZ cMic cSrc cSt cAI cAJ : ClassId) (ad : Nat → Nat) (T : AT) (o : Nat) (a0 : Int32) {r1 : Int32} {T1 : AT} (h : g_X11_isOn T o a0 = some (0, r1, T1)) : kCi l yX11_isOn (Cond.code yX11_isOn cX11_isOn 2 (some .boolean) :: wsA) 8 123 cI cJ cZ cMic cSrc cSt cAI cAJ D ad T [.ref (ad o), .int a0] (fun r T9 => r = r1 ∧ T9 = T1) := by
  intro sz
  refine Met.ofW (cc := cX11_isOn) (maxL := 2) (ret := (some .boolean)) (by decide) rfl ?_
  intro p e s m args below meth c s₁ B hml hv
  obtain ⟨rfl, hsz, hP, hK, hD0, hX, hN⟩ := hv
  have hx := B.exec
  have hb := B.bytes
  have hr := B.returns
  have hts := atoms_spec (ws := (Cond.code yX11_isOn cX11_isOn 2 (some .boolean) :: wsA)) B.pre
  have hown : s.vm.findClass RX11 = some m.cls := findClass_of_methodNamed B.named
  have hlocks := B.notSynchronized
  subst hsz
  have hD := hD0.self (sz := s.heap.size)
  generalize hAe : va_A (cW ad T.1 (cc cI cJ cZ cMic cSrc cSt cAI cAJ ad T)) s.heap.size = A at hD hX ⊢
  have hA : ∀ q : Nat, s.heap.size ≤ q → A q := fun q h => by rw [← hAe]; exact Or.inr h
  have G : gC cI cJ cZ cMic cSrc cSt cAI cAJ D ad A s.heap s.heap [] T := ⟨hP, hD, va_S.rf⟩
  have E : cE p c cX11_isOn s m ([.ref (ad o), .int a0] : List Value).toArray (Cond.code yX11_isOn cX11_isOn 2 (some .boolean) :: wsA) D RX11 (CT cI cJ cZ cMic cSrc cSt cAI cAJ) := ⟨hx, hb, hts, hown, hK⟩
  have hl := lv_entry ([.ref (ad o), .int a0]) (n := 2) (Nat.le_of_ble_eq_true rfl)
  rw [lg_entry_eq]
  generalize (lg_sl ([.ref (ad o), .int a0]) ++ List.replicate (2 - (lg_sl ([.ref (ad o), .int a0])).length) Slot.unset).toArray = ls at hl ⊢
  have hl : lv_has ls 2 [(0, .ref (ad o)), (1, .int a0)] := hl
  unfold g_X11_isOn at h
  refine lv_aload_n hx hb dX11_isOn_0 rfl (lv_at hl 0 rfl) ?_
  obtain ⟨g2, h⟩ := oif_some h
  obtain ⟨r5, T3, eT3, h⟩ := othr_n h
  refine q_cvv (As := []) (rest := []) E G hA hX hN hml (u_X11_needCamera l hst D cI cJ cZ cMic cSrc cSt cAI cAJ ad T o eT3) (cwV 0 hts (gaV qA_728 qA_729 qA_730 qA_131 qA_731) rfl rfl rfl (by decide +kernel) ⟨Nat.le_of_ble_eq_true rfl, Nat.le_of_ble_eq_true rfl⟩) (oO_k g2).1 (cc_o11 (oO_k g2).2) rfl rfl hl.1 rfl (lv_room (Nat.le_of_ble_eq_true rfl)) dX11_isOn_1 ⟨Nat.zero_le _, Nat.zero_le _⟩ (fun T4 H locs hq G => ?_)
  rw [hq] at G
  clear hq eT3
  refine lv_aload_n hx hb dX11_isOn_4 rfl (lv_at hl 0 rfl) ?_
  refine lv_iload_n hx hb dX11_isOn_5 rfl (lv_at hl 1 rfl) ?_
  obtain ⟨g7, h⟩ := oif_some h
  obtain ⟨r10, T8, eT8, h⟩ := othr_n h
  refine q_cvv (As := [.int a0]) (rest := []) E G hA hX hN hml (u_X11_needSource l hst D cI cJ cZ cMic cSrc cSt cAI cAJ ad T3 o a0 eT8) (cwV 1 hts (gaV qA_766 qA_767 qA_768 qA_131 qA_769) rfl rfl rfl (by decide +kernel) ⟨Nat.le_of_ble_eq_true rfl, Nat.le_of_ble_eq_true rfl⟩) (oO_k g7).1 (cc_o11 (oO_k g7).2) rfl rfl hl.1 rfl (lv_room (Nat.le_of_ble_eq_true rfl)) dX11_isOn_6 ⟨Nat.zero_le _, Nat.zero_le _⟩ (fun T9 H locs hq G => ?_)
  rw [hq] at G
  clear hq eT8
  refine lv_aload_n hx hb dX11_isOn_9 rfl (lv_at hl 0 rfl) ?_
  obtain ⟨g12, h⟩ := oif_some h
  obtain ⟨n13, en13, h⟩ := obind_some h
  refine c_get E G o 6 (v := .ref (ad n13)) (oO_k g12).1 (cc_o11 (oO_k g12).2) rfl (fun w h => .tail _ (iA_23 h)) (by decide) (.tail _ qA_664) rfl (by rw [en13]; rfl) dX11_isOn_10 ?_
  clear en13
  obtain ⟨g14, h⟩ := oif_some h
  obtain ⟨n15, en15, h⟩ := obind_some h
  refine c_get E G n13 5 (v := .ref (ad n15)) (oO_k g14).1 (cc_o8 (oO_k g14).2) rfl (fun w h => .tail _ (iA_16 h)) (by decide) (.tail _ qA_772) rfl (by rw [en15]; rfl) dX11_isOn_13 ?_
  clear en15
  refine lv_iload_n hx hb dX11_isOn_16 rfl (lv_at hl 1 rfl) ?_
  obtain ⟨g16, h⟩ := oif_some h
  obtain ⟨g17, h⟩ := oif_some h
  refine c_zald E G n15 2 (k := a0.toNatClampNeg) (aA_k g16).1 (cc_a102 (aA_k g16).2.1) rfl (inb_k g17).1 (inb_k g17).2 (aA_k g16).2.2 dX11_isOn_17 ?_
  refine lv_topi (fun v18 ev18 => ?_)
  have h := elet_at ev18 h
  clear ev18
  obtain ⟨gz, h⟩ := oif_some h
  exact W.zret (v := v18) hx hb hr (nar01 gz) (fun t ht hW => ⟨⟨v18, T8, rfl, (osome3 h).2, ⟨by rw [ht]; exact G.1, va_K.moved hW.alike hK, G.2.1⟩⟩, G.2.2.F ht⟩) G.2.2.2.2 dX11_isOn_18
set_option maxHeartbeats 4000000 in
set_option maxRecDepth 100000 in
theorem s_X11_isOn {T : AT} {o : Nat} {a0 : Int32} {e1 : Nat} {r1 : Int32} {T1 : AT} (h : g_X11_isOn T o a0 = some (e1, r1, T1)) : SP T T1 := by
  have p0 := SP.rf T
  unfold g_X11_isOn at h
  obtain ⟨g2, h⟩ := oif_some h
  rcases othr_s h with ⟨k9, r9, e9, -⟩ | ⟨r4, T3, eT3, h⟩
  · exact SP.tr p0 (s_X11_needCamera e9)
  have p1 : SP T T3 := SP.tr p0 (s_X11_needCamera eT3)
  obtain ⟨g5, h⟩ := oif_some h
  rcases othr_s h with ⟨k9, r9, e9, -⟩ | ⟨r7, T6, eT6, h⟩
  · exact SP.tr p1 (s_X11_needSource e9)
  have p2 : SP T T6 := SP.tr p1 (s_X11_needSource eT6)
  obtain ⟨g8, h⟩ := oif_some h
  obtain ⟨n9, en9, h⟩ := obind_some h
  obtain ⟨g10, h⟩ := oif_some h
  obtain ⟨n11, en11, h⟩ := obind_some h
  obtain ⟨g12, h⟩ := oif_some h
  obtain ⟨g13, h⟩ := oif_some h
  obtain ⟨v14, -, h⟩ := elet_some h
  obtain ⟨gz, h⟩ := oif_some h
  rw [← (osome3 h).2.2]
  exact p2
set_option maxHeartbeats 4000000 in
set_option maxRecDepth 100000 in
theorem x_X11_isOn (l : Launch) (hst : l.stackTraces = false) (D : va_G) (cI cJ cZ cMic cSrc cSt cAI cAJ : ClassId) (ad : Nat → Nat) (T : AT) (o : Nat) (a0 : Int32) {e1 : Nat} {r1 : Int32} {T1 : AT} (h : g_X11_isOn T o a0 = some (e1 + 1, r1, T1)) : kXi l yX11_isOn (Cond.code yX11_isOn cX11_isOn 2 (some .boolean) :: wsA) 8 123 cI cJ cZ cMic cSrc cSt cAI cAJ D ad T [.ref (ad o), .int a0] e1 T1 := by
  intro sz
  refine vx_ofW (cc := cX11_isOn) (maxL := 2) (ret := (some .boolean)) (by decide) rfl ?_
  intro p e s m args below meth c s₁ B hml htab hv
  obtain ⟨rfl, hsz, hP, hK, hD0, hX, hN⟩ := hv
  have hx := B.exec
  have hb := B.bytes
  have hr := B.returns
  have hts := atoms_spec (ws := (Cond.code yX11_isOn cX11_isOn 2 (some .boolean) :: wsA)) B.pre
  have hown : s.vm.findClass RX11 = some m.cls := findClass_of_methodNamed B.named
  have hlocks := B.notSynchronized
  subst hsz
  have hD := hD0.self (sz := s.heap.size)
  generalize hAe : va_A (cW ad T.1 (cc cI cJ cZ cMic cSrc cSt cAI cAJ ad T)) s.heap.size = A at hD hX ⊢
  have hA : ∀ q : Nat, s.heap.size ≤ q → A q := fun q h => by rw [← hAe]; exact Or.inr h
  have G : gC cI cJ cZ cMic cSrc cSt cAI cAJ D ad A s.heap s.heap [] T := ⟨hP, hD, va_S.rf⟩
  have E : cE p c cX11_isOn s m ([.ref (ad o), .int a0] : List Value).toArray (Cond.code yX11_isOn cX11_isOn 2 (some .boolean) :: wsA) D RX11 (CT cI cJ cZ cMic cSrc cSt cAI cAJ) := ⟨hx, hb, hts, hown, hK⟩
  have htab : ∀ x ∈ c.exceptionTable.toList, False := fun x hx => htab x hx
  have hl := lv_entry ([.ref (ad o), .int a0]) (n := 2) (Nat.le_of_ble_eq_true rfl)
  rw [lg_entry_eq]
  generalize (lg_sl ([.ref (ad o), .int a0]) ++ List.replicate (2 - (lg_sl ([.ref (ad o), .int a0])).length) Slot.unset).toArray = ls at hl ⊢
  have hl : lv_has ls 2 [(0, .ref (ad o)), (1, .int a0)] := hl
  unfold g_X11_isOn at h
  refine lv_aload_n hx hb dX11_isOn_0 rfl (lv_at hl 0 rfl) ?_
  obtain ⟨g2, h⟩ := oif_some h
  rcases othr_t h with ⟨r0, eT3⟩ | ⟨r5, T3, eT3, h⟩
  · refine q_xvv (As := []) (rest := []) E G hA hX hN hml (x_X11_needCamera l hst D cI cJ cZ cMic cSrc cSt cAI cAJ ad T o eT3) (cwV 0 hts (gaV qA_728 qA_729 qA_730 qA_131 qA_731) rfl rfl rfl (by decide +kernel) ⟨Nat.le_of_ble_eq_true rfl, Nat.le_of_ble_eq_true rfl⟩) (oO_k g2).1 (cc_o11 (oO_k g2).2) rfl rfl hl.1 rfl (lv_room (Nat.le_of_ble_eq_true rfl)) dX11_isOn_1 ⟨Nat.le_of_ble_eq_true rfl, Nat.le_of_ble_eq_true rfl⟩ (fun E9 ce q9 T9 H locs hp G hce hcv hcl => ?_)
    obtain ⟨hE, hT⟩ := hp
    subst hE
    rw [hT] at G
    exact vx_out (fun x hx => (htab x hx).elim) hlocks hce hcv hcl (fun t ht hvm => ⟨T1, trivial, ⟨⟨rfl, rfl⟩, by rw [ht]; exact G.1, va_K.moved hvm hK, G.2.1⟩, G.2.2.F ht⟩) G.2.2.2.2 (Nat.le_refl _) (Nat.le_refl _)
  refine q_cvv (As := []) (rest := []) E G hA hX hN hml (u_X11_needCamera l hst D cI cJ cZ cMic cSrc cSt cAI cAJ ad T o eT3) (cwV 0 hts (gaV qA_728 qA_729 qA_730 qA_131 qA_731) rfl rfl rfl (by decide +kernel) ⟨Nat.le_of_ble_eq_true rfl, Nat.le_of_ble_eq_true rfl⟩) (oO_k g2).1 (cc_o11 (oO_k g2).2) rfl rfl hl.1 rfl (lv_room (Nat.le_of_ble_eq_true rfl)) dX11_isOn_1 ⟨Nat.zero_le _, Nat.zero_le _⟩ (fun T4 H locs hq G => ?_)
  rw [hq] at G
  clear hq eT3
  refine lv_aload_n hx hb dX11_isOn_4 rfl (lv_at hl 0 rfl) ?_
  refine lv_iload_n hx hb dX11_isOn_5 rfl (lv_at hl 1 rfl) ?_
  obtain ⟨g7, h⟩ := oif_some h
  rcases othr_t h with ⟨r0, eT8⟩ | ⟨r10, T8, eT8, h⟩
  · refine q_xvv (As := [.int a0]) (rest := []) E G hA hX hN hml (x_X11_needSource l hst D cI cJ cZ cMic cSrc cSt cAI cAJ ad T3 o a0 eT8) (cwV 1 hts (gaV qA_766 qA_767 qA_768 qA_131 qA_769) rfl rfl rfl (by decide +kernel) ⟨Nat.le_of_ble_eq_true rfl, Nat.le_of_ble_eq_true rfl⟩) (oO_k g7).1 (cc_o11 (oO_k g7).2) rfl rfl hl.1 rfl (lv_room (Nat.le_of_ble_eq_true rfl)) dX11_isOn_6 ⟨Nat.le_of_ble_eq_true rfl, Nat.le_of_ble_eq_true rfl⟩ (fun E9 ce q9 T9 H locs hp G hce hcv hcl => ?_)
    obtain ⟨hE, hT⟩ := hp
    subst hE
    rw [hT] at G
    exact vx_out (fun x hx => (htab x hx).elim) hlocks hce hcv hcl (fun t ht hvm => ⟨T1, trivial, ⟨⟨rfl, rfl⟩, by rw [ht]; exact G.1, va_K.moved hvm hK, G.2.1⟩, G.2.2.F ht⟩) G.2.2.2.2 (Nat.le_refl _) (Nat.le_refl _)
  refine q_cvv (As := [.int a0]) (rest := []) E G hA hX hN hml (u_X11_needSource l hst D cI cJ cZ cMic cSrc cSt cAI cAJ ad T3 o a0 eT8) (cwV 1 hts (gaV qA_766 qA_767 qA_768 qA_131 qA_769) rfl rfl rfl (by decide +kernel) ⟨Nat.le_of_ble_eq_true rfl, Nat.le_of_ble_eq_true rfl⟩) (oO_k g7).1 (cc_o11 (oO_k g7).2) rfl rfl hl.1 rfl (lv_room (Nat.le_of_ble_eq_true rfl)) dX11_isOn_6 ⟨Nat.zero_le _, Nat.zero_le _⟩ (fun T9 H locs hq G => ?_)
  rw [hq] at G
  clear hq eT8
  refine lv_aload_n hx hb dX11_isOn_9 rfl (lv_at hl 0 rfl) ?_
  obtain ⟨g12, h⟩ := oif_some h
  obtain ⟨n13, en13, h⟩ := obind_some h
  refine c_get E G o 6 (v := .ref (ad n13)) (oO_k g12).1 (cc_o11 (oO_k g12).2) rfl (fun w h => .tail _ (iA_23 h)) (by decide) (.tail _ qA_664) rfl (by rw [en13]; rfl) dX11_isOn_10 ?_
  clear en13
  obtain ⟨g14, h⟩ := oif_some h
  obtain ⟨n15, en15, h⟩ := obind_some h
  refine c_get E G n13 5 (v := .ref (ad n15)) (oO_k g14).1 (cc_o8 (oO_k g14).2) rfl (fun w h => .tail _ (iA_16 h)) (by decide) (.tail _ qA_772) rfl (by rw [en15]; rfl) dX11_isOn_13 ?_
  clear en15
  refine lv_iload_n hx hb dX11_isOn_16 rfl (lv_at hl 1 rfl) ?_
  obtain ⟨g16, h⟩ := oif_some h
  obtain ⟨g17, h⟩ := oif_some h
  refine c_zald E G n15 2 (k := a0.toNatClampNeg) (aA_k g16).1 (cc_a102 (aA_k g16).2.1) rfl (inb_k g17).1 (inb_k g17).2 (aA_k g16).2.2 dX11_isOn_17 ?_
  refine lv_topi (fun v18 ev18 => ?_)
  have h := elet_at ev18 h
  clear ev18
  obtain ⟨gz, h⟩ := oif_some h
  exact (Nat.succ_ne_zero _ (congrArg Prod.fst (Option.some.inj h)).symm).elim
def g_X11_waveAt (T : AT) (o : Nat) (a0 : Int32) (a1 : Int32) : Option (Nat × Int32 × AT) := oif (oO T o 11 = true) <| othr (g_X11_needCamera T o) 0 fun r5 T3 => oif (oO T3 o 11 = true) <| othr (g_X11_needSource T3 o a0) 0 fun r10 T8 => oif (oO T8 o 11 = true) <| obind (T8.2.2.2.2 o 14) fun n13 => oif (oO T8 n13 6 = true) <| elet (T8.2.2.1 n13 2) fun v15 => elet (v15 - 1) fun v16 => othr (g_X11_needRange T8 a1 (0 : Int32) v16) 0 fun r19 T17 => oif (oO T17 o 11 = true) <| obind (T17.2.2.2.2 o 14) fun n22 => oif (oO T17 n22 6 = true) <| obind (T17.2.2.2.2 n22 7) fun n24 => oif (aA T17 n24 104 = true) <| oif (inb a0 (T17.2.1 n24).2 = true) <| obind (T17.2.2.2.2 n24 a0.toNatClampNeg) fun n27 => oif (oO T17 n27 7 = true) <| obind2 (g_X7_valueAt T17 n27 a1) fun r31 T29 => some (0, r31, T29)
set_option maxHeartbeats 4000000 in
set_option maxRecDepth 100000 in
theorem u_X11_waveAt (l : Launch) (hst : l.stackTraces = false) (D : va_G) (cI cJ cZ cMic cSrc cSt cAI cAJ : ClassId) (ad : Nat → Nat) (T : AT) (o : Nat) (a0 : Int32) (a1 : Int32) {r1 : Int32} {T1 : AT} (h : g_X11_waveAt T o a0 a1 = some (0, r1, T1)) : kCi l yX11_waveAt (Cond.code yX11_waveAt cX11_waveAt 3 (some .int) :: wsA) 8 123 cI cJ cZ cMic cSrc cSt cAI cAJ D ad T [.ref (ad o), .int a0, .int a1] (fun r T9 => r = r1 ∧ T9 = T1) := by
  intro sz
  refine Met.ofW (cc := cX11_waveAt) (maxL := 3) (ret := (some .int)) (by decide) rfl ?_
  intro p e s m args below meth c s₁ B hml hv
  obtain ⟨rfl, hsz, hP, hK, hD0, hX, hN⟩ := hv
  have hx := B.exec
  have hb := B.bytes
  have hr := B.returns
  have hts := atoms_spec (ws := (Cond.code yX11_waveAt cX11_waveAt 3 (some .int) :: wsA)) B.pre
  have hown : s.vm.findClass RX11 = some m.cls := findClass_of_methodNamed B.named
  have hlocks := B.notSynchronized
  subst hsz
  have hD := hD0.self (sz := s.heap.size)
  generalize hAe : va_A (cW ad T.1 (cc cI cJ cZ cMic cSrc cSt cAI cAJ ad T)) s.heap.size = A at hD hX ⊢
  have hA : ∀ q : Nat, s.heap.size ≤ q → A q := fun q h => by rw [← hAe]; exact Or.inr h
  have G : gC cI cJ cZ cMic cSrc cSt cAI cAJ D ad A s.heap s.heap [] T := ⟨hP, hD, va_S.rf⟩
  have E : cE p c cX11_waveAt s m ([.ref (ad o), .int a0, .int a1] : List Value).toArray (Cond.code yX11_waveAt cX11_waveAt 3 (some .int) :: wsA) D RX11 (CT cI cJ cZ cMic cSrc cSt cAI cAJ) := ⟨hx, hb, hts, hown, hK⟩
  have hl := lv_entry ([.ref (ad o), .int a0, .int a1]) (n := 3) (Nat.le_of_ble_eq_true rfl)
  rw [lg_entry_eq]
  generalize (lg_sl ([.ref (ad o), .int a0, .int a1]) ++ List.replicate (3 - (lg_sl ([.ref (ad o), .int a0, .int a1])).length) Slot.unset).toArray = ls at hl ⊢
  have hl : lv_has ls 3 [(0, .ref (ad o)), (1, .int a0), (2, .int a1)] := hl
  unfold g_X11_waveAt at h
  refine lv_aload_n hx hb dX11_waveAt_0 rfl (lv_at hl 0 rfl) ?_
  obtain ⟨g2, h⟩ := oif_some h
  obtain ⟨r5, T3, eT3, h⟩ := othr_n h
  refine q_cvv (As := []) (rest := []) E G hA hX hN hml (u_X11_needCamera l hst D cI cJ cZ cMic cSrc cSt cAI cAJ ad T o eT3) (cwV 0 hts (gaV qA_728 qA_729 qA_730 qA_131 qA_731) rfl rfl rfl (by decide +kernel) ⟨Nat.le_of_ble_eq_true rfl, Nat.le_of_ble_eq_true rfl⟩) (oO_k g2).1 (cc_o11 (oO_k g2).2) rfl rfl hl.1 rfl (lv_room (Nat.le_of_ble_eq_true rfl)) dX11_waveAt_1 ⟨Nat.zero_le _, Nat.zero_le _⟩ (fun T4 H locs hq G => ?_)
  rw [hq] at G
  clear hq eT3
  refine lv_aload_n hx hb dX11_waveAt_4 rfl (lv_at hl 0 rfl) ?_
  refine lv_iload_n hx hb dX11_waveAt_5 rfl (lv_at hl 1 rfl) ?_
  obtain ⟨g7, h⟩ := oif_some h
  obtain ⟨r10, T8, eT8, h⟩ := othr_n h
  refine q_cvv (As := [.int a0]) (rest := []) E G hA hX hN hml (u_X11_needSource l hst D cI cJ cZ cMic cSrc cSt cAI cAJ ad T3 o a0 eT8) (cwV 1 hts (gaV qA_766 qA_767 qA_768 qA_131 qA_769) rfl rfl rfl (by decide +kernel) ⟨Nat.le_of_ble_eq_true rfl, Nat.le_of_ble_eq_true rfl⟩) (oO_k g7).1 (cc_o11 (oO_k g7).2) rfl rfl hl.1 rfl (lv_room (Nat.le_of_ble_eq_true rfl)) dX11_waveAt_6 ⟨Nat.zero_le _, Nat.zero_le _⟩ (fun T9 H locs hq G => ?_)
  rw [hq] at G
  clear hq eT8
  refine lv_iload_n hx hb dX11_waveAt_9 rfl (lv_at hl 2 rfl) ?_
  refine lv_iconst (v := 0) hx hb dX11_waveAt_10 (by decide) ?_
  refine lv_aload_n hx hb dX11_waveAt_11 rfl (lv_at hl 0 rfl) ?_
  obtain ⟨g12, h⟩ := oif_some h
  obtain ⟨n13, en13, h⟩ := obind_some h
  refine c_get E G o 14 (v := .ref (ad n13)) (oO_k g12).1 (cc_o11 (oO_k g12).2) rfl (fun w h => .tail _ (iA_23 h)) (by decide) (.tail _ qA_675) rfl (by rw [en13]; rfl) dX11_waveAt_12 ?_
  clear en13
  obtain ⟨g14, h⟩ := oif_some h
  refine c_get E G n13 2 (oO_k g14).1 (cc_o6 (oO_k g14).2) rfl (fun w h => .tail _ (iA_14 h)) (by decide) (.tail _ qA_761) rfl rfl dX11_waveAt_15 ?_
  refine lv_topi (fun v15 ev15 => ?_)
  have h := elet_at ev15 h
  clear ev15
  refine lv_iconst (v := 1) hx hb dX11_waveAt_18 (by decide) ?_
  refine lv_isub hx hb dX11_waveAt_19 ?_
  refine lv_topi (fun v16 ev16 => ?_)
  have h := elet_at ev16 h
  clear ev16
  obtain ⟨r19, T17, eT17, h⟩ := othr_n h
  refine q_csv (As := [.int a1, .int 0, .int v16]) (rest := []) E G hA hX hN hml (u_X11_needRange l hst D cI cJ cZ cMic cSrc cSt cAI cAJ ad T8 a1 (0 : Int32) v16 eT17) (cwS 3 hts (gaS qA_741 qA_742 qA_131 qA_743) rfl rfl rfl (by decide +kernel) ⟨Nat.le_of_ble_eq_true rfl, Nat.le_of_ble_eq_true rfl⟩) rfl hl.1 rfl (lv_room (Nat.le_of_ble_eq_true rfl)) dX11_waveAt_20 ⟨Nat.zero_le _, Nat.zero_le _⟩ (fun T18 H locs hq G => ?_)
  rw [hq] at G
  clear hq eT17
  refine lv_aload_n hx hb dX11_waveAt_23 rfl (lv_at hl 0 rfl) ?_
  obtain ⟨g21, h⟩ := oif_some h
  obtain ⟨n22, en22, h⟩ := obind_some h
  refine c_get E G o 14 (v := .ref (ad n22)) (oO_k g21).1 (cc_o11 (oO_k g21).2) rfl (fun w h => .tail _ (iA_23 h)) (by decide) (.tail _ qA_675) rfl (by rw [en22]; rfl) dX11_waveAt_24 ?_
  clear en22
  obtain ⟨g23, h⟩ := oif_some h
  obtain ⟨n24, en24, h⟩ := obind_some h
  refine c_get E G n22 7 (v := .ref (ad n24)) (oO_k g23).1 (cc_o6 (oO_k g23).2) rfl (fun w h => .tail _ (iA_14 h)) (by decide) (.tail _ qA_774) rfl (by rw [en24]; rfl) dX11_waveAt_27 ?_
  clear en24
  refine lv_iload_n hx hb dX11_waveAt_30 rfl (lv_at hl 1 rfl) ?_
  obtain ⟨g25, h⟩ := oif_some h
  obtain ⟨g26, h⟩ := oif_some h
  obtain ⟨n27, en27, h⟩ := obind_some h
  refine c_aldq E G n24 4 (k := a0.toNatClampNeg) (v := .ref (ad n27)) (aA_k g25).1 (cc_a104 (aA_k g25).2.1) rfl (inb_k g26).1 (inb_k g26).2 (aA_k g25).2.2 (by show va_rf ((T17.2.2.2.2 n24 a0.toNatClampNeg).map ad) = _; rw [en27]; rfl) dX11_waveAt_31 ?_
  clear en27
  refine lv_iload_n hx hb dX11_waveAt_32 rfl (lv_at hl 2 rfl) ?_
  obtain ⟨g28, h⟩ := oif_some h
  obtain ⟨r31, T29, eT29, h⟩ := obind2_some h
  refine q_cvi (As := [.int a1]) (rest := []) E G hA hX hN hml (u_X7_valueAt l hst D cI cJ cZ cMic cSrc cSt cAI cAJ ad T17 n27 a1 eT29) (cwV 1 hts (gaV qA_775 qA_507 qA_508 qA_458 qA_509) rfl rfl rfl (by decide +kernel) ⟨Nat.le_of_ble_eq_true rfl, Nat.le_of_ble_eq_true rfl⟩) (oO_k g28).1 (cc_o7 (oO_k g28).2) rfl rfl hl.1 rfl (lv_room (Nat.le_of_ble_eq_true rfl)) dX11_waveAt_33 ⟨Nat.zero_le _, Nat.zero_le _⟩ (fun q32 T30 H locs hq G => ?_)
  obtain ⟨hq1, hq2⟩ := hq
  rw [hq2] at G
  refine lv_to hq1 ?_
  clear hq1 hq2 eT29
  exact W.iret (v := r31) hx hb hr (fun t ht hW => ⟨⟨r31, T29, rfl, (osome3 h).2, ⟨by rw [ht]; exact G.1, va_K.moved hW.alike hK, G.2.1⟩⟩, G.2.2.F ht⟩) G.2.2.2.2 dX11_waveAt_36
set_option maxHeartbeats 4000000 in
set_option maxRecDepth 100000 in
theorem s_X11_waveAt {T : AT} {o : Nat} {a0 : Int32} {a1 : Int32} {e1 : Nat} {r1 : Int32} {T1 : AT} (h : g_X11_waveAt T o a0 a1 = some (e1, r1, T1)) : SP T T1 := by
  have p0 := SP.rf T
  unfold g_X11_waveAt at h
  obtain ⟨g2, h⟩ := oif_some h
  rcases othr_s h with ⟨k9, r9, e9, -⟩ | ⟨r4, T3, eT3, h⟩
  · exact SP.tr p0 (s_X11_needCamera e9)
  have p1 : SP T T3 := SP.tr p0 (s_X11_needCamera eT3)
  obtain ⟨g5, h⟩ := oif_some h
  rcases othr_s h with ⟨k9, r9, e9, -⟩ | ⟨r7, T6, eT6, h⟩
  · exact SP.tr p1 (s_X11_needSource e9)
  have p2 : SP T T6 := SP.tr p1 (s_X11_needSource eT6)
  obtain ⟨g8, h⟩ := oif_some h
  obtain ⟨n9, en9, h⟩ := obind_some h
  obtain ⟨g10, h⟩ := oif_some h
  obtain ⟨v11, -, h⟩ := elet_some h
  obtain ⟨v12, -, h⟩ := elet_some h
  rcases othr_s h with ⟨k9, r9, e9, -⟩ | ⟨r14, T13, eT13, h⟩
  · exact SP.tr p2 (s_X11_needRange e9)
  have p3 : SP T T13 := SP.tr p2 (s_X11_needRange eT13)
  obtain ⟨g15, h⟩ := oif_some h
  obtain ⟨n16, en16, h⟩ := obind_some h
  obtain ⟨g17, h⟩ := oif_some h
  obtain ⟨n18, en18, h⟩ := obind_some h
  obtain ⟨g19, h⟩ := oif_some h
  obtain ⟨g20, h⟩ := oif_some h
  obtain ⟨n21, en21, h⟩ := obind_some h
  obtain ⟨g22, h⟩ := oif_some h
  obtain ⟨r24, T23, eT23, h⟩ := obind2_some h
  have p4 : SP T T23 := SP.tr p3 (s_X7_valueAt eT23)
  rw [← (osome3 h).2.2]
  exact p4
set_option maxHeartbeats 4000000 in
set_option maxRecDepth 100000 in
theorem x_X11_waveAt (l : Launch) (hst : l.stackTraces = false) (D : va_G) (cI cJ cZ cMic cSrc cSt cAI cAJ : ClassId) (ad : Nat → Nat) (T : AT) (o : Nat) (a0 : Int32) (a1 : Int32) {e1 : Nat} {r1 : Int32} {T1 : AT} (h : g_X11_waveAt T o a0 a1 = some (e1 + 1, r1, T1)) : kXi l yX11_waveAt (Cond.code yX11_waveAt cX11_waveAt 3 (some .int) :: wsA) 8 123 cI cJ cZ cMic cSrc cSt cAI cAJ D ad T [.ref (ad o), .int a0, .int a1] e1 T1 := by
  intro sz
  refine vx_ofW (cc := cX11_waveAt) (maxL := 3) (ret := (some .int)) (by decide) rfl ?_
  intro p e s m args below meth c s₁ B hml htab hv
  obtain ⟨rfl, hsz, hP, hK, hD0, hX, hN⟩ := hv
  have hx := B.exec
  have hb := B.bytes
  have hr := B.returns
  have hts := atoms_spec (ws := (Cond.code yX11_waveAt cX11_waveAt 3 (some .int) :: wsA)) B.pre
  have hown : s.vm.findClass RX11 = some m.cls := findClass_of_methodNamed B.named
  have hlocks := B.notSynchronized
  subst hsz
  have hD := hD0.self (sz := s.heap.size)
  generalize hAe : va_A (cW ad T.1 (cc cI cJ cZ cMic cSrc cSt cAI cAJ ad T)) s.heap.size = A at hD hX ⊢
  have hA : ∀ q : Nat, s.heap.size ≤ q → A q := fun q h => by rw [← hAe]; exact Or.inr h
  have G : gC cI cJ cZ cMic cSrc cSt cAI cAJ D ad A s.heap s.heap [] T := ⟨hP, hD, va_S.rf⟩
  have E : cE p c cX11_waveAt s m ([.ref (ad o), .int a0, .int a1] : List Value).toArray (Cond.code yX11_waveAt cX11_waveAt 3 (some .int) :: wsA) D RX11 (CT cI cJ cZ cMic cSrc cSt cAI cAJ) := ⟨hx, hb, hts, hown, hK⟩
  have htab : ∀ x ∈ c.exceptionTable.toList, False := fun x hx => htab x hx
  have hl := lv_entry ([.ref (ad o), .int a0, .int a1]) (n := 3) (Nat.le_of_ble_eq_true rfl)
  rw [lg_entry_eq]
  generalize (lg_sl ([.ref (ad o), .int a0, .int a1]) ++ List.replicate (3 - (lg_sl ([.ref (ad o), .int a0, .int a1])).length) Slot.unset).toArray = ls at hl ⊢
  have hl : lv_has ls 3 [(0, .ref (ad o)), (1, .int a0), (2, .int a1)] := hl
  unfold g_X11_waveAt at h
  refine lv_aload_n hx hb dX11_waveAt_0 rfl (lv_at hl 0 rfl) ?_
  obtain ⟨g2, h⟩ := oif_some h
  rcases othr_t h with ⟨r0, eT3⟩ | ⟨r5, T3, eT3, h⟩
  · refine q_xvv (As := []) (rest := []) E G hA hX hN hml (x_X11_needCamera l hst D cI cJ cZ cMic cSrc cSt cAI cAJ ad T o eT3) (cwV 0 hts (gaV qA_728 qA_729 qA_730 qA_131 qA_731) rfl rfl rfl (by decide +kernel) ⟨Nat.le_of_ble_eq_true rfl, Nat.le_of_ble_eq_true rfl⟩) (oO_k g2).1 (cc_o11 (oO_k g2).2) rfl rfl hl.1 rfl (lv_room (Nat.le_of_ble_eq_true rfl)) dX11_waveAt_1 ⟨Nat.le_of_ble_eq_true rfl, Nat.le_of_ble_eq_true rfl⟩ (fun E9 ce q9 T9 H locs hp G hce hcv hcl => ?_)
    obtain ⟨hE, hT⟩ := hp
    subst hE
    rw [hT] at G
    exact vx_out (fun x hx => (htab x hx).elim) hlocks hce hcv hcl (fun t ht hvm => ⟨T1, trivial, ⟨⟨rfl, rfl⟩, by rw [ht]; exact G.1, va_K.moved hvm hK, G.2.1⟩, G.2.2.F ht⟩) G.2.2.2.2 (Nat.le_refl _) (Nat.le_refl _)
  refine q_cvv (As := []) (rest := []) E G hA hX hN hml (u_X11_needCamera l hst D cI cJ cZ cMic cSrc cSt cAI cAJ ad T o eT3) (cwV 0 hts (gaV qA_728 qA_729 qA_730 qA_131 qA_731) rfl rfl rfl (by decide +kernel) ⟨Nat.le_of_ble_eq_true rfl, Nat.le_of_ble_eq_true rfl⟩) (oO_k g2).1 (cc_o11 (oO_k g2).2) rfl rfl hl.1 rfl (lv_room (Nat.le_of_ble_eq_true rfl)) dX11_waveAt_1 ⟨Nat.zero_le _, Nat.zero_le _⟩ (fun T4 H locs hq G => ?_)
  rw [hq] at G
  clear hq eT3
  refine lv_aload_n hx hb dX11_waveAt_4 rfl (lv_at hl 0 rfl) ?_
  refine lv_iload_n hx hb dX11_waveAt_5 rfl (lv_at hl 1 rfl) ?_
  obtain ⟨g7, h⟩ := oif_some h
  rcases othr_t h with ⟨r0, eT8⟩ | ⟨r10, T8, eT8, h⟩
  · refine q_xvv (As := [.int a0]) (rest := []) E G hA hX hN hml (x_X11_needSource l hst D cI cJ cZ cMic cSrc cSt cAI cAJ ad T3 o a0 eT8) (cwV 1 hts (gaV qA_766 qA_767 qA_768 qA_131 qA_769) rfl rfl rfl (by decide +kernel) ⟨Nat.le_of_ble_eq_true rfl, Nat.le_of_ble_eq_true rfl⟩) (oO_k g7).1 (cc_o11 (oO_k g7).2) rfl rfl hl.1 rfl (lv_room (Nat.le_of_ble_eq_true rfl)) dX11_waveAt_6 ⟨Nat.le_of_ble_eq_true rfl, Nat.le_of_ble_eq_true rfl⟩ (fun E9 ce q9 T9 H locs hp G hce hcv hcl => ?_)
    obtain ⟨hE, hT⟩ := hp
    subst hE
    rw [hT] at G
    exact vx_out (fun x hx => (htab x hx).elim) hlocks hce hcv hcl (fun t ht hvm => ⟨T1, trivial, ⟨⟨rfl, rfl⟩, by rw [ht]; exact G.1, va_K.moved hvm hK, G.2.1⟩, G.2.2.F ht⟩) G.2.2.2.2 (Nat.le_refl _) (Nat.le_refl _)
  refine q_cvv (As := [.int a0]) (rest := []) E G hA hX hN hml (u_X11_needSource l hst D cI cJ cZ cMic cSrc cSt cAI cAJ ad T3 o a0 eT8) (cwV 1 hts (gaV qA_766 qA_767 qA_768 qA_131 qA_769) rfl rfl rfl (by decide +kernel) ⟨Nat.le_of_ble_eq_true rfl, Nat.le_of_ble_eq_true rfl⟩) (oO_k g7).1 (cc_o11 (oO_k g7).2) rfl rfl hl.1 rfl (lv_room (Nat.le_of_ble_eq_true rfl)) dX11_waveAt_6 ⟨Nat.zero_le _, Nat.zero_le _⟩ (fun T9 H locs hq G => ?_)
  rw [hq] at G
  clear hq eT8
  refine lv_iload_n hx hb dX11_waveAt_9 rfl (lv_at hl 2 rfl) ?_
  refine lv_iconst (v := 0) hx hb dX11_waveAt_10 (by decide) ?_
  refine lv_aload_n hx hb dX11_waveAt_11 rfl (lv_at hl 0 rfl) ?_
  obtain ⟨g12, h⟩ := oif_some h
  obtain ⟨n13, en13, h⟩ := obind_some h
  refine c_get E G o 14 (v := .ref (ad n13)) (oO_k g12).1 (cc_o11 (oO_k g12).2) rfl (fun w h => .tail _ (iA_23 h)) (by decide) (.tail _ qA_675) rfl (by rw [en13]; rfl) dX11_waveAt_12 ?_
  clear en13
  obtain ⟨g14, h⟩ := oif_some h
  refine c_get E G n13 2 (oO_k g14).1 (cc_o6 (oO_k g14).2) rfl (fun w h => .tail _ (iA_14 h)) (by decide) (.tail _ qA_761) rfl rfl dX11_waveAt_15 ?_
  refine lv_topi (fun v15 ev15 => ?_)
  have h := elet_at ev15 h
  clear ev15
  refine lv_iconst (v := 1) hx hb dX11_waveAt_18 (by decide) ?_
  refine lv_isub hx hb dX11_waveAt_19 ?_
  refine lv_topi (fun v16 ev16 => ?_)
  have h := elet_at ev16 h
  clear ev16
  rcases othr_t h with ⟨r0, eT17⟩ | ⟨r19, T17, eT17, h⟩
  · refine q_xsv (As := [.int a1, .int 0, .int v16]) (rest := []) E G hA hX hN hml (x_X11_needRange l hst D cI cJ cZ cMic cSrc cSt cAI cAJ ad T8 a1 (0 : Int32) v16 eT17) (cwS 3 hts (gaS qA_741 qA_742 qA_131 qA_743) rfl rfl rfl (by decide +kernel) ⟨Nat.le_of_ble_eq_true rfl, Nat.le_of_ble_eq_true rfl⟩) rfl hl.1 rfl (lv_room (Nat.le_of_ble_eq_true rfl)) dX11_waveAt_20 ⟨Nat.le_of_ble_eq_true rfl, Nat.le_of_ble_eq_true rfl⟩ (fun E9 ce q9 T9 H locs hp G hce hcv hcl => ?_)
    obtain ⟨hE, hT⟩ := hp
    subst hE
    rw [hT] at G
    exact vx_out (fun x hx => (htab x hx).elim) hlocks hce hcv hcl (fun t ht hvm => ⟨T1, trivial, ⟨⟨rfl, rfl⟩, by rw [ht]; exact G.1, va_K.moved hvm hK, G.2.1⟩, G.2.2.F ht⟩) G.2.2.2.2 (Nat.le_refl _) (Nat.le_refl _)
  refine q_csv (As := [.int a1, .int 0, .int v16]) (rest := []) E G hA hX hN hml (u_X11_needRange l hst D cI cJ cZ cMic cSrc cSt cAI cAJ ad T8 a1 (0 : Int32) v16 eT17) (cwS 3 hts (gaS qA_741 qA_742 qA_131 qA_743) rfl rfl rfl (by decide +kernel) ⟨Nat.le_of_ble_eq_true rfl, Nat.le_of_ble_eq_true rfl⟩) rfl hl.1 rfl (lv_room (Nat.le_of_ble_eq_true rfl)) dX11_waveAt_20 ⟨Nat.zero_le _, Nat.zero_le _⟩ (fun T18 H locs hq G => ?_)
  rw [hq] at G
  clear hq eT17
  refine lv_aload_n hx hb dX11_waveAt_23 rfl (lv_at hl 0 rfl) ?_
  obtain ⟨g21, h⟩ := oif_some h
  obtain ⟨n22, en22, h⟩ := obind_some h
  refine c_get E G o 14 (v := .ref (ad n22)) (oO_k g21).1 (cc_o11 (oO_k g21).2) rfl (fun w h => .tail _ (iA_23 h)) (by decide) (.tail _ qA_675) rfl (by rw [en22]; rfl) dX11_waveAt_24 ?_
  clear en22
  obtain ⟨g23, h⟩ := oif_some h
  obtain ⟨n24, en24, h⟩ := obind_some h
  refine c_get E G n22 7 (v := .ref (ad n24)) (oO_k g23).1 (cc_o6 (oO_k g23).2) rfl (fun w h => .tail _ (iA_14 h)) (by decide) (.tail _ qA_774) rfl (by rw [en24]; rfl) dX11_waveAt_27 ?_
  clear en24
  refine lv_iload_n hx hb dX11_waveAt_30 rfl (lv_at hl 1 rfl) ?_
  obtain ⟨g25, h⟩ := oif_some h
  obtain ⟨g26, h⟩ := oif_some h
  obtain ⟨n27, en27, h⟩ := obind_some h
  refine c_aldq E G n24 4 (k := a0.toNatClampNeg) (v := .ref (ad n27)) (aA_k g25).1 (cc_a104 (aA_k g25).2.1) rfl (inb_k g26).1 (inb_k g26).2 (aA_k g25).2.2 (by show va_rf ((T17.2.2.2.2 n24 a0.toNatClampNeg).map ad) = _; rw [en27]; rfl) dX11_waveAt_31 ?_
  clear en27
  refine lv_iload_n hx hb dX11_waveAt_32 rfl (lv_at hl 2 rfl) ?_
  obtain ⟨g28, h⟩ := oif_some h
  obtain ⟨r31, T29, eT29, h⟩ := obind2_some h
  refine q_cvi (As := [.int a1]) (rest := []) E G hA hX hN hml (u_X7_valueAt l hst D cI cJ cZ cMic cSrc cSt cAI cAJ ad T17 n27 a1 eT29) (cwV 1 hts (gaV qA_775 qA_507 qA_508 qA_458 qA_509) rfl rfl rfl (by decide +kernel) ⟨Nat.le_of_ble_eq_true rfl, Nat.le_of_ble_eq_true rfl⟩) (oO_k g28).1 (cc_o7 (oO_k g28).2) rfl rfl hl.1 rfl (lv_room (Nat.le_of_ble_eq_true rfl)) dX11_waveAt_33 ⟨Nat.zero_le _, Nat.zero_le _⟩ (fun q32 T30 H locs hq G => ?_)
  obtain ⟨hq1, hq2⟩ := hq
  rw [hq2] at G
  refine lv_to hq1 ?_
  clear hq1 hq2 eT29
  exact (Nat.succ_ne_zero _ (congrArg Prod.fst (Option.some.inj h)).symm).elim
def g_X11_samples (T : AT) (o : Nat) : Option (Int32 × AT) := oif (oO T o 11 = true) <| obind (T.2.2.2.2 o 14) fun n3 => oif (oO T n3 6 = true) <| elet (T.2.2.1 n3 2) fun v5 => some (v5, T)
set_option maxHeartbeats 4000000 in
set_option maxRecDepth 100000 in
theorem u_X11_samples (l : Launch) (hst : l.stackTraces = false) (D : va_G) (cI cJ cZ cMic cSrc cSt cAI cAJ : ClassId) (ad : Nat → Nat) (T : AT) (o : Nat) {r1 : Int32} {T1 : AT} (h : g_X11_samples T o = some (r1, T1)) : kCi l yX11_samples (Cond.code yX11_samples cX11_samples 1 (some .int) :: wsA) 1 0 cI cJ cZ cMic cSrc cSt cAI cAJ D ad T [.ref (ad o)] (fun r T9 => r = r1 ∧ T9 = T1) := by
  intro sz
  refine Met.ofW (cc := cX11_samples) (maxL := 1) (ret := (some .int)) (by decide) rfl ?_
  intro p e s m args below meth c s₁ B hml hv
  obtain ⟨rfl, hsz, hP, hK, hD0, hX, hN⟩ := hv
  have hx := B.exec
  have hb := B.bytes
  have hr := B.returns
  have hts := atoms_spec (ws := (Cond.code yX11_samples cX11_samples 1 (some .int) :: wsA)) B.pre
  have hown : s.vm.findClass RX11 = some m.cls := findClass_of_methodNamed B.named
  have hlocks := B.notSynchronized
  subst hsz
  have hD := hD0.self (sz := s.heap.size)
  generalize hAe : va_A (cW ad T.1 (cc cI cJ cZ cMic cSrc cSt cAI cAJ ad T)) s.heap.size = A at hD hX ⊢
  have hA : ∀ q : Nat, s.heap.size ≤ q → A q := fun q h => by rw [← hAe]; exact Or.inr h
  have G : gC cI cJ cZ cMic cSrc cSt cAI cAJ D ad A s.heap s.heap [] T := ⟨hP, hD, va_S.rf⟩
  have E : cE p c cX11_samples s m ([.ref (ad o)] : List Value).toArray (Cond.code yX11_samples cX11_samples 1 (some .int) :: wsA) D RX11 (CT cI cJ cZ cMic cSrc cSt cAI cAJ) := ⟨hx, hb, hts, hown, hK⟩
  have hl := lv_entry ([.ref (ad o)]) (n := 1) (Nat.le_of_ble_eq_true rfl)
  rw [lg_entry_eq]
  generalize (lg_sl ([.ref (ad o)]) ++ List.replicate (1 - (lg_sl ([.ref (ad o)])).length) Slot.unset).toArray = ls at hl ⊢
  have hl : lv_has ls 1 [(0, .ref (ad o))] := hl
  unfold g_X11_samples at h
  refine lv_aload_n hx hb dX11_samples_0 rfl (lv_at hl 0 rfl) ?_
  obtain ⟨g2, h⟩ := oif_some h
  obtain ⟨n3, en3, h⟩ := obind_some h
  refine c_get E G o 14 (v := .ref (ad n3)) (oO_k g2).1 (cc_o11 (oO_k g2).2) rfl (fun w h => .tail _ (iA_23 h)) (by decide) (.tail _ qA_675) rfl (by rw [en3]; rfl) dX11_samples_1 ?_
  clear en3
  obtain ⟨g4, h⟩ := oif_some h
  refine c_get E G n3 2 (oO_k g4).1 (cc_o6 (oO_k g4).2) rfl (fun w h => .tail _ (iA_14 h)) (by decide) (.tail _ qA_761) rfl rfl dX11_samples_4 ?_
  refine lv_topi (fun v5 ev5 => ?_)
  have h := elet_at ev5 h
  clear ev5
  exact W.iret (v := v5) hx hb hr (fun t ht hW => ⟨⟨v5, T, rfl, osome2 h, ⟨by rw [ht]; exact G.1, va_K.moved hW.alike hK, G.2.1⟩⟩, G.2.2.F ht⟩) G.2.2.2.2 dX11_samples_7
set_option maxHeartbeats 4000000 in
set_option maxRecDepth 100000 in
theorem s_X11_samples {T : AT} {o : Nat} {r1 : Int32} {T1 : AT} (h : g_X11_samples T o = some (r1, T1)) : SP T T1 := by
  have p0 := SP.rf T
  unfold g_X11_samples at h
  obtain ⟨g2, h⟩ := oif_some h
  obtain ⟨n3, en3, h⟩ := obind_some h
  obtain ⟨g4, h⟩ := oif_some h
  obtain ⟨v5, -, h⟩ := elet_some h
  rw [← (osome2 h).2]
  exact p0
def g_X11_delay (T : AT) (o : Nat) (a0 : Int32) (a1 : Int32) : Option (Nat × Int32 × AT) := oif (oO T o 11 = true) <| othr (g_X11_needCamera T o) 0 fun r5 T3 => oif (oO T3 o 11 = true) <| othr (g_X11_needMic T3 o a0) 0 fun r10 T8 => oif (oO T8 o 11 = true) <| othr (g_X11_needCell T8 o a1) 0 fun r15 T13 => oif (oO T13 o 11 = true) <| obind (T13.2.2.2.2 o 14) fun n18 => oif (oO T13 n18 6 = true) <| obind (T13.2.2.2.2 n18 17) fun n20 => oif (aA T13 n20 106 = true) <| oif (inb a1 (T13.2.1 n20).2 = true) <| obind (T13.2.2.2.2 n20 a1.toNatClampNeg) fun n23 => oif (aA T13 n23 100 = true) <| oif (inb a0 (T13.2.1 n23).2 = true) <| elet (T13.2.2.1 n23 a0.toNatClampNeg) fun v26 => some (0, v26, T13)
set_option maxHeartbeats 4000000 in
set_option maxRecDepth 100000 in
theorem u_X11_delay (l : Launch) (hst : l.stackTraces = false) (D : va_G) (cI cJ cZ cMic cSrc cSt cAI cAJ : ClassId) (ad : Nat → Nat) (T : AT) (o : Nat) (a0 : Int32) (a1 : Int32) {r1 : Int32} {T1 : AT} (h : g_X11_delay T o a0 a1 = some (0, r1, T1)) : kCi l yX11_delay (Cond.code yX11_delay cX11_delay 3 (some .int) :: wsA) 8 123 cI cJ cZ cMic cSrc cSt cAI cAJ D ad T [.ref (ad o), .int a0, .int a1] (fun r T9 => r = r1 ∧ T9 = T1) := by
  intro sz
  refine Met.ofW (cc := cX11_delay) (maxL := 3) (ret := (some .int)) (by decide) rfl ?_
  intro p e s m args below meth c s₁ B hml hv
  obtain ⟨rfl, hsz, hP, hK, hD0, hX, hN⟩ := hv
  have hx := B.exec
  have hb := B.bytes
  have hr := B.returns
  have hts := atoms_spec (ws := (Cond.code yX11_delay cX11_delay 3 (some .int) :: wsA)) B.pre
  have hown : s.vm.findClass RX11 = some m.cls := findClass_of_methodNamed B.named
  have hlocks := B.notSynchronized
  subst hsz
  have hD := hD0.self (sz := s.heap.size)
  generalize hAe : va_A (cW ad T.1 (cc cI cJ cZ cMic cSrc cSt cAI cAJ ad T)) s.heap.size = A at hD hX ⊢
  have hA : ∀ q : Nat, s.heap.size ≤ q → A q := fun q h => by rw [← hAe]; exact Or.inr h
  have G : gC cI cJ cZ cMic cSrc cSt cAI cAJ D ad A s.heap s.heap [] T := ⟨hP, hD, va_S.rf⟩
  have E : cE p c cX11_delay s m ([.ref (ad o), .int a0, .int a1] : List Value).toArray (Cond.code yX11_delay cX11_delay 3 (some .int) :: wsA) D RX11 (CT cI cJ cZ cMic cSrc cSt cAI cAJ) := ⟨hx, hb, hts, hown, hK⟩
  have hl := lv_entry ([.ref (ad o), .int a0, .int a1]) (n := 3) (Nat.le_of_ble_eq_true rfl)
  rw [lg_entry_eq]
  generalize (lg_sl ([.ref (ad o), .int a0, .int a1]) ++ List.replicate (3 - (lg_sl ([.ref (ad o), .int a0, .int a1])).length) Slot.unset).toArray = ls at hl ⊢
  have hl : lv_has ls 3 [(0, .ref (ad o)), (1, .int a0), (2, .int a1)] := hl
  unfold g_X11_delay at h
  refine lv_aload_n hx hb dX11_delay_0 rfl (lv_at hl 0 rfl) ?_
  obtain ⟨g2, h⟩ := oif_some h
  obtain ⟨r5, T3, eT3, h⟩ := othr_n h
  refine q_cvv (As := []) (rest := []) E G hA hX hN hml (u_X11_needCamera l hst D cI cJ cZ cMic cSrc cSt cAI cAJ ad T o eT3) (cwV 0 hts (gaV qA_728 qA_729 qA_730 qA_131 qA_731) rfl rfl rfl (by decide +kernel) ⟨Nat.le_of_ble_eq_true rfl, Nat.le_of_ble_eq_true rfl⟩) (oO_k g2).1 (cc_o11 (oO_k g2).2) rfl rfl hl.1 rfl (lv_room (Nat.le_of_ble_eq_true rfl)) dX11_delay_1 ⟨Nat.zero_le _, Nat.zero_le _⟩ (fun T4 H locs hq G => ?_)
  rw [hq] at G
  clear hq eT3
  refine lv_aload_n hx hb dX11_delay_4 rfl (lv_at hl 0 rfl) ?_
  refine lv_iload_n hx hb dX11_delay_5 rfl (lv_at hl 1 rfl) ?_
  obtain ⟨g7, h⟩ := oif_some h
  obtain ⟨r10, T8, eT8, h⟩ := othr_n h
  refine q_cvv (As := [.int a0]) (rest := []) E G hA hX hN hml (u_X11_needMic l hst D cI cJ cZ cMic cSrc cSt cAI cAJ ad T3 o a0 eT8) (cwV 1 hts (gaV qA_734 qA_735 qA_736 qA_131 qA_737) rfl rfl rfl (by decide +kernel) ⟨Nat.le_of_ble_eq_true rfl, Nat.le_of_ble_eq_true rfl⟩) (oO_k g7).1 (cc_o11 (oO_k g7).2) rfl rfl hl.1 rfl (lv_room (Nat.le_of_ble_eq_true rfl)) dX11_delay_6 ⟨Nat.zero_le _, Nat.zero_le _⟩ (fun T9 H locs hq G => ?_)
  rw [hq] at G
  clear hq eT8
  refine lv_aload_n hx hb dX11_delay_9 rfl (lv_at hl 0 rfl) ?_
  refine lv_iload_n hx hb dX11_delay_10 rfl (lv_at hl 2 rfl) ?_
  obtain ⟨g12, h⟩ := oif_some h
  obtain ⟨r15, T13, eT13, h⟩ := othr_n h
  refine q_cvv (As := [.int a1]) (rest := []) E G hA hX hN hml (u_X11_needCell l hst D cI cJ cZ cMic cSrc cSt cAI cAJ ad T8 o a1 eT13) (cwV 1 hts (gaV qA_752 qA_753 qA_754 qA_131 qA_755) rfl rfl rfl (by decide +kernel) ⟨Nat.le_of_ble_eq_true rfl, Nat.le_of_ble_eq_true rfl⟩) (oO_k g12).1 (cc_o11 (oO_k g12).2) rfl rfl hl.1 rfl (lv_room (Nat.le_of_ble_eq_true rfl)) dX11_delay_11 ⟨Nat.zero_le _, Nat.zero_le _⟩ (fun T14 H locs hq G => ?_)
  rw [hq] at G
  clear hq eT13
  refine lv_aload_n hx hb dX11_delay_14 rfl (lv_at hl 0 rfl) ?_
  obtain ⟨g17, h⟩ := oif_some h
  obtain ⟨n18, en18, h⟩ := obind_some h
  refine c_get E G o 14 (v := .ref (ad n18)) (oO_k g17).1 (cc_o11 (oO_k g17).2) rfl (fun w h => .tail _ (iA_23 h)) (by decide) (.tail _ qA_675) rfl (by rw [en18]; rfl) dX11_delay_15 ?_
  clear en18
  obtain ⟨g19, h⟩ := oif_some h
  obtain ⟨n20, en20, h⟩ := obind_some h
  refine c_get E G n18 17 (v := .ref (ad n20)) (oO_k g19).1 (cc_o6 (oO_k g19).2) rfl (fun w h => .tail _ (iA_14 h)) (by decide) (.tail _ qA_778) rfl (by rw [en20]; rfl) dX11_delay_18 ?_
  clear en20
  refine lv_iload_n hx hb dX11_delay_21 rfl (lv_at hl 2 rfl) ?_
  obtain ⟨g21, h⟩ := oif_some h
  obtain ⟨g22, h⟩ := oif_some h
  obtain ⟨n23, en23, h⟩ := obind_some h
  refine c_alda E G n20 6 (k := a1.toNatClampNeg) (v := .ref (ad n23)) (aA_k g21).1 (cc_a106 (aA_k g21).2.1) rfl (inb_k g22).1 (inb_k g22).2 (aA_k g21).2.2 (by show va_rf ((T13.2.2.2.2 n20 a1.toNatClampNeg).map ad) = _; rw [en23]; rfl) dX11_delay_22 ?_
  clear en23
  refine lv_iload_n hx hb dX11_delay_23 rfl (lv_at hl 1 rfl) ?_
  obtain ⟨g24, h⟩ := oif_some h
  obtain ⟨g25, h⟩ := oif_some h
  refine c_iald E G n23 0 (k := a0.toNatClampNeg) (aA_k g24).1 (cc_a100 (aA_k g24).2.1) rfl (inb_k g25).1 (inb_k g25).2 (aA_k g24).2.2 dX11_delay_24 ?_
  refine lv_topi (fun v26 ev26 => ?_)
  have h := elet_at ev26 h
  clear ev26
  exact W.iret (v := v26) hx hb hr (fun t ht hW => ⟨⟨v26, T13, rfl, (osome3 h).2, ⟨by rw [ht]; exact G.1, va_K.moved hW.alike hK, G.2.1⟩⟩, G.2.2.F ht⟩) G.2.2.2.2 dX11_delay_25
set_option maxHeartbeats 4000000 in
set_option maxRecDepth 100000 in
theorem s_X11_delay {T : AT} {o : Nat} {a0 : Int32} {a1 : Int32} {e1 : Nat} {r1 : Int32} {T1 : AT} (h : g_X11_delay T o a0 a1 = some (e1, r1, T1)) : SP T T1 := by
  have p0 := SP.rf T
  unfold g_X11_delay at h
  obtain ⟨g2, h⟩ := oif_some h
  rcases othr_s h with ⟨k9, r9, e9, -⟩ | ⟨r4, T3, eT3, h⟩
  · exact SP.tr p0 (s_X11_needCamera e9)
  have p1 : SP T T3 := SP.tr p0 (s_X11_needCamera eT3)
  obtain ⟨g5, h⟩ := oif_some h
  rcases othr_s h with ⟨k9, r9, e9, -⟩ | ⟨r7, T6, eT6, h⟩
  · exact SP.tr p1 (s_X11_needMic e9)
  have p2 : SP T T6 := SP.tr p1 (s_X11_needMic eT6)
  obtain ⟨g8, h⟩ := oif_some h
  rcases othr_s h with ⟨k9, r9, e9, -⟩ | ⟨r10, T9, eT9, h⟩
  · exact SP.tr p2 (s_X11_needCell e9)
  have p3 : SP T T9 := SP.tr p2 (s_X11_needCell eT9)
  obtain ⟨g11, h⟩ := oif_some h
  obtain ⟨n12, en12, h⟩ := obind_some h
  obtain ⟨g13, h⟩ := oif_some h
  obtain ⟨n14, en14, h⟩ := obind_some h
  obtain ⟨g15, h⟩ := oif_some h
  obtain ⟨g16, h⟩ := oif_some h
  obtain ⟨n17, en17, h⟩ := obind_some h
  obtain ⟨g18, h⟩ := oif_some h
  obtain ⟨g19, h⟩ := oif_some h
  obtain ⟨v20, -, h⟩ := elet_some h
  rw [← (osome3 h).2.2]
  exact p3
set_option maxHeartbeats 4000000 in
set_option maxRecDepth 100000 in
theorem x_X11_delay (l : Launch) (hst : l.stackTraces = false) (D : va_G) (cI cJ cZ cMic cSrc cSt cAI cAJ : ClassId) (ad : Nat → Nat) (T : AT) (o : Nat) (a0 : Int32) (a1 : Int32) {e1 : Nat} {r1 : Int32} {T1 : AT} (h : g_X11_delay T o a0 a1 = some (e1 + 1, r1, T1)) : kXi l yX11_delay (Cond.code yX11_delay cX11_delay 3 (some .int) :: wsA) 8 123 cI cJ cZ cMic cSrc cSt cAI cAJ D ad T [.ref (ad o), .int a0, .int a1] e1 T1 := by
  intro sz
  refine vx_ofW (cc := cX11_delay) (maxL := 3) (ret := (some .int)) (by decide) rfl ?_
  intro p e s m args below meth c s₁ B hml htab hv
  obtain ⟨rfl, hsz, hP, hK, hD0, hX, hN⟩ := hv
  have hx := B.exec
  have hb := B.bytes
  have hr := B.returns
  have hts := atoms_spec (ws := (Cond.code yX11_delay cX11_delay 3 (some .int) :: wsA)) B.pre
  have hown : s.vm.findClass RX11 = some m.cls := findClass_of_methodNamed B.named
  have hlocks := B.notSynchronized
  subst hsz
  have hD := hD0.self (sz := s.heap.size)
  generalize hAe : va_A (cW ad T.1 (cc cI cJ cZ cMic cSrc cSt cAI cAJ ad T)) s.heap.size = A at hD hX ⊢
  have hA : ∀ q : Nat, s.heap.size ≤ q → A q := fun q h => by rw [← hAe]; exact Or.inr h
  have G : gC cI cJ cZ cMic cSrc cSt cAI cAJ D ad A s.heap s.heap [] T := ⟨hP, hD, va_S.rf⟩
  have E : cE p c cX11_delay s m ([.ref (ad o), .int a0, .int a1] : List Value).toArray (Cond.code yX11_delay cX11_delay 3 (some .int) :: wsA) D RX11 (CT cI cJ cZ cMic cSrc cSt cAI cAJ) := ⟨hx, hb, hts, hown, hK⟩
  have htab : ∀ x ∈ c.exceptionTable.toList, False := fun x hx => htab x hx
  have hl := lv_entry ([.ref (ad o), .int a0, .int a1]) (n := 3) (Nat.le_of_ble_eq_true rfl)
  rw [lg_entry_eq]
  generalize (lg_sl ([.ref (ad o), .int a0, .int a1]) ++ List.replicate (3 - (lg_sl ([.ref (ad o), .int a0, .int a1])).length) Slot.unset).toArray = ls at hl ⊢
  have hl : lv_has ls 3 [(0, .ref (ad o)), (1, .int a0), (2, .int a1)] := hl
  unfold g_X11_delay at h
  refine lv_aload_n hx hb dX11_delay_0 rfl (lv_at hl 0 rfl) ?_
  obtain ⟨g2, h⟩ := oif_some h
  rcases othr_t h with ⟨r0, eT3⟩ | ⟨r5, T3, eT3, h⟩
  · refine q_xvv (As := []) (rest := []) E G hA hX hN hml (x_X11_needCamera l hst D cI cJ cZ cMic cSrc cSt cAI cAJ ad T o eT3) (cwV 0 hts (gaV qA_728 qA_729 qA_730 qA_131 qA_731) rfl rfl rfl (by decide +kernel) ⟨Nat.le_of_ble_eq_true rfl, Nat.le_of_ble_eq_true rfl⟩) (oO_k g2).1 (cc_o11 (oO_k g2).2) rfl rfl hl.1 rfl (lv_room (Nat.le_of_ble_eq_true rfl)) dX11_delay_1 ⟨Nat.le_of_ble_eq_true rfl, Nat.le_of_ble_eq_true rfl⟩ (fun E9 ce q9 T9 H locs hp G hce hcv hcl => ?_)
    obtain ⟨hE, hT⟩ := hp
    subst hE
    rw [hT] at G
    exact vx_out (fun x hx => (htab x hx).elim) hlocks hce hcv hcl (fun t ht hvm => ⟨T1, trivial, ⟨⟨rfl, rfl⟩, by rw [ht]; exact G.1, va_K.moved hvm hK, G.2.1⟩, G.2.2.F ht⟩) G.2.2.2.2 (Nat.le_refl _) (Nat.le_refl _)
  refine q_cvv (As := []) (rest := []) E G hA hX hN hml (u_X11_needCamera l hst D cI cJ cZ cMic cSrc cSt cAI cAJ ad T o eT3) (cwV 0 hts (gaV qA_728 qA_729 qA_730 qA_131 qA_731) rfl rfl rfl (by decide +kernel) ⟨Nat.le_of_ble_eq_true rfl, Nat.le_of_ble_eq_true rfl⟩) (oO_k g2).1 (cc_o11 (oO_k g2).2) rfl rfl hl.1 rfl (lv_room (Nat.le_of_ble_eq_true rfl)) dX11_delay_1 ⟨Nat.zero_le _, Nat.zero_le _⟩ (fun T4 H locs hq G => ?_)
  rw [hq] at G
  clear hq eT3
  refine lv_aload_n hx hb dX11_delay_4 rfl (lv_at hl 0 rfl) ?_
  refine lv_iload_n hx hb dX11_delay_5 rfl (lv_at hl 1 rfl) ?_
  obtain ⟨g7, h⟩ := oif_some h
  rcases othr_t h with ⟨r0, eT8⟩ | ⟨r10, T8, eT8, h⟩
  · refine q_xvv (As := [.int a0]) (rest := []) E G hA hX hN hml (x_X11_needMic l hst D cI cJ cZ cMic cSrc cSt cAI cAJ ad T3 o a0 eT8) (cwV 1 hts (gaV qA_734 qA_735 qA_736 qA_131 qA_737) rfl rfl rfl (by decide +kernel) ⟨Nat.le_of_ble_eq_true rfl, Nat.le_of_ble_eq_true rfl⟩) (oO_k g7).1 (cc_o11 (oO_k g7).2) rfl rfl hl.1 rfl (lv_room (Nat.le_of_ble_eq_true rfl)) dX11_delay_6 ⟨Nat.le_of_ble_eq_true rfl, Nat.le_of_ble_eq_true rfl⟩ (fun E9 ce q9 T9 H locs hp G hce hcv hcl => ?_)
    obtain ⟨hE, hT⟩ := hp
    subst hE
    rw [hT] at G
    exact vx_out (fun x hx => (htab x hx).elim) hlocks hce hcv hcl (fun t ht hvm => ⟨T1, trivial, ⟨⟨rfl, rfl⟩, by rw [ht]; exact G.1, va_K.moved hvm hK, G.2.1⟩, G.2.2.F ht⟩) G.2.2.2.2 (Nat.le_refl _) (Nat.le_refl _)
  refine q_cvv (As := [.int a0]) (rest := []) E G hA hX hN hml (u_X11_needMic l hst D cI cJ cZ cMic cSrc cSt cAI cAJ ad T3 o a0 eT8) (cwV 1 hts (gaV qA_734 qA_735 qA_736 qA_131 qA_737) rfl rfl rfl (by decide +kernel) ⟨Nat.le_of_ble_eq_true rfl, Nat.le_of_ble_eq_true rfl⟩) (oO_k g7).1 (cc_o11 (oO_k g7).2) rfl rfl hl.1 rfl (lv_room (Nat.le_of_ble_eq_true rfl)) dX11_delay_6 ⟨Nat.zero_le _, Nat.zero_le _⟩ (fun T9 H locs hq G => ?_)
  rw [hq] at G
  clear hq eT8
  refine lv_aload_n hx hb dX11_delay_9 rfl (lv_at hl 0 rfl) ?_
  refine lv_iload_n hx hb dX11_delay_10 rfl (lv_at hl 2 rfl) ?_
  obtain ⟨g12, h⟩ := oif_some h
  rcases othr_t h with ⟨r0, eT13⟩ | ⟨r15, T13, eT13, h⟩
  · refine q_xvv (As := [.int a1]) (rest := []) E G hA hX hN hml (x_X11_needCell l hst D cI cJ cZ cMic cSrc cSt cAI cAJ ad T8 o a1 eT13) (cwV 1 hts (gaV qA_752 qA_753 qA_754 qA_131 qA_755) rfl rfl rfl (by decide +kernel) ⟨Nat.le_of_ble_eq_true rfl, Nat.le_of_ble_eq_true rfl⟩) (oO_k g12).1 (cc_o11 (oO_k g12).2) rfl rfl hl.1 rfl (lv_room (Nat.le_of_ble_eq_true rfl)) dX11_delay_11 ⟨Nat.le_of_ble_eq_true rfl, Nat.le_of_ble_eq_true rfl⟩ (fun E9 ce q9 T9 H locs hp G hce hcv hcl => ?_)
    obtain ⟨hE, hT⟩ := hp
    subst hE
    rw [hT] at G
    exact vx_out (fun x hx => (htab x hx).elim) hlocks hce hcv hcl (fun t ht hvm => ⟨T1, trivial, ⟨⟨rfl, rfl⟩, by rw [ht]; exact G.1, va_K.moved hvm hK, G.2.1⟩, G.2.2.F ht⟩) G.2.2.2.2 (Nat.le_refl _) (Nat.le_refl _)
  refine q_cvv (As := [.int a1]) (rest := []) E G hA hX hN hml (u_X11_needCell l hst D cI cJ cZ cMic cSrc cSt cAI cAJ ad T8 o a1 eT13) (cwV 1 hts (gaV qA_752 qA_753 qA_754 qA_131 qA_755) rfl rfl rfl (by decide +kernel) ⟨Nat.le_of_ble_eq_true rfl, Nat.le_of_ble_eq_true rfl⟩) (oO_k g12).1 (cc_o11 (oO_k g12).2) rfl rfl hl.1 rfl (lv_room (Nat.le_of_ble_eq_true rfl)) dX11_delay_11 ⟨Nat.zero_le _, Nat.zero_le _⟩ (fun T14 H locs hq G => ?_)
  rw [hq] at G
  clear hq eT13
  refine lv_aload_n hx hb dX11_delay_14 rfl (lv_at hl 0 rfl) ?_
  obtain ⟨g17, h⟩ := oif_some h
  obtain ⟨n18, en18, h⟩ := obind_some h
  refine c_get E G o 14 (v := .ref (ad n18)) (oO_k g17).1 (cc_o11 (oO_k g17).2) rfl (fun w h => .tail _ (iA_23 h)) (by decide) (.tail _ qA_675) rfl (by rw [en18]; rfl) dX11_delay_15 ?_
  clear en18
  obtain ⟨g19, h⟩ := oif_some h
  obtain ⟨n20, en20, h⟩ := obind_some h
  refine c_get E G n18 17 (v := .ref (ad n20)) (oO_k g19).1 (cc_o6 (oO_k g19).2) rfl (fun w h => .tail _ (iA_14 h)) (by decide) (.tail _ qA_778) rfl (by rw [en20]; rfl) dX11_delay_18 ?_
  clear en20
  refine lv_iload_n hx hb dX11_delay_21 rfl (lv_at hl 2 rfl) ?_
  obtain ⟨g21, h⟩ := oif_some h
  obtain ⟨g22, h⟩ := oif_some h
  obtain ⟨n23, en23, h⟩ := obind_some h
  refine c_alda E G n20 6 (k := a1.toNatClampNeg) (v := .ref (ad n23)) (aA_k g21).1 (cc_a106 (aA_k g21).2.1) rfl (inb_k g22).1 (inb_k g22).2 (aA_k g21).2.2 (by show va_rf ((T13.2.2.2.2 n20 a1.toNatClampNeg).map ad) = _; rw [en23]; rfl) dX11_delay_22 ?_
  clear en23
  refine lv_iload_n hx hb dX11_delay_23 rfl (lv_at hl 1 rfl) ?_
  obtain ⟨g24, h⟩ := oif_some h
  obtain ⟨g25, h⟩ := oif_some h
  refine c_iald E G n23 0 (k := a0.toNatClampNeg) (aA_k g24).1 (cc_a100 (aA_k g24).2.1) rfl (inb_k g25).1 (inb_k g25).2 (aA_k g24).2.2 dX11_delay_24 ?_
  refine lv_topi (fun v26 ev26 => ?_)
  have h := elet_at ev26 h
  clear ev26
  exact (Nat.succ_ne_zero _ (congrArg Prod.fst (Option.some.inj h)).symm).elim
def g_X11_delayTo (T : AT) (o : Nat) (a0 : Int32) (a1 : Int32) (a2 : Int32) : Option (Nat × Int32 × AT) := oif (oO T o 11 = true) <| othr (g_X11_needCamera T o) 0 fun r5 T3 => oif (oO T3 o 11 = true) <| othr (g_X11_needMic T3 o a0) 0 fun r10 T8 => othr (g_X11_needRange T8 a1 ((-9999) : Int32) (9999 : Int32)) 0 fun r14 T12 => othr (g_X11_needRange T12 a2 ((-9999) : Int32) (9999 : Int32)) 0 fun r18 T16 => oif (oO T16 o 11 = true) <| obind (T16.2.2.2.2 o 14) fun n21 => oif (oO T16 o 11 = true) <| obind (T16.2.2.2.2 o 14) fun n23 => oif (oO T16 n23 6 = true) <| obind (T16.2.2.2.2 n23 4) fun n25 => oif (aA T16 n25 103 = true) <| oif (inb a0 (T16.2.1 n25).2 = true) <| obind (T16.2.2.2.2 n25 a0.toNatClampNeg) fun n28 => oif (oO T16 n21 6 = true) <| obind2 (g_X6_delayFrom T16 n21 n28 a1 a2) fun r32 T30 => some (0, r32, T30)
set_option maxHeartbeats 4000000 in
set_option maxRecDepth 100000 in
theorem u_X11_delayTo (l : Launch) (hst : l.stackTraces = false) (D : va_G) (cI cJ cZ cMic cSrc cSt cAI cAJ : ClassId) (ad : Nat → Nat) (T : AT) (o : Nat) (a0 : Int32) (a1 : Int32) (a2 : Int32) {r1 : Int32} {T1 : AT} (h : g_X11_delayTo T o a0 a1 a2 = some (0, r1, T1)) : kCi l yX11_delayTo (Cond.code yX11_delayTo cX11_delayTo 4 (some .int) :: wsA) 8 123 cI cJ cZ cMic cSrc cSt cAI cAJ D ad T [.ref (ad o), .int a0, .int a1, .int a2] (fun r T9 => r = r1 ∧ T9 = T1) := by
  intro sz
  refine Met.ofW (cc := cX11_delayTo) (maxL := 4) (ret := (some .int)) (by decide) rfl ?_
  intro p e s m args below meth c s₁ B hml hv
  obtain ⟨rfl, hsz, hP, hK, hD0, hX, hN⟩ := hv
  have hx := B.exec
  have hb := B.bytes
  have hr := B.returns
  have hts := atoms_spec (ws := (Cond.code yX11_delayTo cX11_delayTo 4 (some .int) :: wsA)) B.pre
  have hown : s.vm.findClass RX11 = some m.cls := findClass_of_methodNamed B.named
  have hlocks := B.notSynchronized
  subst hsz
  have hD := hD0.self (sz := s.heap.size)
  generalize hAe : va_A (cW ad T.1 (cc cI cJ cZ cMic cSrc cSt cAI cAJ ad T)) s.heap.size = A at hD hX ⊢
  have hA : ∀ q : Nat, s.heap.size ≤ q → A q := fun q h => by rw [← hAe]; exact Or.inr h
  have G : gC cI cJ cZ cMic cSrc cSt cAI cAJ D ad A s.heap s.heap [] T := ⟨hP, hD, va_S.rf⟩
  have E : cE p c cX11_delayTo s m ([.ref (ad o), .int a0, .int a1, .int a2] : List Value).toArray (Cond.code yX11_delayTo cX11_delayTo 4 (some .int) :: wsA) D RX11 (CT cI cJ cZ cMic cSrc cSt cAI cAJ) := ⟨hx, hb, hts, hown, hK⟩
  have hl := lv_entry ([.ref (ad o), .int a0, .int a1, .int a2]) (n := 4) (Nat.le_of_ble_eq_true rfl)
  rw [lg_entry_eq]
  generalize (lg_sl ([.ref (ad o), .int a0, .int a1, .int a2]) ++ List.replicate (4 - (lg_sl ([.ref (ad o), .int a0, .int a1, .int a2])).length) Slot.unset).toArray = ls at hl ⊢
  have hl : lv_has ls 4 [(0, .ref (ad o)), (1, .int a0), (2, .int a1), (3, .int a2)] := hl
  unfold g_X11_delayTo at h
  refine lv_aload_n hx hb dX11_delayTo_0 rfl (lv_at hl 0 rfl) ?_
  obtain ⟨g2, h⟩ := oif_some h
  obtain ⟨r5, T3, eT3, h⟩ := othr_n h
  refine q_cvv (As := []) (rest := []) E G hA hX hN hml (u_X11_needCamera l hst D cI cJ cZ cMic cSrc cSt cAI cAJ ad T o eT3) (cwV 0 hts (gaV qA_728 qA_729 qA_730 qA_131 qA_731) rfl rfl rfl (by decide +kernel) ⟨Nat.le_of_ble_eq_true rfl, Nat.le_of_ble_eq_true rfl⟩) (oO_k g2).1 (cc_o11 (oO_k g2).2) rfl rfl hl.1 rfl (lv_room (Nat.le_of_ble_eq_true rfl)) dX11_delayTo_1 ⟨Nat.zero_le _, Nat.zero_le _⟩ (fun T4 H locs hq G => ?_)
  rw [hq] at G
  clear hq eT3
  refine lv_aload_n hx hb dX11_delayTo_4 rfl (lv_at hl 0 rfl) ?_
  refine lv_iload_n hx hb dX11_delayTo_5 rfl (lv_at hl 1 rfl) ?_
  obtain ⟨g7, h⟩ := oif_some h
  obtain ⟨r10, T8, eT8, h⟩ := othr_n h
  refine q_cvv (As := [.int a0]) (rest := []) E G hA hX hN hml (u_X11_needMic l hst D cI cJ cZ cMic cSrc cSt cAI cAJ ad T3 o a0 eT8) (cwV 1 hts (gaV qA_734 qA_735 qA_736 qA_131 qA_737) rfl rfl rfl (by decide +kernel) ⟨Nat.le_of_ble_eq_true rfl, Nat.le_of_ble_eq_true rfl⟩) (oO_k g7).1 (cc_o11 (oO_k g7).2) rfl rfl hl.1 rfl (lv_room (Nat.le_of_ble_eq_true rfl)) dX11_delayTo_6 ⟨Nat.zero_le _, Nat.zero_le _⟩ (fun T9 H locs hq G => ?_)
  rw [hq] at G
  clear hq eT8
  refine lv_iload_n hx hb dX11_delayTo_9 rfl (lv_at hl 2 rfl) ?_
  refine lv_sipush (v := (-9999)) hx hb dX11_delayTo_10 (by decide) ?_
  refine lv_sipush (v := 9999) hx hb dX11_delayTo_13 (by decide) ?_
  obtain ⟨r14, T12, eT12, h⟩ := othr_n h
  refine q_csv (As := [.int a1, .int (-9999), .int 9999]) (rest := []) E G hA hX hN hml (u_X11_needRange l hst D cI cJ cZ cMic cSrc cSt cAI cAJ ad T8 a1 ((-9999) : Int32) (9999 : Int32) eT12) (cwS 3 hts (gaS qA_741 qA_742 qA_131 qA_743) rfl rfl rfl (by decide +kernel) ⟨Nat.le_of_ble_eq_true rfl, Nat.le_of_ble_eq_true rfl⟩) rfl hl.1 rfl (lv_room (Nat.le_of_ble_eq_true rfl)) dX11_delayTo_16 ⟨Nat.zero_le _, Nat.zero_le _⟩ (fun T13 H locs hq G => ?_)
  rw [hq] at G
  clear hq eT12
  refine lv_iload_n hx hb dX11_delayTo_19 rfl (lv_at hl 3 rfl) ?_
  refine lv_sipush (v := (-9999)) hx hb dX11_delayTo_20 (by decide) ?_
  refine lv_sipush (v := 9999) hx hb dX11_delayTo_23 (by decide) ?_
  obtain ⟨r18, T16, eT16, h⟩ := othr_n h
  refine q_csv (As := [.int a2, .int (-9999), .int 9999]) (rest := []) E G hA hX hN hml (u_X11_needRange l hst D cI cJ cZ cMic cSrc cSt cAI cAJ ad T12 a2 ((-9999) : Int32) (9999 : Int32) eT16) (cwS 3 hts (gaS qA_741 qA_742 qA_131 qA_743) rfl rfl rfl (by decide +kernel) ⟨Nat.le_of_ble_eq_true rfl, Nat.le_of_ble_eq_true rfl⟩) rfl hl.1 rfl (lv_room (Nat.le_of_ble_eq_true rfl)) dX11_delayTo_26 ⟨Nat.zero_le _, Nat.zero_le _⟩ (fun T17 H locs hq G => ?_)
  rw [hq] at G
  clear hq eT16
  refine lv_aload_n hx hb dX11_delayTo_29 rfl (lv_at hl 0 rfl) ?_
  obtain ⟨g20, h⟩ := oif_some h
  obtain ⟨n21, en21, h⟩ := obind_some h
  refine c_get E G o 14 (v := .ref (ad n21)) (oO_k g20).1 (cc_o11 (oO_k g20).2) rfl (fun w h => .tail _ (iA_23 h)) (by decide) (.tail _ qA_675) rfl (by rw [en21]; rfl) dX11_delayTo_30 ?_
  clear en21
  refine lv_aload_n hx hb dX11_delayTo_33 rfl (lv_at hl 0 rfl) ?_
  obtain ⟨g22, h⟩ := oif_some h
  obtain ⟨n23, en23, h⟩ := obind_some h
  refine c_get E G o 14 (v := .ref (ad n23)) (oO_k g22).1 (cc_o11 (oO_k g22).2) rfl (fun w h => .tail _ (iA_23 h)) (by decide) (.tail _ qA_675) rfl (by rw [en23]; rfl) dX11_delayTo_34 ?_
  clear en23
  obtain ⟨g24, h⟩ := oif_some h
  obtain ⟨n25, en25, h⟩ := obind_some h
  refine c_get E G n23 4 (v := .ref (ad n25)) (oO_k g24).1 (cc_o6 (oO_k g24).2) rfl (fun w h => .tail _ (iA_14 h)) (by decide) (.tail _ qA_723) rfl (by rw [en25]; rfl) dX11_delayTo_37 ?_
  clear en25
  refine lv_iload_n hx hb dX11_delayTo_40 rfl (lv_at hl 1 rfl) ?_
  obtain ⟨g26, h⟩ := oif_some h
  obtain ⟨g27, h⟩ := oif_some h
  obtain ⟨n28, en28, h⟩ := obind_some h
  refine c_aldq E G n25 3 (k := a0.toNatClampNeg) (v := .ref (ad n28)) (aA_k g26).1 (cc_a103 (aA_k g26).2.1) rfl (inb_k g27).1 (inb_k g27).2 (aA_k g26).2.2 (by show va_rf ((T16.2.2.2.2 n25 a0.toNatClampNeg).map ad) = _; rw [en28]; rfl) dX11_delayTo_41 ?_
  clear en28
  refine lv_iload_n hx hb dX11_delayTo_42 rfl (lv_at hl 2 rfl) ?_
  refine lv_iload_n hx hb dX11_delayTo_43 rfl (lv_at hl 3 rfl) ?_
  obtain ⟨g29, h⟩ := oif_some h
  obtain ⟨r32, T30, eT30, h⟩ := obind2_some h
  refine q_cvi (As := [.ref (ad n28), .int a1, .int a2]) (rest := []) E G hA hX hN hml (u_X6_delayFrom l hst D cI cJ cZ cMic cSrc cSt cAI cAJ ad T16 n21 n28 a1 a2 eT30) (cwV 3 hts (gaV qA_780 qA_493 qA_494 qA_207 qA_495) rfl rfl rfl (by decide +kernel) ⟨Nat.le_of_ble_eq_true rfl, Nat.le_of_ble_eq_true rfl⟩) (oO_k g29).1 (cc_o6 (oO_k g29).2) rfl rfl hl.1 rfl (lv_room (Nat.le_of_ble_eq_true rfl)) dX11_delayTo_44 ⟨Nat.zero_le _, Nat.zero_le _⟩ (fun q33 T31 H locs hq G => ?_)
  obtain ⟨hq1, hq2⟩ := hq
  rw [hq2] at G
  refine lv_to hq1 ?_
  clear hq1 hq2 eT30
  exact W.iret (v := r32) hx hb hr (fun t ht hW => ⟨⟨r32, T30, rfl, (osome3 h).2, ⟨by rw [ht]; exact G.1, va_K.moved hW.alike hK, G.2.1⟩⟩, G.2.2.F ht⟩) G.2.2.2.2 dX11_delayTo_47
set_option maxHeartbeats 4000000 in
set_option maxRecDepth 100000 in
theorem s_X11_delayTo {T : AT} {o : Nat} {a0 : Int32} {a1 : Int32} {a2 : Int32} {e1 : Nat} {r1 : Int32} {T1 : AT} (h : g_X11_delayTo T o a0 a1 a2 = some (e1, r1, T1)) : SP T T1 := by
  have p0 := SP.rf T
  unfold g_X11_delayTo at h
  obtain ⟨g2, h⟩ := oif_some h
  rcases othr_s h with ⟨k9, r9, e9, -⟩ | ⟨r4, T3, eT3, h⟩
  · exact SP.tr p0 (s_X11_needCamera e9)
  have p1 : SP T T3 := SP.tr p0 (s_X11_needCamera eT3)
  obtain ⟨g5, h⟩ := oif_some h
  rcases othr_s h with ⟨k9, r9, e9, -⟩ | ⟨r7, T6, eT6, h⟩
  · exact SP.tr p1 (s_X11_needMic e9)
  have p2 : SP T T6 := SP.tr p1 (s_X11_needMic eT6)
  rcases othr_s h with ⟨k9, r9, e9, -⟩ | ⟨r9, T8, eT8, h⟩
  · exact SP.tr p2 (s_X11_needRange e9)
  have p3 : SP T T8 := SP.tr p2 (s_X11_needRange eT8)
  rcases othr_s h with ⟨k9, r9, e9, -⟩ | ⟨r11, T10, eT10, h⟩
  · exact SP.tr p3 (s_X11_needRange e9)
  have p4 : SP T T10 := SP.tr p3 (s_X11_needRange eT10)
  obtain ⟨g12, h⟩ := oif_some h
  obtain ⟨n13, en13, h⟩ := obind_some h
  obtain ⟨g14, h⟩ := oif_some h
  obtain ⟨n15, en15, h⟩ := obind_some h
  obtain ⟨g16, h⟩ := oif_some h
  obtain ⟨n17, en17, h⟩ := obind_some h
  obtain ⟨g18, h⟩ := oif_some h
  obtain ⟨g19, h⟩ := oif_some h
  obtain ⟨n20, en20, h⟩ := obind_some h
  obtain ⟨g21, h⟩ := oif_some h
  obtain ⟨r23, T22, eT22, h⟩ := obind2_some h
  have p5 : SP T T22 := SP.tr p4 (s_X6_delayFrom eT22)
  rw [← (osome3 h).2.2]
  exact p5
set_option maxHeartbeats 4000000 in
set_option maxRecDepth 100000 in
theorem x_X11_delayTo (l : Launch) (hst : l.stackTraces = false) (D : va_G) (cI cJ cZ cMic cSrc cSt cAI cAJ : ClassId) (ad : Nat → Nat) (T : AT) (o : Nat) (a0 : Int32) (a1 : Int32) (a2 : Int32) {e1 : Nat} {r1 : Int32} {T1 : AT} (h : g_X11_delayTo T o a0 a1 a2 = some (e1 + 1, r1, T1)) : kXi l yX11_delayTo (Cond.code yX11_delayTo cX11_delayTo 4 (some .int) :: wsA) 8 123 cI cJ cZ cMic cSrc cSt cAI cAJ D ad T [.ref (ad o), .int a0, .int a1, .int a2] e1 T1 := by
  intro sz
  refine vx_ofW (cc := cX11_delayTo) (maxL := 4) (ret := (some .int)) (by decide) rfl ?_
  intro p e s m args below meth c s₁ B hml htab hv
  obtain ⟨rfl, hsz, hP, hK, hD0, hX, hN⟩ := hv
  have hx := B.exec
  have hb := B.bytes
  have hr := B.returns
  have hts := atoms_spec (ws := (Cond.code yX11_delayTo cX11_delayTo 4 (some .int) :: wsA)) B.pre
  have hown : s.vm.findClass RX11 = some m.cls := findClass_of_methodNamed B.named
  have hlocks := B.notSynchronized
  subst hsz
  have hD := hD0.self (sz := s.heap.size)
  generalize hAe : va_A (cW ad T.1 (cc cI cJ cZ cMic cSrc cSt cAI cAJ ad T)) s.heap.size = A at hD hX ⊢
  have hA : ∀ q : Nat, s.heap.size ≤ q → A q := fun q h => by rw [← hAe]; exact Or.inr h
  have G : gC cI cJ cZ cMic cSrc cSt cAI cAJ D ad A s.heap s.heap [] T := ⟨hP, hD, va_S.rf⟩
  have E : cE p c cX11_delayTo s m ([.ref (ad o), .int a0, .int a1, .int a2] : List Value).toArray (Cond.code yX11_delayTo cX11_delayTo 4 (some .int) :: wsA) D RX11 (CT cI cJ cZ cMic cSrc cSt cAI cAJ) := ⟨hx, hb, hts, hown, hK⟩
  have htab : ∀ x ∈ c.exceptionTable.toList, False := fun x hx => htab x hx
  have hl := lv_entry ([.ref (ad o), .int a0, .int a1, .int a2]) (n := 4) (Nat.le_of_ble_eq_true rfl)
  rw [lg_entry_eq]
  generalize (lg_sl ([.ref (ad o), .int a0, .int a1, .int a2]) ++ List.replicate (4 - (lg_sl ([.ref (ad o), .int a0, .int a1, .int a2])).length) Slot.unset).toArray = ls at hl ⊢
  have hl : lv_has ls 4 [(0, .ref (ad o)), (1, .int a0), (2, .int a1), (3, .int a2)] := hl
  unfold g_X11_delayTo at h
  refine lv_aload_n hx hb dX11_delayTo_0 rfl (lv_at hl 0 rfl) ?_
  obtain ⟨g2, h⟩ := oif_some h
  rcases othr_t h with ⟨r0, eT3⟩ | ⟨r5, T3, eT3, h⟩
  · refine q_xvv (As := []) (rest := []) E G hA hX hN hml (x_X11_needCamera l hst D cI cJ cZ cMic cSrc cSt cAI cAJ ad T o eT3) (cwV 0 hts (gaV qA_728 qA_729 qA_730 qA_131 qA_731) rfl rfl rfl (by decide +kernel) ⟨Nat.le_of_ble_eq_true rfl, Nat.le_of_ble_eq_true rfl⟩) (oO_k g2).1 (cc_o11 (oO_k g2).2) rfl rfl hl.1 rfl (lv_room (Nat.le_of_ble_eq_true rfl)) dX11_delayTo_1 ⟨Nat.le_of_ble_eq_true rfl, Nat.le_of_ble_eq_true rfl⟩ (fun E9 ce q9 T9 H locs hp G hce hcv hcl => ?_)
    obtain ⟨hE, hT⟩ := hp
    subst hE
    rw [hT] at G
    exact vx_out (fun x hx => (htab x hx).elim) hlocks hce hcv hcl (fun t ht hvm => ⟨T1, trivial, ⟨⟨rfl, rfl⟩, by rw [ht]; exact G.1, va_K.moved hvm hK, G.2.1⟩, G.2.2.F ht⟩) G.2.2.2.2 (Nat.le_refl _) (Nat.le_refl _)
  refine q_cvv (As := []) (rest := []) E G hA hX hN hml (u_X11_needCamera l hst D cI cJ cZ cMic cSrc cSt cAI cAJ ad T o eT3) (cwV 0 hts (gaV qA_728 qA_729 qA_730 qA_131 qA_731) rfl rfl rfl (by decide +kernel) ⟨Nat.le_of_ble_eq_true rfl, Nat.le_of_ble_eq_true rfl⟩) (oO_k g2).1 (cc_o11 (oO_k g2).2) rfl rfl hl.1 rfl (lv_room (Nat.le_of_ble_eq_true rfl)) dX11_delayTo_1 ⟨Nat.zero_le _, Nat.zero_le _⟩ (fun T4 H locs hq G => ?_)
  rw [hq] at G
  clear hq eT3
  refine lv_aload_n hx hb dX11_delayTo_4 rfl (lv_at hl 0 rfl) ?_
  refine lv_iload_n hx hb dX11_delayTo_5 rfl (lv_at hl 1 rfl) ?_
  obtain ⟨g7, h⟩ := oif_some h
  rcases othr_t h with ⟨r0, eT8⟩ | ⟨r10, T8, eT8, h⟩
  · refine q_xvv (As := [.int a0]) (rest := []) E G hA hX hN hml (x_X11_needMic l hst D cI cJ cZ cMic cSrc cSt cAI cAJ ad T3 o a0 eT8) (cwV 1 hts (gaV qA_734 qA_735 qA_736 qA_131 qA_737) rfl rfl rfl (by decide +kernel) ⟨Nat.le_of_ble_eq_true rfl, Nat.le_of_ble_eq_true rfl⟩) (oO_k g7).1 (cc_o11 (oO_k g7).2) rfl rfl hl.1 rfl (lv_room (Nat.le_of_ble_eq_true rfl)) dX11_delayTo_6 ⟨Nat.le_of_ble_eq_true rfl, Nat.le_of_ble_eq_true rfl⟩ (fun E9 ce q9 T9 H locs hp G hce hcv hcl => ?_)
    obtain ⟨hE, hT⟩ := hp
    subst hE
    rw [hT] at G
    exact vx_out (fun x hx => (htab x hx).elim) hlocks hce hcv hcl (fun t ht hvm => ⟨T1, trivial, ⟨⟨rfl, rfl⟩, by rw [ht]; exact G.1, va_K.moved hvm hK, G.2.1⟩, G.2.2.F ht⟩) G.2.2.2.2 (Nat.le_refl _) (Nat.le_refl _)
  refine q_cvv (As := [.int a0]) (rest := []) E G hA hX hN hml (u_X11_needMic l hst D cI cJ cZ cMic cSrc cSt cAI cAJ ad T3 o a0 eT8) (cwV 1 hts (gaV qA_734 qA_735 qA_736 qA_131 qA_737) rfl rfl rfl (by decide +kernel) ⟨Nat.le_of_ble_eq_true rfl, Nat.le_of_ble_eq_true rfl⟩) (oO_k g7).1 (cc_o11 (oO_k g7).2) rfl rfl hl.1 rfl (lv_room (Nat.le_of_ble_eq_true rfl)) dX11_delayTo_6 ⟨Nat.zero_le _, Nat.zero_le _⟩ (fun T9 H locs hq G => ?_)
  rw [hq] at G
  clear hq eT8
  refine lv_iload_n hx hb dX11_delayTo_9 rfl (lv_at hl 2 rfl) ?_
  refine lv_sipush (v := (-9999)) hx hb dX11_delayTo_10 (by decide) ?_
  refine lv_sipush (v := 9999) hx hb dX11_delayTo_13 (by decide) ?_
  rcases othr_t h with ⟨r0, eT12⟩ | ⟨r14, T12, eT12, h⟩
  · refine q_xsv (As := [.int a1, .int (-9999), .int 9999]) (rest := []) E G hA hX hN hml (x_X11_needRange l hst D cI cJ cZ cMic cSrc cSt cAI cAJ ad T8 a1 ((-9999) : Int32) (9999 : Int32) eT12) (cwS 3 hts (gaS qA_741 qA_742 qA_131 qA_743) rfl rfl rfl (by decide +kernel) ⟨Nat.le_of_ble_eq_true rfl, Nat.le_of_ble_eq_true rfl⟩) rfl hl.1 rfl (lv_room (Nat.le_of_ble_eq_true rfl)) dX11_delayTo_16 ⟨Nat.le_of_ble_eq_true rfl, Nat.le_of_ble_eq_true rfl⟩ (fun E9 ce q9 T9 H locs hp G hce hcv hcl => ?_)
    obtain ⟨hE, hT⟩ := hp
    subst hE
    rw [hT] at G
    exact vx_out (fun x hx => (htab x hx).elim) hlocks hce hcv hcl (fun t ht hvm => ⟨T1, trivial, ⟨⟨rfl, rfl⟩, by rw [ht]; exact G.1, va_K.moved hvm hK, G.2.1⟩, G.2.2.F ht⟩) G.2.2.2.2 (Nat.le_refl _) (Nat.le_refl _)
  refine q_csv (As := [.int a1, .int (-9999), .int 9999]) (rest := []) E G hA hX hN hml (u_X11_needRange l hst D cI cJ cZ cMic cSrc cSt cAI cAJ ad T8 a1 ((-9999) : Int32) (9999 : Int32) eT12) (cwS 3 hts (gaS qA_741 qA_742 qA_131 qA_743) rfl rfl rfl (by decide +kernel) ⟨Nat.le_of_ble_eq_true rfl, Nat.le_of_ble_eq_true rfl⟩) rfl hl.1 rfl (lv_room (Nat.le_of_ble_eq_true rfl)) dX11_delayTo_16 ⟨Nat.zero_le _, Nat.zero_le _⟩ (fun T13 H locs hq G => ?_)
  rw [hq] at G
  clear hq eT12
  refine lv_iload_n hx hb dX11_delayTo_19 rfl (lv_at hl 3 rfl) ?_
  refine lv_sipush (v := (-9999)) hx hb dX11_delayTo_20 (by decide) ?_
  refine lv_sipush (v := 9999) hx hb dX11_delayTo_23 (by decide) ?_
  rcases othr_t h with ⟨r0, eT16⟩ | ⟨r18, T16, eT16, h⟩
  · refine q_xsv (As := [.int a2, .int (-9999), .int 9999]) (rest := []) E G hA hX hN hml (x_X11_needRange l hst D cI cJ cZ cMic cSrc cSt cAI cAJ ad T12 a2 ((-9999) : Int32) (9999 : Int32) eT16) (cwS 3 hts (gaS qA_741 qA_742 qA_131 qA_743) rfl rfl rfl (by decide +kernel) ⟨Nat.le_of_ble_eq_true rfl, Nat.le_of_ble_eq_true rfl⟩) rfl hl.1 rfl (lv_room (Nat.le_of_ble_eq_true rfl)) dX11_delayTo_26 ⟨Nat.le_of_ble_eq_true rfl, Nat.le_of_ble_eq_true rfl⟩ (fun E9 ce q9 T9 H locs hp G hce hcv hcl => ?_)
    obtain ⟨hE, hT⟩ := hp
    subst hE
    rw [hT] at G
    exact vx_out (fun x hx => (htab x hx).elim) hlocks hce hcv hcl (fun t ht hvm => ⟨T1, trivial, ⟨⟨rfl, rfl⟩, by rw [ht]; exact G.1, va_K.moved hvm hK, G.2.1⟩, G.2.2.F ht⟩) G.2.2.2.2 (Nat.le_refl _) (Nat.le_refl _)
  refine q_csv (As := [.int a2, .int (-9999), .int 9999]) (rest := []) E G hA hX hN hml (u_X11_needRange l hst D cI cJ cZ cMic cSrc cSt cAI cAJ ad T12 a2 ((-9999) : Int32) (9999 : Int32) eT16) (cwS 3 hts (gaS qA_741 qA_742 qA_131 qA_743) rfl rfl rfl (by decide +kernel) ⟨Nat.le_of_ble_eq_true rfl, Nat.le_of_ble_eq_true rfl⟩) rfl hl.1 rfl (lv_room (Nat.le_of_ble_eq_true rfl)) dX11_delayTo_26 ⟨Nat.zero_le _, Nat.zero_le _⟩ (fun T17 H locs hq G => ?_)
  rw [hq] at G
  clear hq eT16
  refine lv_aload_n hx hb dX11_delayTo_29 rfl (lv_at hl 0 rfl) ?_
  obtain ⟨g20, h⟩ := oif_some h
  obtain ⟨n21, en21, h⟩ := obind_some h
  refine c_get E G o 14 (v := .ref (ad n21)) (oO_k g20).1 (cc_o11 (oO_k g20).2) rfl (fun w h => .tail _ (iA_23 h)) (by decide) (.tail _ qA_675) rfl (by rw [en21]; rfl) dX11_delayTo_30 ?_
  clear en21
  refine lv_aload_n hx hb dX11_delayTo_33 rfl (lv_at hl 0 rfl) ?_
  obtain ⟨g22, h⟩ := oif_some h
  obtain ⟨n23, en23, h⟩ := obind_some h
  refine c_get E G o 14 (v := .ref (ad n23)) (oO_k g22).1 (cc_o11 (oO_k g22).2) rfl (fun w h => .tail _ (iA_23 h)) (by decide) (.tail _ qA_675) rfl (by rw [en23]; rfl) dX11_delayTo_34 ?_
  clear en23
  obtain ⟨g24, h⟩ := oif_some h
  obtain ⟨n25, en25, h⟩ := obind_some h
  refine c_get E G n23 4 (v := .ref (ad n25)) (oO_k g24).1 (cc_o6 (oO_k g24).2) rfl (fun w h => .tail _ (iA_14 h)) (by decide) (.tail _ qA_723) rfl (by rw [en25]; rfl) dX11_delayTo_37 ?_
  clear en25
  refine lv_iload_n hx hb dX11_delayTo_40 rfl (lv_at hl 1 rfl) ?_
  obtain ⟨g26, h⟩ := oif_some h
  obtain ⟨g27, h⟩ := oif_some h
  obtain ⟨n28, en28, h⟩ := obind_some h
  refine c_aldq E G n25 3 (k := a0.toNatClampNeg) (v := .ref (ad n28)) (aA_k g26).1 (cc_a103 (aA_k g26).2.1) rfl (inb_k g27).1 (inb_k g27).2 (aA_k g26).2.2 (by show va_rf ((T16.2.2.2.2 n25 a0.toNatClampNeg).map ad) = _; rw [en28]; rfl) dX11_delayTo_41 ?_
  clear en28
  refine lv_iload_n hx hb dX11_delayTo_42 rfl (lv_at hl 2 rfl) ?_
  refine lv_iload_n hx hb dX11_delayTo_43 rfl (lv_at hl 3 rfl) ?_
  obtain ⟨g29, h⟩ := oif_some h
  obtain ⟨r32, T30, eT30, h⟩ := obind2_some h
  refine q_cvi (As := [.ref (ad n28), .int a1, .int a2]) (rest := []) E G hA hX hN hml (u_X6_delayFrom l hst D cI cJ cZ cMic cSrc cSt cAI cAJ ad T16 n21 n28 a1 a2 eT30) (cwV 3 hts (gaV qA_780 qA_493 qA_494 qA_207 qA_495) rfl rfl rfl (by decide +kernel) ⟨Nat.le_of_ble_eq_true rfl, Nat.le_of_ble_eq_true rfl⟩) (oO_k g29).1 (cc_o6 (oO_k g29).2) rfl rfl hl.1 rfl (lv_room (Nat.le_of_ble_eq_true rfl)) dX11_delayTo_44 ⟨Nat.zero_le _, Nat.zero_le _⟩ (fun q33 T31 H locs hq G => ?_)
  obtain ⟨hq1, hq2⟩ := hq
  rw [hq2] at G
  refine lv_to hq1 ?_
  clear hq1 hq2 eT30
  exact (Nat.succ_ne_zero _ (congrArg Prod.fst (Option.some.inj h)).symm).elim
def g_X11_spread (T : AT) (o : Nat) (a0 : Int32) : Option (Nat × Int32 × AT) := oif (oO T o 11 = true) <| othr (g_X11_needCamera T o) 0 fun r5 T3 => oif (oO T3 o 11 = true) <| othr (g_X11_needCell T3 o a0) 0 fun r10 T8 => oif (oO T8 o 11 = true) <| obind (T8.2.2.2.2 o 14) fun n13 => oif (oO T8 n13 6 = true) <| obind (T8.2.2.2.2 n13 17) fun n15 => oif (aA T8 n15 106 = true) <| oif (inb a0 (T8.2.1 n15).2 = true) <| obind (T8.2.2.2.2 n15 a0.toNatClampNeg) fun n18 => oif (oO T8 o 11 = true) <| obind (T8.2.2.2.2 o 6) fun n20 => oif (oO T8 n20 8 = true) <| obind2 (g_X8_greatestDelay T8 n20 n18) fun r24 T22 => oif (oO T22 o 11 = true) <| obind (T22.2.2.2.2 o 6) fun n27 => oif (oO T22 n27 8 = true) <| obind2 (g_X8_smallestDelay T22 n27 n18) fun r31 T29 => elet (r24 - r31) fun v33 => some (0, v33, T29)
set_option maxHeartbeats 4000000 in
set_option maxRecDepth 100000 in
theorem u_X11_spread (l : Launch) (hst : l.stackTraces = false) (D : va_G) (cI cJ cZ cMic cSrc cSt cAI cAJ : ClassId) (ad : Nat → Nat) (T : AT) (o : Nat) (a0 : Int32) {r1 : Int32} {T1 : AT} (h : g_X11_spread T o a0 = some (0, r1, T1)) : kCi l yX11_spread (Cond.code yX11_spread cX11_spread 3 (some .int) :: wsA) 8 123 cI cJ cZ cMic cSrc cSt cAI cAJ D ad T [.ref (ad o), .int a0] (fun r T9 => r = r1 ∧ T9 = T1) := by
  intro sz
  refine Met.ofW (cc := cX11_spread) (maxL := 3) (ret := (some .int)) (by decide) rfl ?_
  intro p e s m args below meth c s₁ B hml hv
  obtain ⟨rfl, hsz, hP, hK, hD0, hX, hN⟩ := hv
  have hx := B.exec
  have hb := B.bytes
  have hr := B.returns
  have hts := atoms_spec (ws := (Cond.code yX11_spread cX11_spread 3 (some .int) :: wsA)) B.pre
  have hown : s.vm.findClass RX11 = some m.cls := findClass_of_methodNamed B.named
  have hlocks := B.notSynchronized
  subst hsz
  have hD := hD0.self (sz := s.heap.size)
  generalize hAe : va_A (cW ad T.1 (cc cI cJ cZ cMic cSrc cSt cAI cAJ ad T)) s.heap.size = A at hD hX ⊢
  have hA : ∀ q : Nat, s.heap.size ≤ q → A q := fun q h => by rw [← hAe]; exact Or.inr h
  have G : gC cI cJ cZ cMic cSrc cSt cAI cAJ D ad A s.heap s.heap [] T := ⟨hP, hD, va_S.rf⟩
  have E : cE p c cX11_spread s m ([.ref (ad o), .int a0] : List Value).toArray (Cond.code yX11_spread cX11_spread 3 (some .int) :: wsA) D RX11 (CT cI cJ cZ cMic cSrc cSt cAI cAJ) := ⟨hx, hb, hts, hown, hK⟩
  have hl := lv_entry ([.ref (ad o), .int a0]) (n := 3) (Nat.le_of_ble_eq_true rfl)
  rw [lg_entry_eq]
  generalize (lg_sl ([.ref (ad o), .int a0]) ++ List.replicate (3 - (lg_sl ([.ref (ad o), .int a0])).length) Slot.unset).toArray = ls at hl ⊢
  have hl : lv_has ls 3 [(0, .ref (ad o)), (1, .int a0)] := hl
  unfold g_X11_spread at h
  refine lv_aload_n hx hb dX11_spread_0 rfl (lv_at hl 0 rfl) ?_
  obtain ⟨g2, h⟩ := oif_some h
  obtain ⟨r5, T3, eT3, h⟩ := othr_n h
  refine q_cvv (As := []) (rest := []) E G hA hX hN hml (u_X11_needCamera l hst D cI cJ cZ cMic cSrc cSt cAI cAJ ad T o eT3) (cwV 0 hts (gaV qA_728 qA_729 qA_730 qA_131 qA_731) rfl rfl rfl (by decide +kernel) ⟨Nat.le_of_ble_eq_true rfl, Nat.le_of_ble_eq_true rfl⟩) (oO_k g2).1 (cc_o11 (oO_k g2).2) rfl rfl hl.1 rfl (lv_room (Nat.le_of_ble_eq_true rfl)) dX11_spread_1 ⟨Nat.zero_le _, Nat.zero_le _⟩ (fun T4 H locs hq G => ?_)
  rw [hq] at G
  clear hq eT3
  refine lv_aload_n hx hb dX11_spread_4 rfl (lv_at hl 0 rfl) ?_
  refine lv_iload_n hx hb dX11_spread_5 rfl (lv_at hl 1 rfl) ?_
  obtain ⟨g7, h⟩ := oif_some h
  obtain ⟨r10, T8, eT8, h⟩ := othr_n h
  refine q_cvv (As := [.int a0]) (rest := []) E G hA hX hN hml (u_X11_needCell l hst D cI cJ cZ cMic cSrc cSt cAI cAJ ad T3 o a0 eT8) (cwV 1 hts (gaV qA_752 qA_753 qA_754 qA_131 qA_755) rfl rfl rfl (by decide +kernel) ⟨Nat.le_of_ble_eq_true rfl, Nat.le_of_ble_eq_true rfl⟩) (oO_k g7).1 (cc_o11 (oO_k g7).2) rfl rfl hl.1 rfl (lv_room (Nat.le_of_ble_eq_true rfl)) dX11_spread_6 ⟨Nat.zero_le _, Nat.zero_le _⟩ (fun T9 H locs hq G => ?_)
  rw [hq] at G
  clear hq eT8
  refine lv_aload_n hx hb dX11_spread_9 rfl (lv_at hl 0 rfl) ?_
  obtain ⟨g12, h⟩ := oif_some h
  obtain ⟨n13, en13, h⟩ := obind_some h
  refine c_get E G o 14 (v := .ref (ad n13)) (oO_k g12).1 (cc_o11 (oO_k g12).2) rfl (fun w h => .tail _ (iA_23 h)) (by decide) (.tail _ qA_675) rfl (by rw [en13]; rfl) dX11_spread_10 ?_
  clear en13
  obtain ⟨g14, h⟩ := oif_some h
  obtain ⟨n15, en15, h⟩ := obind_some h
  refine c_get E G n13 17 (v := .ref (ad n15)) (oO_k g14).1 (cc_o6 (oO_k g14).2) rfl (fun w h => .tail _ (iA_14 h)) (by decide) (.tail _ qA_778) rfl (by rw [en15]; rfl) dX11_spread_13 ?_
  clear en15
  refine lv_iload_n hx hb dX11_spread_16 rfl (lv_at hl 1 rfl) ?_
  obtain ⟨g16, h⟩ := oif_some h
  obtain ⟨g17, h⟩ := oif_some h
  obtain ⟨n18, en18, h⟩ := obind_some h
  refine c_alda E G n15 6 (k := a0.toNatClampNeg) (v := .ref (ad n18)) (aA_k g16).1 (cc_a106 (aA_k g16).2.1) rfl (inb_k g17).1 (inb_k g17).2 (aA_k g16).2.2 (by show va_rf ((T8.2.2.2.2 n15 a0.toNatClampNeg).map ad) = _; rw [en18]; rfl) dX11_spread_17 ?_
  clear en18
  refine lv_astore_n (lv' := [(2, .ref (ad n18)), (0, .ref (ad o)), (1, .int a0)]) hx hb dX11_spread_18 rfl hl (by decide) rfl (fun ls hl => ?_)
  refine lv_aload_n hx hb dX11_spread_19 rfl (lv_at hl 1 rfl) ?_
  obtain ⟨g19, h⟩ := oif_some h
  obtain ⟨n20, en20, h⟩ := obind_some h
  refine c_get E G o 6 (v := .ref (ad n20)) (oO_k g19).1 (cc_o11 (oO_k g19).2) rfl (fun w h => .tail _ (iA_23 h)) (by decide) (.tail _ qA_664) rfl (by rw [en20]; rfl) dX11_spread_20 ?_
  clear en20
  refine lv_aload_n hx hb dX11_spread_23 rfl (lv_at hl 0 rfl) ?_
  obtain ⟨g21, h⟩ := oif_some h
  obtain ⟨r24, T22, eT22, h⟩ := obind2_some h
  refine q_cvi (As := [.ref (ad n18)]) (rest := []) E G hA hX hN hml (u_X8_greatestDelay l hst D cI cJ cZ cMic cSrc cSt cAI cAJ ad T8 n20 n18 eT22) (cwV 1 hts (gaV qA_782 qA_60 qA_61 qA_47 qA_62) rfl rfl rfl (by decide +kernel) ⟨Nat.le_of_ble_eq_true rfl, Nat.le_of_ble_eq_true rfl⟩) (oO_k g21).1 (cc_o8 (oO_k g21).2) rfl rfl hl.1 rfl (lv_room (Nat.le_of_ble_eq_true rfl)) dX11_spread_24 ⟨Nat.zero_le _, Nat.zero_le _⟩ (fun q25 T23 H locs hq G => ?_)
  obtain ⟨hq1, hq2⟩ := hq
  rw [hq2] at G
  refine lv_to hq1 ?_
  clear hq1 hq2 eT22
  refine lv_aload_n hx hb dX11_spread_27 rfl (lv_at hl 1 rfl) ?_
  obtain ⟨g26, h⟩ := oif_some h
  obtain ⟨n27, en27, h⟩ := obind_some h
  refine c_get E G o 6 (v := .ref (ad n27)) (oO_k g26).1 (cc_o11 (oO_k g26).2) rfl (fun w h => .tail _ (iA_23 h)) (by decide) (.tail _ qA_664) rfl (by rw [en27]; rfl) dX11_spread_28 ?_
  clear en27
  refine lv_aload_n hx hb dX11_spread_31 rfl (lv_at hl 0 rfl) ?_
  obtain ⟨g28, h⟩ := oif_some h
  obtain ⟨r31, T29, eT29, h⟩ := obind2_some h
  refine q_cvi (As := [.ref (ad n18)]) (rest := [.int r24]) E G hA hX hN hml (u_X8_smallestDelay l hst D cI cJ cZ cMic cSrc cSt cAI cAJ ad T22 n27 n18 eT29) (cwV 1 hts (gaV qA_783 qA_784 qA_785 qA_47 qA_616) rfl rfl rfl (by decide +kernel) ⟨Nat.le_of_ble_eq_true rfl, Nat.le_of_ble_eq_true rfl⟩) (oO_k g28).1 (cc_o8 (oO_k g28).2) rfl rfl hl.1 rfl (lv_room (Nat.le_of_ble_eq_true rfl)) dX11_spread_32 ⟨Nat.zero_le _, Nat.zero_le _⟩ (fun q32 T30 H locs hq G => ?_)
  obtain ⟨hq1, hq2⟩ := hq
  rw [hq2] at G
  refine lv_to hq1 ?_
  clear hq1 hq2 eT29
  refine lv_isub hx hb dX11_spread_35 ?_
  refine lv_topi (fun v33 ev33 => ?_)
  have h := elet_at ev33 h
  clear ev33
  exact W.iret (v := v33) hx hb hr (fun t ht hW => ⟨⟨v33, T29, rfl, (osome3 h).2, ⟨by rw [ht]; exact G.1, va_K.moved hW.alike hK, G.2.1⟩⟩, G.2.2.F ht⟩) G.2.2.2.2 dX11_spread_36
set_option maxHeartbeats 4000000 in
set_option maxRecDepth 100000 in
theorem s_X11_spread {T : AT} {o : Nat} {a0 : Int32} {e1 : Nat} {r1 : Int32} {T1 : AT} (h : g_X11_spread T o a0 = some (e1, r1, T1)) : SP T T1 := by
  have p0 := SP.rf T
  unfold g_X11_spread at h
  obtain ⟨g2, h⟩ := oif_some h
  rcases othr_s h with ⟨k9, r9, e9, -⟩ | ⟨r4, T3, eT3, h⟩
  · exact SP.tr p0 (s_X11_needCamera e9)
  have p1 : SP T T3 := SP.tr p0 (s_X11_needCamera eT3)
  obtain ⟨g5, h⟩ := oif_some h
  rcases othr_s h with ⟨k9, r9, e9, -⟩ | ⟨r7, T6, eT6, h⟩
  · exact SP.tr p1 (s_X11_needCell e9)
  have p2 : SP T T6 := SP.tr p1 (s_X11_needCell eT6)
  obtain ⟨g8, h⟩ := oif_some h
  obtain ⟨n9, en9, h⟩ := obind_some h
  obtain ⟨g10, h⟩ := oif_some h
  obtain ⟨n11, en11, h⟩ := obind_some h
  obtain ⟨g12, h⟩ := oif_some h
  obtain ⟨g13, h⟩ := oif_some h
  obtain ⟨n14, en14, h⟩ := obind_some h
  obtain ⟨g15, h⟩ := oif_some h
  obtain ⟨n16, en16, h⟩ := obind_some h
  obtain ⟨g17, h⟩ := oif_some h
  obtain ⟨r19, T18, eT18, h⟩ := obind2_some h
  have p3 : SP T T18 := SP.tr p2 (s_X8_greatestDelay eT18)
  obtain ⟨g20, h⟩ := oif_some h
  obtain ⟨n21, en21, h⟩ := obind_some h
  obtain ⟨g22, h⟩ := oif_some h
  obtain ⟨r24, T23, eT23, h⟩ := obind2_some h
  have p4 : SP T T23 := SP.tr p3 (s_X8_smallestDelay eT23)
  obtain ⟨v25, -, h⟩ := elet_some h
  rw [← (osome3 h).2.2]
  exact p4
set_option maxHeartbeats 4000000 in
set_option maxRecDepth 100000 in
theorem x_X11_spread (l : Launch) (hst : l.stackTraces = false) (D : va_G) (cI cJ cZ cMic cSrc cSt cAI cAJ : ClassId) (ad : Nat → Nat) (T : AT) (o : Nat) (a0 : Int32) {e1 : Nat} {r1 : Int32} {T1 : AT} (h : g_X11_spread T o a0 = some (e1 + 1, r1, T1)) : kXi l yX11_spread (Cond.code yX11_spread cX11_spread 3 (some .int) :: wsA) 8 123 cI cJ cZ cMic cSrc cSt cAI cAJ D ad T [.ref (ad o), .int a0] e1 T1 := by
  intro sz
  refine vx_ofW (cc := cX11_spread) (maxL := 3) (ret := (some .int)) (by decide) rfl ?_
  intro p e s m args below meth c s₁ B hml htab hv
  obtain ⟨rfl, hsz, hP, hK, hD0, hX, hN⟩ := hv
  have hx := B.exec
  have hb := B.bytes
  have hr := B.returns
  have hts := atoms_spec (ws := (Cond.code yX11_spread cX11_spread 3 (some .int) :: wsA)) B.pre
  have hown : s.vm.findClass RX11 = some m.cls := findClass_of_methodNamed B.named
  have hlocks := B.notSynchronized
  subst hsz
  have hD := hD0.self (sz := s.heap.size)
  generalize hAe : va_A (cW ad T.1 (cc cI cJ cZ cMic cSrc cSt cAI cAJ ad T)) s.heap.size = A at hD hX ⊢
  have hA : ∀ q : Nat, s.heap.size ≤ q → A q := fun q h => by rw [← hAe]; exact Or.inr h
  have G : gC cI cJ cZ cMic cSrc cSt cAI cAJ D ad A s.heap s.heap [] T := ⟨hP, hD, va_S.rf⟩
  have E : cE p c cX11_spread s m ([.ref (ad o), .int a0] : List Value).toArray (Cond.code yX11_spread cX11_spread 3 (some .int) :: wsA) D RX11 (CT cI cJ cZ cMic cSrc cSt cAI cAJ) := ⟨hx, hb, hts, hown, hK⟩
  have htab : ∀ x ∈ c.exceptionTable.toList, False := fun x hx => htab x hx
  have hl := lv_entry ([.ref (ad o), .int a0]) (n := 3) (Nat.le_of_ble_eq_true rfl)
  rw [lg_entry_eq]
  generalize (lg_sl ([.ref (ad o), .int a0]) ++ List.replicate (3 - (lg_sl ([.ref (ad o), .int a0])).length) Slot.unset).toArray = ls at hl ⊢
  have hl : lv_has ls 3 [(0, .ref (ad o)), (1, .int a0)] := hl
  unfold g_X11_spread at h
  refine lv_aload_n hx hb dX11_spread_0 rfl (lv_at hl 0 rfl) ?_
  obtain ⟨g2, h⟩ := oif_some h
  rcases othr_t h with ⟨r0, eT3⟩ | ⟨r5, T3, eT3, h⟩
  · refine q_xvv (As := []) (rest := []) E G hA hX hN hml (x_X11_needCamera l hst D cI cJ cZ cMic cSrc cSt cAI cAJ ad T o eT3) (cwV 0 hts (gaV qA_728 qA_729 qA_730 qA_131 qA_731) rfl rfl rfl (by decide +kernel) ⟨Nat.le_of_ble_eq_true rfl, Nat.le_of_ble_eq_true rfl⟩) (oO_k g2).1 (cc_o11 (oO_k g2).2) rfl rfl hl.1 rfl (lv_room (Nat.le_of_ble_eq_true rfl)) dX11_spread_1 ⟨Nat.le_of_ble_eq_true rfl, Nat.le_of_ble_eq_true rfl⟩ (fun E9 ce q9 T9 H locs hp G hce hcv hcl => ?_)
    obtain ⟨hE, hT⟩ := hp
    subst hE
    rw [hT] at G
    exact vx_out (fun x hx => (htab x hx).elim) hlocks hce hcv hcl (fun t ht hvm => ⟨T1, trivial, ⟨⟨rfl, rfl⟩, by rw [ht]; exact G.1, va_K.moved hvm hK, G.2.1⟩, G.2.2.F ht⟩) G.2.2.2.2 (Nat.le_refl _) (Nat.le_refl _)
  refine q_cvv (As := []) (rest := []) E G hA hX hN hml (u_X11_needCamera l hst D cI cJ cZ cMic cSrc cSt cAI cAJ ad T o eT3) (cwV 0 hts (gaV qA_728 qA_729 qA_730 qA_131 qA_731) rfl rfl rfl (by decide +kernel) ⟨Nat.le_of_ble_eq_true rfl, Nat.le_of_ble_eq_true rfl⟩) (oO_k g2).1 (cc_o11 (oO_k g2).2) rfl rfl hl.1 rfl (lv_room (Nat.le_of_ble_eq_true rfl)) dX11_spread_1 ⟨Nat.zero_le _, Nat.zero_le _⟩ (fun T4 H locs hq G => ?_)
  rw [hq] at G
  clear hq eT3
  refine lv_aload_n hx hb dX11_spread_4 rfl (lv_at hl 0 rfl) ?_
  refine lv_iload_n hx hb dX11_spread_5 rfl (lv_at hl 1 rfl) ?_
  obtain ⟨g7, h⟩ := oif_some h
  rcases othr_t h with ⟨r0, eT8⟩ | ⟨r10, T8, eT8, h⟩
  · refine q_xvv (As := [.int a0]) (rest := []) E G hA hX hN hml (x_X11_needCell l hst D cI cJ cZ cMic cSrc cSt cAI cAJ ad T3 o a0 eT8) (cwV 1 hts (gaV qA_752 qA_753 qA_754 qA_131 qA_755) rfl rfl rfl (by decide +kernel) ⟨Nat.le_of_ble_eq_true rfl, Nat.le_of_ble_eq_true rfl⟩) (oO_k g7).1 (cc_o11 (oO_k g7).2) rfl rfl hl.1 rfl (lv_room (Nat.le_of_ble_eq_true rfl)) dX11_spread_6 ⟨Nat.le_of_ble_eq_true rfl, Nat.le_of_ble_eq_true rfl⟩ (fun E9 ce q9 T9 H locs hp G hce hcv hcl => ?_)
    obtain ⟨hE, hT⟩ := hp
    subst hE
    rw [hT] at G
    exact vx_out (fun x hx => (htab x hx).elim) hlocks hce hcv hcl (fun t ht hvm => ⟨T1, trivial, ⟨⟨rfl, rfl⟩, by rw [ht]; exact G.1, va_K.moved hvm hK, G.2.1⟩, G.2.2.F ht⟩) G.2.2.2.2 (Nat.le_refl _) (Nat.le_refl _)
  refine q_cvv (As := [.int a0]) (rest := []) E G hA hX hN hml (u_X11_needCell l hst D cI cJ cZ cMic cSrc cSt cAI cAJ ad T3 o a0 eT8) (cwV 1 hts (gaV qA_752 qA_753 qA_754 qA_131 qA_755) rfl rfl rfl (by decide +kernel) ⟨Nat.le_of_ble_eq_true rfl, Nat.le_of_ble_eq_true rfl⟩) (oO_k g7).1 (cc_o11 (oO_k g7).2) rfl rfl hl.1 rfl (lv_room (Nat.le_of_ble_eq_true rfl)) dX11_spread_6 ⟨Nat.zero_le _, Nat.zero_le _⟩ (fun T9 H locs hq G => ?_)
  rw [hq] at G
  clear hq eT8
  refine lv_aload_n hx hb dX11_spread_9 rfl (lv_at hl 0 rfl) ?_
  obtain ⟨g12, h⟩ := oif_some h
  obtain ⟨n13, en13, h⟩ := obind_some h
  refine c_get E G o 14 (v := .ref (ad n13)) (oO_k g12).1 (cc_o11 (oO_k g12).2) rfl (fun w h => .tail _ (iA_23 h)) (by decide) (.tail _ qA_675) rfl (by rw [en13]; rfl) dX11_spread_10 ?_
  clear en13
  obtain ⟨g14, h⟩ := oif_some h
  obtain ⟨n15, en15, h⟩ := obind_some h
  refine c_get E G n13 17 (v := .ref (ad n15)) (oO_k g14).1 (cc_o6 (oO_k g14).2) rfl (fun w h => .tail _ (iA_14 h)) (by decide) (.tail _ qA_778) rfl (by rw [en15]; rfl) dX11_spread_13 ?_
  clear en15
  refine lv_iload_n hx hb dX11_spread_16 rfl (lv_at hl 1 rfl) ?_
  obtain ⟨g16, h⟩ := oif_some h
  obtain ⟨g17, h⟩ := oif_some h
  obtain ⟨n18, en18, h⟩ := obind_some h
  refine c_alda E G n15 6 (k := a0.toNatClampNeg) (v := .ref (ad n18)) (aA_k g16).1 (cc_a106 (aA_k g16).2.1) rfl (inb_k g17).1 (inb_k g17).2 (aA_k g16).2.2 (by show va_rf ((T8.2.2.2.2 n15 a0.toNatClampNeg).map ad) = _; rw [en18]; rfl) dX11_spread_17 ?_
  clear en18
  refine lv_astore_n (lv' := [(2, .ref (ad n18)), (0, .ref (ad o)), (1, .int a0)]) hx hb dX11_spread_18 rfl hl (by decide) rfl (fun ls hl => ?_)
  refine lv_aload_n hx hb dX11_spread_19 rfl (lv_at hl 1 rfl) ?_
  obtain ⟨g19, h⟩ := oif_some h
  obtain ⟨n20, en20, h⟩ := obind_some h
  refine c_get E G o 6 (v := .ref (ad n20)) (oO_k g19).1 (cc_o11 (oO_k g19).2) rfl (fun w h => .tail _ (iA_23 h)) (by decide) (.tail _ qA_664) rfl (by rw [en20]; rfl) dX11_spread_20 ?_
  clear en20
  refine lv_aload_n hx hb dX11_spread_23 rfl (lv_at hl 0 rfl) ?_
  obtain ⟨g21, h⟩ := oif_some h
  obtain ⟨r24, T22, eT22, h⟩ := obind2_some h
  refine q_cvi (As := [.ref (ad n18)]) (rest := []) E G hA hX hN hml (u_X8_greatestDelay l hst D cI cJ cZ cMic cSrc cSt cAI cAJ ad T8 n20 n18 eT22) (cwV 1 hts (gaV qA_782 qA_60 qA_61 qA_47 qA_62) rfl rfl rfl (by decide +kernel) ⟨Nat.le_of_ble_eq_true rfl, Nat.le_of_ble_eq_true rfl⟩) (oO_k g21).1 (cc_o8 (oO_k g21).2) rfl rfl hl.1 rfl (lv_room (Nat.le_of_ble_eq_true rfl)) dX11_spread_24 ⟨Nat.zero_le _, Nat.zero_le _⟩ (fun q25 T23 H locs hq G => ?_)
  obtain ⟨hq1, hq2⟩ := hq
  rw [hq2] at G
  refine lv_to hq1 ?_
  clear hq1 hq2 eT22
  refine lv_aload_n hx hb dX11_spread_27 rfl (lv_at hl 1 rfl) ?_
  obtain ⟨g26, h⟩ := oif_some h
  obtain ⟨n27, en27, h⟩ := obind_some h
  refine c_get E G o 6 (v := .ref (ad n27)) (oO_k g26).1 (cc_o11 (oO_k g26).2) rfl (fun w h => .tail _ (iA_23 h)) (by decide) (.tail _ qA_664) rfl (by rw [en27]; rfl) dX11_spread_28 ?_
  clear en27
  refine lv_aload_n hx hb dX11_spread_31 rfl (lv_at hl 0 rfl) ?_
  obtain ⟨g28, h⟩ := oif_some h
  obtain ⟨r31, T29, eT29, h⟩ := obind2_some h
  refine q_cvi (As := [.ref (ad n18)]) (rest := [.int r24]) E G hA hX hN hml (u_X8_smallestDelay l hst D cI cJ cZ cMic cSrc cSt cAI cAJ ad T22 n27 n18 eT29) (cwV 1 hts (gaV qA_783 qA_784 qA_785 qA_47 qA_616) rfl rfl rfl (by decide +kernel) ⟨Nat.le_of_ble_eq_true rfl, Nat.le_of_ble_eq_true rfl⟩) (oO_k g28).1 (cc_o8 (oO_k g28).2) rfl rfl hl.1 rfl (lv_room (Nat.le_of_ble_eq_true rfl)) dX11_spread_32 ⟨Nat.zero_le _, Nat.zero_le _⟩ (fun q32 T30 H locs hq G => ?_)
  obtain ⟨hq1, hq2⟩ := hq
  rw [hq2] at G
  refine lv_to hq1 ?_
  clear hq1 hq2 eT29
  refine lv_isub hx hb dX11_spread_35 ?_
  refine lv_topi (fun v33 ev33 => ?_)
  have h := elet_at ev33 h
  clear ev33
  exact (Nat.succ_ne_zero _ (congrArg Prod.fst (Option.some.inj h)).symm).elim
def g_X11_window (T : AT) (o : Nat) (a0 : Int32) : Option (Nat × Int32 × AT) := oif (oO T o 11 = true) <| othr (g_X11_needCamera T o) 0 fun r5 T3 => oif (oO T3 o 11 = true) <| othr (g_X11_needCell T3 o a0) 0 fun r10 T8 => oif (oO T8 o 11 = true) <| obind (T8.2.2.2.2 o 6) fun n13 => oif (oO T8 o 11 = true) <| obind (T8.2.2.2.2 o 14) fun n15 => oif (oO T8 n15 6 = true) <| obind (T8.2.2.2.2 n15 17) fun n17 => oif (aA T8 n17 106 = true) <| oif (inb a0 (T8.2.1 n17).2 = true) <| obind (T8.2.2.2.2 n17 a0.toNatClampNeg) fun n20 => oif (oO T8 n13 8 = true) <| obind2 (g_X8_windowOf T8 n13 n20) fun r24 T22 => some (0, r24, T22)
set_option maxHeartbeats 4000000 in
set_option maxRecDepth 100000 in
theorem u_X11_window (l : Launch) (hst : l.stackTraces = false) (D : va_G) (cI cJ cZ cMic cSrc cSt cAI cAJ : ClassId) (ad : Nat → Nat) (T : AT) (o : Nat) (a0 : Int32) {r1 : Int32} {T1 : AT} (h : g_X11_window T o a0 = some (0, r1, T1)) : kCi l yX11_window (Cond.code yX11_window cX11_window 2 (some .int) :: wsA) 8 123 cI cJ cZ cMic cSrc cSt cAI cAJ D ad T [.ref (ad o), .int a0] (fun r T9 => r = r1 ∧ T9 = T1) := by
  intro sz
  refine Met.ofW (cc := cX11_window) (maxL := 2) (ret := (some .int)) (by decide) rfl ?_
  intro p e s m args below meth c s₁ B hml hv
  obtain ⟨rfl, hsz, hP, hK, hD0, hX, hN⟩ := hv
  have hx := B.exec
  have hb := B.bytes
  have hr := B.returns
  have hts := atoms_spec (ws := (Cond.code yX11_window cX11_window 2 (some .int) :: wsA)) B.pre
  have hown : s.vm.findClass RX11 = some m.cls := findClass_of_methodNamed B.named
  have hlocks := B.notSynchronized
  subst hsz
  have hD := hD0.self (sz := s.heap.size)
  generalize hAe : va_A (cW ad T.1 (cc cI cJ cZ cMic cSrc cSt cAI cAJ ad T)) s.heap.size = A at hD hX ⊢
  have hA : ∀ q : Nat, s.heap.size ≤ q → A q := fun q h => by rw [← hAe]; exact Or.inr h
  have G : gC cI cJ cZ cMic cSrc cSt cAI cAJ D ad A s.heap s.heap [] T := ⟨hP, hD, va_S.rf⟩
  have E : cE p c cX11_window s m ([.ref (ad o), .int a0] : List Value).toArray (Cond.code yX11_window cX11_window 2 (some .int) :: wsA) D RX11 (CT cI cJ cZ cMic cSrc cSt cAI cAJ) := ⟨hx, hb, hts, hown, hK⟩
  have hl := lv_entry ([.ref (ad o), .int a0]) (n := 2) (Nat.le_of_ble_eq_true rfl)
  rw [lg_entry_eq]
  generalize (lg_sl ([.ref (ad o), .int a0]) ++ List.replicate (2 - (lg_sl ([.ref (ad o), .int a0])).length) Slot.unset).toArray = ls at hl ⊢
  have hl : lv_has ls 2 [(0, .ref (ad o)), (1, .int a0)] := hl
  unfold g_X11_window at h
  refine lv_aload_n hx hb dX11_window_0 rfl (lv_at hl 0 rfl) ?_
  obtain ⟨g2, h⟩ := oif_some h
  obtain ⟨r5, T3, eT3, h⟩ := othr_n h
  refine q_cvv (As := []) (rest := []) E G hA hX hN hml (u_X11_needCamera l hst D cI cJ cZ cMic cSrc cSt cAI cAJ ad T o eT3) (cwV 0 hts (gaV qA_728 qA_729 qA_730 qA_131 qA_731) rfl rfl rfl (by decide +kernel) ⟨Nat.le_of_ble_eq_true rfl, Nat.le_of_ble_eq_true rfl⟩) (oO_k g2).1 (cc_o11 (oO_k g2).2) rfl rfl hl.1 rfl (lv_room (Nat.le_of_ble_eq_true rfl)) dX11_window_1 ⟨Nat.zero_le _, Nat.zero_le _⟩ (fun T4 H locs hq G => ?_)
  rw [hq] at G
  clear hq eT3
  refine lv_aload_n hx hb dX11_window_4 rfl (lv_at hl 0 rfl) ?_
  refine lv_iload_n hx hb dX11_window_5 rfl (lv_at hl 1 rfl) ?_
  obtain ⟨g7, h⟩ := oif_some h
  obtain ⟨r10, T8, eT8, h⟩ := othr_n h
  refine q_cvv (As := [.int a0]) (rest := []) E G hA hX hN hml (u_X11_needCell l hst D cI cJ cZ cMic cSrc cSt cAI cAJ ad T3 o a0 eT8) (cwV 1 hts (gaV qA_752 qA_753 qA_754 qA_131 qA_755) rfl rfl rfl (by decide +kernel) ⟨Nat.le_of_ble_eq_true rfl, Nat.le_of_ble_eq_true rfl⟩) (oO_k g7).1 (cc_o11 (oO_k g7).2) rfl rfl hl.1 rfl (lv_room (Nat.le_of_ble_eq_true rfl)) dX11_window_6 ⟨Nat.zero_le _, Nat.zero_le _⟩ (fun T9 H locs hq G => ?_)
  rw [hq] at G
  clear hq eT8
  refine lv_aload_n hx hb dX11_window_9 rfl (lv_at hl 0 rfl) ?_
  obtain ⟨g12, h⟩ := oif_some h
  obtain ⟨n13, en13, h⟩ := obind_some h
  refine c_get E G o 6 (v := .ref (ad n13)) (oO_k g12).1 (cc_o11 (oO_k g12).2) rfl (fun w h => .tail _ (iA_23 h)) (by decide) (.tail _ qA_664) rfl (by rw [en13]; rfl) dX11_window_10 ?_
  clear en13
  refine lv_aload_n hx hb dX11_window_13 rfl (lv_at hl 0 rfl) ?_
  obtain ⟨g14, h⟩ := oif_some h
  obtain ⟨n15, en15, h⟩ := obind_some h
  refine c_get E G o 14 (v := .ref (ad n15)) (oO_k g14).1 (cc_o11 (oO_k g14).2) rfl (fun w h => .tail _ (iA_23 h)) (by decide) (.tail _ qA_675) rfl (by rw [en15]; rfl) dX11_window_14 ?_
  clear en15
  obtain ⟨g16, h⟩ := oif_some h
  obtain ⟨n17, en17, h⟩ := obind_some h
  refine c_get E G n15 17 (v := .ref (ad n17)) (oO_k g16).1 (cc_o6 (oO_k g16).2) rfl (fun w h => .tail _ (iA_14 h)) (by decide) (.tail _ qA_778) rfl (by rw [en17]; rfl) dX11_window_17 ?_
  clear en17
  refine lv_iload_n hx hb dX11_window_20 rfl (lv_at hl 1 rfl) ?_
  obtain ⟨g18, h⟩ := oif_some h
  obtain ⟨g19, h⟩ := oif_some h
  obtain ⟨n20, en20, h⟩ := obind_some h
  refine c_alda E G n17 6 (k := a0.toNatClampNeg) (v := .ref (ad n20)) (aA_k g18).1 (cc_a106 (aA_k g18).2.1) rfl (inb_k g19).1 (inb_k g19).2 (aA_k g18).2.2 (by show va_rf ((T8.2.2.2.2 n17 a0.toNatClampNeg).map ad) = _; rw [en20]; rfl) dX11_window_21 ?_
  clear en20
  obtain ⟨g21, h⟩ := oif_some h
  obtain ⟨r24, T22, eT22, h⟩ := obind2_some h
  refine q_cvi (As := [.ref (ad n20)]) (rest := []) E G hA hX hN hml (u_X8_windowOf l hst D cI cJ cZ cMic cSrc cSt cAI cAJ ad T8 n13 n20 eT22) (cwV 1 hts (gaV qA_787 qA_54 qA_55 qA_47 qA_56) rfl rfl rfl (by decide +kernel) ⟨Nat.le_of_ble_eq_true rfl, Nat.le_of_ble_eq_true rfl⟩) (oO_k g21).1 (cc_o8 (oO_k g21).2) rfl rfl hl.1 rfl (lv_room (Nat.le_of_ble_eq_true rfl)) dX11_window_22 ⟨Nat.zero_le _, Nat.zero_le _⟩ (fun q25 T23 H locs hq G => ?_)
  obtain ⟨hq1, hq2⟩ := hq
  rw [hq2] at G
  refine lv_to hq1 ?_
  clear hq1 hq2 eT22
  exact W.iret (v := r24) hx hb hr (fun t ht hW => ⟨⟨r24, T22, rfl, (osome3 h).2, ⟨by rw [ht]; exact G.1, va_K.moved hW.alike hK, G.2.1⟩⟩, G.2.2.F ht⟩) G.2.2.2.2 dX11_window_25
set_option maxHeartbeats 4000000 in
set_option maxRecDepth 100000 in
theorem s_X11_window {T : AT} {o : Nat} {a0 : Int32} {e1 : Nat} {r1 : Int32} {T1 : AT} (h : g_X11_window T o a0 = some (e1, r1, T1)) : SP T T1 := by
  have p0 := SP.rf T
  unfold g_X11_window at h
  obtain ⟨g2, h⟩ := oif_some h
  rcases othr_s h with ⟨k9, r9, e9, -⟩ | ⟨r4, T3, eT3, h⟩
  · exact SP.tr p0 (s_X11_needCamera e9)
  have p1 : SP T T3 := SP.tr p0 (s_X11_needCamera eT3)
  obtain ⟨g5, h⟩ := oif_some h
  rcases othr_s h with ⟨k9, r9, e9, -⟩ | ⟨r7, T6, eT6, h⟩
  · exact SP.tr p1 (s_X11_needCell e9)
  have p2 : SP T T6 := SP.tr p1 (s_X11_needCell eT6)
  obtain ⟨g8, h⟩ := oif_some h
  obtain ⟨n9, en9, h⟩ := obind_some h
  obtain ⟨g10, h⟩ := oif_some h
  obtain ⟨n11, en11, h⟩ := obind_some h
  obtain ⟨g12, h⟩ := oif_some h
  obtain ⟨n13, en13, h⟩ := obind_some h
  obtain ⟨g14, h⟩ := oif_some h
  obtain ⟨g15, h⟩ := oif_some h
  obtain ⟨n16, en16, h⟩ := obind_some h
  obtain ⟨g17, h⟩ := oif_some h
  obtain ⟨r19, T18, eT18, h⟩ := obind2_some h
  have p3 : SP T T18 := SP.tr p2 (s_X8_windowOf eT18)
  rw [← (osome3 h).2.2]
  exact p3
set_option maxHeartbeats 4000000 in
set_option maxRecDepth 100000 in
theorem x_X11_window (l : Launch) (hst : l.stackTraces = false) (D : va_G) (cI cJ cZ cMic cSrc cSt cAI cAJ : ClassId) (ad : Nat → Nat) (T : AT) (o : Nat) (a0 : Int32) {e1 : Nat} {r1 : Int32} {T1 : AT} (h : g_X11_window T o a0 = some (e1 + 1, r1, T1)) : kXi l yX11_window (Cond.code yX11_window cX11_window 2 (some .int) :: wsA) 8 123 cI cJ cZ cMic cSrc cSt cAI cAJ D ad T [.ref (ad o), .int a0] e1 T1 := by
  intro sz
  refine vx_ofW (cc := cX11_window) (maxL := 2) (ret := (some .int)) (by decide) rfl ?_
  intro p e s m args below meth c s₁ B hml htab hv
  obtain ⟨rfl, hsz, hP, hK, hD0, hX, hN⟩ := hv
  have hx := B.exec
  have hb := B.bytes
  have hr := B.returns
  have hts := atoms_spec (ws := (Cond.code yX11_window cX11_window 2 (some .int) :: wsA)) B.pre
  have hown : s.vm.findClass RX11 = some m.cls := findClass_of_methodNamed B.named
  have hlocks := B.notSynchronized
  subst hsz
  have hD := hD0.self (sz := s.heap.size)
  generalize hAe : va_A (cW ad T.1 (cc cI cJ cZ cMic cSrc cSt cAI cAJ ad T)) s.heap.size = A at hD hX ⊢
  have hA : ∀ q : Nat, s.heap.size ≤ q → A q := fun q h => by rw [← hAe]; exact Or.inr h
  have G : gC cI cJ cZ cMic cSrc cSt cAI cAJ D ad A s.heap s.heap [] T := ⟨hP, hD, va_S.rf⟩
  have E : cE p c cX11_window s m ([.ref (ad o), .int a0] : List Value).toArray (Cond.code yX11_window cX11_window 2 (some .int) :: wsA) D RX11 (CT cI cJ cZ cMic cSrc cSt cAI cAJ) := ⟨hx, hb, hts, hown, hK⟩
  have htab : ∀ x ∈ c.exceptionTable.toList, False := fun x hx => htab x hx
  have hl := lv_entry ([.ref (ad o), .int a0]) (n := 2) (Nat.le_of_ble_eq_true rfl)
  rw [lg_entry_eq]
  generalize (lg_sl ([.ref (ad o), .int a0]) ++ List.replicate (2 - (lg_sl ([.ref (ad o), .int a0])).length) Slot.unset).toArray = ls at hl ⊢
  have hl : lv_has ls 2 [(0, .ref (ad o)), (1, .int a0)] := hl
  unfold g_X11_window at h
  refine lv_aload_n hx hb dX11_window_0 rfl (lv_at hl 0 rfl) ?_
  obtain ⟨g2, h⟩ := oif_some h
  rcases othr_t h with ⟨r0, eT3⟩ | ⟨r5, T3, eT3, h⟩
  · refine q_xvv (As := []) (rest := []) E G hA hX hN hml (x_X11_needCamera l hst D cI cJ cZ cMic cSrc cSt cAI cAJ ad T o eT3) (cwV 0 hts (gaV qA_728 qA_729 qA_730 qA_131 qA_731) rfl rfl rfl (by decide +kernel) ⟨Nat.le_of_ble_eq_true rfl, Nat.le_of_ble_eq_true rfl⟩) (oO_k g2).1 (cc_o11 (oO_k g2).2) rfl rfl hl.1 rfl (lv_room (Nat.le_of_ble_eq_true rfl)) dX11_window_1 ⟨Nat.le_of_ble_eq_true rfl, Nat.le_of_ble_eq_true rfl⟩ (fun E9 ce q9 T9 H locs hp G hce hcv hcl => ?_)
    obtain ⟨hE, hT⟩ := hp
    subst hE
    rw [hT] at G
    exact vx_out (fun x hx => (htab x hx).elim) hlocks hce hcv hcl (fun t ht hvm => ⟨T1, trivial, ⟨⟨rfl, rfl⟩, by rw [ht]; exact G.1, va_K.moved hvm hK, G.2.1⟩, G.2.2.F ht⟩) G.2.2.2.2 (Nat.le_refl _) (Nat.le_refl _)
  refine q_cvv (As := []) (rest := []) E G hA hX hN hml (u_X11_needCamera l hst D cI cJ cZ cMic cSrc cSt cAI cAJ ad T o eT3) (cwV 0 hts (gaV qA_728 qA_729 qA_730 qA_131 qA_731) rfl rfl rfl (by decide +kernel) ⟨Nat.le_of_ble_eq_true rfl, Nat.le_of_ble_eq_true rfl⟩) (oO_k g2).1 (cc_o11 (oO_k g2).2) rfl rfl hl.1 rfl (lv_room (Nat.le_of_ble_eq_true rfl)) dX11_window_1 ⟨Nat.zero_le _, Nat.zero_le _⟩ (fun T4 H locs hq G => ?_)
  rw [hq] at G
  clear hq eT3
  refine lv_aload_n hx hb dX11_window_4 rfl (lv_at hl 0 rfl) ?_
  refine lv_iload_n hx hb dX11_window_5 rfl (lv_at hl 1 rfl) ?_
  obtain ⟨g7, h⟩ := oif_some h
  rcases othr_t h with ⟨r0, eT8⟩ | ⟨r10, T8, eT8, h⟩
  · refine q_xvv (As := [.int a0]) (rest := []) E G hA hX hN hml (x_X11_needCell l hst D cI cJ cZ cMic cSrc cSt cAI cAJ ad T3 o a0 eT8) (cwV 1 hts (gaV qA_752 qA_753 qA_754 qA_131 qA_755) rfl rfl rfl (by decide +kernel) ⟨Nat.le_of_ble_eq_true rfl, Nat.le_of_ble_eq_true rfl⟩) (oO_k g7).1 (cc_o11 (oO_k g7).2) rfl rfl hl.1 rfl (lv_room (Nat.le_of_ble_eq_true rfl)) dX11_window_6 ⟨Nat.le_of_ble_eq_true rfl, Nat.le_of_ble_eq_true rfl⟩ (fun E9 ce q9 T9 H locs hp G hce hcv hcl => ?_)
    obtain ⟨hE, hT⟩ := hp
    subst hE
    rw [hT] at G
    exact vx_out (fun x hx => (htab x hx).elim) hlocks hce hcv hcl (fun t ht hvm => ⟨T1, trivial, ⟨⟨rfl, rfl⟩, by rw [ht]; exact G.1, va_K.moved hvm hK, G.2.1⟩, G.2.2.F ht⟩) G.2.2.2.2 (Nat.le_refl _) (Nat.le_refl _)
  refine q_cvv (As := [.int a0]) (rest := []) E G hA hX hN hml (u_X11_needCell l hst D cI cJ cZ cMic cSrc cSt cAI cAJ ad T3 o a0 eT8) (cwV 1 hts (gaV qA_752 qA_753 qA_754 qA_131 qA_755) rfl rfl rfl (by decide +kernel) ⟨Nat.le_of_ble_eq_true rfl, Nat.le_of_ble_eq_true rfl⟩) (oO_k g7).1 (cc_o11 (oO_k g7).2) rfl rfl hl.1 rfl (lv_room (Nat.le_of_ble_eq_true rfl)) dX11_window_6 ⟨Nat.zero_le _, Nat.zero_le _⟩ (fun T9 H locs hq G => ?_)
  rw [hq] at G
  clear hq eT8
  refine lv_aload_n hx hb dX11_window_9 rfl (lv_at hl 0 rfl) ?_
  obtain ⟨g12, h⟩ := oif_some h
  obtain ⟨n13, en13, h⟩ := obind_some h
  refine c_get E G o 6 (v := .ref (ad n13)) (oO_k g12).1 (cc_o11 (oO_k g12).2) rfl (fun w h => .tail _ (iA_23 h)) (by decide) (.tail _ qA_664) rfl (by rw [en13]; rfl) dX11_window_10 ?_
  clear en13
  refine lv_aload_n hx hb dX11_window_13 rfl (lv_at hl 0 rfl) ?_
  obtain ⟨g14, h⟩ := oif_some h
  obtain ⟨n15, en15, h⟩ := obind_some h
  refine c_get E G o 14 (v := .ref (ad n15)) (oO_k g14).1 (cc_o11 (oO_k g14).2) rfl (fun w h => .tail _ (iA_23 h)) (by decide) (.tail _ qA_675) rfl (by rw [en15]; rfl) dX11_window_14 ?_
  clear en15
  obtain ⟨g16, h⟩ := oif_some h
  obtain ⟨n17, en17, h⟩ := obind_some h
  refine c_get E G n15 17 (v := .ref (ad n17)) (oO_k g16).1 (cc_o6 (oO_k g16).2) rfl (fun w h => .tail _ (iA_14 h)) (by decide) (.tail _ qA_778) rfl (by rw [en17]; rfl) dX11_window_17 ?_
  clear en17
  refine lv_iload_n hx hb dX11_window_20 rfl (lv_at hl 1 rfl) ?_
  obtain ⟨g18, h⟩ := oif_some h
  obtain ⟨g19, h⟩ := oif_some h
  obtain ⟨n20, en20, h⟩ := obind_some h
  refine c_alda E G n17 6 (k := a0.toNatClampNeg) (v := .ref (ad n20)) (aA_k g18).1 (cc_a106 (aA_k g18).2.1) rfl (inb_k g19).1 (inb_k g19).2 (aA_k g18).2.2 (by show va_rf ((T8.2.2.2.2 n17 a0.toNatClampNeg).map ad) = _; rw [en20]; rfl) dX11_window_21 ?_
  clear en20
  obtain ⟨g21, h⟩ := oif_some h
  obtain ⟨r24, T22, eT22, h⟩ := obind2_some h
  refine q_cvi (As := [.ref (ad n20)]) (rest := []) E G hA hX hN hml (u_X8_windowOf l hst D cI cJ cZ cMic cSrc cSt cAI cAJ ad T8 n13 n20 eT22) (cwV 1 hts (gaV qA_787 qA_54 qA_55 qA_47 qA_56) rfl rfl rfl (by decide +kernel) ⟨Nat.le_of_ble_eq_true rfl, Nat.le_of_ble_eq_true rfl⟩) (oO_k g21).1 (cc_o8 (oO_k g21).2) rfl rfl hl.1 rfl (lv_room (Nat.le_of_ble_eq_true rfl)) dX11_window_22 ⟨Nat.zero_le _, Nat.zero_le _⟩ (fun q25 T23 H locs hq G => ?_)
  obtain ⟨hq1, hq2⟩ := hq
  rw [hq2] at G
  refine lv_to hq1 ?_
  clear hq1 hq2 eT22
  exact (Nat.succ_ne_zero _ (congrArg Prod.fst (Option.some.inj h)).symm).elim
def g_X11_sample (T : AT) (o : Nat) (a0 : Int32) (a1 : Int32) : Option (Nat × Int32 × AT) := oif (oO T o 11 = true) <| othr (g_X11_needCamera T o) 0 fun r5 T3 => oif (oO T3 o 11 = true) <| othr (g_X11_needMic T3 o a0) 0 fun r10 T8 => oif (oO T8 o 11 = true) <| obind (T8.2.2.2.2 o 14) fun n13 => oif (oO T8 n13 6 = true) <| elet (T8.2.2.1 n13 2) fun v15 => elet (v15 - 1) fun v16 => othr (g_X11_needRange T8 a1 (0 : Int32) v16) 0 fun r19 T17 => oif (oO T17 o 11 = true) <| obind (T17.2.2.2.2 o 6) fun n22 => oif (oO T17 n22 8 = true) <| obind (T17.2.2.2.2 n22 10) fun n24 => obind (g_X8_placeOf a0 a1) fun r25 => oif (oO T17 n24 10 = true) <| obind2 (g_X10_value T17 n24 r25) fun r30 T28 => elet (r30.toInt32) fun v32 => some (0, v32, T28)
set_option maxHeartbeats 4000000 in
set_option maxRecDepth 100000 in
theorem u_X11_sample (l : Launch) (hst : l.stackTraces = false) (D : va_G) (cI cJ cZ cMic cSrc cSt cAI cAJ : ClassId) (ad : Nat → Nat) (T : AT) (o : Nat) (a0 : Int32) (a1 : Int32) {r1 : Int32} {T1 : AT} (h : g_X11_sample T o a0 a1 = some (0, r1, T1)) : kCi l yX11_sample (Cond.code yX11_sample cX11_sample 3 (some .int) :: wsA) 8 123 cI cJ cZ cMic cSrc cSt cAI cAJ D ad T [.ref (ad o), .int a0, .int a1] (fun r T9 => r = r1 ∧ T9 = T1) := by
  intro sz
  refine Met.ofW (cc := cX11_sample) (maxL := 3) (ret := (some .int)) (by decide) rfl ?_
  intro p e s m args below meth c s₁ B hml hv
  obtain ⟨rfl, hsz, hP, hK, hD0, hX, hN⟩ := hv
  have hx := B.exec
  have hb := B.bytes
  have hr := B.returns
  have hts := atoms_spec (ws := (Cond.code yX11_sample cX11_sample 3 (some .int) :: wsA)) B.pre
  have hown : s.vm.findClass RX11 = some m.cls := findClass_of_methodNamed B.named
  have hlocks := B.notSynchronized
  subst hsz
  have hD := hD0.self (sz := s.heap.size)
  generalize hAe : va_A (cW ad T.1 (cc cI cJ cZ cMic cSrc cSt cAI cAJ ad T)) s.heap.size = A at hD hX ⊢
  have hA : ∀ q : Nat, s.heap.size ≤ q → A q := fun q h => by rw [← hAe]; exact Or.inr h
  have G : gC cI cJ cZ cMic cSrc cSt cAI cAJ D ad A s.heap s.heap [] T := ⟨hP, hD, va_S.rf⟩
  have E : cE p c cX11_sample s m ([.ref (ad o), .int a0, .int a1] : List Value).toArray (Cond.code yX11_sample cX11_sample 3 (some .int) :: wsA) D RX11 (CT cI cJ cZ cMic cSrc cSt cAI cAJ) := ⟨hx, hb, hts, hown, hK⟩
  have hl := lv_entry ([.ref (ad o), .int a0, .int a1]) (n := 3) (Nat.le_of_ble_eq_true rfl)
  rw [lg_entry_eq]
  generalize (lg_sl ([.ref (ad o), .int a0, .int a1]) ++ List.replicate (3 - (lg_sl ([.ref (ad o), .int a0, .int a1])).length) Slot.unset).toArray = ls at hl ⊢
  have hl : lv_has ls 3 [(0, .ref (ad o)), (1, .int a0), (2, .int a1)] := hl
  unfold g_X11_sample at h
  refine lv_aload_n hx hb dX11_sample_0 rfl (lv_at hl 0 rfl) ?_
  obtain ⟨g2, h⟩ := oif_some h
  obtain ⟨r5, T3, eT3, h⟩ := othr_n h
  refine q_cvv (As := []) (rest := []) E G hA hX hN hml (u_X11_needCamera l hst D cI cJ cZ cMic cSrc cSt cAI cAJ ad T o eT3) (cwV 0 hts (gaV qA_728 qA_729 qA_730 qA_131 qA_731) rfl rfl rfl (by decide +kernel) ⟨Nat.le_of_ble_eq_true rfl, Nat.le_of_ble_eq_true rfl⟩) (oO_k g2).1 (cc_o11 (oO_k g2).2) rfl rfl hl.1 rfl (lv_room (Nat.le_of_ble_eq_true rfl)) dX11_sample_1 ⟨Nat.zero_le _, Nat.zero_le _⟩ (fun T4 H locs hq G => ?_)
  rw [hq] at G
  clear hq eT3
  refine lv_aload_n hx hb dX11_sample_4 rfl (lv_at hl 0 rfl) ?_
  refine lv_iload_n hx hb dX11_sample_5 rfl (lv_at hl 1 rfl) ?_
  obtain ⟨g7, h⟩ := oif_some h
  obtain ⟨r10, T8, eT8, h⟩ := othr_n h
  refine q_cvv (As := [.int a0]) (rest := []) E G hA hX hN hml (u_X11_needMic l hst D cI cJ cZ cMic cSrc cSt cAI cAJ ad T3 o a0 eT8) (cwV 1 hts (gaV qA_734 qA_735 qA_736 qA_131 qA_737) rfl rfl rfl (by decide +kernel) ⟨Nat.le_of_ble_eq_true rfl, Nat.le_of_ble_eq_true rfl⟩) (oO_k g7).1 (cc_o11 (oO_k g7).2) rfl rfl hl.1 rfl (lv_room (Nat.le_of_ble_eq_true rfl)) dX11_sample_6 ⟨Nat.zero_le _, Nat.zero_le _⟩ (fun T9 H locs hq G => ?_)
  rw [hq] at G
  clear hq eT8
  refine lv_iload_n hx hb dX11_sample_9 rfl (lv_at hl 2 rfl) ?_
  refine lv_iconst (v := 0) hx hb dX11_sample_10 (by decide) ?_
  refine lv_aload_n hx hb dX11_sample_11 rfl (lv_at hl 0 rfl) ?_
  obtain ⟨g12, h⟩ := oif_some h
  obtain ⟨n13, en13, h⟩ := obind_some h
  refine c_get E G o 14 (v := .ref (ad n13)) (oO_k g12).1 (cc_o11 (oO_k g12).2) rfl (fun w h => .tail _ (iA_23 h)) (by decide) (.tail _ qA_675) rfl (by rw [en13]; rfl) dX11_sample_12 ?_
  clear en13
  obtain ⟨g14, h⟩ := oif_some h
  refine c_get E G n13 2 (oO_k g14).1 (cc_o6 (oO_k g14).2) rfl (fun w h => .tail _ (iA_14 h)) (by decide) (.tail _ qA_761) rfl rfl dX11_sample_15 ?_
  refine lv_topi (fun v15 ev15 => ?_)
  have h := elet_at ev15 h
  clear ev15
  refine lv_iconst (v := 1) hx hb dX11_sample_18 (by decide) ?_
  refine lv_isub hx hb dX11_sample_19 ?_
  refine lv_topi (fun v16 ev16 => ?_)
  have h := elet_at ev16 h
  clear ev16
  obtain ⟨r19, T17, eT17, h⟩ := othr_n h
  refine q_csv (As := [.int a1, .int 0, .int v16]) (rest := []) E G hA hX hN hml (u_X11_needRange l hst D cI cJ cZ cMic cSrc cSt cAI cAJ ad T8 a1 (0 : Int32) v16 eT17) (cwS 3 hts (gaS qA_741 qA_742 qA_131 qA_743) rfl rfl rfl (by decide +kernel) ⟨Nat.le_of_ble_eq_true rfl, Nat.le_of_ble_eq_true rfl⟩) rfl hl.1 rfl (lv_room (Nat.le_of_ble_eq_true rfl)) dX11_sample_20 ⟨Nat.zero_le _, Nat.zero_le _⟩ (fun T18 H locs hq G => ?_)
  rw [hq] at G
  clear hq eT17
  refine lv_aload_n hx hb dX11_sample_23 rfl (lv_at hl 0 rfl) ?_
  obtain ⟨g21, h⟩ := oif_some h
  obtain ⟨n22, en22, h⟩ := obind_some h
  refine c_get E G o 6 (v := .ref (ad n22)) (oO_k g21).1 (cc_o11 (oO_k g21).2) rfl (fun w h => .tail _ (iA_23 h)) (by decide) (.tail _ qA_664) rfl (by rw [en22]; rfl) dX11_sample_24 ?_
  clear en22
  obtain ⟨g23, h⟩ := oif_some h
  obtain ⟨n24, en24, h⟩ := obind_some h
  refine c_get E G n22 10 (v := .ref (ad n24)) (oO_k g23).1 (cc_o8 (oO_k g23).2) rfl (fun w h => .tail _ (iA_16 h)) (by decide) (.tail _ qA_789) rfl (by rw [en24]; rfl) dX11_sample_27 ?_
  clear en24
  refine lv_iload_n hx hb dX11_sample_30 rfl (lv_at hl 1 rfl) ?_
  refine lv_iload_n hx hb dX11_sample_31 rfl (lv_at hl 2 rfl) ?_
  obtain ⟨r25, er25, h⟩ := obind_some h
  refine q_sti (As := [.int a0, .int a1]) (rest := [.ref (ad n24)]) ⟨hx, hb, hml, hown, hts⟩ hN (u_X8_placeOf l a0 a1 er25) ⟨callB_of 2 hts (gaC qA_89) rfl rfl rfl (hts _ (.tail _ qA_47)) (hts _ (.tail _ qA_790)) (by decide +kernel) ⟨Nat.le_of_ble_eq_true rfl, Nat.le_of_ble_eq_true rfl⟩, hts _ (.tail _ qA_88)⟩ rfl hl.1 rfl (lv_room (Nat.le_of_ble_eq_true rfl)) dX11_sample_32 ⟨Nat.zero_le _, Nat.zero_le _⟩ (fun q26 hq => ?_)
  refine lv_to hq ?_
  clear hq er25
  obtain ⟨g27, h⟩ := oif_some h
  obtain ⟨r30, T28, eT28, h⟩ := obind2_some h
  refine q_cvl (As := [.int r25]) (rest := []) E G hA hX hN hml (u_X10_value l hst D cI cJ cZ cMic cSrc cSt cAI cAJ ad T17 n24 r25 eT28) (cwV 1 hts (gaV qA_791 qA_792 qA_793 qA_6 qA_633) rfl rfl rfl (by decide +kernel) ⟨Nat.le_of_ble_eq_true rfl, Nat.le_of_ble_eq_true rfl⟩) (oO_k g27).1 (cc_o10 (oO_k g27).2) rfl rfl hl.1 rfl (lv_room (Nat.le_of_ble_eq_true rfl)) dX11_sample_35 ⟨Nat.zero_le _, Nat.zero_le _⟩ (fun q31 T29 H locs hq G => ?_)
  obtain ⟨hq1, hq2⟩ := hq
  rw [hq2] at G
  refine lv_tol hq1 ?_
  clear hq1 hq2 eT28
  refine lv_l2i (v := r30.toInt32) hx hb dX11_sample_38 rfl ?_
  refine lv_topi (fun v32 ev32 => ?_)
  have h := elet_at ev32 h
  clear ev32
  exact W.iret (v := v32) hx hb hr (fun t ht hW => ⟨⟨v32, T28, rfl, (osome3 h).2, ⟨by rw [ht]; exact G.1, va_K.moved hW.alike hK, G.2.1⟩⟩, G.2.2.F ht⟩) G.2.2.2.2 dX11_sample_39
set_option maxHeartbeats 4000000 in
set_option maxRecDepth 100000 in
theorem s_X11_sample {T : AT} {o : Nat} {a0 : Int32} {a1 : Int32} {e1 : Nat} {r1 : Int32} {T1 : AT} (h : g_X11_sample T o a0 a1 = some (e1, r1, T1)) : SP T T1 := by
  have p0 := SP.rf T
  unfold g_X11_sample at h
  obtain ⟨g2, h⟩ := oif_some h
  rcases othr_s h with ⟨k9, r9, e9, -⟩ | ⟨r4, T3, eT3, h⟩
  · exact SP.tr p0 (s_X11_needCamera e9)
  have p1 : SP T T3 := SP.tr p0 (s_X11_needCamera eT3)
  obtain ⟨g5, h⟩ := oif_some h
  rcases othr_s h with ⟨k9, r9, e9, -⟩ | ⟨r7, T6, eT6, h⟩
  · exact SP.tr p1 (s_X11_needMic e9)
  have p2 : SP T T6 := SP.tr p1 (s_X11_needMic eT6)
  obtain ⟨g8, h⟩ := oif_some h
  obtain ⟨n9, en9, h⟩ := obind_some h
  obtain ⟨g10, h⟩ := oif_some h
  obtain ⟨v11, -, h⟩ := elet_some h
  obtain ⟨v12, -, h⟩ := elet_some h
  rcases othr_s h with ⟨k9, r9, e9, -⟩ | ⟨r14, T13, eT13, h⟩
  · exact SP.tr p2 (s_X11_needRange e9)
  have p3 : SP T T13 := SP.tr p2 (s_X11_needRange eT13)
  obtain ⟨g15, h⟩ := oif_some h
  obtain ⟨n16, en16, h⟩ := obind_some h
  obtain ⟨g17, h⟩ := oif_some h
  obtain ⟨n18, en18, h⟩ := obind_some h
  obtain ⟨r19, -, h⟩ := obind_some h
  obtain ⟨g20, h⟩ := oif_some h
  obtain ⟨r22, T21, eT21, h⟩ := obind2_some h
  have p4 : SP T T21 := SP.tr p3 (s_X10_value eT21)
  obtain ⟨v23, -, h⟩ := elet_some h
  rw [← (osome3 h).2.2]
  exact p4
set_option maxHeartbeats 4000000 in
set_option maxRecDepth 100000 in
theorem x_X11_sample (l : Launch) (hst : l.stackTraces = false) (D : va_G) (cI cJ cZ cMic cSrc cSt cAI cAJ : ClassId) (ad : Nat → Nat) (T : AT) (o : Nat) (a0 : Int32) (a1 : Int32) {e1 : Nat} {r1 : Int32} {T1 : AT} (h : g_X11_sample T o a0 a1 = some (e1 + 1, r1, T1)) : kXi l yX11_sample (Cond.code yX11_sample cX11_sample 3 (some .int) :: wsA) 8 123 cI cJ cZ cMic cSrc cSt cAI cAJ D ad T [.ref (ad o), .int a0, .int a1] e1 T1 := by
  intro sz
  refine vx_ofW (cc := cX11_sample) (maxL := 3) (ret := (some .int)) (by decide) rfl ?_
  intro p e s m args below meth c s₁ B hml htab hv
  obtain ⟨rfl, hsz, hP, hK, hD0, hX, hN⟩ := hv
  have hx := B.exec
  have hb := B.bytes
  have hr := B.returns
  have hts := atoms_spec (ws := (Cond.code yX11_sample cX11_sample 3 (some .int) :: wsA)) B.pre
  have hown : s.vm.findClass RX11 = some m.cls := findClass_of_methodNamed B.named
  have hlocks := B.notSynchronized
  subst hsz
  have hD := hD0.self (sz := s.heap.size)
  generalize hAe : va_A (cW ad T.1 (cc cI cJ cZ cMic cSrc cSt cAI cAJ ad T)) s.heap.size = A at hD hX ⊢
  have hA : ∀ q : Nat, s.heap.size ≤ q → A q := fun q h => by rw [← hAe]; exact Or.inr h
  have G : gC cI cJ cZ cMic cSrc cSt cAI cAJ D ad A s.heap s.heap [] T := ⟨hP, hD, va_S.rf⟩
  have E : cE p c cX11_sample s m ([.ref (ad o), .int a0, .int a1] : List Value).toArray (Cond.code yX11_sample cX11_sample 3 (some .int) :: wsA) D RX11 (CT cI cJ cZ cMic cSrc cSt cAI cAJ) := ⟨hx, hb, hts, hown, hK⟩
  have htab : ∀ x ∈ c.exceptionTable.toList, False := fun x hx => htab x hx
  have hl := lv_entry ([.ref (ad o), .int a0, .int a1]) (n := 3) (Nat.le_of_ble_eq_true rfl)
  rw [lg_entry_eq]
  generalize (lg_sl ([.ref (ad o), .int a0, .int a1]) ++ List.replicate (3 - (lg_sl ([.ref (ad o), .int a0, .int a1])).length) Slot.unset).toArray = ls at hl ⊢
  have hl : lv_has ls 3 [(0, .ref (ad o)), (1, .int a0), (2, .int a1)] := hl
  unfold g_X11_sample at h
  refine lv_aload_n hx hb dX11_sample_0 rfl (lv_at hl 0 rfl) ?_
  obtain ⟨g2, h⟩ := oif_some h
  rcases othr_t h with ⟨r0, eT3⟩ | ⟨r5, T3, eT3, h⟩
  · refine q_xvv (As := []) (rest := []) E G hA hX hN hml (x_X11_needCamera l hst D cI cJ cZ cMic cSrc cSt cAI cAJ ad T o eT3) (cwV 0 hts (gaV qA_728 qA_729 qA_730 qA_131 qA_731) rfl rfl rfl (by decide +kernel) ⟨Nat.le_of_ble_eq_true rfl, Nat.le_of_ble_eq_true rfl⟩) (oO_k g2).1 (cc_o11 (oO_k g2).2) rfl rfl hl.1 rfl (lv_room (Nat.le_of_ble_eq_true rfl)) dX11_sample_1 ⟨Nat.le_of_ble_eq_true rfl, Nat.le_of_ble_eq_true rfl⟩ (fun E9 ce q9 T9 H locs hp G hce hcv hcl => ?_)
    obtain ⟨hE, hT⟩ := hp
    subst hE
    rw [hT] at G
    exact vx_out (fun x hx => (htab x hx).elim) hlocks hce hcv hcl (fun t ht hvm => ⟨T1, trivial, ⟨⟨rfl, rfl⟩, by rw [ht]; exact G.1, va_K.moved hvm hK, G.2.1⟩, G.2.2.F ht⟩) G.2.2.2.2 (Nat.le_refl _) (Nat.le_refl _)
  refine q_cvv (As := []) (rest := []) E G hA hX hN hml (u_X11_needCamera l hst D cI cJ cZ cMic cSrc cSt cAI cAJ ad T o eT3) (cwV 0 hts (gaV qA_728 qA_729 qA_730 qA_131 qA_731) rfl rfl rfl (by decide +kernel) ⟨Nat.le_of_ble_eq_true rfl, Nat.le_of_ble_eq_true rfl⟩) (oO_k g2).1 (cc_o11 (oO_k g2).2) rfl rfl hl.1 rfl (lv_room (Nat.le_of_ble_eq_true rfl)) dX11_sample_1 ⟨Nat.zero_le _, Nat.zero_le _⟩ (fun T4 H locs hq G => ?_)
  rw [hq] at G
  clear hq eT3
  refine lv_aload_n hx hb dX11_sample_4 rfl (lv_at hl 0 rfl) ?_
  refine lv_iload_n hx hb dX11_sample_5 rfl (lv_at hl 1 rfl) ?_
  obtain ⟨g7, h⟩ := oif_some h
  rcases othr_t h with ⟨r0, eT8⟩ | ⟨r10, T8, eT8, h⟩
  · refine q_xvv (As := [.int a0]) (rest := []) E G hA hX hN hml (x_X11_needMic l hst D cI cJ cZ cMic cSrc cSt cAI cAJ ad T3 o a0 eT8) (cwV 1 hts (gaV qA_734 qA_735 qA_736 qA_131 qA_737) rfl rfl rfl (by decide +kernel) ⟨Nat.le_of_ble_eq_true rfl, Nat.le_of_ble_eq_true rfl⟩) (oO_k g7).1 (cc_o11 (oO_k g7).2) rfl rfl hl.1 rfl (lv_room (Nat.le_of_ble_eq_true rfl)) dX11_sample_6 ⟨Nat.le_of_ble_eq_true rfl, Nat.le_of_ble_eq_true rfl⟩ (fun E9 ce q9 T9 H locs hp G hce hcv hcl => ?_)
    obtain ⟨hE, hT⟩ := hp
    subst hE
    rw [hT] at G
    exact vx_out (fun x hx => (htab x hx).elim) hlocks hce hcv hcl (fun t ht hvm => ⟨T1, trivial, ⟨⟨rfl, rfl⟩, by rw [ht]; exact G.1, va_K.moved hvm hK, G.2.1⟩, G.2.2.F ht⟩) G.2.2.2.2 (Nat.le_refl _) (Nat.le_refl _)
  refine q_cvv (As := [.int a0]) (rest := []) E G hA hX hN hml (u_X11_needMic l hst D cI cJ cZ cMic cSrc cSt cAI cAJ ad T3 o a0 eT8) (cwV 1 hts (gaV qA_734 qA_735 qA_736 qA_131 qA_737) rfl rfl rfl (by decide +kernel) ⟨Nat.le_of_ble_eq_true rfl, Nat.le_of_ble_eq_true rfl⟩) (oO_k g7).1 (cc_o11 (oO_k g7).2) rfl rfl hl.1 rfl (lv_room (Nat.le_of_ble_eq_true rfl)) dX11_sample_6 ⟨Nat.zero_le _, Nat.zero_le _⟩ (fun T9 H locs hq G => ?_)
  rw [hq] at G
  clear hq eT8
  refine lv_iload_n hx hb dX11_sample_9 rfl (lv_at hl 2 rfl) ?_
  refine lv_iconst (v := 0) hx hb dX11_sample_10 (by decide) ?_
  refine lv_aload_n hx hb dX11_sample_11 rfl (lv_at hl 0 rfl) ?_
  obtain ⟨g12, h⟩ := oif_some h
  obtain ⟨n13, en13, h⟩ := obind_some h
  refine c_get E G o 14 (v := .ref (ad n13)) (oO_k g12).1 (cc_o11 (oO_k g12).2) rfl (fun w h => .tail _ (iA_23 h)) (by decide) (.tail _ qA_675) rfl (by rw [en13]; rfl) dX11_sample_12 ?_
  clear en13
  obtain ⟨g14, h⟩ := oif_some h
  refine c_get E G n13 2 (oO_k g14).1 (cc_o6 (oO_k g14).2) rfl (fun w h => .tail _ (iA_14 h)) (by decide) (.tail _ qA_761) rfl rfl dX11_sample_15 ?_
  refine lv_topi (fun v15 ev15 => ?_)
  have h := elet_at ev15 h
  clear ev15
  refine lv_iconst (v := 1) hx hb dX11_sample_18 (by decide) ?_
  refine lv_isub hx hb dX11_sample_19 ?_
  refine lv_topi (fun v16 ev16 => ?_)
  have h := elet_at ev16 h
  clear ev16
  rcases othr_t h with ⟨r0, eT17⟩ | ⟨r19, T17, eT17, h⟩
  · refine q_xsv (As := [.int a1, .int 0, .int v16]) (rest := []) E G hA hX hN hml (x_X11_needRange l hst D cI cJ cZ cMic cSrc cSt cAI cAJ ad T8 a1 (0 : Int32) v16 eT17) (cwS 3 hts (gaS qA_741 qA_742 qA_131 qA_743) rfl rfl rfl (by decide +kernel) ⟨Nat.le_of_ble_eq_true rfl, Nat.le_of_ble_eq_true rfl⟩) rfl hl.1 rfl (lv_room (Nat.le_of_ble_eq_true rfl)) dX11_sample_20 ⟨Nat.le_of_ble_eq_true rfl, Nat.le_of_ble_eq_true rfl⟩ (fun E9 ce q9 T9 H locs hp G hce hcv hcl => ?_)
    obtain ⟨hE, hT⟩ := hp
    subst hE
    rw [hT] at G
    exact vx_out (fun x hx => (htab x hx).elim) hlocks hce hcv hcl (fun t ht hvm => ⟨T1, trivial, ⟨⟨rfl, rfl⟩, by rw [ht]; exact G.1, va_K.moved hvm hK, G.2.1⟩, G.2.2.F ht⟩) G.2.2.2.2 (Nat.le_refl _) (Nat.le_refl _)
  refine q_csv (As := [.int a1, .int 0, .int v16]) (rest := []) E G hA hX hN hml (u_X11_needRange l hst D cI cJ cZ cMic cSrc cSt cAI cAJ ad T8 a1 (0 : Int32) v16 eT17) (cwS 3 hts (gaS qA_741 qA_742 qA_131 qA_743) rfl rfl rfl (by decide +kernel) ⟨Nat.le_of_ble_eq_true rfl, Nat.le_of_ble_eq_true rfl⟩) rfl hl.1 rfl (lv_room (Nat.le_of_ble_eq_true rfl)) dX11_sample_20 ⟨Nat.zero_le _, Nat.zero_le _⟩ (fun T18 H locs hq G => ?_)
  rw [hq] at G
  clear hq eT17
  refine lv_aload_n hx hb dX11_sample_23 rfl (lv_at hl 0 rfl) ?_
  obtain ⟨g21, h⟩ := oif_some h
  obtain ⟨n22, en22, h⟩ := obind_some h
  refine c_get E G o 6 (v := .ref (ad n22)) (oO_k g21).1 (cc_o11 (oO_k g21).2) rfl (fun w h => .tail _ (iA_23 h)) (by decide) (.tail _ qA_664) rfl (by rw [en22]; rfl) dX11_sample_24 ?_
  clear en22
  obtain ⟨g23, h⟩ := oif_some h
  obtain ⟨n24, en24, h⟩ := obind_some h
  refine c_get E G n22 10 (v := .ref (ad n24)) (oO_k g23).1 (cc_o8 (oO_k g23).2) rfl (fun w h => .tail _ (iA_16 h)) (by decide) (.tail _ qA_789) rfl (by rw [en24]; rfl) dX11_sample_27 ?_
  clear en24
  refine lv_iload_n hx hb dX11_sample_30 rfl (lv_at hl 1 rfl) ?_
  refine lv_iload_n hx hb dX11_sample_31 rfl (lv_at hl 2 rfl) ?_
  obtain ⟨r25, er25, h⟩ := obind_some h
  refine q_sti (As := [.int a0, .int a1]) (rest := [.ref (ad n24)]) ⟨hx, hb, hml, hown, hts⟩ hN (u_X8_placeOf l a0 a1 er25) ⟨callB_of 2 hts (gaC qA_89) rfl rfl rfl (hts _ (.tail _ qA_47)) (hts _ (.tail _ qA_790)) (by decide +kernel) ⟨Nat.le_of_ble_eq_true rfl, Nat.le_of_ble_eq_true rfl⟩, hts _ (.tail _ qA_88)⟩ rfl hl.1 rfl (lv_room (Nat.le_of_ble_eq_true rfl)) dX11_sample_32 ⟨Nat.zero_le _, Nat.zero_le _⟩ (fun q26 hq => ?_)
  refine lv_to hq ?_
  clear hq er25
  obtain ⟨g27, h⟩ := oif_some h
  obtain ⟨r30, T28, eT28, h⟩ := obind2_some h
  refine q_cvl (As := [.int r25]) (rest := []) E G hA hX hN hml (u_X10_value l hst D cI cJ cZ cMic cSrc cSt cAI cAJ ad T17 n24 r25 eT28) (cwV 1 hts (gaV qA_791 qA_792 qA_793 qA_6 qA_633) rfl rfl rfl (by decide +kernel) ⟨Nat.le_of_ble_eq_true rfl, Nat.le_of_ble_eq_true rfl⟩) (oO_k g27).1 (cc_o10 (oO_k g27).2) rfl rfl hl.1 rfl (lv_room (Nat.le_of_ble_eq_true rfl)) dX11_sample_35 ⟨Nat.zero_le _, Nat.zero_le _⟩ (fun q31 T29 H locs hq G => ?_)
  obtain ⟨hq1, hq2⟩ := hq
  rw [hq2] at G
  refine lv_tol hq1 ?_
  clear hq1 hq2 eT28
  refine lv_l2i (v := r30.toInt32) hx hb dX11_sample_38 rfl ?_
  refine lv_topi (fun v32 ev32 => ?_)
  have h := elet_at ev32 h
  clear ev32
  exact (Nat.succ_ne_zero _ (congrArg Prod.fst (Option.some.inj h)).symm).elim
end
section
/-! 11km.cd12.lean.txt -/
def g_X11_beam_b49  (T : AT) (l0 : Nat) : Option (Nat × Int32 × AT) := oif (oO T l0 11 = true) <| obind (T.2.2.2.2 l0 6) fun n3 => oif (oO T n3 8 = true) <| obind (T.2.2.2.2 n3 11) fun n5 => oif (oO T n5 10 = true) <| obind2 (g_X10_value T n5 (0 : Int32)) fun r9 T7 => elet (r9.toInt32) fun v11 => some (0, v11, T7)
def g_X11_beam (T : AT) (o : Nat) (a0 : Int32) (a1 : Int32) : Option (Nat × Int32 × AT) := oif (oO T o 11 = true) <| othr (g_X11_needCamera T o) 0 fun r5 T3 => oif (oO T3 o 11 = true) <| othr (g_X11_needCell T3 o a0) 0 fun r10 T8 => oif (oO T8 o 11 = true) <| obind (T8.2.2.2.2 o 6) fun n13 => oif (oO T8 o 11 = true) <| obind (T8.2.2.2.2 o 14) fun n15 => oif (oO T8 n15 6 = true) <| obind (T8.2.2.2.2 n15 17) fun n17 => oif (aA T8 n17 106 = true) <| oif (inb a0 (T8.2.1 n17).2 = true) <| obind (T8.2.2.2.2 n17 a0.toNatClampNeg) fun n20 => oif (oO T8 n13 8 = true) <| obind2 (g_X8_windowOf T8 n13 n20) fun r24 T22 => elet (r24 - 1) fun v26 => othr (g_X11_needRange T22 a1 (0 : Int32) v26) 0 fun r29 T27 => oif (oO T27 o 11 = true) <| obind (T27.2.2.2.2 o 6) fun n32 => oif (oO T27 o 11 = true) <| obind (T27.2.2.2.2 o 14) fun n34 => oif (oO T27 n34 6 = true) <| obind (T27.2.2.2.2 n34 17) fun n36 => oif (aA T27 n36 106 = true) <| oif (inb a0 (T27.2.1 n36).2 = true) <| obind (T27.2.2.2.2 n36 a0.toNatClampNeg) fun n39 => oif (oO T27 n32 8 = true) <| obind (g_X8_focus T27 n32 n39 a1) fun T41 => g_X11_beam_b49 T41 o
set_option maxHeartbeats 4000000 in
set_option maxRecDepth 100000 in
theorem s_X11_beam_b49 {e1 : Nat} {r1 : Int32} {T1 : AT} : ∀ (T : AT) (l0 : Nat), g_X11_beam_b49 T l0 = some (e1, r1, T1) → GL T T1 := by
  intro T l0 h
  have p0 := GL.rf T
  unfold g_X11_beam_b49 at h
  obtain ⟨g2, h⟩ := oif_some h
  obtain ⟨n3, en3, h⟩ := obind_some h
  obtain ⟨g4, h⟩ := oif_some h
  obtain ⟨n5, en5, h⟩ := obind_some h
  obtain ⟨g6, h⟩ := oif_some h
  obtain ⟨r8, T7, eT7, h⟩ := obind2_some h
  have p1 : GL T T7 := GL.tr p0 (gl_sp (s_X10_value eT7))
  obtain ⟨v9, -, h⟩ := elet_some h
  rw [← (osome3 h).2.2]
  exact p1
set_option maxHeartbeats 4000000 in
set_option maxRecDepth 100000 in
theorem s_X11_beam {T : AT} {o : Nat} {a0 : Int32} {a1 : Int32} {e1 : Nat} {r1 : Int32} {T1 : AT} (h : g_X11_beam T o a0 a1 = some (e1, r1, T1)) : GL T T1 := by
  have p0 := GL.rf T
  unfold g_X11_beam at h
  obtain ⟨g2, h⟩ := oif_some h
  rcases othr_s h with ⟨k9, r9, e9, -⟩ | ⟨r4, T3, eT3, h⟩
  · exact GL.tr p0 (gl_sp (s_X11_needCamera e9))
  have p1 : GL T T3 := GL.tr p0 (gl_sp (s_X11_needCamera eT3))
  obtain ⟨g5, h⟩ := oif_some h
  rcases othr_s h with ⟨k9, r9, e9, -⟩ | ⟨r7, T6, eT6, h⟩
  · exact GL.tr p1 (gl_sp (s_X11_needCell e9))
  have p2 : GL T T6 := GL.tr p1 (gl_sp (s_X11_needCell eT6))
  obtain ⟨g8, h⟩ := oif_some h
  obtain ⟨n9, en9, h⟩ := obind_some h
  obtain ⟨g10, h⟩ := oif_some h
  obtain ⟨n11, en11, h⟩ := obind_some h
  obtain ⟨g12, h⟩ := oif_some h
  obtain ⟨n13, en13, h⟩ := obind_some h
  obtain ⟨g14, h⟩ := oif_some h
  obtain ⟨g15, h⟩ := oif_some h
  obtain ⟨n16, en16, h⟩ := obind_some h
  obtain ⟨g17, h⟩ := oif_some h
  obtain ⟨r19, T18, eT18, h⟩ := obind2_some h
  have p3 : GL T T18 := GL.tr p2 (gl_sp (s_X8_windowOf eT18))
  obtain ⟨v20, -, h⟩ := elet_some h
  rcases othr_s h with ⟨k9, r9, e9, -⟩ | ⟨r22, T21, eT21, h⟩
  · exact GL.tr p3 (gl_sp (s_X11_needRange e9))
  have p4 : GL T T21 := GL.tr p3 (gl_sp (s_X11_needRange eT21))
  obtain ⟨g23, h⟩ := oif_some h
  obtain ⟨n24, en24, h⟩ := obind_some h
  obtain ⟨g25, h⟩ := oif_some h
  obtain ⟨n26, en26, h⟩ := obind_some h
  obtain ⟨g27, h⟩ := oif_some h
  obtain ⟨n28, en28, h⟩ := obind_some h
  obtain ⟨g29, h⟩ := oif_some h
  obtain ⟨g30, h⟩ := oif_some h
  obtain ⟨n31, en31, h⟩ := obind_some h
  obtain ⟨g32, h⟩ := oif_some h
  obtain ⟨T33, eT33, h⟩ := obind_some h
  have p5 : GL T T33 := GL.tr p4 (s_X8_focus eT33)
  exact GL.tr p5 (s_X11_beam_b49 _ _ h)
set_option maxHeartbeats 4000000 in
set_option maxRecDepth 100000 in
theorem a_X11_beam_b49 {p : Program} {l : Launch} {e : Env} {s : State} {m : MethodId} {args : Array Value} {below : List Frame} {meth : Method} {c : Code} {Q : State → Prop} {D : va_G} {A : Nat → Prop} {cI cJ cZ cMic cSrc cSt cAI cAJ : ClassId} {ad0 : Nat → Nat} {T0 : AT} {r1 : Int32} {T1 : AT} (E : cE p c cX11_beam s m args (Cond.code yX11_beam cX11_beam 3 (some .int) :: wsA) D RX11 (CT cI cJ cZ cMic cSrc cSt cAI cAJ)) (hA : ∀ q : Nat, s.heap.size ≤ q → A q) (hX : xT A s) (hN : nX s) (hml : c.maxLocals = 3) (hst : l.stackTraces = false) (kr61 : ∀ (ad : Nat → Nat) (H : Heap) (locs : List Loc) (ls : Array Slot), (∀ n, n < T0.1 → ad n = ad0 n) → gC cI cJ cZ cMic cSrc cSt cAI cAJ D ad A s.heap H locs T1 → W p l e { frames := 8, cells := T1.1 - T0.1, slots := sg T1 - sg T0, locals := 123 } s m args below meth c H locs (T1.1 - T0.1) (sg T1 - sg T0) Q (F0 m 61 ls [.int r1])) : ∀ (T : AT) (ad : Nat → Nat) (H : Heap) (locs : List Loc) (ls : Array Slot) (l0 : Nat), g_X11_beam_b49 T l0 = some (0, r1, T1) → GL T0 T → RC T → (∀ n, n < T0.1 → ad n = ad0 n) → l0 < T.1 → gC cI cJ cZ cMic cSrc cSt cAI cAJ D ad A s.heap H locs T → lv_has ls 3 [(0, .ref (ad l0))] → W p l e { frames := 8, cells := T1.1 - T0.1, slots := sg T1 - sg T0, locals := 123 } s m args below meth c H locs (T.1 - T0.1) (sg T - sg T0) Q (F0 m 49 ls []) := by
  have hx := E.1
  have hb := E.2.1
  have hts := E.2.2.1
  have hown := E.2.2.2.1
  have hK := E.2.2.2.2
  intro T ad H locs ls l0 h hgl hrc had h_l0 G hl
  have hT1 := s_X11_beam_b49 _ _ h
  have hcs := cs_ok hgl hT1
  have cp0 := cpr0 hrc
  unfold g_X11_beam_b49 at h
  refine lv_aload_n hx hb dX11_beam_49 rfl (lv_at hl 0 rfl) ?_
  obtain ⟨g2, h⟩ := oif_some h
  obtain ⟨n3, en3, h⟩ := obind_some h
  have h_n3 : n3 < T.1 := by rw [← cp0.1]; exact cp0.2.2 _ _ _ en3
  refine c_get E G l0 6 (v := .ref (ad n3)) (oO_k g2).1 (cc_o11 (oO_k g2).2) rfl (fun w h => .tail _ (iA_23 h)) (by decide) (.tail _ qA_664) rfl (by rw [en3]; rfl) dX11_beam_50 ?_
  clear en3
  obtain ⟨g4, h⟩ := oif_some h
  obtain ⟨n5, en5, h⟩ := obind_some h
  have h_n5 : n5 < T.1 := by rw [← cp0.1]; exact cp0.2.2 _ _ _ en5
  refine c_get E G n3 11 (v := .ref (ad n5)) (oO_k g4).1 (cc_o8 (oO_k g4).2) rfl (fun w h => .tail _ (iA_16 h)) (by decide) (.tail _ qA_795) rfl (by rw [en5]; rfl) dX11_beam_53 ?_
  clear en5
  refine lv_iconst (v := 0) hx hb dX11_beam_56 (by decide) ?_
  obtain ⟨g6, h⟩ := oif_some h
  obtain ⟨r9, T7, eT7, h⟩ := obind2_some h
  refine q_cvl (As := [.int 0]) (rest := []) E G hA hX hN hml (u_X10_value l hst D cI cJ cZ cMic cSrc cSt cAI cAJ ad T n5 (0 : Int32) eT7) (cwV 1 hts (gaV qA_791 qA_792 qA_793 qA_6 qA_633) rfl rfl rfl (by decide +kernel) ⟨Nat.le_of_ble_eq_true rfl, Nat.le_of_ble_eq_true rfl⟩) (oO_k g6).1 (cc_o10 (oO_k g6).2) rfl rfl hl.1 rfl (lv_room (Nat.le_of_ble_eq_true rfl)) dX11_beam_57 hcs (fun q10 T8 H locs hq G => ?_)
  obtain ⟨hq1, hq2⟩ := hq
  rw [hq2] at G
  refine lv_tol hq1 ?_
  clear hq1 hq2
  have cp1 := cpr_sp cp0 (s_X10_value eT7)
  refine lv_l2i (v := r9.toInt32) hx hb dX11_beam_60 rfl ?_
  refine lv_topi (fun v11 ev11 => ?_)
  have h := elet_at ev11 h
  clear ev11
  rw [(osome3 h).2.2] at G
  refine w_cast (c2 := T1.1 - T0.1) (s2 := sg T1 - sg T0) (by rw [← (osome3 h).2.2, cp1.1] <;> rfl) (by rw [← (osome3 h).2.2, sg_cpr cp1] <;> rfl) ?_
  refine lv_to ((osome3 h).2.1) ?_
  exact kr61 ad _ _ _ had G
set_option maxHeartbeats 4000000 in
set_option maxRecDepth 100000 in
theorem a_X11_beam (l : Launch) (hst : l.stackTraces = false) (D : va_G) (cI cJ cZ cMic cSrc cSt cAI cAJ : ClassId) (ad : Nat → Nat) (T : AT) (o : Nat) (a0 : Int32) (a1 : Int32) {r1 : Int32} {T1 : AT} (h : g_X11_beam T o a0 a1 = some (0, r1, T1)) (hrc : RC T) (h_o : o < T.1) : kAi l yX11_beam (Cond.code yX11_beam cX11_beam 3 (some .int) :: wsA) 8 123 cI cJ cZ cMic cSrc cSt cAI cAJ D ad T [.ref (ad o), .int a0, .int a1] r1 T1 := by
  intro sz
  refine Met.ofW (cc := cX11_beam) (maxL := 3) (ret := (some .int)) (by decide) rfl ?_
  intro p e s m args below meth c s₁ B hml hv
  obtain ⟨rfl, hsz, hP, hK, hD0, hX, hN⟩ := hv
  have hx := B.exec
  have hb := B.bytes
  have hr := B.returns
  have hts := atoms_spec (ws := (Cond.code yX11_beam cX11_beam 3 (some .int) :: wsA)) B.pre
  have hown : s.vm.findClass RX11 = some m.cls := findClass_of_methodNamed B.named
  have hlocks := B.notSynchronized
  subst hsz
  have hD := hD0.self (sz := s.heap.size)
  generalize hAe : va_A (cW ad T.1 (cc cI cJ cZ cMic cSrc cSt cAI cAJ ad T)) s.heap.size = A at hD hX ⊢
  have hA : ∀ q : Nat, s.heap.size ≤ q → A q := fun q h => by rw [← hAe]; exact Or.inr h
  have G : gC cI cJ cZ cMic cSrc cSt cAI cAJ D ad A s.heap s.heap [] T := ⟨hP, hD, va_S.rf⟩
  have E : cE p c cX11_beam s m ([.ref (ad o), .int a0, .int a1] : List Value).toArray (Cond.code yX11_beam cX11_beam 3 (some .int) :: wsA) D RX11 (CT cI cJ cZ cMic cSrc cSt cAI cAJ) := ⟨hx, hb, hts, hown, hK⟩
  have hl := lv_entry ([.ref (ad o), .int a0, .int a1]) (n := 3) (Nat.le_of_ble_eq_true rfl)
  rw [lg_entry_eq]
  generalize (lg_sl ([.ref (ad o), .int a0, .int a1]) ++ List.replicate (3 - (lg_sl ([.ref (ad o), .int a0, .int a1])).length) Slot.unset).toArray = ls at hl ⊢
  have hl : lv_has ls 3 [(0, .ref (ad o)), (1, .int a0), (2, .int a1)] := hl
  have hgl := GL.rf T
  have had : ∀ n, n < T.1 → ad n = ad n := fun _ _ => rfl
  have hT1 := s_X11_beam h
  have hcs := cs_ok hgl hT1
  refine w_cast (Nat.sub_self T.1).symm (Nat.sub_self (sg T)).symm ?_
  have cp0 := cpr0 hrc
  unfold g_X11_beam at h
  refine lv_aload_n hx hb dX11_beam_0 rfl (lv_at hl 0 rfl) ?_
  obtain ⟨g2, h⟩ := oif_some h
  obtain ⟨r5, T3, eT3, h⟩ := othr_n h
  refine q_cvv (As := []) (rest := []) E G hA hX hN hml (u_X11_needCamera l hst D cI cJ cZ cMic cSrc cSt cAI cAJ ad T o eT3) (cwV 0 hts (gaV qA_728 qA_729 qA_730 qA_131 qA_731) rfl rfl rfl (by decide +kernel) ⟨Nat.le_of_ble_eq_true rfl, Nat.le_of_ble_eq_true rfl⟩) (oO_k g2).1 (cc_o11 (oO_k g2).2) rfl rfl hl.1 rfl (lv_room (Nat.le_of_ble_eq_true rfl)) dX11_beam_1 hcs (fun T4 H locs hq G => ?_)
  rw [hq] at G
  clear hq
  have cp1 := cpr_sp cp0 (s_X11_needCamera eT3)
  refine lv_aload_n hx hb dX11_beam_4 rfl (lv_at hl 0 rfl) ?_
  refine lv_iload_n hx hb dX11_beam_5 rfl (lv_at hl 1 rfl) ?_
  obtain ⟨g7, h⟩ := oif_some h
  obtain ⟨r10, T8, eT8, h⟩ := othr_n h
  refine q_cvv (As := [.int a0]) (rest := []) E G hA hX hN hml (u_X11_needCell l hst D cI cJ cZ cMic cSrc cSt cAI cAJ ad T3 o a0 eT8) (cwV 1 hts (gaV qA_752 qA_753 qA_754 qA_131 qA_755) rfl rfl rfl (by decide +kernel) ⟨Nat.le_of_ble_eq_true rfl, Nat.le_of_ble_eq_true rfl⟩) (oO_k g7).1 (cc_o11 (oO_k g7).2) rfl rfl hl.1 rfl (lv_room (Nat.le_of_ble_eq_true rfl)) dX11_beam_6 hcs (fun T9 H locs hq G => ?_)
  rw [hq] at G
  clear hq
  have cp2 := cpr_sp cp1 (s_X11_needCell eT8)
  refine lv_iload_n hx hb dX11_beam_9 rfl (lv_at hl 2 rfl) ?_
  refine lv_iconst (v := 0) hx hb dX11_beam_10 (by decide) ?_
  refine lv_aload_n hx hb dX11_beam_11 rfl (lv_at hl 0 rfl) ?_
  obtain ⟨g12, h⟩ := oif_some h
  obtain ⟨n13, en13, h⟩ := obind_some h
  have h_n13 : n13 < T.1 := by rw [← cp2.1]; exact cp2.2.2 _ _ _ en13
  refine c_get E G o 6 (v := .ref (ad n13)) (oO_k g12).1 (cc_o11 (oO_k g12).2) rfl (fun w h => .tail _ (iA_23 h)) (by decide) (.tail _ qA_664) rfl (by rw [en13]; rfl) dX11_beam_12 ?_
  clear en13
  refine lv_aload_n hx hb dX11_beam_15 rfl (lv_at hl 0 rfl) ?_
  obtain ⟨g14, h⟩ := oif_some h
  obtain ⟨n15, en15, h⟩ := obind_some h
  have h_n15 : n15 < T.1 := by rw [← cp2.1]; exact cp2.2.2 _ _ _ en15
  refine c_get E G o 14 (v := .ref (ad n15)) (oO_k g14).1 (cc_o11 (oO_k g14).2) rfl (fun w h => .tail _ (iA_23 h)) (by decide) (.tail _ qA_675) rfl (by rw [en15]; rfl) dX11_beam_16 ?_
  clear en15
  obtain ⟨g16, h⟩ := oif_some h
  obtain ⟨n17, en17, h⟩ := obind_some h
  have h_n17 : n17 < T.1 := by rw [← cp2.1]; exact cp2.2.2 _ _ _ en17
  refine c_get E G n15 17 (v := .ref (ad n17)) (oO_k g16).1 (cc_o6 (oO_k g16).2) rfl (fun w h => .tail _ (iA_14 h)) (by decide) (.tail _ qA_778) rfl (by rw [en17]; rfl) dX11_beam_19 ?_
  clear en17
  refine lv_iload_n hx hb dX11_beam_22 rfl (lv_at hl 1 rfl) ?_
  obtain ⟨g18, h⟩ := oif_some h
  obtain ⟨g19, h⟩ := oif_some h
  obtain ⟨n20, en20, h⟩ := obind_some h
  have h_n20 : n20 < T.1 := by rw [← cp2.1]; exact cp2.2.2 _ _ _ en20
  refine c_alda E G n17 6 (k := a0.toNatClampNeg) (v := .ref (ad n20)) (aA_k g18).1 (cc_a106 (aA_k g18).2.1) rfl (inb_k g19).1 (inb_k g19).2 (aA_k g18).2.2 (by show va_rf ((T8.2.2.2.2 n17 a0.toNatClampNeg).map ad) = _; rw [en20]; rfl) dX11_beam_23 ?_
  clear en20
  obtain ⟨g21, h⟩ := oif_some h
  obtain ⟨r24, T22, eT22, h⟩ := obind2_some h
  refine q_cvi (As := [.ref (ad n20)]) (rest := [.int 0, .int a1]) E G hA hX hN hml (u_X8_windowOf l hst D cI cJ cZ cMic cSrc cSt cAI cAJ ad T8 n13 n20 eT22) (cwV 1 hts (gaV qA_787 qA_54 qA_55 qA_47 qA_56) rfl rfl rfl (by decide +kernel) ⟨Nat.le_of_ble_eq_true rfl, Nat.le_of_ble_eq_true rfl⟩) (oO_k g21).1 (cc_o8 (oO_k g21).2) rfl rfl hl.1 rfl (lv_room (Nat.le_of_ble_eq_true rfl)) dX11_beam_24 hcs (fun q25 T23 H locs hq G => ?_)
  obtain ⟨hq1, hq2⟩ := hq
  rw [hq2] at G
  refine lv_to hq1 ?_
  clear hq1 hq2
  have cp3 := cpr_sp cp2 (s_X8_windowOf eT22)
  refine lv_iconst (v := 1) hx hb dX11_beam_27 (by decide) ?_
  refine lv_isub hx hb dX11_beam_28 ?_
  refine lv_topi (fun v26 ev26 => ?_)
  have h := elet_at ev26 h
  clear ev26
  obtain ⟨r29, T27, eT27, h⟩ := othr_n h
  refine q_csv (As := [.int a1, .int 0, .int v26]) (rest := []) E G hA hX hN hml (u_X11_needRange l hst D cI cJ cZ cMic cSrc cSt cAI cAJ ad T22 a1 (0 : Int32) v26 eT27) (cwS 3 hts (gaS qA_741 qA_742 qA_131 qA_743) rfl rfl rfl (by decide +kernel) ⟨Nat.le_of_ble_eq_true rfl, Nat.le_of_ble_eq_true rfl⟩) rfl hl.1 rfl (lv_room (Nat.le_of_ble_eq_true rfl)) dX11_beam_29 hcs (fun T28 H locs hq G => ?_)
  rw [hq] at G
  clear hq
  have cp4 := cpr_sp cp3 (s_X11_needRange eT27)
  refine lv_aload_n hx hb dX11_beam_32 rfl (lv_at hl 0 rfl) ?_
  obtain ⟨g31, h⟩ := oif_some h
  obtain ⟨n32, en32, h⟩ := obind_some h
  have h_n32 : n32 < T.1 := by rw [← cp4.1]; exact cp4.2.2 _ _ _ en32
  refine c_get E G o 6 (v := .ref (ad n32)) (oO_k g31).1 (cc_o11 (oO_k g31).2) rfl (fun w h => .tail _ (iA_23 h)) (by decide) (.tail _ qA_664) rfl (by rw [en32]; rfl) dX11_beam_33 ?_
  clear en32
  refine lv_aload_n hx hb dX11_beam_36 rfl (lv_at hl 0 rfl) ?_
  obtain ⟨g33, h⟩ := oif_some h
  obtain ⟨n34, en34, h⟩ := obind_some h
  have h_n34 : n34 < T.1 := by rw [← cp4.1]; exact cp4.2.2 _ _ _ en34
  refine c_get E G o 14 (v := .ref (ad n34)) (oO_k g33).1 (cc_o11 (oO_k g33).2) rfl (fun w h => .tail _ (iA_23 h)) (by decide) (.tail _ qA_675) rfl (by rw [en34]; rfl) dX11_beam_37 ?_
  clear en34
  obtain ⟨g35, h⟩ := oif_some h
  obtain ⟨n36, en36, h⟩ := obind_some h
  have h_n36 : n36 < T.1 := by rw [← cp4.1]; exact cp4.2.2 _ _ _ en36
  refine c_get E G n34 17 (v := .ref (ad n36)) (oO_k g35).1 (cc_o6 (oO_k g35).2) rfl (fun w h => .tail _ (iA_14 h)) (by decide) (.tail _ qA_778) rfl (by rw [en36]; rfl) dX11_beam_40 ?_
  clear en36
  refine lv_iload_n hx hb dX11_beam_43 rfl (lv_at hl 1 rfl) ?_
  obtain ⟨g37, h⟩ := oif_some h
  obtain ⟨g38, h⟩ := oif_some h
  obtain ⟨n39, en39, h⟩ := obind_some h
  have h_n39 : n39 < T.1 := by rw [← cp4.1]; exact cp4.2.2 _ _ _ en39
  refine c_alda E G n36 6 (k := a0.toNatClampNeg) (v := .ref (ad n39)) (aA_k g37).1 (cc_a106 (aA_k g37).2.1) rfl (inb_k g38).1 (inb_k g38).2 (aA_k g37).2.2 (by show va_rf ((T27.2.2.2.2 n36 a0.toNatClampNeg).map ad) = _; rw [en39]; rfl) dX11_beam_44 ?_
  clear en39
  refine lv_iload_n hx hb dX11_beam_45 rfl (lv_at hl 2 rfl) ?_
  obtain ⟨g40, h⟩ := oif_some h
  obtain ⟨T41, eT41, h⟩ := obind_some h
  have hg2 := s_X8_focus eT41
  have hrc2 := hg2.2.2 cp4.2.2
  have hT2 := s_X11_beam_b49 _ _ h
  refine q_avv (As := [.ref (ad n39), .int a1]) (rest := []) E G hA hX hN hml (a_X8_focus l hst D cI cJ cZ cMic cSrc cSt cAI cAJ ad T27 n32 n39 a1 eT41 cp4.2.2 (by rw [cp4.1]; exact h_n32) (by rw [cp4.1]; exact h_n39)) (cwV 2 hts (gaV qA_796 qA_70 qA_71 qA_47 qA_72) rfl rfl rfl (by decide +kernel) ⟨Nat.le_of_ble_eq_true rfl, Nat.le_of_ble_eq_true rfl⟩) (oO_k g40).1 (cc_o8 (oO_k g40).2) rfl rfl hl.1 rfl (lv_room (Nat.le_of_ble_eq_true rfl)) dX11_beam_46 (cs_av hgl cp4 hg2 hT2) (fun ad2 H locs hga G => ?_)
  refine w_cast (c2 := T41.1 - T.1) (s2 := sg T41 - sg T) (cs_f1 hgl cp4 hg2) (cs_f2 hgl cp4 hg2) ?_
  have hl := lv_sub hl [0] rfl
  rw [show ad o = ad2 o from (hga o (by rw [cp4.1]; exact h_o)).symm] at hl
  exact a_X11_beam_b49 E hA hX hN hml hst (fun ad H locs ls had G => W.iret (v := r1) hx hb hr (fun t ht hW => ⟨⟨r1, (T1, ad), rfl, ⟨rfl, rfl, had⟩, ⟨by rw [ht]; exact G.1, va_K.moved hW.alike hK, G.2.1⟩⟩, G.2.2.F ht⟩) G.2.2.2.2 dX11_beam_61) _ _ _ _ _ _ h (GL.tr (gl_cpr hgl cp4) hg2) hrc2 (fun n hn => (hga n (by rw [cp4.1]; exact Nat.lt_of_lt_of_le hn hgl.1)).trans (had n hn)) (Nat.lt_of_lt_of_le (by rw [cp4.1]; exact h_o) hg2.1) G hl
set_option maxHeartbeats 4000000 in
set_option maxRecDepth 100000 in
theorem b_X11_beam_b49 {p : Program} {l : Launch} {e : Env} {s : State} {m : MethodId} {args : Array Value} {below : List Frame} {meth : Method} {c : Code} {Qc : Array Value → State → Outcome → State → Prop} {XC : String → State → State → Prop} {D : va_G} {A : Nat → Prop} {cI cJ cZ cMic cSrc cSt cAI cAJ : ClassId} {ad0 : Nat → Nat} {T0 : AT} {e1 : Nat} {r1 : Int32} {T1 : AT} (E : cE p c cX11_beam s m args (Cond.code yX11_beam cX11_beam 3 (some .int) :: wsA) D RX11 (CT cI cJ cZ cMic cSrc cSt cAI cAJ)) (hA : ∀ q : Nat, s.heap.size ≤ q → A q) (hX : xT A s) (hN : nX s) (hml : c.maxLocals = 3) (hst : l.stackTraces = false) (htab : ∀ x ∈ c.exceptionTable.toList, False) (hlocks : meth.locks = false) (kx : ∀ (ad : Nat → Nat) (H : Heap) (locs : List Loc) (t : State), (∀ n, n < T0.1 → ad n = ad0 n) → gC cI cJ cZ cMic cSrc cSt cAI cAJ D ad A s.heap H locs T1 → s.vm.Alike t.vm → H.size ≤ t.heap.size → (∀ q, q < H.size → t.heap[q]? = H[q]?) → XC (exn e1) s t) : ∀ (T : AT) (ad : Nat → Nat) (H : Heap) (locs : List Loc) (ls : Array Slot) (l0 : Nat), g_X11_beam_b49 T l0 = some (e1 + 1, r1, T1) → GL T0 T → RC T → (∀ n, n < T0.1 → ad n = ad0 n) → l0 < T.1 → gC cI cJ cZ cMic cSrc cSt cAI cAJ D ad A s.heap H locs T → lv_has ls 3 [(0, .ref (ad l0))] → W p l e { frames := 8, cells := T1.1 - T0.1 + 1, slots := sg T1 - sg T0 + 6, locals := 123 } s m args below meth c H locs (T.1 - T0.1) (sg T - sg T0) (vx_MQ below Qc XC args s (T1.1 - T0.1 + 1) (sg T1 - sg T0 + 6) A) (F0 m 49 ls []) := by
  have hx := E.1
  have hb := E.2.1
  have hts := E.2.2.1
  have hown := E.2.2.2.1
  have hK := E.2.2.2.2
  intro T ad H locs ls l0 h hgl hrc had h_l0 G hl
  have hT1 := s_X11_beam_b49 _ _ h
  have hcs := cs_okx hgl hT1
  have hcx := cs_okx1 hgl hT1
  have cp0 := cpr0 hrc
  unfold g_X11_beam_b49 at h
  refine lv_aload_n hx hb dX11_beam_49 rfl (lv_at hl 0 rfl) ?_
  obtain ⟨g2, h⟩ := oif_some h
  obtain ⟨n3, en3, h⟩ := obind_some h
  have h_n3 : n3 < T.1 := by rw [← cp0.1]; exact cp0.2.2 _ _ _ en3
  refine c_get E G l0 6 (v := .ref (ad n3)) (oO_k g2).1 (cc_o11 (oO_k g2).2) rfl (fun w h => .tail _ (iA_23 h)) (by decide) (.tail _ qA_664) rfl (by rw [en3]; rfl) dX11_beam_50 ?_
  clear en3
  obtain ⟨g4, h⟩ := oif_some h
  obtain ⟨n5, en5, h⟩ := obind_some h
  have h_n5 : n5 < T.1 := by rw [← cp0.1]; exact cp0.2.2 _ _ _ en5
  refine c_get E G n3 11 (v := .ref (ad n5)) (oO_k g4).1 (cc_o8 (oO_k g4).2) rfl (fun w h => .tail _ (iA_16 h)) (by decide) (.tail _ qA_795) rfl (by rw [en5]; rfl) dX11_beam_53 ?_
  clear en5
  refine lv_iconst (v := 0) hx hb dX11_beam_56 (by decide) ?_
  obtain ⟨g6, h⟩ := oif_some h
  obtain ⟨r9, T7, eT7, h⟩ := obind2_some h
  refine q_cvl (As := [.int 0]) (rest := []) E G hA hX hN hml (u_X10_value l hst D cI cJ cZ cMic cSrc cSt cAI cAJ ad T n5 (0 : Int32) eT7) (cwV 1 hts (gaV qA_791 qA_792 qA_793 qA_6 qA_633) rfl rfl rfl (by decide +kernel) ⟨Nat.le_of_ble_eq_true rfl, Nat.le_of_ble_eq_true rfl⟩) (oO_k g6).1 (cc_o10 (oO_k g6).2) rfl rfl hl.1 rfl (lv_room (Nat.le_of_ble_eq_true rfl)) dX11_beam_57 hcs (fun q10 T8 H locs hq G => ?_)
  obtain ⟨hq1, hq2⟩ := hq
  rw [hq2] at G
  refine lv_tol hq1 ?_
  clear hq1 hq2
  have cp1 := cpr_sp cp0 (s_X10_value eT7)
  refine lv_l2i (v := r9.toInt32) hx hb dX11_beam_60 rfl ?_
  refine lv_topi (fun v11 ev11 => ?_)
  have h := elet_at ev11 h
  clear ev11
  exact (Nat.succ_ne_zero _ (congrArg Prod.fst (Option.some.inj h)).symm).elim
set_option maxHeartbeats 4000000 in
set_option maxRecDepth 100000 in
theorem b_X11_beam (l : Launch) (hst : l.stackTraces = false) (D : va_G) (cI cJ cZ cMic cSrc cSt cAI cAJ : ClassId) (ad : Nat → Nat) (T : AT) (o : Nat) (a0 : Int32) (a1 : Int32) {e1 : Nat} {r1 : Int32} {T1 : AT} (h : g_X11_beam T o a0 a1 = some (e1 + 1, r1, T1)) (hrc : RC T) (h_o : o < T.1) : kAXi l yX11_beam (Cond.code yX11_beam cX11_beam 3 (some .int) :: wsA) 8 123 cI cJ cZ cMic cSrc cSt cAI cAJ D ad T [.ref (ad o), .int a0, .int a1] e1 T1 := by
  intro sz
  refine vx_ofW (cc := cX11_beam) (maxL := 3) (ret := (some .int)) (by decide) rfl ?_
  intro p e s m args below meth c s₁ B hml htab hv
  obtain ⟨rfl, hsz, hP, hK, hD0, hX, hN⟩ := hv
  have hx := B.exec
  have hb := B.bytes
  have hr := B.returns
  have hts := atoms_spec (ws := (Cond.code yX11_beam cX11_beam 3 (some .int) :: wsA)) B.pre
  have hown : s.vm.findClass RX11 = some m.cls := findClass_of_methodNamed B.named
  have hlocks := B.notSynchronized
  subst hsz
  have hD := hD0.self (sz := s.heap.size)
  generalize hAe : va_A (cW ad T.1 (cc cI cJ cZ cMic cSrc cSt cAI cAJ ad T)) s.heap.size = A at hD hX ⊢
  have hA : ∀ q : Nat, s.heap.size ≤ q → A q := fun q h => by rw [← hAe]; exact Or.inr h
  have G : gC cI cJ cZ cMic cSrc cSt cAI cAJ D ad A s.heap s.heap [] T := ⟨hP, hD, va_S.rf⟩
  have E : cE p c cX11_beam s m ([.ref (ad o), .int a0, .int a1] : List Value).toArray (Cond.code yX11_beam cX11_beam 3 (some .int) :: wsA) D RX11 (CT cI cJ cZ cMic cSrc cSt cAI cAJ) := ⟨hx, hb, hts, hown, hK⟩
  have htab : ∀ x ∈ c.exceptionTable.toList, False := fun x hx => htab x hx
  have hl := lv_entry ([.ref (ad o), .int a0, .int a1]) (n := 3) (Nat.le_of_ble_eq_true rfl)
  rw [lg_entry_eq]
  generalize (lg_sl ([.ref (ad o), .int a0, .int a1]) ++ List.replicate (3 - (lg_sl ([.ref (ad o), .int a0, .int a1])).length) Slot.unset).toArray = ls at hl ⊢
  have hl : lv_has ls 3 [(0, .ref (ad o)), (1, .int a0), (2, .int a1)] := hl
  have hgl := GL.rf T
  have had : ∀ n, n < T.1 → ad n = ad n := fun _ _ => rfl
  have hT1 := s_X11_beam h
  have hcs := cs_okx hgl hT1
  have hcx := cs_okx1 hgl hT1
  refine w_cast (Nat.sub_self T.1).symm (Nat.sub_self (sg T)).symm ?_
  have cp0 := cpr0 hrc
  unfold g_X11_beam at h
  refine lv_aload_n hx hb dX11_beam_0 rfl (lv_at hl 0 rfl) ?_
  obtain ⟨g2, h⟩ := oif_some h
  rcases othr_t h with ⟨r0, eT3⟩ | ⟨r5, T3, eT3, h⟩
  · refine q_xvv (As := []) (rest := []) E G hA hX hN hml (x_X11_needCamera l hst D cI cJ cZ cMic cSrc cSt cAI cAJ ad T o eT3) (cwV 0 hts (gaV qA_728 qA_729 qA_730 qA_131 qA_731) rfl rfl rfl (by decide +kernel) ⟨Nat.le_of_ble_eq_true rfl, Nat.le_of_ble_eq_true rfl⟩) (oO_k g2).1 (cc_o11 (oO_k g2).2) rfl rfl hl.1 rfl (lv_room (Nat.le_of_ble_eq_true rfl)) dX11_beam_1 hcx (fun E9 ce q9 T9 H locs hp G hce hcv hcl => ?_)
    obtain ⟨hE, hT⟩ := hp
    subst hE
    rw [hT] at G
    exact vx_out (fun x hx => (htab x hx).elim) hlocks hce hcv hcl (fun t ht hvm => ⟨(T1, ad), trivial, ⟨⟨rfl, rfl, had⟩, by rw [ht]; exact G.1, va_K.moved hvm hK, G.2.1⟩, G.2.2.F ht⟩) G.2.2.2.2 hcx.1 hcx.2
  refine q_cvv (As := []) (rest := []) E G hA hX hN hml (u_X11_needCamera l hst D cI cJ cZ cMic cSrc cSt cAI cAJ ad T o eT3) (cwV 0 hts (gaV qA_728 qA_729 qA_730 qA_131 qA_731) rfl rfl rfl (by decide +kernel) ⟨Nat.le_of_ble_eq_true rfl, Nat.le_of_ble_eq_true rfl⟩) (oO_k g2).1 (cc_o11 (oO_k g2).2) rfl rfl hl.1 rfl (lv_room (Nat.le_of_ble_eq_true rfl)) dX11_beam_1 hcs (fun T4 H locs hq G => ?_)
  rw [hq] at G
  clear hq
  have cp1 := cpr_sp cp0 (s_X11_needCamera eT3)
  refine lv_aload_n hx hb dX11_beam_4 rfl (lv_at hl 0 rfl) ?_
  refine lv_iload_n hx hb dX11_beam_5 rfl (lv_at hl 1 rfl) ?_
  obtain ⟨g7, h⟩ := oif_some h
  rcases othr_t h with ⟨r0, eT8⟩ | ⟨r10, T8, eT8, h⟩
  · refine q_xvv (As := [.int a0]) (rest := []) E G hA hX hN hml (x_X11_needCell l hst D cI cJ cZ cMic cSrc cSt cAI cAJ ad T3 o a0 eT8) (cwV 1 hts (gaV qA_752 qA_753 qA_754 qA_131 qA_755) rfl rfl rfl (by decide +kernel) ⟨Nat.le_of_ble_eq_true rfl, Nat.le_of_ble_eq_true rfl⟩) (oO_k g7).1 (cc_o11 (oO_k g7).2) rfl rfl hl.1 rfl (lv_room (Nat.le_of_ble_eq_true rfl)) dX11_beam_6 hcx (fun E9 ce q9 T9 H locs hp G hce hcv hcl => ?_)
    obtain ⟨hE, hT⟩ := hp
    subst hE
    rw [hT] at G
    exact vx_out (fun x hx => (htab x hx).elim) hlocks hce hcv hcl (fun t ht hvm => ⟨(T1, ad), trivial, ⟨⟨rfl, rfl, had⟩, by rw [ht]; exact G.1, va_K.moved hvm hK, G.2.1⟩, G.2.2.F ht⟩) G.2.2.2.2 hcx.1 hcx.2
  refine q_cvv (As := [.int a0]) (rest := []) E G hA hX hN hml (u_X11_needCell l hst D cI cJ cZ cMic cSrc cSt cAI cAJ ad T3 o a0 eT8) (cwV 1 hts (gaV qA_752 qA_753 qA_754 qA_131 qA_755) rfl rfl rfl (by decide +kernel) ⟨Nat.le_of_ble_eq_true rfl, Nat.le_of_ble_eq_true rfl⟩) (oO_k g7).1 (cc_o11 (oO_k g7).2) rfl rfl hl.1 rfl (lv_room (Nat.le_of_ble_eq_true rfl)) dX11_beam_6 hcs (fun T9 H locs hq G => ?_)
  rw [hq] at G
  clear hq
  have cp2 := cpr_sp cp1 (s_X11_needCell eT8)
  refine lv_iload_n hx hb dX11_beam_9 rfl (lv_at hl 2 rfl) ?_
  refine lv_iconst (v := 0) hx hb dX11_beam_10 (by decide) ?_
  refine lv_aload_n hx hb dX11_beam_11 rfl (lv_at hl 0 rfl) ?_
  obtain ⟨g12, h⟩ := oif_some h
  obtain ⟨n13, en13, h⟩ := obind_some h
  have h_n13 : n13 < T.1 := by rw [← cp2.1]; exact cp2.2.2 _ _ _ en13
  refine c_get E G o 6 (v := .ref (ad n13)) (oO_k g12).1 (cc_o11 (oO_k g12).2) rfl (fun w h => .tail _ (iA_23 h)) (by decide) (.tail _ qA_664) rfl (by rw [en13]; rfl) dX11_beam_12 ?_
  clear en13
  refine lv_aload_n hx hb dX11_beam_15 rfl (lv_at hl 0 rfl) ?_
  obtain ⟨g14, h⟩ := oif_some h
  obtain ⟨n15, en15, h⟩ := obind_some h
  have h_n15 : n15 < T.1 := by rw [← cp2.1]; exact cp2.2.2 _ _ _ en15
  refine c_get E G o 14 (v := .ref (ad n15)) (oO_k g14).1 (cc_o11 (oO_k g14).2) rfl (fun w h => .tail _ (iA_23 h)) (by decide) (.tail _ qA_675) rfl (by rw [en15]; rfl) dX11_beam_16 ?_
  clear en15
  obtain ⟨g16, h⟩ := oif_some h
  obtain ⟨n17, en17, h⟩ := obind_some h
  have h_n17 : n17 < T.1 := by rw [← cp2.1]; exact cp2.2.2 _ _ _ en17
  refine c_get E G n15 17 (v := .ref (ad n17)) (oO_k g16).1 (cc_o6 (oO_k g16).2) rfl (fun w h => .tail _ (iA_14 h)) (by decide) (.tail _ qA_778) rfl (by rw [en17]; rfl) dX11_beam_19 ?_
  clear en17
  refine lv_iload_n hx hb dX11_beam_22 rfl (lv_at hl 1 rfl) ?_
  obtain ⟨g18, h⟩ := oif_some h
  obtain ⟨g19, h⟩ := oif_some h
  obtain ⟨n20, en20, h⟩ := obind_some h
  have h_n20 : n20 < T.1 := by rw [← cp2.1]; exact cp2.2.2 _ _ _ en20
  refine c_alda E G n17 6 (k := a0.toNatClampNeg) (v := .ref (ad n20)) (aA_k g18).1 (cc_a106 (aA_k g18).2.1) rfl (inb_k g19).1 (inb_k g19).2 (aA_k g18).2.2 (by show va_rf ((T8.2.2.2.2 n17 a0.toNatClampNeg).map ad) = _; rw [en20]; rfl) dX11_beam_23 ?_
  clear en20
  obtain ⟨g21, h⟩ := oif_some h
  obtain ⟨r24, T22, eT22, h⟩ := obind2_some h
  refine q_cvi (As := [.ref (ad n20)]) (rest := [.int 0, .int a1]) E G hA hX hN hml (u_X8_windowOf l hst D cI cJ cZ cMic cSrc cSt cAI cAJ ad T8 n13 n20 eT22) (cwV 1 hts (gaV qA_787 qA_54 qA_55 qA_47 qA_56) rfl rfl rfl (by decide +kernel) ⟨Nat.le_of_ble_eq_true rfl, Nat.le_of_ble_eq_true rfl⟩) (oO_k g21).1 (cc_o8 (oO_k g21).2) rfl rfl hl.1 rfl (lv_room (Nat.le_of_ble_eq_true rfl)) dX11_beam_24 hcs (fun q25 T23 H locs hq G => ?_)
  obtain ⟨hq1, hq2⟩ := hq
  rw [hq2] at G
  refine lv_to hq1 ?_
  clear hq1 hq2
  have cp3 := cpr_sp cp2 (s_X8_windowOf eT22)
  refine lv_iconst (v := 1) hx hb dX11_beam_27 (by decide) ?_
  refine lv_isub hx hb dX11_beam_28 ?_
  refine lv_topi (fun v26 ev26 => ?_)
  have h := elet_at ev26 h
  clear ev26
  rcases othr_t h with ⟨r0, eT27⟩ | ⟨r29, T27, eT27, h⟩
  · refine q_xsv (As := [.int a1, .int 0, .int v26]) (rest := []) E G hA hX hN hml (x_X11_needRange l hst D cI cJ cZ cMic cSrc cSt cAI cAJ ad T22 a1 (0 : Int32) v26 eT27) (cwS 3 hts (gaS qA_741 qA_742 qA_131 qA_743) rfl rfl rfl (by decide +kernel) ⟨Nat.le_of_ble_eq_true rfl, Nat.le_of_ble_eq_true rfl⟩) rfl hl.1 rfl (lv_room (Nat.le_of_ble_eq_true rfl)) dX11_beam_29 hcx (fun E9 ce q9 T9 H locs hp G hce hcv hcl => ?_)
    obtain ⟨hE, hT⟩ := hp
    subst hE
    rw [hT] at G
    exact vx_out (fun x hx => (htab x hx).elim) hlocks hce hcv hcl (fun t ht hvm => ⟨(T1, ad), trivial, ⟨⟨rfl, rfl, had⟩, by rw [ht]; exact G.1, va_K.moved hvm hK, G.2.1⟩, G.2.2.F ht⟩) G.2.2.2.2 hcx.1 hcx.2
  refine q_csv (As := [.int a1, .int 0, .int v26]) (rest := []) E G hA hX hN hml (u_X11_needRange l hst D cI cJ cZ cMic cSrc cSt cAI cAJ ad T22 a1 (0 : Int32) v26 eT27) (cwS 3 hts (gaS qA_741 qA_742 qA_131 qA_743) rfl rfl rfl (by decide +kernel) ⟨Nat.le_of_ble_eq_true rfl, Nat.le_of_ble_eq_true rfl⟩) rfl hl.1 rfl (lv_room (Nat.le_of_ble_eq_true rfl)) dX11_beam_29 hcs (fun T28 H locs hq G => ?_)
  rw [hq] at G
  clear hq
  have cp4 := cpr_sp cp3 (s_X11_needRange eT27)
  refine lv_aload_n hx hb dX11_beam_32 rfl (lv_at hl 0 rfl) ?_
  obtain ⟨g31, h⟩ := oif_some h
  obtain ⟨n32, en32, h⟩ := obind_some h
  have h_n32 : n32 < T.1 := by rw [← cp4.1]; exact cp4.2.2 _ _ _ en32
  refine c_get E G o 6 (v := .ref (ad n32)) (oO_k g31).1 (cc_o11 (oO_k g31).2) rfl (fun w h => .tail _ (iA_23 h)) (by decide) (.tail _ qA_664) rfl (by rw [en32]; rfl) dX11_beam_33 ?_
  clear en32
  refine lv_aload_n hx hb dX11_beam_36 rfl (lv_at hl 0 rfl) ?_
  obtain ⟨g33, h⟩ := oif_some h
  obtain ⟨n34, en34, h⟩ := obind_some h
  have h_n34 : n34 < T.1 := by rw [← cp4.1]; exact cp4.2.2 _ _ _ en34
  refine c_get E G o 14 (v := .ref (ad n34)) (oO_k g33).1 (cc_o11 (oO_k g33).2) rfl (fun w h => .tail _ (iA_23 h)) (by decide) (.tail _ qA_675) rfl (by rw [en34]; rfl) dX11_beam_37 ?_
  clear en34
  obtain ⟨g35, h⟩ := oif_some h
  obtain ⟨n36, en36, h⟩ := obind_some h
  have h_n36 : n36 < T.1 := by rw [← cp4.1]; exact cp4.2.2 _ _ _ en36
  refine c_get E G n34 17 (v := .ref (ad n36)) (oO_k g35).1 (cc_o6 (oO_k g35).2) rfl (fun w h => .tail _ (iA_14 h)) (by decide) (.tail _ qA_778) rfl (by rw [en36]; rfl) dX11_beam_40 ?_
  clear en36
  refine lv_iload_n hx hb dX11_beam_43 rfl (lv_at hl 1 rfl) ?_
  obtain ⟨g37, h⟩ := oif_some h
  obtain ⟨g38, h⟩ := oif_some h
  obtain ⟨n39, en39, h⟩ := obind_some h
  have h_n39 : n39 < T.1 := by rw [← cp4.1]; exact cp4.2.2 _ _ _ en39
  refine c_alda E G n36 6 (k := a0.toNatClampNeg) (v := .ref (ad n39)) (aA_k g37).1 (cc_a106 (aA_k g37).2.1) rfl (inb_k g38).1 (inb_k g38).2 (aA_k g37).2.2 (by show va_rf ((T27.2.2.2.2 n36 a0.toNatClampNeg).map ad) = _; rw [en39]; rfl) dX11_beam_44 ?_
  clear en39
  refine lv_iload_n hx hb dX11_beam_45 rfl (lv_at hl 2 rfl) ?_
  obtain ⟨g40, h⟩ := oif_some h
  obtain ⟨T41, eT41, h⟩ := obind_some h
  have hg2 := s_X8_focus eT41
  have hrc2 := hg2.2.2 cp4.2.2
  have hT2 := s_X11_beam_b49 _ _ h
  refine q_avv (As := [.ref (ad n39), .int a1]) (rest := []) E G hA hX hN hml (a_X8_focus l hst D cI cJ cZ cMic cSrc cSt cAI cAJ ad T27 n32 n39 a1 eT41 cp4.2.2 (by rw [cp4.1]; exact h_n32) (by rw [cp4.1]; exact h_n39)) (cwV 2 hts (gaV qA_796 qA_70 qA_71 qA_47 qA_72) rfl rfl rfl (by decide +kernel) ⟨Nat.le_of_ble_eq_true rfl, Nat.le_of_ble_eq_true rfl⟩) (oO_k g40).1 (cc_o8 (oO_k g40).2) rfl rfl hl.1 rfl (lv_room (Nat.le_of_ble_eq_true rfl)) dX11_beam_46 (cs_avx hgl cp4 hg2 hT2) (fun ad2 H locs hga G => ?_)
  refine w_cast (c2 := T41.1 - T.1) (s2 := sg T41 - sg T) (cs_f1 hgl cp4 hg2) (cs_f2 hgl cp4 hg2) ?_
  have hl := lv_sub hl [0] rfl
  rw [show ad o = ad2 o from (hga o (by rw [cp4.1]; exact h_o)).symm] at hl
  exact b_X11_beam_b49 E hA hX hN hml hst htab hlocks (fun ad H locs t had G hvm h1 h2 => ⟨(T1, ad), trivial, ⟨⟨rfl, rfl, had⟩, (c_thrown G hK hvm h1 h2).1⟩, (c_thrown G hK hvm h1 h2).2⟩) _ _ _ _ _ _ h (GL.tr (gl_cpr hgl cp4) hg2) hrc2 (fun n hn => (hga n (by rw [cp4.1]; exact Nat.lt_of_lt_of_le hn hgl.1)).trans (had n hn)) (Nat.lt_of_lt_of_le (by rw [cp4.1]; exact h_o) hg2.1) G hl
def g_X11_powersNow_b33  (T : AT) (l0 : Nat) : Option (Nat × AT) := oif (oO T l0 11 = true) <| obind (T.2.2.2.2 l0 4) fun n3 => some (n3, T)
def g_X11_powersNow_b25  (T : AT) (l0 : Nat) : Option (Nat × AT) := oif (oO T l0 11 = true) <| obind (T.2.2.2.2 l0 4) fun n3 => oif (oO T n3 4 = true) <| elet (uI T n3 0 1) fun T5 => g_X11_powersNow_b33 T5 l0
def g_X11_powersNow (T : AT) (o : Nat) : Option (Nat × AT) := oif (oO T o 11 = true) <| obind (T.2.2.2.2 o 4) fun n3 => oif (oO T n3 4 = true) <| elet (T.2.2.1 n3 0) fun v5 => if v5 = 0 then (oif (oO T o 11 = true) <| obind (T.2.2.2.2 o 4) fun n8 => oif (oO T o 11 = true) <| obind (T.2.2.2.2 o 14) fun n10 => oif (oO T o 11 = true) <| obind (T.2.2.2.2 o 6) fun n12 => oif (oO T n8 4 = true) <| obind (g_X4_measure T n8 n10 n12) fun T14 => g_X11_powersNow_b25 T14 o) else (g_X11_powersNow_b33 T o)
set_option maxHeartbeats 4000000 in
set_option maxRecDepth 100000 in
theorem s_X11_powersNow_b33 {r1 : Nat} {T1 : AT} : ∀ (T : AT) (l0 : Nat), g_X11_powersNow_b33 T l0 = some (r1, T1) → GL T T1 := by
  intro T l0 h
  have p0 := GL.rf T
  unfold g_X11_powersNow_b33 at h
  obtain ⟨g2, h⟩ := oif_some h
  obtain ⟨n3, en3, h⟩ := obind_some h
  rw [← (osome2 h).2]
  exact p0
set_option maxHeartbeats 4000000 in
set_option maxRecDepth 100000 in
theorem s_X11_powersNow_b25 {r1 : Nat} {T1 : AT} : ∀ (T : AT) (l0 : Nat), g_X11_powersNow_b25 T l0 = some (r1, T1) → GL T T1 := by
  intro T l0 h
  have p0 := GL.rf T
  unfold g_X11_powersNow_b25 at h
  obtain ⟨g2, h⟩ := oif_some h
  obtain ⟨n3, en3, h⟩ := obind_some h
  obtain ⟨g4, h⟩ := oif_some h
  obtain ⟨T5, eT5, h⟩ := elet_some h
  have p1 : GL T T5 := GL.tr p0 (by rw [eT5]; exact gl_sp sp_uI)
  exact GL.tr p1 (s_X11_powersNow_b33 _ _ h)
set_option maxHeartbeats 4000000 in
set_option maxRecDepth 100000 in
theorem s_X11_powersNow {T : AT} {o : Nat} {r1 : Nat} {T1 : AT} (h : g_X11_powersNow T o = some (r1, T1)) : GL T T1 := by
  have p0 := GL.rf T
  unfold g_X11_powersNow at h
  obtain ⟨g2, h⟩ := oif_some h
  obtain ⟨n3, en3, h⟩ := obind_some h
  obtain ⟨g4, h⟩ := oif_some h
  obtain ⟨v5, -, h⟩ := elet_some h
  rcases oif_or h with ⟨c6, h⟩ | ⟨c6, h⟩
  · have h := h
    obtain ⟨g7, h⟩ := oif_some h
    obtain ⟨n8, en8, h⟩ := obind_some h
    obtain ⟨g9, h⟩ := oif_some h
    obtain ⟨n10, en10, h⟩ := obind_some h
    obtain ⟨g11, h⟩ := oif_some h
    obtain ⟨n12, en12, h⟩ := obind_some h
    obtain ⟨g13, h⟩ := oif_some h
    obtain ⟨T14, eT14, h⟩ := obind_some h
    have p1 : GL T T14 := GL.tr p0 (s_X4_measure eT14)
    exact GL.tr p1 (s_X11_powersNow_b25 _ _ h)
  · have h := h
    exact GL.tr p0 (s_X11_powersNow_b33 _ _ h)
set_option maxHeartbeats 4000000 in
set_option maxRecDepth 100000 in
theorem a_X11_powersNow_b33 {p : Program} {l : Launch} {e : Env} {s : State} {m : MethodId} {args : Array Value} {below : List Frame} {meth : Method} {c : Code} {Q : State → Prop} {D : va_G} {A : Nat → Prop} {cI cJ cZ cMic cSrc cSt cAI cAJ : ClassId} {ad0 : Nat → Nat} {T0 : AT} {r1 : Nat} {T1 : AT} (E : cE p c cX11_powersNow s m args (Cond.code yX11_powersNow cX11_powersNow 1 (some (.object "AcousticCamera$PowerMap")) :: wsA) D RX11 (CT cI cJ cZ cMic cSrc cSt cAI cAJ)) (hA : ∀ q : Nat, s.heap.size ≤ q → A q) (hX : xT A s) (hN : nX s) (hml : c.maxLocals = 1) (hst : l.stackTraces = false) (kr37 : ∀ (ad : Nat → Nat) (H : Heap) (locs : List Loc) (ls : Array Slot), (∀ n, n < T0.1 → ad n = ad0 n) → gC cI cJ cZ cMic cSrc cSt cAI cAJ D ad A s.heap H locs T1 → W p l e { frames := 6, cells := T1.1 - T0.1, slots := sg T1 - sg T0, locals := 129 } s m args below meth c H locs (T1.1 - T0.1) (sg T1 - sg T0) Q (F0 m 37 ls [.ref (ad r1)])) : ∀ (T : AT) (ad : Nat → Nat) (H : Heap) (locs : List Loc) (ls : Array Slot) (l0 : Nat), g_X11_powersNow_b33 T l0 = some (r1, T1) → GL T0 T → RC T → (∀ n, n < T0.1 → ad n = ad0 n) → l0 < T.1 → gC cI cJ cZ cMic cSrc cSt cAI cAJ D ad A s.heap H locs T → lv_has ls 1 [(0, .ref (ad l0))] → W p l e { frames := 6, cells := T1.1 - T0.1, slots := sg T1 - sg T0, locals := 129 } s m args below meth c H locs (T.1 - T0.1) (sg T - sg T0) Q (F0 m 33 ls []) := by
  have hx := E.1
  have hb := E.2.1
  have hts := E.2.2.1
  have hown := E.2.2.2.1
  have hK := E.2.2.2.2
  intro T ad H locs ls l0 h hgl hrc had h_l0 G hl
  have hT1 := s_X11_powersNow_b33 _ _ h
  have hcs := cs_ok hgl hT1
  have cp0 := cpr0 hrc
  unfold g_X11_powersNow_b33 at h
  refine lv_aload_n hx hb dX11_powersNow_33 rfl (lv_at hl 0 rfl) ?_
  obtain ⟨g2, h⟩ := oif_some h
  obtain ⟨n3, en3, h⟩ := obind_some h
  have h_n3 : n3 < T.1 := by rw [← cp0.1]; exact cp0.2.2 _ _ _ en3
  refine c_get E G l0 4 (v := .ref (ad n3)) (oO_k g2).1 (cc_o11 (oO_k g2).2) rfl (fun w h => .tail _ (iA_23 h)) (by decide) (.tail _ qA_660) rfl (by rw [en3]; rfl) dX11_powersNow_34 ?_
  clear en3
  rw [(osome2 h).2] at G
  refine w_cast (c2 := T1.1 - T0.1) (s2 := sg T1 - sg T0) (by rw [← (osome2 h).2, cp0.1] <;> rfl) (by rw [← (osome2 h).2, sg_cpr cp0] <;> rfl) ?_
  rw [(osome2 h).1]
  exact kr37 ad _ _ _ had G
set_option maxHeartbeats 4000000 in
set_option maxRecDepth 100000 in
theorem a_X11_powersNow_b25 {p : Program} {l : Launch} {e : Env} {s : State} {m : MethodId} {args : Array Value} {below : List Frame} {meth : Method} {c : Code} {Q : State → Prop} {D : va_G} {A : Nat → Prop} {cI cJ cZ cMic cSrc cSt cAI cAJ : ClassId} {ad0 : Nat → Nat} {T0 : AT} {r1 : Nat} {T1 : AT} (E : cE p c cX11_powersNow s m args (Cond.code yX11_powersNow cX11_powersNow 1 (some (.object "AcousticCamera$PowerMap")) :: wsA) D RX11 (CT cI cJ cZ cMic cSrc cSt cAI cAJ)) (hA : ∀ q : Nat, s.heap.size ≤ q → A q) (hX : xT A s) (hN : nX s) (hml : c.maxLocals = 1) (hst : l.stackTraces = false) (kr37 : ∀ (ad : Nat → Nat) (H : Heap) (locs : List Loc) (ls : Array Slot), (∀ n, n < T0.1 → ad n = ad0 n) → gC cI cJ cZ cMic cSrc cSt cAI cAJ D ad A s.heap H locs T1 → W p l e { frames := 6, cells := T1.1 - T0.1, slots := sg T1 - sg T0, locals := 129 } s m args below meth c H locs (T1.1 - T0.1) (sg T1 - sg T0) Q (F0 m 37 ls [.ref (ad r1)])) : ∀ (T : AT) (ad : Nat → Nat) (H : Heap) (locs : List Loc) (ls : Array Slot) (l0 : Nat), g_X11_powersNow_b25 T l0 = some (r1, T1) → GL T0 T → RC T → (∀ n, n < T0.1 → ad n = ad0 n) → l0 < T.1 → gC cI cJ cZ cMic cSrc cSt cAI cAJ D ad A s.heap H locs T → lv_has ls 1 [(0, .ref (ad l0))] → W p l e { frames := 6, cells := T1.1 - T0.1, slots := sg T1 - sg T0, locals := 129 } s m args below meth c H locs (T.1 - T0.1) (sg T - sg T0) Q (F0 m 25 ls []) := by
  have hx := E.1
  have hb := E.2.1
  have hts := E.2.2.1
  have hown := E.2.2.2.1
  have hK := E.2.2.2.2
  intro T ad H locs ls l0 h hgl hrc had h_l0 G hl
  have hT1 := s_X11_powersNow_b25 _ _ h
  have hcs := cs_ok hgl hT1
  have cp0 := cpr0 hrc
  unfold g_X11_powersNow_b25 at h
  refine lv_aload_n hx hb dX11_powersNow_25 rfl (lv_at hl 0 rfl) ?_
  obtain ⟨g2, h⟩ := oif_some h
  obtain ⟨n3, en3, h⟩ := obind_some h
  have h_n3 : n3 < T.1 := by rw [← cp0.1]; exact cp0.2.2 _ _ _ en3
  refine c_get E G l0 4 (v := .ref (ad n3)) (oO_k g2).1 (cc_o11 (oO_k g2).2) rfl (fun w h => .tail _ (iA_23 h)) (by decide) (.tail _ qA_660) rfl (by rw [en3]; rfl) dX11_powersNow_26 ?_
  clear en3
  refine lv_iconst (v := 1) hx hb dX11_powersNow_29 (by decide) ?_
  obtain ⟨g4, h⟩ := oif_some h
  refine c_put E G n3 0 (v := .int 1) (oO_k g4).1 (cc_o4 (oO_k g4).2) rfl (fun w h => .tail _ (iA_21 h)) tyX4 tyX4_ok nmX4 (by decide) (.tail _ qA_704) ⟨rfl, rfl, rfl⟩ rfl rfl (Nat.le_of_ble_eq_true rfl) dX11_powersNow_30 (fun H locs G => ?_)
  have G := gC_up_i (f := upd (T.2.2.1 n3) 0 1) (by rw [(oO_k g4).2]; rfl) G
  obtain ⟨T5, eT5, h⟩ := elet_some h
  have G : gC cI cJ cZ cMic cSrc cSt cAI cAJ D ad A s.heap H locs T5 := by rw [eT5]; exact G
  have cp1 := show CPR T T5 from by rw [eT5]; exact cpr_sp cp0 sp_uI
  clear eT5
  have hl := lv_sub hl [0] rfl
  refine w_cast (c2 := T5.1 - T0.1) (s2 := sg T5 - sg T0) (by rw [cp1.1] <;> rfl) (by rw [sg_cpr cp1] <;> rfl) ?_
  exact a_X11_powersNow_b33 E hA hX hN hml hst kr37 _ _ _ _ _ _ h (gl_cpr hgl cp1) cp1.2.2 had (by rw [cp1.1]; exact h_l0) G hl
set_option maxHeartbeats 4000000 in
set_option maxRecDepth 100000 in
theorem a_X11_powersNow (l : Launch) (hst : l.stackTraces = false) (D : va_G) (cI cJ cZ cMic cSrc cSt cAI cAJ : ClassId) (ad : Nat → Nat) (T : AT) (o : Nat) {r1 : Nat} {T1 : AT} (h : g_X11_powersNow T o = some (r1, T1)) (hrc : RC T) (h_o : o < T.1) : kAr l yX11_powersNow (Cond.code yX11_powersNow cX11_powersNow 1 (some (.object "AcousticCamera$PowerMap")) :: wsA) 6 129 cI cJ cZ cMic cSrc cSt cAI cAJ D ad T [.ref (ad o)] r1 T1 := by
  intro sz
  refine Met.ofW (cc := cX11_powersNow) (maxL := 1) (ret := (some (.object "AcousticCamera$PowerMap"))) (by decide) rfl ?_
  intro p e s m args below meth c s₁ B hml hv
  obtain ⟨rfl, hsz, hP, hK, hD0, hX, hN⟩ := hv
  have hx := B.exec
  have hb := B.bytes
  have hr := B.returns
  have hts := atoms_spec (ws := (Cond.code yX11_powersNow cX11_powersNow 1 (some (.object "AcousticCamera$PowerMap")) :: wsA)) B.pre
  have hown : s.vm.findClass RX11 = some m.cls := findClass_of_methodNamed B.named
  have hlocks := B.notSynchronized
  subst hsz
  have hD := hD0.self (sz := s.heap.size)
  generalize hAe : va_A (cW ad T.1 (cc cI cJ cZ cMic cSrc cSt cAI cAJ ad T)) s.heap.size = A at hD hX ⊢
  have hA : ∀ q : Nat, s.heap.size ≤ q → A q := fun q h => by rw [← hAe]; exact Or.inr h
  have G : gC cI cJ cZ cMic cSrc cSt cAI cAJ D ad A s.heap s.heap [] T := ⟨hP, hD, va_S.rf⟩
  have E : cE p c cX11_powersNow s m ([.ref (ad o)] : List Value).toArray (Cond.code yX11_powersNow cX11_powersNow 1 (some (.object "AcousticCamera$PowerMap")) :: wsA) D RX11 (CT cI cJ cZ cMic cSrc cSt cAI cAJ) := ⟨hx, hb, hts, hown, hK⟩
  have hl := lv_entry ([.ref (ad o)]) (n := 1) (Nat.le_of_ble_eq_true rfl)
  rw [lg_entry_eq]
  generalize (lg_sl ([.ref (ad o)]) ++ List.replicate (1 - (lg_sl ([.ref (ad o)])).length) Slot.unset).toArray = ls at hl ⊢
  have hl : lv_has ls 1 [(0, .ref (ad o))] := hl
  have hgl := GL.rf T
  have had : ∀ n, n < T.1 → ad n = ad n := fun _ _ => rfl
  have hT1 := s_X11_powersNow h
  have hcs := cs_ok hgl hT1
  refine w_cast (Nat.sub_self T.1).symm (Nat.sub_self (sg T)).symm ?_
  have cp0 := cpr0 hrc
  unfold g_X11_powersNow at h
  refine lv_aload_n hx hb dX11_powersNow_0 rfl (lv_at hl 0 rfl) ?_
  obtain ⟨g2, h⟩ := oif_some h
  obtain ⟨n3, en3, h⟩ := obind_some h
  have h_n3 : n3 < T.1 := by rw [← cp0.1]; exact cp0.2.2 _ _ _ en3
  refine c_get E G o 4 (v := .ref (ad n3)) (oO_k g2).1 (cc_o11 (oO_k g2).2) rfl (fun w h => .tail _ (iA_23 h)) (by decide) (.tail _ qA_660) rfl (by rw [en3]; rfl) dX11_powersNow_1 ?_
  clear en3
  obtain ⟨g4, h⟩ := oif_some h
  refine c_get E G n3 0 (oO_k g4).1 (cc_o4 (oO_k g4).2) rfl (fun w h => .tail _ (iA_21 h)) (by decide) (.tail _ qA_704) rfl rfl dX11_powersNow_4 ?_
  refine lv_topi (fun v5 ev5 => ?_)
  have h := elet_at ev5 h
  clear ev5
  refine lv_if_ne (tgt := 33) hx hb dX11_powersNow_7 (by decide) (fun c6 => ?_) (fun c6 => ?_)
  · have h := oif_neg c6 h
    have hl := lv_sub hl [0] rfl
    refine w_cast (c2 := T.1 - T.1) (s2 := sg T - sg T) (by rw [cp0.1] <;> rfl) (by rw [sg_cpr cp0] <;> rfl) ?_
    exact a_X11_powersNow_b33 E hA hX hN hml hst (fun ad H locs ls had G => W.aret hx hb hr (.inl ⟨_, rfl⟩) (.inr ⟨_, rfl⟩) (fun t ht hW => ⟨⟨(T1, ad), ad r1, rfl, ⟨rfl, had⟩, ⟨rfl, ⟨by rw [ht]; exact G.1, va_K.moved hW.alike hK, G.2.1⟩⟩⟩, G.2.2.F ht⟩) G.2.2.2.2 dX11_powersNow_37) _ _ _ _ _ _ h (gl_cpr hgl cp0) cp0.2.2 had (by rw [cp0.1]; exact h_o) G hl
  · have h := oif_pos c6 h
    refine lv_aload_n hx hb dX11_powersNow_10 rfl (lv_at hl 0 rfl) ?_
    obtain ⟨g7, h⟩ := oif_some h
    obtain ⟨n8, en8, h⟩ := obind_some h
    have h_n8 : n8 < T.1 := by rw [← cp0.1]; exact cp0.2.2 _ _ _ en8
    refine c_get E G o 4 (v := .ref (ad n8)) (oO_k g7).1 (cc_o11 (oO_k g7).2) rfl (fun w h => .tail _ (iA_23 h)) (by decide) (.tail _ qA_660) rfl (by rw [en8]; rfl) dX11_powersNow_11 ?_
    clear en8
    refine lv_aload_n hx hb dX11_powersNow_14 rfl (lv_at hl 0 rfl) ?_
    obtain ⟨g9, h⟩ := oif_some h
    obtain ⟨n10, en10, h⟩ := obind_some h
    have h_n10 : n10 < T.1 := by rw [← cp0.1]; exact cp0.2.2 _ _ _ en10
    refine c_get E G o 14 (v := .ref (ad n10)) (oO_k g9).1 (cc_o11 (oO_k g9).2) rfl (fun w h => .tail _ (iA_23 h)) (by decide) (.tail _ qA_675) rfl (by rw [en10]; rfl) dX11_powersNow_15 ?_
    clear en10
    refine lv_aload_n hx hb dX11_powersNow_18 rfl (lv_at hl 0 rfl) ?_
    obtain ⟨g11, h⟩ := oif_some h
    obtain ⟨n12, en12, h⟩ := obind_some h
    have h_n12 : n12 < T.1 := by rw [← cp0.1]; exact cp0.2.2 _ _ _ en12
    refine c_get E G o 6 (v := .ref (ad n12)) (oO_k g11).1 (cc_o11 (oO_k g11).2) rfl (fun w h => .tail _ (iA_23 h)) (by decide) (.tail _ qA_664) rfl (by rw [en12]; rfl) dX11_powersNow_19 ?_
    clear en12
    obtain ⟨g13, h⟩ := oif_some h
    obtain ⟨T14, eT14, h⟩ := obind_some h
    have hg2 := s_X4_measure eT14
    have hrc2 := hg2.2.2 cp0.2.2
    have hT2 := s_X11_powersNow_b25 _ _ h
    refine q_avv (As := [.ref (ad n10), .ref (ad n12)]) (rest := []) E G hA hX hN hml (a_X4_measure l hst D cI cJ cZ cMic cSrc cSt cAI cAJ ad T n8 n10 n12 eT14 cp0.2.2 (by rw [cp0.1]; exact h_n8) (by rw [cp0.1]; exact h_n10) (by rw [cp0.1]; exact h_n12)) (cwV 2 hts (gaV qA_803 qA_804 qA_805 qA_426 qA_412) rfl rfl rfl (by decide +kernel) ⟨Nat.le_of_ble_eq_true rfl, Nat.le_of_ble_eq_true rfl⟩) (oO_k g13).1 (cc_o4 (oO_k g13).2) rfl rfl hl.1 rfl (lv_room (Nat.le_of_ble_eq_true rfl)) dX11_powersNow_22 (cs_av hgl cp0 hg2 hT2) (fun ad2 H locs hga G => ?_)
    refine w_cast (c2 := T14.1 - T.1) (s2 := sg T14 - sg T) (cs_f1 hgl cp0 hg2) (cs_f2 hgl cp0 hg2) ?_
    have hl := lv_sub hl [0] rfl
    rw [show ad o = ad2 o from (hga o (by rw [cp0.1]; exact h_o)).symm] at hl
    exact a_X11_powersNow_b25 E hA hX hN hml hst (fun ad H locs ls had G => W.aret hx hb hr (.inl ⟨_, rfl⟩) (.inr ⟨_, rfl⟩) (fun t ht hW => ⟨⟨(T1, ad), ad r1, rfl, ⟨rfl, had⟩, ⟨rfl, ⟨by rw [ht]; exact G.1, va_K.moved hW.alike hK, G.2.1⟩⟩⟩, G.2.2.F ht⟩) G.2.2.2.2 dX11_powersNow_37) _ _ _ _ _ _ h (GL.tr (gl_cpr hgl cp0) hg2) hrc2 (fun n hn => (hga n (by rw [cp0.1]; exact Nat.lt_of_lt_of_le hn hgl.1)).trans (had n hn)) (Nat.lt_of_lt_of_le (by rw [cp0.1]; exact h_o) hg2.1) G hl
def g_X11_power_b13  (T : AT) (s0 : Nat) (l1 : Int32) : Option (Nat × Int64 × AT) := oif (oO T s0 4 = true) <| obind (T.2.2.2.2 s0 1) fun n3 => oif (oO T n3 10 = true) <| obind2 (g_X10_value T n3 l1) fun r7 T5 => some (0, r7, T5)
def g_X11_power (T : AT) (o : Nat) (a0 : Int32) : Option (Nat × Int64 × AT) := oif (oO T o 11 = true) <| othr (g_X11_needCamera T o) 0 fun r5 T3 => oif (oO T3 o 11 = true) <| othr (g_X11_needCell T3 o a0) 0 fun r10 T8 => oif (oO T8 o 11 = true) <| obind2 (g_X11_powersNow T8 o) fun r14 T13 => oif (Nat.blt r14 T13.1 = true) <| g_X11_power_b13 T13 r14 a0
set_option maxHeartbeats 4000000 in
set_option maxRecDepth 100000 in
theorem s_X11_power_b13 {e1 : Nat} {r1 : Int64} {T1 : AT} : ∀ (T : AT) (s0 : Nat) (l1 : Int32), g_X11_power_b13 T s0 l1 = some (e1, r1, T1) → GL T T1 := by
  intro T s0 l1 h
  have p0 := GL.rf T
  unfold g_X11_power_b13 at h
  obtain ⟨g2, h⟩ := oif_some h
  obtain ⟨n3, en3, h⟩ := obind_some h
  obtain ⟨g4, h⟩ := oif_some h
  obtain ⟨r6, T5, eT5, h⟩ := obind2_some h
  have p1 : GL T T5 := GL.tr p0 (gl_sp (s_X10_value eT5))
  rw [← (osome3 h).2.2]
  exact p1
set_option maxHeartbeats 4000000 in
set_option maxRecDepth 100000 in
theorem s_X11_power {T : AT} {o : Nat} {a0 : Int32} {e1 : Nat} {r1 : Int64} {T1 : AT} (h : g_X11_power T o a0 = some (e1, r1, T1)) : GL T T1 := by
  have p0 := GL.rf T
  unfold g_X11_power at h
  obtain ⟨g2, h⟩ := oif_some h
  rcases othr_s h with ⟨k9, r9, e9, -⟩ | ⟨r4, T3, eT3, h⟩
  · exact GL.tr p0 (gl_sp (s_X11_needCamera e9))
  have p1 : GL T T3 := GL.tr p0 (gl_sp (s_X11_needCamera eT3))
  obtain ⟨g5, h⟩ := oif_some h
  rcases othr_s h with ⟨k9, r9, e9, -⟩ | ⟨r7, T6, eT6, h⟩
  · exact GL.tr p1 (gl_sp (s_X11_needCell e9))
  have p2 : GL T T6 := GL.tr p1 (gl_sp (s_X11_needCell eT6))
  obtain ⟨g8, h⟩ := oif_some h
  obtain ⟨r10, T9, eT9, h⟩ := obind2_some h
  obtain ⟨g11, h⟩ := oif_some h
  have p3 : GL T T9 := GL.tr p2 (s_X11_powersNow eT9)
  exact GL.tr p3 (s_X11_power_b13 _ _ _ h)
set_option maxHeartbeats 4000000 in
set_option maxRecDepth 100000 in
theorem a_X11_power_b13 {p : Program} {l : Launch} {e : Env} {s : State} {m : MethodId} {args : Array Value} {below : List Frame} {meth : Method} {c : Code} {Q : State → Prop} {D : va_G} {A : Nat → Prop} {cI cJ cZ cMic cSrc cSt cAI cAJ : ClassId} {ad0 : Nat → Nat} {T0 : AT} {r1 : Int64} {T1 : AT} (E : cE p c cX11_power s m args (Cond.code yX11_power cX11_power 2 (some .long) :: wsA) D RX11 (CT cI cJ cZ cMic cSrc cSt cAI cAJ)) (hA : ∀ q : Nat, s.heap.size ≤ q → A q) (hX : xT A s) (hN : nX s) (hml : c.maxLocals = 2) (hst : l.stackTraces = false) (kr20 : ∀ (ad : Nat → Nat) (H : Heap) (locs : List Loc) (ls : Array Slot), (∀ n, n < T0.1 → ad n = ad0 n) → gC cI cJ cZ cMic cSrc cSt cAI cAJ D ad A s.heap H locs T1 → W p l e { frames := 8, cells := T1.1 - T0.1, slots := sg T1 - sg T0, locals := 149 } s m args below meth c H locs (T1.1 - T0.1) (sg T1 - sg T0) Q (F0 m 20 ls [.long r1])) : ∀ (T : AT) (ad : Nat → Nat) (H : Heap) (locs : List Loc) (ls : Array Slot) (s0 : Nat) (l1 : Int32), g_X11_power_b13 T s0 l1 = some (0, r1, T1) → GL T0 T → RC T → (∀ n, n < T0.1 → ad n = ad0 n) → s0 < T.1 → gC cI cJ cZ cMic cSrc cSt cAI cAJ D ad A s.heap H locs T → lv_has ls 2 [(1, .int l1)] → W p l e { frames := 8, cells := T1.1 - T0.1, slots := sg T1 - sg T0, locals := 149 } s m args below meth c H locs (T.1 - T0.1) (sg T - sg T0) Q (F0 m 13 ls [.ref (ad s0)]) := by
  have hx := E.1
  have hb := E.2.1
  have hts := E.2.2.1
  have hown := E.2.2.2.1
  have hK := E.2.2.2.2
  intro T ad H locs ls s0 l1 h hgl hrc had h_s0 G hl
  have hT1 := s_X11_power_b13 _ _ _ h
  have hcs := cs_ok hgl hT1
  have cp0 := cpr0 hrc
  unfold g_X11_power_b13 at h
  obtain ⟨g2, h⟩ := oif_some h
  obtain ⟨n3, en3, h⟩ := obind_some h
  have h_n3 : n3 < T.1 := by rw [← cp0.1]; exact cp0.2.2 _ _ _ en3
  refine c_get E G s0 1 (v := .ref (ad n3)) (oO_k g2).1 (cc_o4 (oO_k g2).2) rfl (fun w h => .tail _ (iA_21 h)) (by decide) (.tail _ qA_798) rfl (by rw [en3]; rfl) dX11_power_13 ?_
  clear en3
  refine lv_iload_n hx hb dX11_power_16 rfl (lv_at hl 0 rfl) ?_
  obtain ⟨g4, h⟩ := oif_some h
  obtain ⟨r7, T5, eT5, h⟩ := obind2_some h
  refine q_cvl (As := [.int l1]) (rest := []) E G hA hX hN hml (u_X10_value l hst D cI cJ cZ cMic cSrc cSt cAI cAJ ad T n3 l1 eT5) (cwV 1 hts (gaV qA_791 qA_792 qA_793 qA_6 qA_633) rfl rfl rfl (by decide +kernel) ⟨Nat.le_of_ble_eq_true rfl, Nat.le_of_ble_eq_true rfl⟩) (oO_k g4).1 (cc_o10 (oO_k g4).2) rfl rfl hl.1 rfl (lv_room (Nat.le_of_ble_eq_true rfl)) dX11_power_17 hcs (fun q8 T6 H locs hq G => ?_)
  obtain ⟨hq1, hq2⟩ := hq
  rw [hq2] at G
  refine lv_tol hq1 ?_
  clear hq1 hq2
  have cp1 := cpr_sp cp0 (s_X10_value eT5)
  rw [(osome3 h).2.2] at G
  refine w_cast (c2 := T1.1 - T0.1) (s2 := sg T1 - sg T0) (by rw [← (osome3 h).2.2, cp1.1] <;> rfl) (by rw [← (osome3 h).2.2, sg_cpr cp1] <;> rfl) ?_
  refine lv_tol ((osome3 h).2.1) ?_
  exact kr20 ad _ _ _ had G
set_option maxHeartbeats 4000000 in
set_option maxRecDepth 100000 in
theorem a_X11_power (l : Launch) (hst : l.stackTraces = false) (D : va_G) (cI cJ cZ cMic cSrc cSt cAI cAJ : ClassId) (ad : Nat → Nat) (T : AT) (o : Nat) (a0 : Int32) {r1 : Int64} {T1 : AT} (h : g_X11_power T o a0 = some (0, r1, T1)) (hrc : RC T) (h_o : o < T.1) : kAl l yX11_power (Cond.code yX11_power cX11_power 2 (some .long) :: wsA) 8 149 cI cJ cZ cMic cSrc cSt cAI cAJ D ad T [.ref (ad o), .int a0] r1 T1 := by
  intro sz
  refine Met.ofW (cc := cX11_power) (maxL := 2) (ret := (some .long)) (by decide) rfl ?_
  intro p e s m args below meth c s₁ B hml hv
  obtain ⟨rfl, hsz, hP, hK, hD0, hX, hN⟩ := hv
  have hx := B.exec
  have hb := B.bytes
  have hr := B.returns
  have hts := atoms_spec (ws := (Cond.code yX11_power cX11_power 2 (some .long) :: wsA)) B.pre
  have hown : s.vm.findClass RX11 = some m.cls := findClass_of_methodNamed B.named
  have hlocks := B.notSynchronized
  subst hsz
  have hD := hD0.self (sz := s.heap.size)
  generalize hAe : va_A (cW ad T.1 (cc cI cJ cZ cMic cSrc cSt cAI cAJ ad T)) s.heap.size = A at hD hX ⊢
  have hA : ∀ q : Nat, s.heap.size ≤ q → A q := fun q h => by rw [← hAe]; exact Or.inr h
  have G : gC cI cJ cZ cMic cSrc cSt cAI cAJ D ad A s.heap s.heap [] T := ⟨hP, hD, va_S.rf⟩
  have E : cE p c cX11_power s m ([.ref (ad o), .int a0] : List Value).toArray (Cond.code yX11_power cX11_power 2 (some .long) :: wsA) D RX11 (CT cI cJ cZ cMic cSrc cSt cAI cAJ) := ⟨hx, hb, hts, hown, hK⟩
  have hl := lv_entry ([.ref (ad o), .int a0]) (n := 2) (Nat.le_of_ble_eq_true rfl)
  rw [lg_entry_eq]
  generalize (lg_sl ([.ref (ad o), .int a0]) ++ List.replicate (2 - (lg_sl ([.ref (ad o), .int a0])).length) Slot.unset).toArray = ls at hl ⊢
  have hl : lv_has ls 2 [(0, .ref (ad o)), (1, .int a0)] := hl
  have hgl := GL.rf T
  have had : ∀ n, n < T.1 → ad n = ad n := fun _ _ => rfl
  have hT1 := s_X11_power h
  have hcs := cs_ok hgl hT1
  refine w_cast (Nat.sub_self T.1).symm (Nat.sub_self (sg T)).symm ?_
  have cp0 := cpr0 hrc
  unfold g_X11_power at h
  refine lv_aload_n hx hb dX11_power_0 rfl (lv_at hl 0 rfl) ?_
  obtain ⟨g2, h⟩ := oif_some h
  obtain ⟨r5, T3, eT3, h⟩ := othr_n h
  refine q_cvv (As := []) (rest := []) E G hA hX hN hml (u_X11_needCamera l hst D cI cJ cZ cMic cSrc cSt cAI cAJ ad T o eT3) (cwV 0 hts (gaV qA_728 qA_729 qA_730 qA_131 qA_731) rfl rfl rfl (by decide +kernel) ⟨Nat.le_of_ble_eq_true rfl, Nat.le_of_ble_eq_true rfl⟩) (oO_k g2).1 (cc_o11 (oO_k g2).2) rfl rfl hl.1 rfl (lv_room (Nat.le_of_ble_eq_true rfl)) dX11_power_1 hcs (fun T4 H locs hq G => ?_)
  rw [hq] at G
  clear hq
  have cp1 := cpr_sp cp0 (s_X11_needCamera eT3)
  refine lv_aload_n hx hb dX11_power_4 rfl (lv_at hl 0 rfl) ?_
  refine lv_iload_n hx hb dX11_power_5 rfl (lv_at hl 1 rfl) ?_
  obtain ⟨g7, h⟩ := oif_some h
  obtain ⟨r10, T8, eT8, h⟩ := othr_n h
  refine q_cvv (As := [.int a0]) (rest := []) E G hA hX hN hml (u_X11_needCell l hst D cI cJ cZ cMic cSrc cSt cAI cAJ ad T3 o a0 eT8) (cwV 1 hts (gaV qA_752 qA_753 qA_754 qA_131 qA_755) rfl rfl rfl (by decide +kernel) ⟨Nat.le_of_ble_eq_true rfl, Nat.le_of_ble_eq_true rfl⟩) (oO_k g7).1 (cc_o11 (oO_k g7).2) rfl rfl hl.1 rfl (lv_room (Nat.le_of_ble_eq_true rfl)) dX11_power_6 hcs (fun T9 H locs hq G => ?_)
  rw [hq] at G
  clear hq
  have cp2 := cpr_sp cp1 (s_X11_needCell eT8)
  refine lv_aload_n hx hb dX11_power_9 rfl (lv_at hl 0 rfl) ?_
  obtain ⟨g12, h⟩ := oif_some h
  obtain ⟨r14, T13, eT13, h⟩ := obind2_some h
  obtain ⟨g15, h⟩ := oif_some h
  have hg2 := s_X11_powersNow eT13
  have hrc2 := hg2.2.2 cp2.2.2
  have hT2 := s_X11_power_b13 _ _ _ h
  refine q_avr (As := []) (rest := []) E G hA hX hN hml (a_X11_powersNow l hst D cI cJ cZ cMic cSrc cSt cAI cAJ ad T8 o eT13 cp2.2.2 (by rw [cp2.1]; exact h_o)) (cwV 0 hts (gaV qA_799 qA_800 qA_801 qA_131 qA_802) rfl rfl rfl (by decide +kernel) ⟨Nat.le_of_ble_eq_true rfl, Nat.le_of_ble_eq_true rfl⟩) (oO_k g12).1 (cc_o11 (oO_k g12).2) rfl rfl hl.1 rfl (lv_room (Nat.le_of_ble_eq_true rfl)) dX11_power_10 (cs_av hgl cp2 hg2 hT2) (fun ad2 H locs hga G => ?_)
  refine w_cast (c2 := T13.1 - T.1) (s2 := sg T13 - sg T) (cs_f1 hgl cp2 hg2) (cs_f2 hgl cp2 hg2) ?_
  have h_new : r14 < T13.1 := Nat.le_of_ble_eq_true g15
  have hl := lv_sub hl [1] rfl
  exact a_X11_power_b13 E hA hX hN hml hst (fun ad H locs ls had G => W.lret (v := r1) hx hb hr (fun t ht hW => ⟨⟨r1, (T1, ad), rfl, ⟨rfl, rfl, had⟩, ⟨by rw [ht]; exact G.1, va_K.moved hW.alike hK, G.2.1⟩⟩, G.2.2.F ht⟩) G.2.2.2.2 dX11_power_20) _ _ _ _ _ _ _ h (GL.tr (gl_cpr hgl cp2) hg2) hrc2 (fun n hn => (hga n (by rw [cp2.1]; exact Nat.lt_of_lt_of_le hn hgl.1)).trans (had n hn)) h_new G hl
set_option maxHeartbeats 4000000 in
set_option maxRecDepth 100000 in
theorem b_X11_power_b13 {p : Program} {l : Launch} {e : Env} {s : State} {m : MethodId} {args : Array Value} {below : List Frame} {meth : Method} {c : Code} {Qc : Array Value → State → Outcome → State → Prop} {XC : String → State → State → Prop} {D : va_G} {A : Nat → Prop} {cI cJ cZ cMic cSrc cSt cAI cAJ : ClassId} {ad0 : Nat → Nat} {T0 : AT} {e1 : Nat} {r1 : Int64} {T1 : AT} (E : cE p c cX11_power s m args (Cond.code yX11_power cX11_power 2 (some .long) :: wsA) D RX11 (CT cI cJ cZ cMic cSrc cSt cAI cAJ)) (hA : ∀ q : Nat, s.heap.size ≤ q → A q) (hX : xT A s) (hN : nX s) (hml : c.maxLocals = 2) (hst : l.stackTraces = false) (htab : ∀ x ∈ c.exceptionTable.toList, False) (hlocks : meth.locks = false) (kx : ∀ (ad : Nat → Nat) (H : Heap) (locs : List Loc) (t : State), (∀ n, n < T0.1 → ad n = ad0 n) → gC cI cJ cZ cMic cSrc cSt cAI cAJ D ad A s.heap H locs T1 → s.vm.Alike t.vm → H.size ≤ t.heap.size → (∀ q, q < H.size → t.heap[q]? = H[q]?) → XC (exn e1) s t) : ∀ (T : AT) (ad : Nat → Nat) (H : Heap) (locs : List Loc) (ls : Array Slot) (s0 : Nat) (l1 : Int32), g_X11_power_b13 T s0 l1 = some (e1 + 1, r1, T1) → GL T0 T → RC T → (∀ n, n < T0.1 → ad n = ad0 n) → s0 < T.1 → gC cI cJ cZ cMic cSrc cSt cAI cAJ D ad A s.heap H locs T → lv_has ls 2 [(1, .int l1)] → W p l e { frames := 8, cells := T1.1 - T0.1 + 1, slots := sg T1 - sg T0 + 6, locals := 149 } s m args below meth c H locs (T.1 - T0.1) (sg T - sg T0) (vx_MQ below Qc XC args s (T1.1 - T0.1 + 1) (sg T1 - sg T0 + 6) A) (F0 m 13 ls [.ref (ad s0)]) := by
  have hx := E.1
  have hb := E.2.1
  have hts := E.2.2.1
  have hown := E.2.2.2.1
  have hK := E.2.2.2.2
  intro T ad H locs ls s0 l1 h hgl hrc had h_s0 G hl
  have hT1 := s_X11_power_b13 _ _ _ h
  have hcs := cs_okx hgl hT1
  have hcx := cs_okx1 hgl hT1
  have cp0 := cpr0 hrc
  unfold g_X11_power_b13 at h
  obtain ⟨g2, h⟩ := oif_some h
  obtain ⟨n3, en3, h⟩ := obind_some h
  have h_n3 : n3 < T.1 := by rw [← cp0.1]; exact cp0.2.2 _ _ _ en3
  refine c_get E G s0 1 (v := .ref (ad n3)) (oO_k g2).1 (cc_o4 (oO_k g2).2) rfl (fun w h => .tail _ (iA_21 h)) (by decide) (.tail _ qA_798) rfl (by rw [en3]; rfl) dX11_power_13 ?_
  clear en3
  refine lv_iload_n hx hb dX11_power_16 rfl (lv_at hl 0 rfl) ?_
  obtain ⟨g4, h⟩ := oif_some h
  obtain ⟨r7, T5, eT5, h⟩ := obind2_some h
  refine q_cvl (As := [.int l1]) (rest := []) E G hA hX hN hml (u_X10_value l hst D cI cJ cZ cMic cSrc cSt cAI cAJ ad T n3 l1 eT5) (cwV 1 hts (gaV qA_791 qA_792 qA_793 qA_6 qA_633) rfl rfl rfl (by decide +kernel) ⟨Nat.le_of_ble_eq_true rfl, Nat.le_of_ble_eq_true rfl⟩) (oO_k g4).1 (cc_o10 (oO_k g4).2) rfl rfl hl.1 rfl (lv_room (Nat.le_of_ble_eq_true rfl)) dX11_power_17 hcs (fun q8 T6 H locs hq G => ?_)
  obtain ⟨hq1, hq2⟩ := hq
  rw [hq2] at G
  refine lv_tol hq1 ?_
  clear hq1 hq2
  have cp1 := cpr_sp cp0 (s_X10_value eT5)
  exact (Nat.succ_ne_zero _ (congrArg Prod.fst (Option.some.inj h)).symm).elim
set_option maxHeartbeats 4000000 in
set_option maxRecDepth 100000 in
theorem b_X11_power (l : Launch) (hst : l.stackTraces = false) (D : va_G) (cI cJ cZ cMic cSrc cSt cAI cAJ : ClassId) (ad : Nat → Nat) (T : AT) (o : Nat) (a0 : Int32) {e1 : Nat} {r1 : Int64} {T1 : AT} (h : g_X11_power T o a0 = some (e1 + 1, r1, T1)) (hrc : RC T) (h_o : o < T.1) : kAXl l yX11_power (Cond.code yX11_power cX11_power 2 (some .long) :: wsA) 8 149 cI cJ cZ cMic cSrc cSt cAI cAJ D ad T [.ref (ad o), .int a0] e1 T1 := by
  intro sz
  refine vx_ofW (cc := cX11_power) (maxL := 2) (ret := (some .long)) (by decide) rfl ?_
  intro p e s m args below meth c s₁ B hml htab hv
  obtain ⟨rfl, hsz, hP, hK, hD0, hX, hN⟩ := hv
  have hx := B.exec
  have hb := B.bytes
  have hr := B.returns
  have hts := atoms_spec (ws := (Cond.code yX11_power cX11_power 2 (some .long) :: wsA)) B.pre
  have hown : s.vm.findClass RX11 = some m.cls := findClass_of_methodNamed B.named
  have hlocks := B.notSynchronized
  subst hsz
  have hD := hD0.self (sz := s.heap.size)
  generalize hAe : va_A (cW ad T.1 (cc cI cJ cZ cMic cSrc cSt cAI cAJ ad T)) s.heap.size = A at hD hX ⊢
  have hA : ∀ q : Nat, s.heap.size ≤ q → A q := fun q h => by rw [← hAe]; exact Or.inr h
  have G : gC cI cJ cZ cMic cSrc cSt cAI cAJ D ad A s.heap s.heap [] T := ⟨hP, hD, va_S.rf⟩
  have E : cE p c cX11_power s m ([.ref (ad o), .int a0] : List Value).toArray (Cond.code yX11_power cX11_power 2 (some .long) :: wsA) D RX11 (CT cI cJ cZ cMic cSrc cSt cAI cAJ) := ⟨hx, hb, hts, hown, hK⟩
  have htab : ∀ x ∈ c.exceptionTable.toList, False := fun x hx => htab x hx
  have hl := lv_entry ([.ref (ad o), .int a0]) (n := 2) (Nat.le_of_ble_eq_true rfl)
  rw [lg_entry_eq]
  generalize (lg_sl ([.ref (ad o), .int a0]) ++ List.replicate (2 - (lg_sl ([.ref (ad o), .int a0])).length) Slot.unset).toArray = ls at hl ⊢
  have hl : lv_has ls 2 [(0, .ref (ad o)), (1, .int a0)] := hl
  have hgl := GL.rf T
  have had : ∀ n, n < T.1 → ad n = ad n := fun _ _ => rfl
  have hT1 := s_X11_power h
  have hcs := cs_okx hgl hT1
  have hcx := cs_okx1 hgl hT1
  refine w_cast (Nat.sub_self T.1).symm (Nat.sub_self (sg T)).symm ?_
  have cp0 := cpr0 hrc
  unfold g_X11_power at h
  refine lv_aload_n hx hb dX11_power_0 rfl (lv_at hl 0 rfl) ?_
  obtain ⟨g2, h⟩ := oif_some h
  rcases othr_t h with ⟨r0, eT3⟩ | ⟨r5, T3, eT3, h⟩
  · refine q_xvv (As := []) (rest := []) E G hA hX hN hml (x_X11_needCamera l hst D cI cJ cZ cMic cSrc cSt cAI cAJ ad T o eT3) (cwV 0 hts (gaV qA_728 qA_729 qA_730 qA_131 qA_731) rfl rfl rfl (by decide +kernel) ⟨Nat.le_of_ble_eq_true rfl, Nat.le_of_ble_eq_true rfl⟩) (oO_k g2).1 (cc_o11 (oO_k g2).2) rfl rfl hl.1 rfl (lv_room (Nat.le_of_ble_eq_true rfl)) dX11_power_1 hcx (fun E9 ce q9 T9 H locs hp G hce hcv hcl => ?_)
    obtain ⟨hE, hT⟩ := hp
    subst hE
    rw [hT] at G
    exact vx_out (fun x hx => (htab x hx).elim) hlocks hce hcv hcl (fun t ht hvm => ⟨(T1, ad), trivial, ⟨⟨rfl, rfl, had⟩, by rw [ht]; exact G.1, va_K.moved hvm hK, G.2.1⟩, G.2.2.F ht⟩) G.2.2.2.2 hcx.1 hcx.2
  refine q_cvv (As := []) (rest := []) E G hA hX hN hml (u_X11_needCamera l hst D cI cJ cZ cMic cSrc cSt cAI cAJ ad T o eT3) (cwV 0 hts (gaV qA_728 qA_729 qA_730 qA_131 qA_731) rfl rfl rfl (by decide +kernel) ⟨Nat.le_of_ble_eq_true rfl, Nat.le_of_ble_eq_true rfl⟩) (oO_k g2).1 (cc_o11 (oO_k g2).2) rfl rfl hl.1 rfl (lv_room (Nat.le_of_ble_eq_true rfl)) dX11_power_1 hcs (fun T4 H locs hq G => ?_)
  rw [hq] at G
  clear hq
  have cp1 := cpr_sp cp0 (s_X11_needCamera eT3)
  refine lv_aload_n hx hb dX11_power_4 rfl (lv_at hl 0 rfl) ?_
  refine lv_iload_n hx hb dX11_power_5 rfl (lv_at hl 1 rfl) ?_
  obtain ⟨g7, h⟩ := oif_some h
  rcases othr_t h with ⟨r0, eT8⟩ | ⟨r10, T8, eT8, h⟩
  · refine q_xvv (As := [.int a0]) (rest := []) E G hA hX hN hml (x_X11_needCell l hst D cI cJ cZ cMic cSrc cSt cAI cAJ ad T3 o a0 eT8) (cwV 1 hts (gaV qA_752 qA_753 qA_754 qA_131 qA_755) rfl rfl rfl (by decide +kernel) ⟨Nat.le_of_ble_eq_true rfl, Nat.le_of_ble_eq_true rfl⟩) (oO_k g7).1 (cc_o11 (oO_k g7).2) rfl rfl hl.1 rfl (lv_room (Nat.le_of_ble_eq_true rfl)) dX11_power_6 hcx (fun E9 ce q9 T9 H locs hp G hce hcv hcl => ?_)
    obtain ⟨hE, hT⟩ := hp
    subst hE
    rw [hT] at G
    exact vx_out (fun x hx => (htab x hx).elim) hlocks hce hcv hcl (fun t ht hvm => ⟨(T1, ad), trivial, ⟨⟨rfl, rfl, had⟩, by rw [ht]; exact G.1, va_K.moved hvm hK, G.2.1⟩, G.2.2.F ht⟩) G.2.2.2.2 hcx.1 hcx.2
  refine q_cvv (As := [.int a0]) (rest := []) E G hA hX hN hml (u_X11_needCell l hst D cI cJ cZ cMic cSrc cSt cAI cAJ ad T3 o a0 eT8) (cwV 1 hts (gaV qA_752 qA_753 qA_754 qA_131 qA_755) rfl rfl rfl (by decide +kernel) ⟨Nat.le_of_ble_eq_true rfl, Nat.le_of_ble_eq_true rfl⟩) (oO_k g7).1 (cc_o11 (oO_k g7).2) rfl rfl hl.1 rfl (lv_room (Nat.le_of_ble_eq_true rfl)) dX11_power_6 hcs (fun T9 H locs hq G => ?_)
  rw [hq] at G
  clear hq
  have cp2 := cpr_sp cp1 (s_X11_needCell eT8)
  refine lv_aload_n hx hb dX11_power_9 rfl (lv_at hl 0 rfl) ?_
  obtain ⟨g12, h⟩ := oif_some h
  obtain ⟨r14, T13, eT13, h⟩ := obind2_some h
  obtain ⟨g15, h⟩ := oif_some h
  have hg2 := s_X11_powersNow eT13
  have hrc2 := hg2.2.2 cp2.2.2
  have hT2 := s_X11_power_b13 _ _ _ h
  refine q_avr (As := []) (rest := []) E G hA hX hN hml (a_X11_powersNow l hst D cI cJ cZ cMic cSrc cSt cAI cAJ ad T8 o eT13 cp2.2.2 (by rw [cp2.1]; exact h_o)) (cwV 0 hts (gaV qA_799 qA_800 qA_801 qA_131 qA_802) rfl rfl rfl (by decide +kernel) ⟨Nat.le_of_ble_eq_true rfl, Nat.le_of_ble_eq_true rfl⟩) (oO_k g12).1 (cc_o11 (oO_k g12).2) rfl rfl hl.1 rfl (lv_room (Nat.le_of_ble_eq_true rfl)) dX11_power_10 (cs_avx hgl cp2 hg2 hT2) (fun ad2 H locs hga G => ?_)
  refine w_cast (c2 := T13.1 - T.1) (s2 := sg T13 - sg T) (cs_f1 hgl cp2 hg2) (cs_f2 hgl cp2 hg2) ?_
  have h_new : r14 < T13.1 := Nat.le_of_ble_eq_true g15
  have hl := lv_sub hl [1] rfl
  exact b_X11_power_b13 E hA hX hN hml hst htab hlocks (fun ad H locs t had G hvm h1 h2 => ⟨(T1, ad), trivial, ⟨⟨rfl, rfl, had⟩, (c_thrown G hK hvm h1 h2).1⟩, (c_thrown G hK hvm h1 h2).2⟩) _ _ _ _ _ _ _ h (GL.tr (gl_cpr hgl cp2) hg2) hrc2 (fun n hn => (hga n (by rw [cp2.1]; exact Nat.lt_of_lt_of_le hn hgl.1)).trans (had n hn)) h_new G hl
def g_X11_powerAt_b53  (T : AT) (l0 : Nat) : Option (Nat × Int64 × AT) := oif (oO T l0 11 = true) <| obind (T.2.2.2.2 l0 12) fun n3 => oif (oO T n3 10 = true) <| obind2 (g_X10_value T n3 (0 : Int32)) fun r7 T5 => some (0, r7, T5)
def g_X11_powerAt (T : AT) (o : Nat) (a0 : Int32) (a1 : Int32) : Option (Nat × Int64 × AT) := oif (oO T o 11 = true) <| othr (g_X11_needCamera T o) 0 fun r5 T3 => othr (g_X11_needRange T3 a0 ((-9999) : Int32) (9999 : Int32)) 0 fun r9 T7 => othr (g_X11_needRange T7 a1 ((-9999) : Int32) (9999 : Int32)) 0 fun r13 T11 => oif (oO T11 o 11 = true) <| obind (T11.2.2.2.2 o 14) fun n16 => oif (oO T11 o 11 = true) <| obind (T11.2.2.2.2 o 11) fun n18 => oif (oO T11 n16 6 = true) <| obind (g_X6_delaysFrom T11 n16 a0 a1 n18) fun T20 => oif (oO T20 o 11 = true) <| obind (T20.2.2.2.2 o 6) fun n23 => oif (oO T20 o 11 = true) <| obind (T20.2.2.2.2 o 11) fun n25 => oif (oO T20 o 11 = true) <| obind (T20.2.2.2.2 o 12) fun n27 => oif (oO T20 n23 8 = true) <| obind (g_X8_powerOf T20 n23 n25 n27 (0 : Int32)) fun T29 => g_X11_powerAt_b53 T29 o
set_option maxHeartbeats 4000000 in
set_option maxRecDepth 100000 in
theorem s_X11_powerAt_b53 {e1 : Nat} {r1 : Int64} {T1 : AT} : ∀ (T : AT) (l0 : Nat), g_X11_powerAt_b53 T l0 = some (e1, r1, T1) → GL T T1 := by
  intro T l0 h
  have p0 := GL.rf T
  unfold g_X11_powerAt_b53 at h
  obtain ⟨g2, h⟩ := oif_some h
  obtain ⟨n3, en3, h⟩ := obind_some h
  obtain ⟨g4, h⟩ := oif_some h
  obtain ⟨r6, T5, eT5, h⟩ := obind2_some h
  have p1 : GL T T5 := GL.tr p0 (gl_sp (s_X10_value eT5))
  rw [← (osome3 h).2.2]
  exact p1
set_option maxHeartbeats 4000000 in
set_option maxRecDepth 100000 in
theorem s_X11_powerAt {T : AT} {o : Nat} {a0 : Int32} {a1 : Int32} {e1 : Nat} {r1 : Int64} {T1 : AT} (h : g_X11_powerAt T o a0 a1 = some (e1, r1, T1)) : GL T T1 := by
  have p0 := GL.rf T
  unfold g_X11_powerAt at h
  obtain ⟨g2, h⟩ := oif_some h
  rcases othr_s h with ⟨k9, r9, e9, -⟩ | ⟨r4, T3, eT3, h⟩
  · exact GL.tr p0 (gl_sp (s_X11_needCamera e9))
  have p1 : GL T T3 := GL.tr p0 (gl_sp (s_X11_needCamera eT3))
  rcases othr_s h with ⟨k9, r9, e9, -⟩ | ⟨r6, T5, eT5, h⟩
  · exact GL.tr p1 (gl_sp (s_X11_needRange e9))
  have p2 : GL T T5 := GL.tr p1 (gl_sp (s_X11_needRange eT5))
  rcases othr_s h with ⟨k9, r9, e9, -⟩ | ⟨r8, T7, eT7, h⟩
  · exact GL.tr p2 (gl_sp (s_X11_needRange e9))
  have p3 : GL T T7 := GL.tr p2 (gl_sp (s_X11_needRange eT7))
  obtain ⟨g9, h⟩ := oif_some h
  obtain ⟨n10, en10, h⟩ := obind_some h
  obtain ⟨g11, h⟩ := oif_some h
  obtain ⟨n12, en12, h⟩ := obind_some h
  obtain ⟨g13, h⟩ := oif_some h
  obtain ⟨T14, eT14, h⟩ := obind_some h
  have p4 : GL T T14 := GL.tr p3 (gl_sp (s_X6_delaysFrom eT14))
  obtain ⟨g16, h⟩ := oif_some h
  obtain ⟨n17, en17, h⟩ := obind_some h
  obtain ⟨g18, h⟩ := oif_some h
  obtain ⟨n19, en19, h⟩ := obind_some h
  obtain ⟨g20, h⟩ := oif_some h
  obtain ⟨n21, en21, h⟩ := obind_some h
  obtain ⟨g22, h⟩ := oif_some h
  obtain ⟨T23, eT23, h⟩ := obind_some h
  have p5 : GL T T23 := GL.tr p4 (s_X8_powerOf eT23)
  exact GL.tr p5 (s_X11_powerAt_b53 _ _ h)
set_option maxHeartbeats 4000000 in
set_option maxRecDepth 100000 in
theorem a_X11_powerAt_b53 {p : Program} {l : Launch} {e : Env} {s : State} {m : MethodId} {args : Array Value} {below : List Frame} {meth : Method} {c : Code} {Q : State → Prop} {D : va_G} {A : Nat → Prop} {cI cJ cZ cMic cSrc cSt cAI cAJ : ClassId} {ad0 : Nat → Nat} {T0 : AT} {r1 : Int64} {T1 : AT} (E : cE p c cX11_powerAt s m args (Cond.code yX11_powerAt cX11_powerAt 3 (some .long) :: wsA) D RX11 (CT cI cJ cZ cMic cSrc cSt cAI cAJ)) (hA : ∀ q : Nat, s.heap.size ≤ q → A q) (hX : xT A s) (hN : nX s) (hml : c.maxLocals = 3) (hst : l.stackTraces = false) (kr61 : ∀ (ad : Nat → Nat) (H : Heap) (locs : List Loc) (ls : Array Slot), (∀ n, n < T0.1 → ad n = ad0 n) → gC cI cJ cZ cMic cSrc cSt cAI cAJ D ad A s.heap H locs T1 → W p l e { frames := 7, cells := T1.1 - T0.1, slots := sg T1 - sg T0, locals := 128 } s m args below meth c H locs (T1.1 - T0.1) (sg T1 - sg T0) Q (F0 m 61 ls [.long r1])) : ∀ (T : AT) (ad : Nat → Nat) (H : Heap) (locs : List Loc) (ls : Array Slot) (l0 : Nat), g_X11_powerAt_b53 T l0 = some (0, r1, T1) → GL T0 T → RC T → (∀ n, n < T0.1 → ad n = ad0 n) → l0 < T.1 → gC cI cJ cZ cMic cSrc cSt cAI cAJ D ad A s.heap H locs T → lv_has ls 3 [(0, .ref (ad l0))] → W p l e { frames := 7, cells := T1.1 - T0.1, slots := sg T1 - sg T0, locals := 128 } s m args below meth c H locs (T.1 - T0.1) (sg T - sg T0) Q (F0 m 53 ls []) := by
  have hx := E.1
  have hb := E.2.1
  have hts := E.2.2.1
  have hown := E.2.2.2.1
  have hK := E.2.2.2.2
  intro T ad H locs ls l0 h hgl hrc had h_l0 G hl
  have hT1 := s_X11_powerAt_b53 _ _ h
  have hcs := cs_ok hgl hT1
  have cp0 := cpr0 hrc
  unfold g_X11_powerAt_b53 at h
  refine lv_aload_n hx hb dX11_powerAt_53 rfl (lv_at hl 0 rfl) ?_
  obtain ⟨g2, h⟩ := oif_some h
  obtain ⟨n3, en3, h⟩ := obind_some h
  have h_n3 : n3 < T.1 := by rw [← cp0.1]; exact cp0.2.2 _ _ _ en3
  refine c_get E G l0 12 (v := .ref (ad n3)) (oO_k g2).1 (cc_o11 (oO_k g2).2) rfl (fun w h => .tail _ (iA_23 h)) (by decide) (.tail _ qA_671) rfl (by rw [en3]; rfl) dX11_powerAt_54 ?_
  clear en3
  refine lv_iconst (v := 0) hx hb dX11_powerAt_57 (by decide) ?_
  obtain ⟨g4, h⟩ := oif_some h
  obtain ⟨r7, T5, eT5, h⟩ := obind2_some h
  refine q_cvl (As := [.int 0]) (rest := []) E G hA hX hN hml (u_X10_value l hst D cI cJ cZ cMic cSrc cSt cAI cAJ ad T n3 (0 : Int32) eT5) (cwV 1 hts (gaV qA_791 qA_792 qA_793 qA_6 qA_633) rfl rfl rfl (by decide +kernel) ⟨Nat.le_of_ble_eq_true rfl, Nat.le_of_ble_eq_true rfl⟩) (oO_k g4).1 (cc_o10 (oO_k g4).2) rfl rfl hl.1 rfl (lv_room (Nat.le_of_ble_eq_true rfl)) dX11_powerAt_58 hcs (fun q8 T6 H locs hq G => ?_)
  obtain ⟨hq1, hq2⟩ := hq
  rw [hq2] at G
  refine lv_tol hq1 ?_
  clear hq1 hq2
  have cp1 := cpr_sp cp0 (s_X10_value eT5)
  rw [(osome3 h).2.2] at G
  refine w_cast (c2 := T1.1 - T0.1) (s2 := sg T1 - sg T0) (by rw [← (osome3 h).2.2, cp1.1] <;> rfl) (by rw [← (osome3 h).2.2, sg_cpr cp1] <;> rfl) ?_
  refine lv_tol ((osome3 h).2.1) ?_
  exact kr61 ad _ _ _ had G
set_option maxHeartbeats 4000000 in
set_option maxRecDepth 100000 in
theorem a_X11_powerAt (l : Launch) (hst : l.stackTraces = false) (D : va_G) (cI cJ cZ cMic cSrc cSt cAI cAJ : ClassId) (ad : Nat → Nat) (T : AT) (o : Nat) (a0 : Int32) (a1 : Int32) {r1 : Int64} {T1 : AT} (h : g_X11_powerAt T o a0 a1 = some (0, r1, T1)) (hrc : RC T) (h_o : o < T.1) : kAl l yX11_powerAt (Cond.code yX11_powerAt cX11_powerAt 3 (some .long) :: wsA) 7 128 cI cJ cZ cMic cSrc cSt cAI cAJ D ad T [.ref (ad o), .int a0, .int a1] r1 T1 := by
  intro sz
  refine Met.ofW (cc := cX11_powerAt) (maxL := 3) (ret := (some .long)) (by decide) rfl ?_
  intro p e s m args below meth c s₁ B hml hv
  obtain ⟨rfl, hsz, hP, hK, hD0, hX, hN⟩ := hv
  have hx := B.exec
  have hb := B.bytes
  have hr := B.returns
  have hts := atoms_spec (ws := (Cond.code yX11_powerAt cX11_powerAt 3 (some .long) :: wsA)) B.pre
  have hown : s.vm.findClass RX11 = some m.cls := findClass_of_methodNamed B.named
  have hlocks := B.notSynchronized
  subst hsz
  have hD := hD0.self (sz := s.heap.size)
  generalize hAe : va_A (cW ad T.1 (cc cI cJ cZ cMic cSrc cSt cAI cAJ ad T)) s.heap.size = A at hD hX ⊢
  have hA : ∀ q : Nat, s.heap.size ≤ q → A q := fun q h => by rw [← hAe]; exact Or.inr h
  have G : gC cI cJ cZ cMic cSrc cSt cAI cAJ D ad A s.heap s.heap [] T := ⟨hP, hD, va_S.rf⟩
  have E : cE p c cX11_powerAt s m ([.ref (ad o), .int a0, .int a1] : List Value).toArray (Cond.code yX11_powerAt cX11_powerAt 3 (some .long) :: wsA) D RX11 (CT cI cJ cZ cMic cSrc cSt cAI cAJ) := ⟨hx, hb, hts, hown, hK⟩
  have hl := lv_entry ([.ref (ad o), .int a0, .int a1]) (n := 3) (Nat.le_of_ble_eq_true rfl)
  rw [lg_entry_eq]
  generalize (lg_sl ([.ref (ad o), .int a0, .int a1]) ++ List.replicate (3 - (lg_sl ([.ref (ad o), .int a0, .int a1])).length) Slot.unset).toArray = ls at hl ⊢
  have hl : lv_has ls 3 [(0, .ref (ad o)), (1, .int a0), (2, .int a1)] := hl
  have hgl := GL.rf T
  have had : ∀ n, n < T.1 → ad n = ad n := fun _ _ => rfl
  have hT1 := s_X11_powerAt h
  have hcs := cs_ok hgl hT1
  refine w_cast (Nat.sub_self T.1).symm (Nat.sub_self (sg T)).symm ?_
  have cp0 := cpr0 hrc
  unfold g_X11_powerAt at h
  refine lv_aload_n hx hb dX11_powerAt_0 rfl (lv_at hl 0 rfl) ?_
  obtain ⟨g2, h⟩ := oif_some h
  obtain ⟨r5, T3, eT3, h⟩ := othr_n h
  refine q_cvv (As := []) (rest := []) E G hA hX hN hml (u_X11_needCamera l hst D cI cJ cZ cMic cSrc cSt cAI cAJ ad T o eT3) (cwV 0 hts (gaV qA_728 qA_729 qA_730 qA_131 qA_731) rfl rfl rfl (by decide +kernel) ⟨Nat.le_of_ble_eq_true rfl, Nat.le_of_ble_eq_true rfl⟩) (oO_k g2).1 (cc_o11 (oO_k g2).2) rfl rfl hl.1 rfl (lv_room (Nat.le_of_ble_eq_true rfl)) dX11_powerAt_1 hcs (fun T4 H locs hq G => ?_)
  rw [hq] at G
  clear hq
  have cp1 := cpr_sp cp0 (s_X11_needCamera eT3)
  refine lv_iload_n hx hb dX11_powerAt_4 rfl (lv_at hl 1 rfl) ?_
  refine lv_sipush (v := (-9999)) hx hb dX11_powerAt_5 (by decide) ?_
  refine lv_sipush (v := 9999) hx hb dX11_powerAt_8 (by decide) ?_
  obtain ⟨r9, T7, eT7, h⟩ := othr_n h
  refine q_csv (As := [.int a0, .int (-9999), .int 9999]) (rest := []) E G hA hX hN hml (u_X11_needRange l hst D cI cJ cZ cMic cSrc cSt cAI cAJ ad T3 a0 ((-9999) : Int32) (9999 : Int32) eT7) (cwS 3 hts (gaS qA_741 qA_742 qA_131 qA_743) rfl rfl rfl (by decide +kernel) ⟨Nat.le_of_ble_eq_true rfl, Nat.le_of_ble_eq_true rfl⟩) rfl hl.1 rfl (lv_room (Nat.le_of_ble_eq_true rfl)) dX11_powerAt_11 hcs (fun T8 H locs hq G => ?_)
  rw [hq] at G
  clear hq
  have cp2 := cpr_sp cp1 (s_X11_needRange eT7)
  refine lv_iload_n hx hb dX11_powerAt_14 rfl (lv_at hl 2 rfl) ?_
  refine lv_sipush (v := (-9999)) hx hb dX11_powerAt_15 (by decide) ?_
  refine lv_sipush (v := 9999) hx hb dX11_powerAt_18 (by decide) ?_
  obtain ⟨r13, T11, eT11, h⟩ := othr_n h
  refine q_csv (As := [.int a1, .int (-9999), .int 9999]) (rest := []) E G hA hX hN hml (u_X11_needRange l hst D cI cJ cZ cMic cSrc cSt cAI cAJ ad T7 a1 ((-9999) : Int32) (9999 : Int32) eT11) (cwS 3 hts (gaS qA_741 qA_742 qA_131 qA_743) rfl rfl rfl (by decide +kernel) ⟨Nat.le_of_ble_eq_true rfl, Nat.le_of_ble_eq_true rfl⟩) rfl hl.1 rfl (lv_room (Nat.le_of_ble_eq_true rfl)) dX11_powerAt_21 hcs (fun T12 H locs hq G => ?_)
  rw [hq] at G
  clear hq
  have cp3 := cpr_sp cp2 (s_X11_needRange eT11)
  refine lv_aload_n hx hb dX11_powerAt_24 rfl (lv_at hl 0 rfl) ?_
  obtain ⟨g15, h⟩ := oif_some h
  obtain ⟨n16, en16, h⟩ := obind_some h
  have h_n16 : n16 < T.1 := by rw [← cp3.1]; exact cp3.2.2 _ _ _ en16
  refine c_get E G o 14 (v := .ref (ad n16)) (oO_k g15).1 (cc_o11 (oO_k g15).2) rfl (fun w h => .tail _ (iA_23 h)) (by decide) (.tail _ qA_675) rfl (by rw [en16]; rfl) dX11_powerAt_25 ?_
  clear en16
  refine lv_iload_n hx hb dX11_powerAt_28 rfl (lv_at hl 1 rfl) ?_
  refine lv_iload_n hx hb dX11_powerAt_29 rfl (lv_at hl 2 rfl) ?_
  refine lv_aload_n hx hb dX11_powerAt_30 rfl (lv_at hl 0 rfl) ?_
  obtain ⟨g17, h⟩ := oif_some h
  obtain ⟨n18, en18, h⟩ := obind_some h
  have h_n18 : n18 < T.1 := by rw [← cp3.1]; exact cp3.2.2 _ _ _ en18
  refine c_get E G o 11 (v := .ref (ad n18)) (oO_k g17).1 (cc_o11 (oO_k g17).2) rfl (fun w h => .tail _ (iA_23 h)) (by decide) (.tail _ qA_669) rfl (by rw [en18]; rfl) dX11_powerAt_31 ?_
  clear en18
  obtain ⟨g19, h⟩ := oif_some h
  obtain ⟨T20, eT20, h⟩ := obind_some h
  refine q_cvv (As := [.int a0, .int a1, .ref (ad n18)]) (rest := []) E G hA hX hN hml (u_X6_delaysFrom l hst D cI cJ cZ cMic cSrc cSt cAI cAJ ad T11 n16 a0 a1 n18 eT20) (cwV 3 hts (gaV qA_807 qA_580 qA_581 qA_207 qA_573) rfl rfl rfl (by decide +kernel) ⟨Nat.le_of_ble_eq_true rfl, Nat.le_of_ble_eq_true rfl⟩) (oO_k g19).1 (cc_o6 (oO_k g19).2) rfl rfl hl.1 rfl (lv_room (Nat.le_of_ble_eq_true rfl)) dX11_powerAt_34 hcs (fun T21 H locs hq G => ?_)
  rw [hq] at G
  clear hq
  have cp4 := cpr_sp cp3 (s_X6_delaysFrom eT20)
  refine lv_aload_n hx hb dX11_powerAt_37 rfl (lv_at hl 0 rfl) ?_
  obtain ⟨g22, h⟩ := oif_some h
  obtain ⟨n23, en23, h⟩ := obind_some h
  have h_n23 : n23 < T.1 := by rw [← cp4.1]; exact cp4.2.2 _ _ _ en23
  refine c_get E G o 6 (v := .ref (ad n23)) (oO_k g22).1 (cc_o11 (oO_k g22).2) rfl (fun w h => .tail _ (iA_23 h)) (by decide) (.tail _ qA_664) rfl (by rw [en23]; rfl) dX11_powerAt_38 ?_
  clear en23
  refine lv_aload_n hx hb dX11_powerAt_41 rfl (lv_at hl 0 rfl) ?_
  obtain ⟨g24, h⟩ := oif_some h
  obtain ⟨n25, en25, h⟩ := obind_some h
  have h_n25 : n25 < T.1 := by rw [← cp4.1]; exact cp4.2.2 _ _ _ en25
  refine c_get E G o 11 (v := .ref (ad n25)) (oO_k g24).1 (cc_o11 (oO_k g24).2) rfl (fun w h => .tail _ (iA_23 h)) (by decide) (.tail _ qA_669) rfl (by rw [en25]; rfl) dX11_powerAt_42 ?_
  clear en25
  refine lv_aload_n hx hb dX11_powerAt_45 rfl (lv_at hl 0 rfl) ?_
  obtain ⟨g26, h⟩ := oif_some h
  obtain ⟨n27, en27, h⟩ := obind_some h
  have h_n27 : n27 < T.1 := by rw [← cp4.1]; exact cp4.2.2 _ _ _ en27
  refine c_get E G o 12 (v := .ref (ad n27)) (oO_k g26).1 (cc_o11 (oO_k g26).2) rfl (fun w h => .tail _ (iA_23 h)) (by decide) (.tail _ qA_671) rfl (by rw [en27]; rfl) dX11_powerAt_46 ?_
  clear en27
  refine lv_iconst (v := 0) hx hb dX11_powerAt_49 (by decide) ?_
  obtain ⟨g28, h⟩ := oif_some h
  obtain ⟨T29, eT29, h⟩ := obind_some h
  have hg2 := s_X8_powerOf eT29
  have hrc2 := hg2.2.2 cp4.2.2
  have hT2 := s_X11_powerAt_b53 _ _ h
  refine q_avv (As := [.ref (ad n25), .ref (ad n27), .int 0]) (rest := []) E G hA hX hN hml (a_X8_powerOf l hst D cI cJ cZ cMic cSrc cSt cAI cAJ ad T20 n23 n25 n27 (0 : Int32) eT29 cp4.2.2 (by rw [cp4.1]; exact h_n23) (by rw [cp4.1]; exact h_n25) (by rw [cp4.1]; exact h_n27)) (cwV 3 hts (gaV qA_808 qA_809 qA_810 qA_47 qA_617) rfl rfl rfl (by decide +kernel) ⟨Nat.le_of_ble_eq_true rfl, Nat.le_of_ble_eq_true rfl⟩) (oO_k g28).1 (cc_o8 (oO_k g28).2) rfl rfl hl.1 rfl (lv_room (Nat.le_of_ble_eq_true rfl)) dX11_powerAt_50 (cs_av hgl cp4 hg2 hT2) (fun ad2 H locs hga G => ?_)
  refine w_cast (c2 := T29.1 - T.1) (s2 := sg T29 - sg T) (cs_f1 hgl cp4 hg2) (cs_f2 hgl cp4 hg2) ?_
  have hl := lv_sub hl [0] rfl
  rw [show ad o = ad2 o from (hga o (by rw [cp4.1]; exact h_o)).symm] at hl
  exact a_X11_powerAt_b53 E hA hX hN hml hst (fun ad H locs ls had G => W.lret (v := r1) hx hb hr (fun t ht hW => ⟨⟨r1, (T1, ad), rfl, ⟨rfl, rfl, had⟩, ⟨by rw [ht]; exact G.1, va_K.moved hW.alike hK, G.2.1⟩⟩, G.2.2.F ht⟩) G.2.2.2.2 dX11_powerAt_61) _ _ _ _ _ _ h (GL.tr (gl_cpr hgl cp4) hg2) hrc2 (fun n hn => (hga n (by rw [cp4.1]; exact Nat.lt_of_lt_of_le hn hgl.1)).trans (had n hn)) (Nat.lt_of_lt_of_le (by rw [cp4.1]; exact h_o) hg2.1) G hl
set_option maxHeartbeats 4000000 in
set_option maxRecDepth 100000 in
theorem b_X11_powerAt_b53 {p : Program} {l : Launch} {e : Env} {s : State} {m : MethodId} {args : Array Value} {below : List Frame} {meth : Method} {c : Code} {Qc : Array Value → State → Outcome → State → Prop} {XC : String → State → State → Prop} {D : va_G} {A : Nat → Prop} {cI cJ cZ cMic cSrc cSt cAI cAJ : ClassId} {ad0 : Nat → Nat} {T0 : AT} {e1 : Nat} {r1 : Int64} {T1 : AT} (E : cE p c cX11_powerAt s m args (Cond.code yX11_powerAt cX11_powerAt 3 (some .long) :: wsA) D RX11 (CT cI cJ cZ cMic cSrc cSt cAI cAJ)) (hA : ∀ q : Nat, s.heap.size ≤ q → A q) (hX : xT A s) (hN : nX s) (hml : c.maxLocals = 3) (hst : l.stackTraces = false) (htab : ∀ x ∈ c.exceptionTable.toList, False) (hlocks : meth.locks = false) (kx : ∀ (ad : Nat → Nat) (H : Heap) (locs : List Loc) (t : State), (∀ n, n < T0.1 → ad n = ad0 n) → gC cI cJ cZ cMic cSrc cSt cAI cAJ D ad A s.heap H locs T1 → s.vm.Alike t.vm → H.size ≤ t.heap.size → (∀ q, q < H.size → t.heap[q]? = H[q]?) → XC (exn e1) s t) : ∀ (T : AT) (ad : Nat → Nat) (H : Heap) (locs : List Loc) (ls : Array Slot) (l0 : Nat), g_X11_powerAt_b53 T l0 = some (e1 + 1, r1, T1) → GL T0 T → RC T → (∀ n, n < T0.1 → ad n = ad0 n) → l0 < T.1 → gC cI cJ cZ cMic cSrc cSt cAI cAJ D ad A s.heap H locs T → lv_has ls 3 [(0, .ref (ad l0))] → W p l e { frames := 7, cells := T1.1 - T0.1 + 1, slots := sg T1 - sg T0 + 6, locals := 128 } s m args below meth c H locs (T.1 - T0.1) (sg T - sg T0) (vx_MQ below Qc XC args s (T1.1 - T0.1 + 1) (sg T1 - sg T0 + 6) A) (F0 m 53 ls []) := by
  have hx := E.1
  have hb := E.2.1
  have hts := E.2.2.1
  have hown := E.2.2.2.1
  have hK := E.2.2.2.2
  intro T ad H locs ls l0 h hgl hrc had h_l0 G hl
  have hT1 := s_X11_powerAt_b53 _ _ h
  have hcs := cs_okx hgl hT1
  have hcx := cs_okx1 hgl hT1
  have cp0 := cpr0 hrc
  unfold g_X11_powerAt_b53 at h
  refine lv_aload_n hx hb dX11_powerAt_53 rfl (lv_at hl 0 rfl) ?_
  obtain ⟨g2, h⟩ := oif_some h
  obtain ⟨n3, en3, h⟩ := obind_some h
  have h_n3 : n3 < T.1 := by rw [← cp0.1]; exact cp0.2.2 _ _ _ en3
  refine c_get E G l0 12 (v := .ref (ad n3)) (oO_k g2).1 (cc_o11 (oO_k g2).2) rfl (fun w h => .tail _ (iA_23 h)) (by decide) (.tail _ qA_671) rfl (by rw [en3]; rfl) dX11_powerAt_54 ?_
  clear en3
  refine lv_iconst (v := 0) hx hb dX11_powerAt_57 (by decide) ?_
  obtain ⟨g4, h⟩ := oif_some h
  obtain ⟨r7, T5, eT5, h⟩ := obind2_some h
  refine q_cvl (As := [.int 0]) (rest := []) E G hA hX hN hml (u_X10_value l hst D cI cJ cZ cMic cSrc cSt cAI cAJ ad T n3 (0 : Int32) eT5) (cwV 1 hts (gaV qA_791 qA_792 qA_793 qA_6 qA_633) rfl rfl rfl (by decide +kernel) ⟨Nat.le_of_ble_eq_true rfl, Nat.le_of_ble_eq_true rfl⟩) (oO_k g4).1 (cc_o10 (oO_k g4).2) rfl rfl hl.1 rfl (lv_room (Nat.le_of_ble_eq_true rfl)) dX11_powerAt_58 hcs (fun q8 T6 H locs hq G => ?_)
  obtain ⟨hq1, hq2⟩ := hq
  rw [hq2] at G
  refine lv_tol hq1 ?_
  clear hq1 hq2
  have cp1 := cpr_sp cp0 (s_X10_value eT5)
  exact (Nat.succ_ne_zero _ (congrArg Prod.fst (Option.some.inj h)).symm).elim
set_option maxHeartbeats 4000000 in
set_option maxRecDepth 100000 in
theorem b_X11_powerAt (l : Launch) (hst : l.stackTraces = false) (D : va_G) (cI cJ cZ cMic cSrc cSt cAI cAJ : ClassId) (ad : Nat → Nat) (T : AT) (o : Nat) (a0 : Int32) (a1 : Int32) {e1 : Nat} {r1 : Int64} {T1 : AT} (h : g_X11_powerAt T o a0 a1 = some (e1 + 1, r1, T1)) (hrc : RC T) (h_o : o < T.1) : kAXl l yX11_powerAt (Cond.code yX11_powerAt cX11_powerAt 3 (some .long) :: wsA) 7 128 cI cJ cZ cMic cSrc cSt cAI cAJ D ad T [.ref (ad o), .int a0, .int a1] e1 T1 := by
  intro sz
  refine vx_ofW (cc := cX11_powerAt) (maxL := 3) (ret := (some .long)) (by decide) rfl ?_
  intro p e s m args below meth c s₁ B hml htab hv
  obtain ⟨rfl, hsz, hP, hK, hD0, hX, hN⟩ := hv
  have hx := B.exec
  have hb := B.bytes
  have hr := B.returns
  have hts := atoms_spec (ws := (Cond.code yX11_powerAt cX11_powerAt 3 (some .long) :: wsA)) B.pre
  have hown : s.vm.findClass RX11 = some m.cls := findClass_of_methodNamed B.named
  have hlocks := B.notSynchronized
  subst hsz
  have hD := hD0.self (sz := s.heap.size)
  generalize hAe : va_A (cW ad T.1 (cc cI cJ cZ cMic cSrc cSt cAI cAJ ad T)) s.heap.size = A at hD hX ⊢
  have hA : ∀ q : Nat, s.heap.size ≤ q → A q := fun q h => by rw [← hAe]; exact Or.inr h
  have G : gC cI cJ cZ cMic cSrc cSt cAI cAJ D ad A s.heap s.heap [] T := ⟨hP, hD, va_S.rf⟩
  have E : cE p c cX11_powerAt s m ([.ref (ad o), .int a0, .int a1] : List Value).toArray (Cond.code yX11_powerAt cX11_powerAt 3 (some .long) :: wsA) D RX11 (CT cI cJ cZ cMic cSrc cSt cAI cAJ) := ⟨hx, hb, hts, hown, hK⟩
  have htab : ∀ x ∈ c.exceptionTable.toList, False := fun x hx => htab x hx
  have hl := lv_entry ([.ref (ad o), .int a0, .int a1]) (n := 3) (Nat.le_of_ble_eq_true rfl)
  rw [lg_entry_eq]
  generalize (lg_sl ([.ref (ad o), .int a0, .int a1]) ++ List.replicate (3 - (lg_sl ([.ref (ad o), .int a0, .int a1])).length) Slot.unset).toArray = ls at hl ⊢
  have hl : lv_has ls 3 [(0, .ref (ad o)), (1, .int a0), (2, .int a1)] := hl
  have hgl := GL.rf T
  have had : ∀ n, n < T.1 → ad n = ad n := fun _ _ => rfl
  have hT1 := s_X11_powerAt h
  have hcs := cs_okx hgl hT1
  have hcx := cs_okx1 hgl hT1
  refine w_cast (Nat.sub_self T.1).symm (Nat.sub_self (sg T)).symm ?_
  have cp0 := cpr0 hrc
  unfold g_X11_powerAt at h
  refine lv_aload_n hx hb dX11_powerAt_0 rfl (lv_at hl 0 rfl) ?_
  obtain ⟨g2, h⟩ := oif_some h
  rcases othr_t h with ⟨r0, eT3⟩ | ⟨r5, T3, eT3, h⟩
  · refine q_xvv (As := []) (rest := []) E G hA hX hN hml (x_X11_needCamera l hst D cI cJ cZ cMic cSrc cSt cAI cAJ ad T o eT3) (cwV 0 hts (gaV qA_728 qA_729 qA_730 qA_131 qA_731) rfl rfl rfl (by decide +kernel) ⟨Nat.le_of_ble_eq_true rfl, Nat.le_of_ble_eq_true rfl⟩) (oO_k g2).1 (cc_o11 (oO_k g2).2) rfl rfl hl.1 rfl (lv_room (Nat.le_of_ble_eq_true rfl)) dX11_powerAt_1 hcx (fun E9 ce q9 T9 H locs hp G hce hcv hcl => ?_)
    obtain ⟨hE, hT⟩ := hp
    subst hE
    rw [hT] at G
    exact vx_out (fun x hx => (htab x hx).elim) hlocks hce hcv hcl (fun t ht hvm => ⟨(T1, ad), trivial, ⟨⟨rfl, rfl, had⟩, by rw [ht]; exact G.1, va_K.moved hvm hK, G.2.1⟩, G.2.2.F ht⟩) G.2.2.2.2 hcx.1 hcx.2
  refine q_cvv (As := []) (rest := []) E G hA hX hN hml (u_X11_needCamera l hst D cI cJ cZ cMic cSrc cSt cAI cAJ ad T o eT3) (cwV 0 hts (gaV qA_728 qA_729 qA_730 qA_131 qA_731) rfl rfl rfl (by decide +kernel) ⟨Nat.le_of_ble_eq_true rfl, Nat.le_of_ble_eq_true rfl⟩) (oO_k g2).1 (cc_o11 (oO_k g2).2) rfl rfl hl.1 rfl (lv_room (Nat.le_of_ble_eq_true rfl)) dX11_powerAt_1 hcs (fun T4 H locs hq G => ?_)
  rw [hq] at G
  clear hq
  have cp1 := cpr_sp cp0 (s_X11_needCamera eT3)
  refine lv_iload_n hx hb dX11_powerAt_4 rfl (lv_at hl 1 rfl) ?_
  refine lv_sipush (v := (-9999)) hx hb dX11_powerAt_5 (by decide) ?_
  refine lv_sipush (v := 9999) hx hb dX11_powerAt_8 (by decide) ?_
  rcases othr_t h with ⟨r0, eT7⟩ | ⟨r9, T7, eT7, h⟩
  · refine q_xsv (As := [.int a0, .int (-9999), .int 9999]) (rest := []) E G hA hX hN hml (x_X11_needRange l hst D cI cJ cZ cMic cSrc cSt cAI cAJ ad T3 a0 ((-9999) : Int32) (9999 : Int32) eT7) (cwS 3 hts (gaS qA_741 qA_742 qA_131 qA_743) rfl rfl rfl (by decide +kernel) ⟨Nat.le_of_ble_eq_true rfl, Nat.le_of_ble_eq_true rfl⟩) rfl hl.1 rfl (lv_room (Nat.le_of_ble_eq_true rfl)) dX11_powerAt_11 hcx (fun E9 ce q9 T9 H locs hp G hce hcv hcl => ?_)
    obtain ⟨hE, hT⟩ := hp
    subst hE
    rw [hT] at G
    exact vx_out (fun x hx => (htab x hx).elim) hlocks hce hcv hcl (fun t ht hvm => ⟨(T1, ad), trivial, ⟨⟨rfl, rfl, had⟩, by rw [ht]; exact G.1, va_K.moved hvm hK, G.2.1⟩, G.2.2.F ht⟩) G.2.2.2.2 hcx.1 hcx.2
  refine q_csv (As := [.int a0, .int (-9999), .int 9999]) (rest := []) E G hA hX hN hml (u_X11_needRange l hst D cI cJ cZ cMic cSrc cSt cAI cAJ ad T3 a0 ((-9999) : Int32) (9999 : Int32) eT7) (cwS 3 hts (gaS qA_741 qA_742 qA_131 qA_743) rfl rfl rfl (by decide +kernel) ⟨Nat.le_of_ble_eq_true rfl, Nat.le_of_ble_eq_true rfl⟩) rfl hl.1 rfl (lv_room (Nat.le_of_ble_eq_true rfl)) dX11_powerAt_11 hcs (fun T8 H locs hq G => ?_)
  rw [hq] at G
  clear hq
  have cp2 := cpr_sp cp1 (s_X11_needRange eT7)
  refine lv_iload_n hx hb dX11_powerAt_14 rfl (lv_at hl 2 rfl) ?_
  refine lv_sipush (v := (-9999)) hx hb dX11_powerAt_15 (by decide) ?_
  refine lv_sipush (v := 9999) hx hb dX11_powerAt_18 (by decide) ?_
  rcases othr_t h with ⟨r0, eT11⟩ | ⟨r13, T11, eT11, h⟩
  · refine q_xsv (As := [.int a1, .int (-9999), .int 9999]) (rest := []) E G hA hX hN hml (x_X11_needRange l hst D cI cJ cZ cMic cSrc cSt cAI cAJ ad T7 a1 ((-9999) : Int32) (9999 : Int32) eT11) (cwS 3 hts (gaS qA_741 qA_742 qA_131 qA_743) rfl rfl rfl (by decide +kernel) ⟨Nat.le_of_ble_eq_true rfl, Nat.le_of_ble_eq_true rfl⟩) rfl hl.1 rfl (lv_room (Nat.le_of_ble_eq_true rfl)) dX11_powerAt_21 hcx (fun E9 ce q9 T9 H locs hp G hce hcv hcl => ?_)
    obtain ⟨hE, hT⟩ := hp
    subst hE
    rw [hT] at G
    exact vx_out (fun x hx => (htab x hx).elim) hlocks hce hcv hcl (fun t ht hvm => ⟨(T1, ad), trivial, ⟨⟨rfl, rfl, had⟩, by rw [ht]; exact G.1, va_K.moved hvm hK, G.2.1⟩, G.2.2.F ht⟩) G.2.2.2.2 hcx.1 hcx.2
  refine q_csv (As := [.int a1, .int (-9999), .int 9999]) (rest := []) E G hA hX hN hml (u_X11_needRange l hst D cI cJ cZ cMic cSrc cSt cAI cAJ ad T7 a1 ((-9999) : Int32) (9999 : Int32) eT11) (cwS 3 hts (gaS qA_741 qA_742 qA_131 qA_743) rfl rfl rfl (by decide +kernel) ⟨Nat.le_of_ble_eq_true rfl, Nat.le_of_ble_eq_true rfl⟩) rfl hl.1 rfl (lv_room (Nat.le_of_ble_eq_true rfl)) dX11_powerAt_21 hcs (fun T12 H locs hq G => ?_)
  rw [hq] at G
  clear hq
  have cp3 := cpr_sp cp2 (s_X11_needRange eT11)
  refine lv_aload_n hx hb dX11_powerAt_24 rfl (lv_at hl 0 rfl) ?_
  obtain ⟨g15, h⟩ := oif_some h
  obtain ⟨n16, en16, h⟩ := obind_some h
  have h_n16 : n16 < T.1 := by rw [← cp3.1]; exact cp3.2.2 _ _ _ en16
  refine c_get E G o 14 (v := .ref (ad n16)) (oO_k g15).1 (cc_o11 (oO_k g15).2) rfl (fun w h => .tail _ (iA_23 h)) (by decide) (.tail _ qA_675) rfl (by rw [en16]; rfl) dX11_powerAt_25 ?_
  clear en16
  refine lv_iload_n hx hb dX11_powerAt_28 rfl (lv_at hl 1 rfl) ?_
  refine lv_iload_n hx hb dX11_powerAt_29 rfl (lv_at hl 2 rfl) ?_
  refine lv_aload_n hx hb dX11_powerAt_30 rfl (lv_at hl 0 rfl) ?_
  obtain ⟨g17, h⟩ := oif_some h
  obtain ⟨n18, en18, h⟩ := obind_some h
  have h_n18 : n18 < T.1 := by rw [← cp3.1]; exact cp3.2.2 _ _ _ en18
  refine c_get E G o 11 (v := .ref (ad n18)) (oO_k g17).1 (cc_o11 (oO_k g17).2) rfl (fun w h => .tail _ (iA_23 h)) (by decide) (.tail _ qA_669) rfl (by rw [en18]; rfl) dX11_powerAt_31 ?_
  clear en18
  obtain ⟨g19, h⟩ := oif_some h
  obtain ⟨T20, eT20, h⟩ := obind_some h
  refine q_cvv (As := [.int a0, .int a1, .ref (ad n18)]) (rest := []) E G hA hX hN hml (u_X6_delaysFrom l hst D cI cJ cZ cMic cSrc cSt cAI cAJ ad T11 n16 a0 a1 n18 eT20) (cwV 3 hts (gaV qA_807 qA_580 qA_581 qA_207 qA_573) rfl rfl rfl (by decide +kernel) ⟨Nat.le_of_ble_eq_true rfl, Nat.le_of_ble_eq_true rfl⟩) (oO_k g19).1 (cc_o6 (oO_k g19).2) rfl rfl hl.1 rfl (lv_room (Nat.le_of_ble_eq_true rfl)) dX11_powerAt_34 hcs (fun T21 H locs hq G => ?_)
  rw [hq] at G
  clear hq
  have cp4 := cpr_sp cp3 (s_X6_delaysFrom eT20)
  refine lv_aload_n hx hb dX11_powerAt_37 rfl (lv_at hl 0 rfl) ?_
  obtain ⟨g22, h⟩ := oif_some h
  obtain ⟨n23, en23, h⟩ := obind_some h
  have h_n23 : n23 < T.1 := by rw [← cp4.1]; exact cp4.2.2 _ _ _ en23
  refine c_get E G o 6 (v := .ref (ad n23)) (oO_k g22).1 (cc_o11 (oO_k g22).2) rfl (fun w h => .tail _ (iA_23 h)) (by decide) (.tail _ qA_664) rfl (by rw [en23]; rfl) dX11_powerAt_38 ?_
  clear en23
  refine lv_aload_n hx hb dX11_powerAt_41 rfl (lv_at hl 0 rfl) ?_
  obtain ⟨g24, h⟩ := oif_some h
  obtain ⟨n25, en25, h⟩ := obind_some h
  have h_n25 : n25 < T.1 := by rw [← cp4.1]; exact cp4.2.2 _ _ _ en25
  refine c_get E G o 11 (v := .ref (ad n25)) (oO_k g24).1 (cc_o11 (oO_k g24).2) rfl (fun w h => .tail _ (iA_23 h)) (by decide) (.tail _ qA_669) rfl (by rw [en25]; rfl) dX11_powerAt_42 ?_
  clear en25
  refine lv_aload_n hx hb dX11_powerAt_45 rfl (lv_at hl 0 rfl) ?_
  obtain ⟨g26, h⟩ := oif_some h
  obtain ⟨n27, en27, h⟩ := obind_some h
  have h_n27 : n27 < T.1 := by rw [← cp4.1]; exact cp4.2.2 _ _ _ en27
  refine c_get E G o 12 (v := .ref (ad n27)) (oO_k g26).1 (cc_o11 (oO_k g26).2) rfl (fun w h => .tail _ (iA_23 h)) (by decide) (.tail _ qA_671) rfl (by rw [en27]; rfl) dX11_powerAt_46 ?_
  clear en27
  refine lv_iconst (v := 0) hx hb dX11_powerAt_49 (by decide) ?_
  obtain ⟨g28, h⟩ := oif_some h
  obtain ⟨T29, eT29, h⟩ := obind_some h
  have hg2 := s_X8_powerOf eT29
  have hrc2 := hg2.2.2 cp4.2.2
  have hT2 := s_X11_powerAt_b53 _ _ h
  refine q_avv (As := [.ref (ad n25), .ref (ad n27), .int 0]) (rest := []) E G hA hX hN hml (a_X8_powerOf l hst D cI cJ cZ cMic cSrc cSt cAI cAJ ad T20 n23 n25 n27 (0 : Int32) eT29 cp4.2.2 (by rw [cp4.1]; exact h_n23) (by rw [cp4.1]; exact h_n25) (by rw [cp4.1]; exact h_n27)) (cwV 3 hts (gaV qA_808 qA_809 qA_810 qA_47 qA_617) rfl rfl rfl (by decide +kernel) ⟨Nat.le_of_ble_eq_true rfl, Nat.le_of_ble_eq_true rfl⟩) (oO_k g28).1 (cc_o8 (oO_k g28).2) rfl rfl hl.1 rfl (lv_room (Nat.le_of_ble_eq_true rfl)) dX11_powerAt_50 (cs_avx hgl cp4 hg2 hT2) (fun ad2 H locs hga G => ?_)
  refine w_cast (c2 := T29.1 - T.1) (s2 := sg T29 - sg T) (cs_f1 hgl cp4 hg2) (cs_f2 hgl cp4 hg2) ?_
  have hl := lv_sub hl [0] rfl
  rw [show ad o = ad2 o from (hga o (by rw [cp4.1]; exact h_o)).symm] at hl
  exact b_X11_powerAt_b53 E hA hX hN hml hst htab hlocks (fun ad H locs t had G hvm h1 h2 => ⟨(T1, ad), trivial, ⟨⟨rfl, rfl, had⟩, (c_thrown G hK hvm h1 h2).1⟩, (c_thrown G hK hvm h1 h2).2⟩) _ _ _ _ _ _ h (GL.tr (gl_cpr hgl cp4) hg2) hrc2 (fun n hn => (hga n (by rw [cp4.1]; exact Nat.lt_of_lt_of_le hn hgl.1)).trans (had n hn)) (Nat.lt_of_lt_of_le (by rw [cp4.1]; exact h_o) hg2.1) G hl
def g_X11_best_b8  (T : AT) (s0 : Nat) : Option (Nat × Int32 × AT) := oif (oO T s0 4 = true) <| elet (T.2.2.1 s0 2) fun v3 => some (0, v3, T)
def g_X11_best (T : AT) (o : Nat) : Option (Nat × Int32 × AT) := oif (oO T o 11 = true) <| othr (g_X11_needCamera T o) 0 fun r5 T3 => oif (oO T3 o 11 = true) <| obind2 (g_X11_powersNow T3 o) fun r9 T8 => oif (Nat.blt r9 T8.1 = true) <| g_X11_best_b8 T8 r9
set_option maxHeartbeats 4000000 in
set_option maxRecDepth 100000 in
theorem s_X11_best_b8 {e1 : Nat} {r1 : Int32} {T1 : AT} : ∀ (T : AT) (s0 : Nat), g_X11_best_b8 T s0 = some (e1, r1, T1) → GL T T1 := by
  intro T s0 h
  have p0 := GL.rf T
  unfold g_X11_best_b8 at h
  obtain ⟨g2, h⟩ := oif_some h
  obtain ⟨v3, -, h⟩ := elet_some h
  rw [← (osome3 h).2.2]
  exact p0
set_option maxHeartbeats 4000000 in
set_option maxRecDepth 100000 in
theorem s_X11_best {T : AT} {o : Nat} {e1 : Nat} {r1 : Int32} {T1 : AT} (h : g_X11_best T o = some (e1, r1, T1)) : GL T T1 := by
  have p0 := GL.rf T
  unfold g_X11_best at h
  obtain ⟨g2, h⟩ := oif_some h
  rcases othr_s h with ⟨k9, r9, e9, -⟩ | ⟨r4, T3, eT3, h⟩
  · exact GL.tr p0 (gl_sp (s_X11_needCamera e9))
  have p1 : GL T T3 := GL.tr p0 (gl_sp (s_X11_needCamera eT3))
  obtain ⟨g5, h⟩ := oif_some h
  obtain ⟨r7, T6, eT6, h⟩ := obind2_some h
  obtain ⟨g8, h⟩ := oif_some h
  have p2 : GL T T6 := GL.tr p1 (s_X11_powersNow eT6)
  exact GL.tr p2 (s_X11_best_b8 _ _ h)
set_option maxHeartbeats 4000000 in
set_option maxRecDepth 100000 in
theorem a_X11_best_b8 {p : Program} {l : Launch} {e : Env} {s : State} {m : MethodId} {args : Array Value} {below : List Frame} {meth : Method} {c : Code} {Q : State → Prop} {D : va_G} {A : Nat → Prop} {cI cJ cZ cMic cSrc cSt cAI cAJ : ClassId} {ad0 : Nat → Nat} {T0 : AT} {r1 : Int32} {T1 : AT} (E : cE p c cX11_best s m args (Cond.code yX11_best cX11_best 1 (some .int) :: wsA) D RX11 (CT cI cJ cZ cMic cSrc cSt cAI cAJ)) (hA : ∀ q : Nat, s.heap.size ≤ q → A q) (hX : xT A s) (hN : nX s) (hml : c.maxLocals = 1) (hst : l.stackTraces = false) (kr11 : ∀ (ad : Nat → Nat) (H : Heap) (locs : List Loc) (ls : Array Slot), (∀ n, n < T0.1 → ad n = ad0 n) → gC cI cJ cZ cMic cSrc cSt cAI cAJ D ad A s.heap H locs T1 → W p l e { frames := 7, cells := T1.1 - T0.1, slots := sg T1 - sg T0, locals := 149 } s m args below meth c H locs (T1.1 - T0.1) (sg T1 - sg T0) Q (F0 m 11 ls [.int r1])) : ∀ (T : AT) (ad : Nat → Nat) (H : Heap) (locs : List Loc) (ls : Array Slot) (s0 : Nat), g_X11_best_b8 T s0 = some (0, r1, T1) → GL T0 T → RC T → (∀ n, n < T0.1 → ad n = ad0 n) → s0 < T.1 → gC cI cJ cZ cMic cSrc cSt cAI cAJ D ad A s.heap H locs T → lv_has ls 1 [] → W p l e { frames := 7, cells := T1.1 - T0.1, slots := sg T1 - sg T0, locals := 149 } s m args below meth c H locs (T.1 - T0.1) (sg T - sg T0) Q (F0 m 8 ls [.ref (ad s0)]) := by
  have hx := E.1
  have hb := E.2.1
  have hts := E.2.2.1
  have hown := E.2.2.2.1
  have hK := E.2.2.2.2
  intro T ad H locs ls s0 h hgl hrc had h_s0 G hl
  have hT1 := s_X11_best_b8 _ _ h
  have hcs := cs_ok hgl hT1
  have cp0 := cpr0 hrc
  unfold g_X11_best_b8 at h
  obtain ⟨g2, h⟩ := oif_some h
  refine c_get E G s0 2 (oO_k g2).1 (cc_o4 (oO_k g2).2) rfl (fun w h => .tail _ (iA_21 h)) (by decide) (.tail _ qA_812) rfl rfl dX11_best_8 ?_
  refine lv_topi (fun v3 ev3 => ?_)
  have h := elet_at ev3 h
  clear ev3
  rw [(osome3 h).2.2] at G
  refine w_cast (c2 := T1.1 - T0.1) (s2 := sg T1 - sg T0) (by rw [← (osome3 h).2.2, cp0.1] <;> rfl) (by rw [← (osome3 h).2.2, sg_cpr cp0] <;> rfl) ?_
  refine lv_to ((osome3 h).2.1) ?_
  exact kr11 ad _ _ _ had G
set_option maxHeartbeats 4000000 in
set_option maxRecDepth 100000 in
theorem a_X11_best (l : Launch) (hst : l.stackTraces = false) (D : va_G) (cI cJ cZ cMic cSrc cSt cAI cAJ : ClassId) (ad : Nat → Nat) (T : AT) (o : Nat) {r1 : Int32} {T1 : AT} (h : g_X11_best T o = some (0, r1, T1)) (hrc : RC T) (h_o : o < T.1) : kAi l yX11_best (Cond.code yX11_best cX11_best 1 (some .int) :: wsA) 7 149 cI cJ cZ cMic cSrc cSt cAI cAJ D ad T [.ref (ad o)] r1 T1 := by
  intro sz
  refine Met.ofW (cc := cX11_best) (maxL := 1) (ret := (some .int)) (by decide) rfl ?_
  intro p e s m args below meth c s₁ B hml hv
  obtain ⟨rfl, hsz, hP, hK, hD0, hX, hN⟩ := hv
  have hx := B.exec
  have hb := B.bytes
  have hr := B.returns
  have hts := atoms_spec (ws := (Cond.code yX11_best cX11_best 1 (some .int) :: wsA)) B.pre
  have hown : s.vm.findClass RX11 = some m.cls := findClass_of_methodNamed B.named
  have hlocks := B.notSynchronized
  subst hsz
  have hD := hD0.self (sz := s.heap.size)
  generalize hAe : va_A (cW ad T.1 (cc cI cJ cZ cMic cSrc cSt cAI cAJ ad T)) s.heap.size = A at hD hX ⊢
  have hA : ∀ q : Nat, s.heap.size ≤ q → A q := fun q h => by rw [← hAe]; exact Or.inr h
  have G : gC cI cJ cZ cMic cSrc cSt cAI cAJ D ad A s.heap s.heap [] T := ⟨hP, hD, va_S.rf⟩
  have E : cE p c cX11_best s m ([.ref (ad o)] : List Value).toArray (Cond.code yX11_best cX11_best 1 (some .int) :: wsA) D RX11 (CT cI cJ cZ cMic cSrc cSt cAI cAJ) := ⟨hx, hb, hts, hown, hK⟩
  have hl := lv_entry ([.ref (ad o)]) (n := 1) (Nat.le_of_ble_eq_true rfl)
  rw [lg_entry_eq]
  generalize (lg_sl ([.ref (ad o)]) ++ List.replicate (1 - (lg_sl ([.ref (ad o)])).length) Slot.unset).toArray = ls at hl ⊢
  have hl : lv_has ls 1 [(0, .ref (ad o))] := hl
  have hgl := GL.rf T
  have had : ∀ n, n < T.1 → ad n = ad n := fun _ _ => rfl
  have hT1 := s_X11_best h
  have hcs := cs_ok hgl hT1
  refine w_cast (Nat.sub_self T.1).symm (Nat.sub_self (sg T)).symm ?_
  have cp0 := cpr0 hrc
  unfold g_X11_best at h
  refine lv_aload_n hx hb dX11_best_0 rfl (lv_at hl 0 rfl) ?_
  obtain ⟨g2, h⟩ := oif_some h
  obtain ⟨r5, T3, eT3, h⟩ := othr_n h
  refine q_cvv (As := []) (rest := []) E G hA hX hN hml (u_X11_needCamera l hst D cI cJ cZ cMic cSrc cSt cAI cAJ ad T o eT3) (cwV 0 hts (gaV qA_728 qA_729 qA_730 qA_131 qA_731) rfl rfl rfl (by decide +kernel) ⟨Nat.le_of_ble_eq_true rfl, Nat.le_of_ble_eq_true rfl⟩) (oO_k g2).1 (cc_o11 (oO_k g2).2) rfl rfl hl.1 rfl (lv_room (Nat.le_of_ble_eq_true rfl)) dX11_best_1 hcs (fun T4 H locs hq G => ?_)
  rw [hq] at G
  clear hq
  have cp1 := cpr_sp cp0 (s_X11_needCamera eT3)
  refine lv_aload_n hx hb dX11_best_4 rfl (lv_at hl 0 rfl) ?_
  obtain ⟨g7, h⟩ := oif_some h
  obtain ⟨r9, T8, eT8, h⟩ := obind2_some h
  obtain ⟨g10, h⟩ := oif_some h
  have hg2 := s_X11_powersNow eT8
  have hrc2 := hg2.2.2 cp1.2.2
  have hT2 := s_X11_best_b8 _ _ h
  refine q_avr (As := []) (rest := []) E G hA hX hN hml (a_X11_powersNow l hst D cI cJ cZ cMic cSrc cSt cAI cAJ ad T3 o eT8 cp1.2.2 (by rw [cp1.1]; exact h_o)) (cwV 0 hts (gaV qA_799 qA_800 qA_801 qA_131 qA_802) rfl rfl rfl (by decide +kernel) ⟨Nat.le_of_ble_eq_true rfl, Nat.le_of_ble_eq_true rfl⟩) (oO_k g7).1 (cc_o11 (oO_k g7).2) rfl rfl hl.1 rfl (lv_room (Nat.le_of_ble_eq_true rfl)) dX11_best_5 (cs_av hgl cp1 hg2 hT2) (fun ad2 H locs hga G => ?_)
  refine w_cast (c2 := T8.1 - T.1) (s2 := sg T8 - sg T) (cs_f1 hgl cp1 hg2) (cs_f2 hgl cp1 hg2) ?_
  have h_new : r9 < T8.1 := Nat.le_of_ble_eq_true g10
  have hl := lv_sub hl [] rfl
  exact a_X11_best_b8 E hA hX hN hml hst (fun ad H locs ls had G => W.iret (v := r1) hx hb hr (fun t ht hW => ⟨⟨r1, (T1, ad), rfl, ⟨rfl, rfl, had⟩, ⟨by rw [ht]; exact G.1, va_K.moved hW.alike hK, G.2.1⟩⟩, G.2.2.F ht⟩) G.2.2.2.2 dX11_best_11) _ _ _ _ _ _ h (GL.tr (gl_cpr hgl cp1) hg2) hrc2 (fun n hn => (hga n (by rw [cp1.1]; exact Nat.lt_of_lt_of_le hn hgl.1)).trans (had n hn)) h_new G hl
set_option maxHeartbeats 4000000 in
set_option maxRecDepth 100000 in
theorem b_X11_best_b8 {p : Program} {l : Launch} {e : Env} {s : State} {m : MethodId} {args : Array Value} {below : List Frame} {meth : Method} {c : Code} {Qc : Array Value → State → Outcome → State → Prop} {XC : String → State → State → Prop} {D : va_G} {A : Nat → Prop} {cI cJ cZ cMic cSrc cSt cAI cAJ : ClassId} {ad0 : Nat → Nat} {T0 : AT} {e1 : Nat} {r1 : Int32} {T1 : AT} (E : cE p c cX11_best s m args (Cond.code yX11_best cX11_best 1 (some .int) :: wsA) D RX11 (CT cI cJ cZ cMic cSrc cSt cAI cAJ)) (hA : ∀ q : Nat, s.heap.size ≤ q → A q) (hX : xT A s) (hN : nX s) (hml : c.maxLocals = 1) (hst : l.stackTraces = false) (htab : ∀ x ∈ c.exceptionTable.toList, False) (hlocks : meth.locks = false) (kx : ∀ (ad : Nat → Nat) (H : Heap) (locs : List Loc) (t : State), (∀ n, n < T0.1 → ad n = ad0 n) → gC cI cJ cZ cMic cSrc cSt cAI cAJ D ad A s.heap H locs T1 → s.vm.Alike t.vm → H.size ≤ t.heap.size → (∀ q, q < H.size → t.heap[q]? = H[q]?) → XC (exn e1) s t) : ∀ (T : AT) (ad : Nat → Nat) (H : Heap) (locs : List Loc) (ls : Array Slot) (s0 : Nat), g_X11_best_b8 T s0 = some (e1 + 1, r1, T1) → GL T0 T → RC T → (∀ n, n < T0.1 → ad n = ad0 n) → s0 < T.1 → gC cI cJ cZ cMic cSrc cSt cAI cAJ D ad A s.heap H locs T → lv_has ls 1 [] → W p l e { frames := 7, cells := T1.1 - T0.1 + 1, slots := sg T1 - sg T0 + 6, locals := 149 } s m args below meth c H locs (T.1 - T0.1) (sg T - sg T0) (vx_MQ below Qc XC args s (T1.1 - T0.1 + 1) (sg T1 - sg T0 + 6) A) (F0 m 8 ls [.ref (ad s0)]) := by
  have hx := E.1
  have hb := E.2.1
  have hts := E.2.2.1
  have hown := E.2.2.2.1
  have hK := E.2.2.2.2
  intro T ad H locs ls s0 h hgl hrc had h_s0 G hl
  have hT1 := s_X11_best_b8 _ _ h
  have hcs := cs_okx hgl hT1
  have hcx := cs_okx1 hgl hT1
  have cp0 := cpr0 hrc
  unfold g_X11_best_b8 at h
  obtain ⟨g2, h⟩ := oif_some h
  refine c_get E G s0 2 (oO_k g2).1 (cc_o4 (oO_k g2).2) rfl (fun w h => .tail _ (iA_21 h)) (by decide) (.tail _ qA_812) rfl rfl dX11_best_8 ?_
  refine lv_topi (fun v3 ev3 => ?_)
  have h := elet_at ev3 h
  clear ev3
  exact (Nat.succ_ne_zero _ (congrArg Prod.fst (Option.some.inj h)).symm).elim
set_option maxHeartbeats 4000000 in
set_option maxRecDepth 100000 in
theorem b_X11_best (l : Launch) (hst : l.stackTraces = false) (D : va_G) (cI cJ cZ cMic cSrc cSt cAI cAJ : ClassId) (ad : Nat → Nat) (T : AT) (o : Nat) {e1 : Nat} {r1 : Int32} {T1 : AT} (h : g_X11_best T o = some (e1 + 1, r1, T1)) (hrc : RC T) (h_o : o < T.1) : kAXi l yX11_best (Cond.code yX11_best cX11_best 1 (some .int) :: wsA) 7 149 cI cJ cZ cMic cSrc cSt cAI cAJ D ad T [.ref (ad o)] e1 T1 := by
  intro sz
  refine vx_ofW (cc := cX11_best) (maxL := 1) (ret := (some .int)) (by decide) rfl ?_
  intro p e s m args below meth c s₁ B hml htab hv
  obtain ⟨rfl, hsz, hP, hK, hD0, hX, hN⟩ := hv
  have hx := B.exec
  have hb := B.bytes
  have hr := B.returns
  have hts := atoms_spec (ws := (Cond.code yX11_best cX11_best 1 (some .int) :: wsA)) B.pre
  have hown : s.vm.findClass RX11 = some m.cls := findClass_of_methodNamed B.named
  have hlocks := B.notSynchronized
  subst hsz
  have hD := hD0.self (sz := s.heap.size)
  generalize hAe : va_A (cW ad T.1 (cc cI cJ cZ cMic cSrc cSt cAI cAJ ad T)) s.heap.size = A at hD hX ⊢
  have hA : ∀ q : Nat, s.heap.size ≤ q → A q := fun q h => by rw [← hAe]; exact Or.inr h
  have G : gC cI cJ cZ cMic cSrc cSt cAI cAJ D ad A s.heap s.heap [] T := ⟨hP, hD, va_S.rf⟩
  have E : cE p c cX11_best s m ([.ref (ad o)] : List Value).toArray (Cond.code yX11_best cX11_best 1 (some .int) :: wsA) D RX11 (CT cI cJ cZ cMic cSrc cSt cAI cAJ) := ⟨hx, hb, hts, hown, hK⟩
  have htab : ∀ x ∈ c.exceptionTable.toList, False := fun x hx => htab x hx
  have hl := lv_entry ([.ref (ad o)]) (n := 1) (Nat.le_of_ble_eq_true rfl)
  rw [lg_entry_eq]
  generalize (lg_sl ([.ref (ad o)]) ++ List.replicate (1 - (lg_sl ([.ref (ad o)])).length) Slot.unset).toArray = ls at hl ⊢
  have hl : lv_has ls 1 [(0, .ref (ad o))] := hl
  have hgl := GL.rf T
  have had : ∀ n, n < T.1 → ad n = ad n := fun _ _ => rfl
  have hT1 := s_X11_best h
  have hcs := cs_okx hgl hT1
  have hcx := cs_okx1 hgl hT1
  refine w_cast (Nat.sub_self T.1).symm (Nat.sub_self (sg T)).symm ?_
  have cp0 := cpr0 hrc
  unfold g_X11_best at h
  refine lv_aload_n hx hb dX11_best_0 rfl (lv_at hl 0 rfl) ?_
  obtain ⟨g2, h⟩ := oif_some h
  rcases othr_t h with ⟨r0, eT3⟩ | ⟨r5, T3, eT3, h⟩
  · refine q_xvv (As := []) (rest := []) E G hA hX hN hml (x_X11_needCamera l hst D cI cJ cZ cMic cSrc cSt cAI cAJ ad T o eT3) (cwV 0 hts (gaV qA_728 qA_729 qA_730 qA_131 qA_731) rfl rfl rfl (by decide +kernel) ⟨Nat.le_of_ble_eq_true rfl, Nat.le_of_ble_eq_true rfl⟩) (oO_k g2).1 (cc_o11 (oO_k g2).2) rfl rfl hl.1 rfl (lv_room (Nat.le_of_ble_eq_true rfl)) dX11_best_1 hcx (fun E9 ce q9 T9 H locs hp G hce hcv hcl => ?_)
    obtain ⟨hE, hT⟩ := hp
    subst hE
    rw [hT] at G
    exact vx_out (fun x hx => (htab x hx).elim) hlocks hce hcv hcl (fun t ht hvm => ⟨(T1, ad), trivial, ⟨⟨rfl, rfl, had⟩, by rw [ht]; exact G.1, va_K.moved hvm hK, G.2.1⟩, G.2.2.F ht⟩) G.2.2.2.2 hcx.1 hcx.2
  refine q_cvv (As := []) (rest := []) E G hA hX hN hml (u_X11_needCamera l hst D cI cJ cZ cMic cSrc cSt cAI cAJ ad T o eT3) (cwV 0 hts (gaV qA_728 qA_729 qA_730 qA_131 qA_731) rfl rfl rfl (by decide +kernel) ⟨Nat.le_of_ble_eq_true rfl, Nat.le_of_ble_eq_true rfl⟩) (oO_k g2).1 (cc_o11 (oO_k g2).2) rfl rfl hl.1 rfl (lv_room (Nat.le_of_ble_eq_true rfl)) dX11_best_1 hcs (fun T4 H locs hq G => ?_)
  rw [hq] at G
  clear hq
  have cp1 := cpr_sp cp0 (s_X11_needCamera eT3)
  refine lv_aload_n hx hb dX11_best_4 rfl (lv_at hl 0 rfl) ?_
  obtain ⟨g7, h⟩ := oif_some h
  obtain ⟨r9, T8, eT8, h⟩ := obind2_some h
  obtain ⟨g10, h⟩ := oif_some h
  have hg2 := s_X11_powersNow eT8
  have hrc2 := hg2.2.2 cp1.2.2
  have hT2 := s_X11_best_b8 _ _ h
  refine q_avr (As := []) (rest := []) E G hA hX hN hml (a_X11_powersNow l hst D cI cJ cZ cMic cSrc cSt cAI cAJ ad T3 o eT8 cp1.2.2 (by rw [cp1.1]; exact h_o)) (cwV 0 hts (gaV qA_799 qA_800 qA_801 qA_131 qA_802) rfl rfl rfl (by decide +kernel) ⟨Nat.le_of_ble_eq_true rfl, Nat.le_of_ble_eq_true rfl⟩) (oO_k g7).1 (cc_o11 (oO_k g7).2) rfl rfl hl.1 rfl (lv_room (Nat.le_of_ble_eq_true rfl)) dX11_best_5 (cs_avx hgl cp1 hg2 hT2) (fun ad2 H locs hga G => ?_)
  refine w_cast (c2 := T8.1 - T.1) (s2 := sg T8 - sg T) (cs_f1 hgl cp1 hg2) (cs_f2 hgl cp1 hg2) ?_
  have h_new : r9 < T8.1 := Nat.le_of_ble_eq_true g10
  have hl := lv_sub hl [] rfl
  exact b_X11_best_b8 E hA hX hN hml hst htab hlocks (fun ad H locs t had G hvm h1 h2 => ⟨(T1, ad), trivial, ⟨⟨rfl, rfl, had⟩, (c_thrown G hK hvm h1 h2).1⟩, (c_thrown G hK hvm h1 h2).2⟩) _ _ _ _ _ _ h (GL.tr (gl_cpr hgl cp1) hg2) hrc2 (fun n hn => (hga n (by rw [cp1.1]; exact Nat.lt_of_lt_of_le hn hgl.1)).trans (had n hn)) h_new G hl
def g_X11_bestPower_b8  (T : AT) (s0 : Nat) : Option (Nat × Int64 × AT) := oif (oO T s0 4 = true) <| obind (T.2.2.2.2 s0 1) fun n3 => oif (oO T s0 4 = true) <| elet (T.2.2.1 s0 2) fun v5 => oif (oO T n3 10 = true) <| obind2 (g_X10_value T n3 v5) fun r9 T7 => some (0, r9, T7)
def g_X11_bestPower (T : AT) (o : Nat) : Option (Nat × Int64 × AT) := oif (oO T o 11 = true) <| othr (g_X11_needCamera T o) 0 fun r5 T3 => oif (oO T3 o 11 = true) <| obind2 (g_X11_powersNow T3 o) fun r9 T8 => oif (Nat.blt r9 T8.1 = true) <| g_X11_bestPower_b8 T8 r9
set_option maxHeartbeats 4000000 in
set_option maxRecDepth 100000 in
theorem s_X11_bestPower_b8 {e1 : Nat} {r1 : Int64} {T1 : AT} : ∀ (T : AT) (s0 : Nat), g_X11_bestPower_b8 T s0 = some (e1, r1, T1) → GL T T1 := by
  intro T s0 h
  have p0 := GL.rf T
  unfold g_X11_bestPower_b8 at h
  obtain ⟨g2, h⟩ := oif_some h
  obtain ⟨n3, en3, h⟩ := obind_some h
  obtain ⟨g4, h⟩ := oif_some h
  obtain ⟨v5, -, h⟩ := elet_some h
  obtain ⟨g6, h⟩ := oif_some h
  obtain ⟨r8, T7, eT7, h⟩ := obind2_some h
  have p1 : GL T T7 := GL.tr p0 (gl_sp (s_X10_value eT7))
  rw [← (osome3 h).2.2]
  exact p1
set_option maxHeartbeats 4000000 in
set_option maxRecDepth 100000 in
theorem s_X11_bestPower {T : AT} {o : Nat} {e1 : Nat} {r1 : Int64} {T1 : AT} (h : g_X11_bestPower T o = some (e1, r1, T1)) : GL T T1 := by
  have p0 := GL.rf T
  unfold g_X11_bestPower at h
  obtain ⟨g2, h⟩ := oif_some h
  rcases othr_s h with ⟨k9, r9, e9, -⟩ | ⟨r4, T3, eT3, h⟩
  · exact GL.tr p0 (gl_sp (s_X11_needCamera e9))
  have p1 : GL T T3 := GL.tr p0 (gl_sp (s_X11_needCamera eT3))
  obtain ⟨g5, h⟩ := oif_some h
  obtain ⟨r7, T6, eT6, h⟩ := obind2_some h
  obtain ⟨g8, h⟩ := oif_some h
  have p2 : GL T T6 := GL.tr p1 (s_X11_powersNow eT6)
  exact GL.tr p2 (s_X11_bestPower_b8 _ _ h)
set_option maxHeartbeats 4000000 in
set_option maxRecDepth 100000 in
theorem a_X11_bestPower_b8 {p : Program} {l : Launch} {e : Env} {s : State} {m : MethodId} {args : Array Value} {below : List Frame} {meth : Method} {c : Code} {Q : State → Prop} {D : va_G} {A : Nat → Prop} {cI cJ cZ cMic cSrc cSt cAI cAJ : ClassId} {ad0 : Nat → Nat} {T0 : AT} {r1 : Int64} {T1 : AT} (E : cE p c cX11_bestPower s m args (Cond.code yX11_bestPower cX11_bestPower 2 (some .long) :: wsA) D RX11 (CT cI cJ cZ cMic cSrc cSt cAI cAJ)) (hA : ∀ q : Nat, s.heap.size ≤ q → A q) (hX : xT A s) (hN : nX s) (hml : c.maxLocals = 2) (hst : l.stackTraces = false) (kr20 : ∀ (ad : Nat → Nat) (H : Heap) (locs : List Loc) (ls : Array Slot), (∀ n, n < T0.1 → ad n = ad0 n) → gC cI cJ cZ cMic cSrc cSt cAI cAJ D ad A s.heap H locs T1 → W p l e { frames := 7, cells := T1.1 - T0.1, slots := sg T1 - sg T0, locals := 149 } s m args below meth c H locs (T1.1 - T0.1) (sg T1 - sg T0) Q (F0 m 20 ls [.long r1])) : ∀ (T : AT) (ad : Nat → Nat) (H : Heap) (locs : List Loc) (ls : Array Slot) (s0 : Nat), g_X11_bestPower_b8 T s0 = some (0, r1, T1) → GL T0 T → RC T → (∀ n, n < T0.1 → ad n = ad0 n) → s0 < T.1 → gC cI cJ cZ cMic cSrc cSt cAI cAJ D ad A s.heap H locs T → lv_has ls 2 [] → W p l e { frames := 7, cells := T1.1 - T0.1, slots := sg T1 - sg T0, locals := 149 } s m args below meth c H locs (T.1 - T0.1) (sg T - sg T0) Q (F0 m 8 ls [.ref (ad s0)]) := by
  have hx := E.1
  have hb := E.2.1
  have hts := E.2.2.1
  have hown := E.2.2.2.1
  have hK := E.2.2.2.2
  intro T ad H locs ls s0 h hgl hrc had h_s0 G hl
  have hT1 := s_X11_bestPower_b8 _ _ h
  have hcs := cs_ok hgl hT1
  have cp0 := cpr0 hrc
  unfold g_X11_bestPower_b8 at h
  refine lv_astore_n (lv' := [(1, .ref (ad s0))]) hx hb dX11_bestPower_8 rfl hl (by decide) rfl (fun ls hl => ?_)
  refine lv_aload_n hx hb dX11_bestPower_9 rfl (lv_at hl 0 rfl) ?_
  obtain ⟨g2, h⟩ := oif_some h
  obtain ⟨n3, en3, h⟩ := obind_some h
  have h_n3 : n3 < T.1 := by rw [← cp0.1]; exact cp0.2.2 _ _ _ en3
  refine c_get E G s0 1 (v := .ref (ad n3)) (oO_k g2).1 (cc_o4 (oO_k g2).2) rfl (fun w h => .tail _ (iA_21 h)) (by decide) (.tail _ qA_798) rfl (by rw [en3]; rfl) dX11_bestPower_10 ?_
  clear en3
  refine lv_aload_n hx hb dX11_bestPower_13 rfl (lv_at hl 0 rfl) ?_
  obtain ⟨g4, h⟩ := oif_some h
  refine c_get E G s0 2 (oO_k g4).1 (cc_o4 (oO_k g4).2) rfl (fun w h => .tail _ (iA_21 h)) (by decide) (.tail _ qA_812) rfl rfl dX11_bestPower_14 ?_
  refine lv_topi (fun v5 ev5 => ?_)
  have h := elet_at ev5 h
  clear ev5
  obtain ⟨g6, h⟩ := oif_some h
  obtain ⟨r9, T7, eT7, h⟩ := obind2_some h
  refine q_cvl (As := [.int v5]) (rest := []) E G hA hX hN hml (u_X10_value l hst D cI cJ cZ cMic cSrc cSt cAI cAJ ad T n3 v5 eT7) (cwV 1 hts (gaV qA_791 qA_792 qA_793 qA_6 qA_633) rfl rfl rfl (by decide +kernel) ⟨Nat.le_of_ble_eq_true rfl, Nat.le_of_ble_eq_true rfl⟩) (oO_k g6).1 (cc_o10 (oO_k g6).2) rfl rfl hl.1 rfl (lv_room (Nat.le_of_ble_eq_true rfl)) dX11_bestPower_17 hcs (fun q10 T8 H locs hq G => ?_)
  obtain ⟨hq1, hq2⟩ := hq
  rw [hq2] at G
  refine lv_tol hq1 ?_
  clear hq1 hq2
  have cp1 := cpr_sp cp0 (s_X10_value eT7)
  rw [(osome3 h).2.2] at G
  refine w_cast (c2 := T1.1 - T0.1) (s2 := sg T1 - sg T0) (by rw [← (osome3 h).2.2, cp1.1] <;> rfl) (by rw [← (osome3 h).2.2, sg_cpr cp1] <;> rfl) ?_
  refine lv_tol ((osome3 h).2.1) ?_
  exact kr20 ad _ _ _ had G
set_option maxHeartbeats 4000000 in
set_option maxRecDepth 100000 in
theorem a_X11_bestPower (l : Launch) (hst : l.stackTraces = false) (D : va_G) (cI cJ cZ cMic cSrc cSt cAI cAJ : ClassId) (ad : Nat → Nat) (T : AT) (o : Nat) {r1 : Int64} {T1 : AT} (h : g_X11_bestPower T o = some (0, r1, T1)) (hrc : RC T) (h_o : o < T.1) : kAl l yX11_bestPower (Cond.code yX11_bestPower cX11_bestPower 2 (some .long) :: wsA) 7 149 cI cJ cZ cMic cSrc cSt cAI cAJ D ad T [.ref (ad o)] r1 T1 := by
  intro sz
  refine Met.ofW (cc := cX11_bestPower) (maxL := 2) (ret := (some .long)) (by decide) rfl ?_
  intro p e s m args below meth c s₁ B hml hv
  obtain ⟨rfl, hsz, hP, hK, hD0, hX, hN⟩ := hv
  have hx := B.exec
  have hb := B.bytes
  have hr := B.returns
  have hts := atoms_spec (ws := (Cond.code yX11_bestPower cX11_bestPower 2 (some .long) :: wsA)) B.pre
  have hown : s.vm.findClass RX11 = some m.cls := findClass_of_methodNamed B.named
  have hlocks := B.notSynchronized
  subst hsz
  have hD := hD0.self (sz := s.heap.size)
  generalize hAe : va_A (cW ad T.1 (cc cI cJ cZ cMic cSrc cSt cAI cAJ ad T)) s.heap.size = A at hD hX ⊢
  have hA : ∀ q : Nat, s.heap.size ≤ q → A q := fun q h => by rw [← hAe]; exact Or.inr h
  have G : gC cI cJ cZ cMic cSrc cSt cAI cAJ D ad A s.heap s.heap [] T := ⟨hP, hD, va_S.rf⟩
  have E : cE p c cX11_bestPower s m ([.ref (ad o)] : List Value).toArray (Cond.code yX11_bestPower cX11_bestPower 2 (some .long) :: wsA) D RX11 (CT cI cJ cZ cMic cSrc cSt cAI cAJ) := ⟨hx, hb, hts, hown, hK⟩
  have hl := lv_entry ([.ref (ad o)]) (n := 2) (Nat.le_of_ble_eq_true rfl)
  rw [lg_entry_eq]
  generalize (lg_sl ([.ref (ad o)]) ++ List.replicate (2 - (lg_sl ([.ref (ad o)])).length) Slot.unset).toArray = ls at hl ⊢
  have hl : lv_has ls 2 [(0, .ref (ad o))] := hl
  have hgl := GL.rf T
  have had : ∀ n, n < T.1 → ad n = ad n := fun _ _ => rfl
  have hT1 := s_X11_bestPower h
  have hcs := cs_ok hgl hT1
  refine w_cast (Nat.sub_self T.1).symm (Nat.sub_self (sg T)).symm ?_
  have cp0 := cpr0 hrc
  unfold g_X11_bestPower at h
  refine lv_aload_n hx hb dX11_bestPower_0 rfl (lv_at hl 0 rfl) ?_
  obtain ⟨g2, h⟩ := oif_some h
  obtain ⟨r5, T3, eT3, h⟩ := othr_n h
  refine q_cvv (As := []) (rest := []) E G hA hX hN hml (u_X11_needCamera l hst D cI cJ cZ cMic cSrc cSt cAI cAJ ad T o eT3) (cwV 0 hts (gaV qA_728 qA_729 qA_730 qA_131 qA_731) rfl rfl rfl (by decide +kernel) ⟨Nat.le_of_ble_eq_true rfl, Nat.le_of_ble_eq_true rfl⟩) (oO_k g2).1 (cc_o11 (oO_k g2).2) rfl rfl hl.1 rfl (lv_room (Nat.le_of_ble_eq_true rfl)) dX11_bestPower_1 hcs (fun T4 H locs hq G => ?_)
  rw [hq] at G
  clear hq
  have cp1 := cpr_sp cp0 (s_X11_needCamera eT3)
  refine lv_aload_n hx hb dX11_bestPower_4 rfl (lv_at hl 0 rfl) ?_
  obtain ⟨g7, h⟩ := oif_some h
  obtain ⟨r9, T8, eT8, h⟩ := obind2_some h
  obtain ⟨g10, h⟩ := oif_some h
  have hg2 := s_X11_powersNow eT8
  have hrc2 := hg2.2.2 cp1.2.2
  have hT2 := s_X11_bestPower_b8 _ _ h
  refine q_avr (As := []) (rest := []) E G hA hX hN hml (a_X11_powersNow l hst D cI cJ cZ cMic cSrc cSt cAI cAJ ad T3 o eT8 cp1.2.2 (by rw [cp1.1]; exact h_o)) (cwV 0 hts (gaV qA_799 qA_800 qA_801 qA_131 qA_802) rfl rfl rfl (by decide +kernel) ⟨Nat.le_of_ble_eq_true rfl, Nat.le_of_ble_eq_true rfl⟩) (oO_k g7).1 (cc_o11 (oO_k g7).2) rfl rfl hl.1 rfl (lv_room (Nat.le_of_ble_eq_true rfl)) dX11_bestPower_5 (cs_av hgl cp1 hg2 hT2) (fun ad2 H locs hga G => ?_)
  refine w_cast (c2 := T8.1 - T.1) (s2 := sg T8 - sg T) (cs_f1 hgl cp1 hg2) (cs_f2 hgl cp1 hg2) ?_
  have h_new : r9 < T8.1 := Nat.le_of_ble_eq_true g10
  have hl := lv_sub hl [] rfl
  exact a_X11_bestPower_b8 E hA hX hN hml hst (fun ad H locs ls had G => W.lret (v := r1) hx hb hr (fun t ht hW => ⟨⟨r1, (T1, ad), rfl, ⟨rfl, rfl, had⟩, ⟨by rw [ht]; exact G.1, va_K.moved hW.alike hK, G.2.1⟩⟩, G.2.2.F ht⟩) G.2.2.2.2 dX11_bestPower_20) _ _ _ _ _ _ h (GL.tr (gl_cpr hgl cp1) hg2) hrc2 (fun n hn => (hga n (by rw [cp1.1]; exact Nat.lt_of_lt_of_le hn hgl.1)).trans (had n hn)) h_new G hl
set_option maxHeartbeats 4000000 in
set_option maxRecDepth 100000 in
theorem b_X11_bestPower_b8 {p : Program} {l : Launch} {e : Env} {s : State} {m : MethodId} {args : Array Value} {below : List Frame} {meth : Method} {c : Code} {Qc : Array Value → State → Outcome → State → Prop} {XC : String → State → State → Prop} {D : va_G} {A : Nat → Prop} {cI cJ cZ cMic cSrc cSt cAI cAJ : ClassId} {ad0 : Nat → Nat} {T0 : AT} {e1 : Nat} {r1 : Int64} {T1 : AT} (E : cE p c cX11_bestPower s m args (Cond.code yX11_bestPower cX11_bestPower 2 (some .long) :: wsA) D RX11 (CT cI cJ cZ cMic cSrc cSt cAI cAJ)) (hA : ∀ q : Nat, s.heap.size ≤ q → A q) (hX : xT A s) (hN : nX s) (hml : c.maxLocals = 2) (hst : l.stackTraces = false) (htab : ∀ x ∈ c.exceptionTable.toList, False) (hlocks : meth.locks = false) (kx : ∀ (ad : Nat → Nat) (H : Heap) (locs : List Loc) (t : State), (∀ n, n < T0.1 → ad n = ad0 n) → gC cI cJ cZ cMic cSrc cSt cAI cAJ D ad A s.heap H locs T1 → s.vm.Alike t.vm → H.size ≤ t.heap.size → (∀ q, q < H.size → t.heap[q]? = H[q]?) → XC (exn e1) s t) : ∀ (T : AT) (ad : Nat → Nat) (H : Heap) (locs : List Loc) (ls : Array Slot) (s0 : Nat), g_X11_bestPower_b8 T s0 = some (e1 + 1, r1, T1) → GL T0 T → RC T → (∀ n, n < T0.1 → ad n = ad0 n) → s0 < T.1 → gC cI cJ cZ cMic cSrc cSt cAI cAJ D ad A s.heap H locs T → lv_has ls 2 [] → W p l e { frames := 7, cells := T1.1 - T0.1 + 1, slots := sg T1 - sg T0 + 6, locals := 149 } s m args below meth c H locs (T.1 - T0.1) (sg T - sg T0) (vx_MQ below Qc XC args s (T1.1 - T0.1 + 1) (sg T1 - sg T0 + 6) A) (F0 m 8 ls [.ref (ad s0)]) := by
  have hx := E.1
  have hb := E.2.1
  have hts := E.2.2.1
  have hown := E.2.2.2.1
  have hK := E.2.2.2.2
  intro T ad H locs ls s0 h hgl hrc had h_s0 G hl
  have hT1 := s_X11_bestPower_b8 _ _ h
  have hcs := cs_okx hgl hT1
  have hcx := cs_okx1 hgl hT1
  have cp0 := cpr0 hrc
  unfold g_X11_bestPower_b8 at h
  refine lv_astore_n (lv' := [(1, .ref (ad s0))]) hx hb dX11_bestPower_8 rfl hl (by decide) rfl (fun ls hl => ?_)
  refine lv_aload_n hx hb dX11_bestPower_9 rfl (lv_at hl 0 rfl) ?_
  obtain ⟨g2, h⟩ := oif_some h
  obtain ⟨n3, en3, h⟩ := obind_some h
  have h_n3 : n3 < T.1 := by rw [← cp0.1]; exact cp0.2.2 _ _ _ en3
  refine c_get E G s0 1 (v := .ref (ad n3)) (oO_k g2).1 (cc_o4 (oO_k g2).2) rfl (fun w h => .tail _ (iA_21 h)) (by decide) (.tail _ qA_798) rfl (by rw [en3]; rfl) dX11_bestPower_10 ?_
  clear en3
  refine lv_aload_n hx hb dX11_bestPower_13 rfl (lv_at hl 0 rfl) ?_
  obtain ⟨g4, h⟩ := oif_some h
  refine c_get E G s0 2 (oO_k g4).1 (cc_o4 (oO_k g4).2) rfl (fun w h => .tail _ (iA_21 h)) (by decide) (.tail _ qA_812) rfl rfl dX11_bestPower_14 ?_
  refine lv_topi (fun v5 ev5 => ?_)
  have h := elet_at ev5 h
  clear ev5
  obtain ⟨g6, h⟩ := oif_some h
  obtain ⟨r9, T7, eT7, h⟩ := obind2_some h
  refine q_cvl (As := [.int v5]) (rest := []) E G hA hX hN hml (u_X10_value l hst D cI cJ cZ cMic cSrc cSt cAI cAJ ad T n3 v5 eT7) (cwV 1 hts (gaV qA_791 qA_792 qA_793 qA_6 qA_633) rfl rfl rfl (by decide +kernel) ⟨Nat.le_of_ble_eq_true rfl, Nat.le_of_ble_eq_true rfl⟩) (oO_k g6).1 (cc_o10 (oO_k g6).2) rfl rfl hl.1 rfl (lv_room (Nat.le_of_ble_eq_true rfl)) dX11_bestPower_17 hcs (fun q10 T8 H locs hq G => ?_)
  obtain ⟨hq1, hq2⟩ := hq
  rw [hq2] at G
  refine lv_tol hq1 ?_
  clear hq1 hq2
  have cp1 := cpr_sp cp0 (s_X10_value eT7)
  exact (Nat.succ_ne_zero _ (congrArg Prod.fst (Option.some.inj h)).symm).elim
set_option maxHeartbeats 4000000 in
set_option maxRecDepth 100000 in
theorem b_X11_bestPower (l : Launch) (hst : l.stackTraces = false) (D : va_G) (cI cJ cZ cMic cSrc cSt cAI cAJ : ClassId) (ad : Nat → Nat) (T : AT) (o : Nat) {e1 : Nat} {r1 : Int64} {T1 : AT} (h : g_X11_bestPower T o = some (e1 + 1, r1, T1)) (hrc : RC T) (h_o : o < T.1) : kAXl l yX11_bestPower (Cond.code yX11_bestPower cX11_bestPower 2 (some .long) :: wsA) 7 149 cI cJ cZ cMic cSrc cSt cAI cAJ D ad T [.ref (ad o)] e1 T1 := by
  intro sz
  refine vx_ofW (cc := cX11_bestPower) (maxL := 2) (ret := (some .long)) (by decide) rfl ?_
  intro p e s m args below meth c s₁ B hml htab hv
  obtain ⟨rfl, hsz, hP, hK, hD0, hX, hN⟩ := hv
  have hx := B.exec
  have hb := B.bytes
  have hr := B.returns
  have hts := atoms_spec (ws := (Cond.code yX11_bestPower cX11_bestPower 2 (some .long) :: wsA)) B.pre
  have hown : s.vm.findClass RX11 = some m.cls := findClass_of_methodNamed B.named
  have hlocks := B.notSynchronized
  subst hsz
  have hD := hD0.self (sz := s.heap.size)
  generalize hAe : va_A (cW ad T.1 (cc cI cJ cZ cMic cSrc cSt cAI cAJ ad T)) s.heap.size = A at hD hX ⊢
  have hA : ∀ q : Nat, s.heap.size ≤ q → A q := fun q h => by rw [← hAe]; exact Or.inr h
  have G : gC cI cJ cZ cMic cSrc cSt cAI cAJ D ad A s.heap s.heap [] T := ⟨hP, hD, va_S.rf⟩
  have E : cE p c cX11_bestPower s m ([.ref (ad o)] : List Value).toArray (Cond.code yX11_bestPower cX11_bestPower 2 (some .long) :: wsA) D RX11 (CT cI cJ cZ cMic cSrc cSt cAI cAJ) := ⟨hx, hb, hts, hown, hK⟩
  have htab : ∀ x ∈ c.exceptionTable.toList, False := fun x hx => htab x hx
  have hl := lv_entry ([.ref (ad o)]) (n := 2) (Nat.le_of_ble_eq_true rfl)
  rw [lg_entry_eq]
  generalize (lg_sl ([.ref (ad o)]) ++ List.replicate (2 - (lg_sl ([.ref (ad o)])).length) Slot.unset).toArray = ls at hl ⊢
  have hl : lv_has ls 2 [(0, .ref (ad o))] := hl
  have hgl := GL.rf T
  have had : ∀ n, n < T.1 → ad n = ad n := fun _ _ => rfl
  have hT1 := s_X11_bestPower h
  have hcs := cs_okx hgl hT1
  have hcx := cs_okx1 hgl hT1
  refine w_cast (Nat.sub_self T.1).symm (Nat.sub_self (sg T)).symm ?_
  have cp0 := cpr0 hrc
  unfold g_X11_bestPower at h
  refine lv_aload_n hx hb dX11_bestPower_0 rfl (lv_at hl 0 rfl) ?_
  obtain ⟨g2, h⟩ := oif_some h
  rcases othr_t h with ⟨r0, eT3⟩ | ⟨r5, T3, eT3, h⟩
  · refine q_xvv (As := []) (rest := []) E G hA hX hN hml (x_X11_needCamera l hst D cI cJ cZ cMic cSrc cSt cAI cAJ ad T o eT3) (cwV 0 hts (gaV qA_728 qA_729 qA_730 qA_131 qA_731) rfl rfl rfl (by decide +kernel) ⟨Nat.le_of_ble_eq_true rfl, Nat.le_of_ble_eq_true rfl⟩) (oO_k g2).1 (cc_o11 (oO_k g2).2) rfl rfl hl.1 rfl (lv_room (Nat.le_of_ble_eq_true rfl)) dX11_bestPower_1 hcx (fun E9 ce q9 T9 H locs hp G hce hcv hcl => ?_)
    obtain ⟨hE, hT⟩ := hp
    subst hE
    rw [hT] at G
    exact vx_out (fun x hx => (htab x hx).elim) hlocks hce hcv hcl (fun t ht hvm => ⟨(T1, ad), trivial, ⟨⟨rfl, rfl, had⟩, by rw [ht]; exact G.1, va_K.moved hvm hK, G.2.1⟩, G.2.2.F ht⟩) G.2.2.2.2 hcx.1 hcx.2
  refine q_cvv (As := []) (rest := []) E G hA hX hN hml (u_X11_needCamera l hst D cI cJ cZ cMic cSrc cSt cAI cAJ ad T o eT3) (cwV 0 hts (gaV qA_728 qA_729 qA_730 qA_131 qA_731) rfl rfl rfl (by decide +kernel) ⟨Nat.le_of_ble_eq_true rfl, Nat.le_of_ble_eq_true rfl⟩) (oO_k g2).1 (cc_o11 (oO_k g2).2) rfl rfl hl.1 rfl (lv_room (Nat.le_of_ble_eq_true rfl)) dX11_bestPower_1 hcs (fun T4 H locs hq G => ?_)
  rw [hq] at G
  clear hq
  have cp1 := cpr_sp cp0 (s_X11_needCamera eT3)
  refine lv_aload_n hx hb dX11_bestPower_4 rfl (lv_at hl 0 rfl) ?_
  obtain ⟨g7, h⟩ := oif_some h
  obtain ⟨r9, T8, eT8, h⟩ := obind2_some h
  obtain ⟨g10, h⟩ := oif_some h
  have hg2 := s_X11_powersNow eT8
  have hrc2 := hg2.2.2 cp1.2.2
  have hT2 := s_X11_bestPower_b8 _ _ h
  refine q_avr (As := []) (rest := []) E G hA hX hN hml (a_X11_powersNow l hst D cI cJ cZ cMic cSrc cSt cAI cAJ ad T3 o eT8 cp1.2.2 (by rw [cp1.1]; exact h_o)) (cwV 0 hts (gaV qA_799 qA_800 qA_801 qA_131 qA_802) rfl rfl rfl (by decide +kernel) ⟨Nat.le_of_ble_eq_true rfl, Nat.le_of_ble_eq_true rfl⟩) (oO_k g7).1 (cc_o11 (oO_k g7).2) rfl rfl hl.1 rfl (lv_room (Nat.le_of_ble_eq_true rfl)) dX11_bestPower_5 (cs_avx hgl cp1 hg2 hT2) (fun ad2 H locs hga G => ?_)
  refine w_cast (c2 := T8.1 - T.1) (s2 := sg T8 - sg T) (cs_f1 hgl cp1 hg2) (cs_f2 hgl cp1 hg2) ?_
  have h_new : r9 < T8.1 := Nat.le_of_ble_eq_true g10
  have hl := lv_sub hl [] rfl
  exact b_X11_bestPower_b8 E hA hX hN hml hst htab hlocks (fun ad H locs t had G hvm h1 h2 => ⟨(T1, ad), trivial, ⟨⟨rfl, rfl, had⟩, (c_thrown G hK hvm h1 h2).1⟩, (c_thrown G hK hvm h1 h2).2⟩) _ _ _ _ _ _ h (GL.tr (gl_cpr hgl cp1) hg2) hrc2 (fun n hn => (hga n (by rw [cp1.1]; exact Nat.lt_of_lt_of_le hn hgl.1)).trans (had n hn)) h_new G hl
def g_X11_meanPower_b51  (T : AT) (l0 : Nat) : Option (Nat × Int64 × AT) := oif (oO T l0 11 = true) <| obind (T.2.2.2.2 l0 12) fun n3 => oif (oO T n3 10 = true) <| obind2 (g_X10_value T n3 (0 : Int32)) fun r7 T5 => some (0, r7, T5)
def g_X11_meanPower_b33  (T : AT) (l0 : Nat) : Option (Nat × Int64 × AT) := oif (oO T l0 11 = true) <| obind (T.2.2.2.2 l0 12) fun n3 => oif (oO T l0 11 = true) <| obind (T.2.2.2.2 l0 14) fun n5 => oif (oO T n5 6 = true) <| obind (T.2.2.2.2 n5 6) fun n7 => oif (oO T n7 1 = true) <| obind2 (g_X1_cells T n7) fun r11 T9 => oif (oO T9 n3 10 = true) <| obind (g_X10_divide T9 n3 (0 : Int32) r11) fun T14 => g_X11_meanPower_b51 T14 l0
def g_X11_meanPower_b8  (T : AT) (s0 : Nat) (l0 : Nat) : Option (Nat × Int64 × AT) := oif (oO T l0 11 = true) <| obind (T.2.2.2.2 l0 14) fun n3 => oif (oO T n3 6 = true) <| obind (T.2.2.2.2 n3 6) fun n5 => oif (oO T n5 1 = true) <| obind (T.2.2.2.2 n5 5) fun n7 => oif (oO T l0 11 = true) <| obind (T.2.2.2.2 l0 14) fun n9 => oif (oO T n9 6 = true) <| obind (T.2.2.2.2 n9 6) fun n11 => oif (oO T l0 11 = true) <| obind (T.2.2.2.2 l0 12) fun n13 => oif (oO T s0 4 = true) <| obind (g_X4_sumIn T s0 n7 n11 n13 (0 : Int32)) fun T15 => g_X11_meanPower_b33 T15 l0
def g_X11_meanPower (T : AT) (o : Nat) : Option (Nat × Int64 × AT) := oif (oO T o 11 = true) <| othr (g_X11_needCamera T o) 0 fun r5 T3 => oif (oO T3 o 11 = true) <| obind2 (g_X11_powersNow T3 o) fun r9 T8 => oif (Nat.blt r9 T8.1 = true) <| g_X11_meanPower_b8 T8 r9 o
set_option maxHeartbeats 4000000 in
set_option maxRecDepth 100000 in
theorem s_X11_meanPower_b51 {e1 : Nat} {r1 : Int64} {T1 : AT} : ∀ (T : AT) (l0 : Nat), g_X11_meanPower_b51 T l0 = some (e1, r1, T1) → GL T T1 := by
  intro T l0 h
  have p0 := GL.rf T
  unfold g_X11_meanPower_b51 at h
  obtain ⟨g2, h⟩ := oif_some h
  obtain ⟨n3, en3, h⟩ := obind_some h
  obtain ⟨g4, h⟩ := oif_some h
  obtain ⟨r6, T5, eT5, h⟩ := obind2_some h
  have p1 : GL T T5 := GL.tr p0 (gl_sp (s_X10_value eT5))
  rw [← (osome3 h).2.2]
  exact p1
set_option maxHeartbeats 4000000 in
set_option maxRecDepth 100000 in
theorem s_X11_meanPower_b33 {e1 : Nat} {r1 : Int64} {T1 : AT} : ∀ (T : AT) (l0 : Nat), g_X11_meanPower_b33 T l0 = some (e1, r1, T1) → GL T T1 := by
  intro T l0 h
  have p0 := GL.rf T
  unfold g_X11_meanPower_b33 at h
  obtain ⟨g2, h⟩ := oif_some h
  obtain ⟨n3, en3, h⟩ := obind_some h
  obtain ⟨g4, h⟩ := oif_some h
  obtain ⟨n5, en5, h⟩ := obind_some h
  obtain ⟨g6, h⟩ := oif_some h
  obtain ⟨n7, en7, h⟩ := obind_some h
  obtain ⟨g8, h⟩ := oif_some h
  obtain ⟨r10, T9, eT9, h⟩ := obind2_some h
  have p1 : GL T T9 := GL.tr p0 (gl_sp (s_X1_cells eT9))
  obtain ⟨g11, h⟩ := oif_some h
  obtain ⟨T12, eT12, h⟩ := obind_some h
  have p2 : GL T T12 := GL.tr p1 (s_X10_divide eT12)
  exact GL.tr p2 (s_X11_meanPower_b51 _ _ h)
set_option maxHeartbeats 4000000 in
set_option maxRecDepth 100000 in
theorem s_X11_meanPower_b8 {e1 : Nat} {r1 : Int64} {T1 : AT} : ∀ (T : AT) (s0 : Nat) (l0 : Nat), g_X11_meanPower_b8 T s0 l0 = some (e1, r1, T1) → GL T T1 := by
  intro T s0 l0 h
  have p0 := GL.rf T
  unfold g_X11_meanPower_b8 at h
  obtain ⟨g2, h⟩ := oif_some h
  obtain ⟨n3, en3, h⟩ := obind_some h
  obtain ⟨g4, h⟩ := oif_some h
  obtain ⟨n5, en5, h⟩ := obind_some h
  obtain ⟨g6, h⟩ := oif_some h
  obtain ⟨n7, en7, h⟩ := obind_some h
  obtain ⟨g8, h⟩ := oif_some h
  obtain ⟨n9, en9, h⟩ := obind_some h
  obtain ⟨g10, h⟩ := oif_some h
  obtain ⟨n11, en11, h⟩ := obind_some h
  obtain ⟨g12, h⟩ := oif_some h
  obtain ⟨n13, en13, h⟩ := obind_some h
  obtain ⟨g14, h⟩ := oif_some h
  obtain ⟨T15, eT15, h⟩ := obind_some h
  have p1 : GL T T15 := GL.tr p0 (s_X4_sumIn eT15)
  exact GL.tr p1 (s_X11_meanPower_b33 _ _ h)
set_option maxHeartbeats 4000000 in
set_option maxRecDepth 100000 in
theorem s_X11_meanPower {T : AT} {o : Nat} {e1 : Nat} {r1 : Int64} {T1 : AT} (h : g_X11_meanPower T o = some (e1, r1, T1)) : GL T T1 := by
  have p0 := GL.rf T
  unfold g_X11_meanPower at h
  obtain ⟨g2, h⟩ := oif_some h
  rcases othr_s h with ⟨k9, r9, e9, -⟩ | ⟨r4, T3, eT3, h⟩
  · exact GL.tr p0 (gl_sp (s_X11_needCamera e9))
  have p1 : GL T T3 := GL.tr p0 (gl_sp (s_X11_needCamera eT3))
  obtain ⟨g5, h⟩ := oif_some h
  obtain ⟨r7, T6, eT6, h⟩ := obind2_some h
  obtain ⟨g8, h⟩ := oif_some h
  have p2 : GL T T6 := GL.tr p1 (s_X11_powersNow eT6)
  exact GL.tr p2 (s_X11_meanPower_b8 _ _ _ h)
set_option maxHeartbeats 4000000 in
set_option maxRecDepth 100000 in
theorem a_X11_meanPower_b51 {p : Program} {l : Launch} {e : Env} {s : State} {m : MethodId} {args : Array Value} {below : List Frame} {meth : Method} {c : Code} {Q : State → Prop} {D : va_G} {A : Nat → Prop} {cI cJ cZ cMic cSrc cSt cAI cAJ : ClassId} {ad0 : Nat → Nat} {T0 : AT} {r1 : Int64} {T1 : AT} (E : cE p c cX11_meanPower s m args (Cond.code yX11_meanPower cX11_meanPower 1 (some .long) :: wsA) D RX11 (CT cI cJ cZ cMic cSrc cSt cAI cAJ)) (hA : ∀ q : Nat, s.heap.size ≤ q → A q) (hX : xT A s) (hN : nX s) (hml : c.maxLocals = 1) (hst : l.stackTraces = false) (kr59 : ∀ (ad : Nat → Nat) (H : Heap) (locs : List Loc) (ls : Array Slot), (∀ n, n < T0.1 → ad n = ad0 n) → gC cI cJ cZ cMic cSrc cSt cAI cAJ D ad A s.heap H locs T1 → W p l e { frames := 7, cells := T1.1 - T0.1, slots := sg T1 - sg T0, locals := 149 } s m args below meth c H locs (T1.1 - T0.1) (sg T1 - sg T0) Q (F0 m 59 ls [.long r1])) : ∀ (T : AT) (ad : Nat → Nat) (H : Heap) (locs : List Loc) (ls : Array Slot) (l0 : Nat), g_X11_meanPower_b51 T l0 = some (0, r1, T1) → GL T0 T → RC T → (∀ n, n < T0.1 → ad n = ad0 n) → l0 < T.1 → gC cI cJ cZ cMic cSrc cSt cAI cAJ D ad A s.heap H locs T → lv_has ls 1 [(0, .ref (ad l0))] → W p l e { frames := 7, cells := T1.1 - T0.1, slots := sg T1 - sg T0, locals := 149 } s m args below meth c H locs (T.1 - T0.1) (sg T - sg T0) Q (F0 m 51 ls []) := by
  have hx := E.1
  have hb := E.2.1
  have hts := E.2.2.1
  have hown := E.2.2.2.1
  have hK := E.2.2.2.2
  intro T ad H locs ls l0 h hgl hrc had h_l0 G hl
  have hT1 := s_X11_meanPower_b51 _ _ h
  have hcs := cs_ok hgl hT1
  have cp0 := cpr0 hrc
  unfold g_X11_meanPower_b51 at h
  refine lv_aload_n hx hb dX11_meanPower_51 rfl (lv_at hl 0 rfl) ?_
  obtain ⟨g2, h⟩ := oif_some h
  obtain ⟨n3, en3, h⟩ := obind_some h
  have h_n3 : n3 < T.1 := by rw [← cp0.1]; exact cp0.2.2 _ _ _ en3
  refine c_get E G l0 12 (v := .ref (ad n3)) (oO_k g2).1 (cc_o11 (oO_k g2).2) rfl (fun w h => .tail _ (iA_23 h)) (by decide) (.tail _ qA_671) rfl (by rw [en3]; rfl) dX11_meanPower_52 ?_
  clear en3
  refine lv_iconst (v := 0) hx hb dX11_meanPower_55 (by decide) ?_
  obtain ⟨g4, h⟩ := oif_some h
  obtain ⟨r7, T5, eT5, h⟩ := obind2_some h
  refine q_cvl (As := [.int 0]) (rest := []) E G hA hX hN hml (u_X10_value l hst D cI cJ cZ cMic cSrc cSt cAI cAJ ad T n3 (0 : Int32) eT5) (cwV 1 hts (gaV qA_791 qA_792 qA_793 qA_6 qA_633) rfl rfl rfl (by decide +kernel) ⟨Nat.le_of_ble_eq_true rfl, Nat.le_of_ble_eq_true rfl⟩) (oO_k g4).1 (cc_o10 (oO_k g4).2) rfl rfl hl.1 rfl (lv_room (Nat.le_of_ble_eq_true rfl)) dX11_meanPower_56 hcs (fun q8 T6 H locs hq G => ?_)
  obtain ⟨hq1, hq2⟩ := hq
  rw [hq2] at G
  refine lv_tol hq1 ?_
  clear hq1 hq2
  have cp1 := cpr_sp cp0 (s_X10_value eT5)
  rw [(osome3 h).2.2] at G
  refine w_cast (c2 := T1.1 - T0.1) (s2 := sg T1 - sg T0) (by rw [← (osome3 h).2.2, cp1.1] <;> rfl) (by rw [← (osome3 h).2.2, sg_cpr cp1] <;> rfl) ?_
  refine lv_tol ((osome3 h).2.1) ?_
  exact kr59 ad _ _ _ had G
set_option maxHeartbeats 4000000 in
set_option maxRecDepth 100000 in
theorem a_X11_meanPower_b33 {p : Program} {l : Launch} {e : Env} {s : State} {m : MethodId} {args : Array Value} {below : List Frame} {meth : Method} {c : Code} {Q : State → Prop} {D : va_G} {A : Nat → Prop} {cI cJ cZ cMic cSrc cSt cAI cAJ : ClassId} {ad0 : Nat → Nat} {T0 : AT} {r1 : Int64} {T1 : AT} (E : cE p c cX11_meanPower s m args (Cond.code yX11_meanPower cX11_meanPower 1 (some .long) :: wsA) D RX11 (CT cI cJ cZ cMic cSrc cSt cAI cAJ)) (hA : ∀ q : Nat, s.heap.size ≤ q → A q) (hX : xT A s) (hN : nX s) (hml : c.maxLocals = 1) (hst : l.stackTraces = false) (kr59 : ∀ (ad : Nat → Nat) (H : Heap) (locs : List Loc) (ls : Array Slot), (∀ n, n < T0.1 → ad n = ad0 n) → gC cI cJ cZ cMic cSrc cSt cAI cAJ D ad A s.heap H locs T1 → W p l e { frames := 7, cells := T1.1 - T0.1, slots := sg T1 - sg T0, locals := 149 } s m args below meth c H locs (T1.1 - T0.1) (sg T1 - sg T0) Q (F0 m 59 ls [.long r1])) : ∀ (T : AT) (ad : Nat → Nat) (H : Heap) (locs : List Loc) (ls : Array Slot) (l0 : Nat), g_X11_meanPower_b33 T l0 = some (0, r1, T1) → GL T0 T → RC T → (∀ n, n < T0.1 → ad n = ad0 n) → l0 < T.1 → gC cI cJ cZ cMic cSrc cSt cAI cAJ D ad A s.heap H locs T → lv_has ls 1 [(0, .ref (ad l0))] → W p l e { frames := 7, cells := T1.1 - T0.1, slots := sg T1 - sg T0, locals := 149 } s m args below meth c H locs (T.1 - T0.1) (sg T - sg T0) Q (F0 m 33 ls []) := by
  have hx := E.1
  have hb := E.2.1
  have hts := E.2.2.1
  have hown := E.2.2.2.1
  have hK := E.2.2.2.2
  intro T ad H locs ls l0 h hgl hrc had h_l0 G hl
  have hT1 := s_X11_meanPower_b33 _ _ h
  have hcs := cs_ok hgl hT1
  have cp0 := cpr0 hrc
  unfold g_X11_meanPower_b33 at h
  refine lv_aload_n hx hb dX11_meanPower_33 rfl (lv_at hl 0 rfl) ?_
  obtain ⟨g2, h⟩ := oif_some h
  obtain ⟨n3, en3, h⟩ := obind_some h
  have h_n3 : n3 < T.1 := by rw [← cp0.1]; exact cp0.2.2 _ _ _ en3
  refine c_get E G l0 12 (v := .ref (ad n3)) (oO_k g2).1 (cc_o11 (oO_k g2).2) rfl (fun w h => .tail _ (iA_23 h)) (by decide) (.tail _ qA_671) rfl (by rw [en3]; rfl) dX11_meanPower_34 ?_
  clear en3
  refine lv_iconst (v := 0) hx hb dX11_meanPower_37 (by decide) ?_
  refine lv_aload_n hx hb dX11_meanPower_38 rfl (lv_at hl 0 rfl) ?_
  obtain ⟨g4, h⟩ := oif_some h
  obtain ⟨n5, en5, h⟩ := obind_some h
  have h_n5 : n5 < T.1 := by rw [← cp0.1]; exact cp0.2.2 _ _ _ en5
  refine c_get E G l0 14 (v := .ref (ad n5)) (oO_k g4).1 (cc_o11 (oO_k g4).2) rfl (fun w h => .tail _ (iA_23 h)) (by decide) (.tail _ qA_675) rfl (by rw [en5]; rfl) dX11_meanPower_39 ?_
  clear en5
  obtain ⟨g6, h⟩ := oif_some h
  obtain ⟨n7, en7, h⟩ := obind_some h
  have h_n7 : n7 < T.1 := by rw [← cp0.1]; exact cp0.2.2 _ _ _ en7
  refine c_get E G n5 6 (v := .ref (ad n7)) (oO_k g6).1 (cc_o6 (oO_k g6).2) rfl (fun w h => .tail _ (iA_14 h)) (by decide) (.tail _ qA_695) rfl (by rw [en7]; rfl) dX11_meanPower_42 ?_
  clear en7
  obtain ⟨g8, h⟩ := oif_some h
  obtain ⟨r11, T9, eT9, h⟩ := obind2_some h
  refine q_cvi (As := []) (rest := [.int 0, .ref (ad n3)]) E G hA hX hN hml (u_X1_cells l hst D cI cJ cZ cMic cSrc cSt cAI cAJ ad T n7 eT9) (cwV 0 hts (gaV qA_714 qA_35 qA_36 qA_37 qA_38) rfl rfl rfl (by decide +kernel) ⟨Nat.le_of_ble_eq_true rfl, Nat.le_of_ble_eq_true rfl⟩) (oO_k g8).1 (cc_o1 (oO_k g8).2) rfl rfl hl.1 rfl (lv_room (Nat.le_of_ble_eq_true rfl)) dX11_meanPower_45 hcs (fun q12 T10 H locs hq G => ?_)
  obtain ⟨hq1, hq2⟩ := hq
  rw [hq2] at G
  refine lv_to hq1 ?_
  clear hq1 hq2
  have cp1 := cpr_sp cp0 (s_X1_cells eT9)
  obtain ⟨g13, h⟩ := oif_some h
  obtain ⟨T14, eT14, h⟩ := obind_some h
  have hg2 := s_X10_divide eT14
  have hrc2 := hg2.2.2 cp1.2.2
  have hT2 := s_X11_meanPower_b51 _ _ h
  refine q_avv (As := [.int 0, .int r11]) (rest := []) E G hA hX hN hml (a_X10_divide l hst D cI cJ cZ cMic cSrc cSt cAI cAJ ad T9 n3 (0 : Int32) r11 eT14 cp1.2.2 (by rw [cp1.1]; exact h_n3)) (cwV 2 hts (gaV qA_819 qA_105 qA_106 qA_6 qA_107) rfl rfl rfl (by decide +kernel) ⟨Nat.le_of_ble_eq_true rfl, Nat.le_of_ble_eq_true rfl⟩) (oO_k g13).1 (cc_o10 (oO_k g13).2) rfl rfl hl.1 rfl (lv_room (Nat.le_of_ble_eq_true rfl)) dX11_meanPower_48 (cs_av hgl cp1 hg2 hT2) (fun ad2 H locs hga G => ?_)
  refine w_cast (c2 := T14.1 - T0.1) (s2 := sg T14 - sg T0) (cs_f1 hgl cp1 hg2) (cs_f2 hgl cp1 hg2) ?_
  have hl := lv_sub hl [0] rfl
  rw [show ad l0 = ad2 l0 from (hga l0 (by rw [cp1.1]; exact h_l0)).symm] at hl
  exact a_X11_meanPower_b51 E hA hX hN hml hst kr59 _ _ _ _ _ _ h (GL.tr (gl_cpr hgl cp1) hg2) hrc2 (fun n hn => (hga n (by rw [cp1.1]; exact Nat.lt_of_lt_of_le hn hgl.1)).trans (had n hn)) (Nat.lt_of_lt_of_le (by rw [cp1.1]; exact h_l0) hg2.1) G hl
set_option maxHeartbeats 4000000 in
set_option maxRecDepth 100000 in
theorem a_X11_meanPower_b8 {p : Program} {l : Launch} {e : Env} {s : State} {m : MethodId} {args : Array Value} {below : List Frame} {meth : Method} {c : Code} {Q : State → Prop} {D : va_G} {A : Nat → Prop} {cI cJ cZ cMic cSrc cSt cAI cAJ : ClassId} {ad0 : Nat → Nat} {T0 : AT} {r1 : Int64} {T1 : AT} (E : cE p c cX11_meanPower s m args (Cond.code yX11_meanPower cX11_meanPower 1 (some .long) :: wsA) D RX11 (CT cI cJ cZ cMic cSrc cSt cAI cAJ)) (hA : ∀ q : Nat, s.heap.size ≤ q → A q) (hX : xT A s) (hN : nX s) (hml : c.maxLocals = 1) (hst : l.stackTraces = false) (kr59 : ∀ (ad : Nat → Nat) (H : Heap) (locs : List Loc) (ls : Array Slot), (∀ n, n < T0.1 → ad n = ad0 n) → gC cI cJ cZ cMic cSrc cSt cAI cAJ D ad A s.heap H locs T1 → W p l e { frames := 7, cells := T1.1 - T0.1, slots := sg T1 - sg T0, locals := 149 } s m args below meth c H locs (T1.1 - T0.1) (sg T1 - sg T0) Q (F0 m 59 ls [.long r1])) : ∀ (T : AT) (ad : Nat → Nat) (H : Heap) (locs : List Loc) (ls : Array Slot) (s0 : Nat) (l0 : Nat), g_X11_meanPower_b8 T s0 l0 = some (0, r1, T1) → GL T0 T → RC T → (∀ n, n < T0.1 → ad n = ad0 n) → s0 < T.1 → l0 < T.1 → gC cI cJ cZ cMic cSrc cSt cAI cAJ D ad A s.heap H locs T → lv_has ls 1 [(0, .ref (ad l0))] → W p l e { frames := 7, cells := T1.1 - T0.1, slots := sg T1 - sg T0, locals := 149 } s m args below meth c H locs (T.1 - T0.1) (sg T - sg T0) Q (F0 m 8 ls [.ref (ad s0)]) := by
  have hx := E.1
  have hb := E.2.1
  have hts := E.2.2.1
  have hown := E.2.2.2.1
  have hK := E.2.2.2.2
  intro T ad H locs ls s0 l0 h hgl hrc had h_s0 h_l0 G hl
  have hT1 := s_X11_meanPower_b8 _ _ _ h
  have hcs := cs_ok hgl hT1
  have cp0 := cpr0 hrc
  unfold g_X11_meanPower_b8 at h
  refine lv_aload_n hx hb dX11_meanPower_8 rfl (lv_at hl 0 rfl) ?_
  obtain ⟨g2, h⟩ := oif_some h
  obtain ⟨n3, en3, h⟩ := obind_some h
  have h_n3 : n3 < T.1 := by rw [← cp0.1]; exact cp0.2.2 _ _ _ en3
  refine c_get E G l0 14 (v := .ref (ad n3)) (oO_k g2).1 (cc_o11 (oO_k g2).2) rfl (fun w h => .tail _ (iA_23 h)) (by decide) (.tail _ qA_675) rfl (by rw [en3]; rfl) dX11_meanPower_9 ?_
  clear en3
  obtain ⟨g4, h⟩ := oif_some h
  obtain ⟨n5, en5, h⟩ := obind_some h
  have h_n5 : n5 < T.1 := by rw [← cp0.1]; exact cp0.2.2 _ _ _ en5
  refine c_get E G n3 6 (v := .ref (ad n5)) (oO_k g4).1 (cc_o6 (oO_k g4).2) rfl (fun w h => .tail _ (iA_14 h)) (by decide) (.tail _ qA_695) rfl (by rw [en5]; rfl) dX11_meanPower_12 ?_
  clear en5
  obtain ⟨g6, h⟩ := oif_some h
  obtain ⟨n7, en7, h⟩ := obind_some h
  have h_n7 : n7 < T.1 := by rw [← cp0.1]; exact cp0.2.2 _ _ _ en7
  refine c_get E G n5 5 (v := .ref (ad n7)) (oO_k g6).1 (cc_o1 (oO_k g6).2) rfl (fun w h => .tail _ (iA_15 h)) (by decide) (.tail _ qA_815) rfl (by rw [en7]; rfl) dX11_meanPower_15 ?_
  clear en7
  refine lv_aload_n hx hb dX11_meanPower_18 rfl (lv_at hl 0 rfl) ?_
  obtain ⟨g8, h⟩ := oif_some h
  obtain ⟨n9, en9, h⟩ := obind_some h
  have h_n9 : n9 < T.1 := by rw [← cp0.1]; exact cp0.2.2 _ _ _ en9
  refine c_get E G l0 14 (v := .ref (ad n9)) (oO_k g8).1 (cc_o11 (oO_k g8).2) rfl (fun w h => .tail _ (iA_23 h)) (by decide) (.tail _ qA_675) rfl (by rw [en9]; rfl) dX11_meanPower_19 ?_
  clear en9
  obtain ⟨g10, h⟩ := oif_some h
  obtain ⟨n11, en11, h⟩ := obind_some h
  have h_n11 : n11 < T.1 := by rw [← cp0.1]; exact cp0.2.2 _ _ _ en11
  refine c_get E G n9 6 (v := .ref (ad n11)) (oO_k g10).1 (cc_o6 (oO_k g10).2) rfl (fun w h => .tail _ (iA_14 h)) (by decide) (.tail _ qA_695) rfl (by rw [en11]; rfl) dX11_meanPower_22 ?_
  clear en11
  refine lv_aload_n hx hb dX11_meanPower_25 rfl (lv_at hl 0 rfl) ?_
  obtain ⟨g12, h⟩ := oif_some h
  obtain ⟨n13, en13, h⟩ := obind_some h
  have h_n13 : n13 < T.1 := by rw [← cp0.1]; exact cp0.2.2 _ _ _ en13
  refine c_get E G l0 12 (v := .ref (ad n13)) (oO_k g12).1 (cc_o11 (oO_k g12).2) rfl (fun w h => .tail _ (iA_23 h)) (by decide) (.tail _ qA_671) rfl (by rw [en13]; rfl) dX11_meanPower_26 ?_
  clear en13
  refine lv_iconst (v := 0) hx hb dX11_meanPower_29 (by decide) ?_
  obtain ⟨g14, h⟩ := oif_some h
  obtain ⟨T15, eT15, h⟩ := obind_some h
  have hg2 := s_X4_sumIn eT15
  have hrc2 := hg2.2.2 cp0.2.2
  have hT2 := s_X11_meanPower_b33 _ _ h
  refine q_avv (As := [.ref (ad n7), .ref (ad n11), .ref (ad n13), .int 0]) (rest := []) E G hA hX hN hml (a_X4_sumIn l hst D cI cJ cZ cMic cSrc cSt cAI cAJ ad T s0 n7 n11 n13 (0 : Int32) eT15 cp0.2.2 (by rw [cp0.1]; exact h_s0) (by rw [cp0.1]; exact h_n7) (by rw [cp0.1]; exact h_n11) (by rw [cp0.1]; exact h_n13)) (cwV 4 hts (gaV qA_816 qA_817 qA_818 qA_426 qA_438) rfl rfl rfl (by decide +kernel) ⟨Nat.le_of_ble_eq_true rfl, Nat.le_of_ble_eq_true rfl⟩) (oO_k g14).1 (cc_o4 (oO_k g14).2) rfl rfl hl.1 rfl (lv_room (Nat.le_of_ble_eq_true rfl)) dX11_meanPower_30 (cs_av hgl cp0 hg2 hT2) (fun ad2 H locs hga G => ?_)
  refine w_cast (c2 := T15.1 - T0.1) (s2 := sg T15 - sg T0) (cs_f1 hgl cp0 hg2) (cs_f2 hgl cp0 hg2) ?_
  have hl := lv_sub hl [0] rfl
  rw [show ad l0 = ad2 l0 from (hga l0 (by rw [cp0.1]; exact h_l0)).symm] at hl
  exact a_X11_meanPower_b33 E hA hX hN hml hst kr59 _ _ _ _ _ _ h (GL.tr (gl_cpr hgl cp0) hg2) hrc2 (fun n hn => (hga n (by rw [cp0.1]; exact Nat.lt_of_lt_of_le hn hgl.1)).trans (had n hn)) (Nat.lt_of_lt_of_le (by rw [cp0.1]; exact h_l0) hg2.1) G hl
set_option maxHeartbeats 4000000 in
set_option maxRecDepth 100000 in
theorem a_X11_meanPower (l : Launch) (hst : l.stackTraces = false) (D : va_G) (cI cJ cZ cMic cSrc cSt cAI cAJ : ClassId) (ad : Nat → Nat) (T : AT) (o : Nat) {r1 : Int64} {T1 : AT} (h : g_X11_meanPower T o = some (0, r1, T1)) (hrc : RC T) (h_o : o < T.1) : kAl l yX11_meanPower (Cond.code yX11_meanPower cX11_meanPower 1 (some .long) :: wsA) 7 149 cI cJ cZ cMic cSrc cSt cAI cAJ D ad T [.ref (ad o)] r1 T1 := by
  intro sz
  refine Met.ofW (cc := cX11_meanPower) (maxL := 1) (ret := (some .long)) (by decide) rfl ?_
  intro p e s m args below meth c s₁ B hml hv
  obtain ⟨rfl, hsz, hP, hK, hD0, hX, hN⟩ := hv
  have hx := B.exec
  have hb := B.bytes
  have hr := B.returns
  have hts := atoms_spec (ws := (Cond.code yX11_meanPower cX11_meanPower 1 (some .long) :: wsA)) B.pre
  have hown : s.vm.findClass RX11 = some m.cls := findClass_of_methodNamed B.named
  have hlocks := B.notSynchronized
  subst hsz
  have hD := hD0.self (sz := s.heap.size)
  generalize hAe : va_A (cW ad T.1 (cc cI cJ cZ cMic cSrc cSt cAI cAJ ad T)) s.heap.size = A at hD hX ⊢
  have hA : ∀ q : Nat, s.heap.size ≤ q → A q := fun q h => by rw [← hAe]; exact Or.inr h
  have G : gC cI cJ cZ cMic cSrc cSt cAI cAJ D ad A s.heap s.heap [] T := ⟨hP, hD, va_S.rf⟩
  have E : cE p c cX11_meanPower s m ([.ref (ad o)] : List Value).toArray (Cond.code yX11_meanPower cX11_meanPower 1 (some .long) :: wsA) D RX11 (CT cI cJ cZ cMic cSrc cSt cAI cAJ) := ⟨hx, hb, hts, hown, hK⟩
  have hl := lv_entry ([.ref (ad o)]) (n := 1) (Nat.le_of_ble_eq_true rfl)
  rw [lg_entry_eq]
  generalize (lg_sl ([.ref (ad o)]) ++ List.replicate (1 - (lg_sl ([.ref (ad o)])).length) Slot.unset).toArray = ls at hl ⊢
  have hl : lv_has ls 1 [(0, .ref (ad o))] := hl
  have hgl := GL.rf T
  have had : ∀ n, n < T.1 → ad n = ad n := fun _ _ => rfl
  have hT1 := s_X11_meanPower h
  have hcs := cs_ok hgl hT1
  refine w_cast (Nat.sub_self T.1).symm (Nat.sub_self (sg T)).symm ?_
  have cp0 := cpr0 hrc
  unfold g_X11_meanPower at h
  refine lv_aload_n hx hb dX11_meanPower_0 rfl (lv_at hl 0 rfl) ?_
  obtain ⟨g2, h⟩ := oif_some h
  obtain ⟨r5, T3, eT3, h⟩ := othr_n h
  refine q_cvv (As := []) (rest := []) E G hA hX hN hml (u_X11_needCamera l hst D cI cJ cZ cMic cSrc cSt cAI cAJ ad T o eT3) (cwV 0 hts (gaV qA_728 qA_729 qA_730 qA_131 qA_731) rfl rfl rfl (by decide +kernel) ⟨Nat.le_of_ble_eq_true rfl, Nat.le_of_ble_eq_true rfl⟩) (oO_k g2).1 (cc_o11 (oO_k g2).2) rfl rfl hl.1 rfl (lv_room (Nat.le_of_ble_eq_true rfl)) dX11_meanPower_1 hcs (fun T4 H locs hq G => ?_)
  rw [hq] at G
  clear hq
  have cp1 := cpr_sp cp0 (s_X11_needCamera eT3)
  refine lv_aload_n hx hb dX11_meanPower_4 rfl (lv_at hl 0 rfl) ?_
  obtain ⟨g7, h⟩ := oif_some h
  obtain ⟨r9, T8, eT8, h⟩ := obind2_some h
  obtain ⟨g10, h⟩ := oif_some h
  have hg2 := s_X11_powersNow eT8
  have hrc2 := hg2.2.2 cp1.2.2
  have hT2 := s_X11_meanPower_b8 _ _ _ h
  refine q_avr (As := []) (rest := []) E G hA hX hN hml (a_X11_powersNow l hst D cI cJ cZ cMic cSrc cSt cAI cAJ ad T3 o eT8 cp1.2.2 (by rw [cp1.1]; exact h_o)) (cwV 0 hts (gaV qA_799 qA_800 qA_801 qA_131 qA_802) rfl rfl rfl (by decide +kernel) ⟨Nat.le_of_ble_eq_true rfl, Nat.le_of_ble_eq_true rfl⟩) (oO_k g7).1 (cc_o11 (oO_k g7).2) rfl rfl hl.1 rfl (lv_room (Nat.le_of_ble_eq_true rfl)) dX11_meanPower_5 (cs_av hgl cp1 hg2 hT2) (fun ad2 H locs hga G => ?_)
  refine w_cast (c2 := T8.1 - T.1) (s2 := sg T8 - sg T) (cs_f1 hgl cp1 hg2) (cs_f2 hgl cp1 hg2) ?_
  have h_new : r9 < T8.1 := Nat.le_of_ble_eq_true g10
  have hl := lv_sub hl [0] rfl
  rw [show ad o = ad2 o from (hga o (by rw [cp1.1]; exact h_o)).symm] at hl
  exact a_X11_meanPower_b8 E hA hX hN hml hst (fun ad H locs ls had G => W.lret (v := r1) hx hb hr (fun t ht hW => ⟨⟨r1, (T1, ad), rfl, ⟨rfl, rfl, had⟩, ⟨by rw [ht]; exact G.1, va_K.moved hW.alike hK, G.2.1⟩⟩, G.2.2.F ht⟩) G.2.2.2.2 dX11_meanPower_59) _ _ _ _ _ _ _ h (GL.tr (gl_cpr hgl cp1) hg2) hrc2 (fun n hn => (hga n (by rw [cp1.1]; exact Nat.lt_of_lt_of_le hn hgl.1)).trans (had n hn)) h_new (Nat.lt_of_lt_of_le (by rw [cp1.1]; exact h_o) hg2.1) G hl
set_option maxHeartbeats 4000000 in
set_option maxRecDepth 100000 in
theorem b_X11_meanPower_b51 {p : Program} {l : Launch} {e : Env} {s : State} {m : MethodId} {args : Array Value} {below : List Frame} {meth : Method} {c : Code} {Qc : Array Value → State → Outcome → State → Prop} {XC : String → State → State → Prop} {D : va_G} {A : Nat → Prop} {cI cJ cZ cMic cSrc cSt cAI cAJ : ClassId} {ad0 : Nat → Nat} {T0 : AT} {e1 : Nat} {r1 : Int64} {T1 : AT} (E : cE p c cX11_meanPower s m args (Cond.code yX11_meanPower cX11_meanPower 1 (some .long) :: wsA) D RX11 (CT cI cJ cZ cMic cSrc cSt cAI cAJ)) (hA : ∀ q : Nat, s.heap.size ≤ q → A q) (hX : xT A s) (hN : nX s) (hml : c.maxLocals = 1) (hst : l.stackTraces = false) (htab : ∀ x ∈ c.exceptionTable.toList, False) (hlocks : meth.locks = false) (kx : ∀ (ad : Nat → Nat) (H : Heap) (locs : List Loc) (t : State), (∀ n, n < T0.1 → ad n = ad0 n) → gC cI cJ cZ cMic cSrc cSt cAI cAJ D ad A s.heap H locs T1 → s.vm.Alike t.vm → H.size ≤ t.heap.size → (∀ q, q < H.size → t.heap[q]? = H[q]?) → XC (exn e1) s t) : ∀ (T : AT) (ad : Nat → Nat) (H : Heap) (locs : List Loc) (ls : Array Slot) (l0 : Nat), g_X11_meanPower_b51 T l0 = some (e1 + 1, r1, T1) → GL T0 T → RC T → (∀ n, n < T0.1 → ad n = ad0 n) → l0 < T.1 → gC cI cJ cZ cMic cSrc cSt cAI cAJ D ad A s.heap H locs T → lv_has ls 1 [(0, .ref (ad l0))] → W p l e { frames := 7, cells := T1.1 - T0.1 + 1, slots := sg T1 - sg T0 + 6, locals := 149 } s m args below meth c H locs (T.1 - T0.1) (sg T - sg T0) (vx_MQ below Qc XC args s (T1.1 - T0.1 + 1) (sg T1 - sg T0 + 6) A) (F0 m 51 ls []) := by
  have hx := E.1
  have hb := E.2.1
  have hts := E.2.2.1
  have hown := E.2.2.2.1
  have hK := E.2.2.2.2
  intro T ad H locs ls l0 h hgl hrc had h_l0 G hl
  have hT1 := s_X11_meanPower_b51 _ _ h
  have hcs := cs_okx hgl hT1
  have hcx := cs_okx1 hgl hT1
  have cp0 := cpr0 hrc
  unfold g_X11_meanPower_b51 at h
  refine lv_aload_n hx hb dX11_meanPower_51 rfl (lv_at hl 0 rfl) ?_
  obtain ⟨g2, h⟩ := oif_some h
  obtain ⟨n3, en3, h⟩ := obind_some h
  have h_n3 : n3 < T.1 := by rw [← cp0.1]; exact cp0.2.2 _ _ _ en3
  refine c_get E G l0 12 (v := .ref (ad n3)) (oO_k g2).1 (cc_o11 (oO_k g2).2) rfl (fun w h => .tail _ (iA_23 h)) (by decide) (.tail _ qA_671) rfl (by rw [en3]; rfl) dX11_meanPower_52 ?_
  clear en3
  refine lv_iconst (v := 0) hx hb dX11_meanPower_55 (by decide) ?_
  obtain ⟨g4, h⟩ := oif_some h
  obtain ⟨r7, T5, eT5, h⟩ := obind2_some h
  refine q_cvl (As := [.int 0]) (rest := []) E G hA hX hN hml (u_X10_value l hst D cI cJ cZ cMic cSrc cSt cAI cAJ ad T n3 (0 : Int32) eT5) (cwV 1 hts (gaV qA_791 qA_792 qA_793 qA_6 qA_633) rfl rfl rfl (by decide +kernel) ⟨Nat.le_of_ble_eq_true rfl, Nat.le_of_ble_eq_true rfl⟩) (oO_k g4).1 (cc_o10 (oO_k g4).2) rfl rfl hl.1 rfl (lv_room (Nat.le_of_ble_eq_true rfl)) dX11_meanPower_56 hcs (fun q8 T6 H locs hq G => ?_)
  obtain ⟨hq1, hq2⟩ := hq
  rw [hq2] at G
  refine lv_tol hq1 ?_
  clear hq1 hq2
  have cp1 := cpr_sp cp0 (s_X10_value eT5)
  exact (Nat.succ_ne_zero _ (congrArg Prod.fst (Option.some.inj h)).symm).elim
set_option maxHeartbeats 4000000 in
set_option maxRecDepth 100000 in
theorem b_X11_meanPower_b33 {p : Program} {l : Launch} {e : Env} {s : State} {m : MethodId} {args : Array Value} {below : List Frame} {meth : Method} {c : Code} {Qc : Array Value → State → Outcome → State → Prop} {XC : String → State → State → Prop} {D : va_G} {A : Nat → Prop} {cI cJ cZ cMic cSrc cSt cAI cAJ : ClassId} {ad0 : Nat → Nat} {T0 : AT} {e1 : Nat} {r1 : Int64} {T1 : AT} (E : cE p c cX11_meanPower s m args (Cond.code yX11_meanPower cX11_meanPower 1 (some .long) :: wsA) D RX11 (CT cI cJ cZ cMic cSrc cSt cAI cAJ)) (hA : ∀ q : Nat, s.heap.size ≤ q → A q) (hX : xT A s) (hN : nX s) (hml : c.maxLocals = 1) (hst : l.stackTraces = false) (htab : ∀ x ∈ c.exceptionTable.toList, False) (hlocks : meth.locks = false) (kx : ∀ (ad : Nat → Nat) (H : Heap) (locs : List Loc) (t : State), (∀ n, n < T0.1 → ad n = ad0 n) → gC cI cJ cZ cMic cSrc cSt cAI cAJ D ad A s.heap H locs T1 → s.vm.Alike t.vm → H.size ≤ t.heap.size → (∀ q, q < H.size → t.heap[q]? = H[q]?) → XC (exn e1) s t) : ∀ (T : AT) (ad : Nat → Nat) (H : Heap) (locs : List Loc) (ls : Array Slot) (l0 : Nat), g_X11_meanPower_b33 T l0 = some (e1 + 1, r1, T1) → GL T0 T → RC T → (∀ n, n < T0.1 → ad n = ad0 n) → l0 < T.1 → gC cI cJ cZ cMic cSrc cSt cAI cAJ D ad A s.heap H locs T → lv_has ls 1 [(0, .ref (ad l0))] → W p l e { frames := 7, cells := T1.1 - T0.1 + 1, slots := sg T1 - sg T0 + 6, locals := 149 } s m args below meth c H locs (T.1 - T0.1) (sg T - sg T0) (vx_MQ below Qc XC args s (T1.1 - T0.1 + 1) (sg T1 - sg T0 + 6) A) (F0 m 33 ls []) := by
  have hx := E.1
  have hb := E.2.1
  have hts := E.2.2.1
  have hown := E.2.2.2.1
  have hK := E.2.2.2.2
  intro T ad H locs ls l0 h hgl hrc had h_l0 G hl
  have hT1 := s_X11_meanPower_b33 _ _ h
  have hcs := cs_okx hgl hT1
  have hcx := cs_okx1 hgl hT1
  have cp0 := cpr0 hrc
  unfold g_X11_meanPower_b33 at h
  refine lv_aload_n hx hb dX11_meanPower_33 rfl (lv_at hl 0 rfl) ?_
  obtain ⟨g2, h⟩ := oif_some h
  obtain ⟨n3, en3, h⟩ := obind_some h
  have h_n3 : n3 < T.1 := by rw [← cp0.1]; exact cp0.2.2 _ _ _ en3
  refine c_get E G l0 12 (v := .ref (ad n3)) (oO_k g2).1 (cc_o11 (oO_k g2).2) rfl (fun w h => .tail _ (iA_23 h)) (by decide) (.tail _ qA_671) rfl (by rw [en3]; rfl) dX11_meanPower_34 ?_
  clear en3
  refine lv_iconst (v := 0) hx hb dX11_meanPower_37 (by decide) ?_
  refine lv_aload_n hx hb dX11_meanPower_38 rfl (lv_at hl 0 rfl) ?_
  obtain ⟨g4, h⟩ := oif_some h
  obtain ⟨n5, en5, h⟩ := obind_some h
  have h_n5 : n5 < T.1 := by rw [← cp0.1]; exact cp0.2.2 _ _ _ en5
  refine c_get E G l0 14 (v := .ref (ad n5)) (oO_k g4).1 (cc_o11 (oO_k g4).2) rfl (fun w h => .tail _ (iA_23 h)) (by decide) (.tail _ qA_675) rfl (by rw [en5]; rfl) dX11_meanPower_39 ?_
  clear en5
  obtain ⟨g6, h⟩ := oif_some h
  obtain ⟨n7, en7, h⟩ := obind_some h
  have h_n7 : n7 < T.1 := by rw [← cp0.1]; exact cp0.2.2 _ _ _ en7
  refine c_get E G n5 6 (v := .ref (ad n7)) (oO_k g6).1 (cc_o6 (oO_k g6).2) rfl (fun w h => .tail _ (iA_14 h)) (by decide) (.tail _ qA_695) rfl (by rw [en7]; rfl) dX11_meanPower_42 ?_
  clear en7
  obtain ⟨g8, h⟩ := oif_some h
  obtain ⟨r11, T9, eT9, h⟩ := obind2_some h
  refine q_cvi (As := []) (rest := [.int 0, .ref (ad n3)]) E G hA hX hN hml (u_X1_cells l hst D cI cJ cZ cMic cSrc cSt cAI cAJ ad T n7 eT9) (cwV 0 hts (gaV qA_714 qA_35 qA_36 qA_37 qA_38) rfl rfl rfl (by decide +kernel) ⟨Nat.le_of_ble_eq_true rfl, Nat.le_of_ble_eq_true rfl⟩) (oO_k g8).1 (cc_o1 (oO_k g8).2) rfl rfl hl.1 rfl (lv_room (Nat.le_of_ble_eq_true rfl)) dX11_meanPower_45 hcs (fun q12 T10 H locs hq G => ?_)
  obtain ⟨hq1, hq2⟩ := hq
  rw [hq2] at G
  refine lv_to hq1 ?_
  clear hq1 hq2
  have cp1 := cpr_sp cp0 (s_X1_cells eT9)
  obtain ⟨g13, h⟩ := oif_some h
  obtain ⟨T14, eT14, h⟩ := obind_some h
  have hg2 := s_X10_divide eT14
  have hrc2 := hg2.2.2 cp1.2.2
  have hT2 := s_X11_meanPower_b51 _ _ h
  refine q_avv (As := [.int 0, .int r11]) (rest := []) E G hA hX hN hml (a_X10_divide l hst D cI cJ cZ cMic cSrc cSt cAI cAJ ad T9 n3 (0 : Int32) r11 eT14 cp1.2.2 (by rw [cp1.1]; exact h_n3)) (cwV 2 hts (gaV qA_819 qA_105 qA_106 qA_6 qA_107) rfl rfl rfl (by decide +kernel) ⟨Nat.le_of_ble_eq_true rfl, Nat.le_of_ble_eq_true rfl⟩) (oO_k g13).1 (cc_o10 (oO_k g13).2) rfl rfl hl.1 rfl (lv_room (Nat.le_of_ble_eq_true rfl)) dX11_meanPower_48 (cs_avx hgl cp1 hg2 hT2) (fun ad2 H locs hga G => ?_)
  refine w_cast (c2 := T14.1 - T0.1) (s2 := sg T14 - sg T0) (cs_f1 hgl cp1 hg2) (cs_f2 hgl cp1 hg2) ?_
  have hl := lv_sub hl [0] rfl
  rw [show ad l0 = ad2 l0 from (hga l0 (by rw [cp1.1]; exact h_l0)).symm] at hl
  exact b_X11_meanPower_b51 E hA hX hN hml hst htab hlocks kx _ _ _ _ _ _ h (GL.tr (gl_cpr hgl cp1) hg2) hrc2 (fun n hn => (hga n (by rw [cp1.1]; exact Nat.lt_of_lt_of_le hn hgl.1)).trans (had n hn)) (Nat.lt_of_lt_of_le (by rw [cp1.1]; exact h_l0) hg2.1) G hl
set_option maxHeartbeats 4000000 in
set_option maxRecDepth 100000 in
theorem b_X11_meanPower_b8 {p : Program} {l : Launch} {e : Env} {s : State} {m : MethodId} {args : Array Value} {below : List Frame} {meth : Method} {c : Code} {Qc : Array Value → State → Outcome → State → Prop} {XC : String → State → State → Prop} {D : va_G} {A : Nat → Prop} {cI cJ cZ cMic cSrc cSt cAI cAJ : ClassId} {ad0 : Nat → Nat} {T0 : AT} {e1 : Nat} {r1 : Int64} {T1 : AT} (E : cE p c cX11_meanPower s m args (Cond.code yX11_meanPower cX11_meanPower 1 (some .long) :: wsA) D RX11 (CT cI cJ cZ cMic cSrc cSt cAI cAJ)) (hA : ∀ q : Nat, s.heap.size ≤ q → A q) (hX : xT A s) (hN : nX s) (hml : c.maxLocals = 1) (hst : l.stackTraces = false) (htab : ∀ x ∈ c.exceptionTable.toList, False) (hlocks : meth.locks = false) (kx : ∀ (ad : Nat → Nat) (H : Heap) (locs : List Loc) (t : State), (∀ n, n < T0.1 → ad n = ad0 n) → gC cI cJ cZ cMic cSrc cSt cAI cAJ D ad A s.heap H locs T1 → s.vm.Alike t.vm → H.size ≤ t.heap.size → (∀ q, q < H.size → t.heap[q]? = H[q]?) → XC (exn e1) s t) : ∀ (T : AT) (ad : Nat → Nat) (H : Heap) (locs : List Loc) (ls : Array Slot) (s0 : Nat) (l0 : Nat), g_X11_meanPower_b8 T s0 l0 = some (e1 + 1, r1, T1) → GL T0 T → RC T → (∀ n, n < T0.1 → ad n = ad0 n) → s0 < T.1 → l0 < T.1 → gC cI cJ cZ cMic cSrc cSt cAI cAJ D ad A s.heap H locs T → lv_has ls 1 [(0, .ref (ad l0))] → W p l e { frames := 7, cells := T1.1 - T0.1 + 1, slots := sg T1 - sg T0 + 6, locals := 149 } s m args below meth c H locs (T.1 - T0.1) (sg T - sg T0) (vx_MQ below Qc XC args s (T1.1 - T0.1 + 1) (sg T1 - sg T0 + 6) A) (F0 m 8 ls [.ref (ad s0)]) := by
  have hx := E.1
  have hb := E.2.1
  have hts := E.2.2.1
  have hown := E.2.2.2.1
  have hK := E.2.2.2.2
  intro T ad H locs ls s0 l0 h hgl hrc had h_s0 h_l0 G hl
  have hT1 := s_X11_meanPower_b8 _ _ _ h
  have hcs := cs_okx hgl hT1
  have hcx := cs_okx1 hgl hT1
  have cp0 := cpr0 hrc
  unfold g_X11_meanPower_b8 at h
  refine lv_aload_n hx hb dX11_meanPower_8 rfl (lv_at hl 0 rfl) ?_
  obtain ⟨g2, h⟩ := oif_some h
  obtain ⟨n3, en3, h⟩ := obind_some h
  have h_n3 : n3 < T.1 := by rw [← cp0.1]; exact cp0.2.2 _ _ _ en3
  refine c_get E G l0 14 (v := .ref (ad n3)) (oO_k g2).1 (cc_o11 (oO_k g2).2) rfl (fun w h => .tail _ (iA_23 h)) (by decide) (.tail _ qA_675) rfl (by rw [en3]; rfl) dX11_meanPower_9 ?_
  clear en3
  obtain ⟨g4, h⟩ := oif_some h
  obtain ⟨n5, en5, h⟩ := obind_some h
  have h_n5 : n5 < T.1 := by rw [← cp0.1]; exact cp0.2.2 _ _ _ en5
  refine c_get E G n3 6 (v := .ref (ad n5)) (oO_k g4).1 (cc_o6 (oO_k g4).2) rfl (fun w h => .tail _ (iA_14 h)) (by decide) (.tail _ qA_695) rfl (by rw [en5]; rfl) dX11_meanPower_12 ?_
  clear en5
  obtain ⟨g6, h⟩ := oif_some h
  obtain ⟨n7, en7, h⟩ := obind_some h
  have h_n7 : n7 < T.1 := by rw [← cp0.1]; exact cp0.2.2 _ _ _ en7
  refine c_get E G n5 5 (v := .ref (ad n7)) (oO_k g6).1 (cc_o1 (oO_k g6).2) rfl (fun w h => .tail _ (iA_15 h)) (by decide) (.tail _ qA_815) rfl (by rw [en7]; rfl) dX11_meanPower_15 ?_
  clear en7
  refine lv_aload_n hx hb dX11_meanPower_18 rfl (lv_at hl 0 rfl) ?_
  obtain ⟨g8, h⟩ := oif_some h
  obtain ⟨n9, en9, h⟩ := obind_some h
  have h_n9 : n9 < T.1 := by rw [← cp0.1]; exact cp0.2.2 _ _ _ en9
  refine c_get E G l0 14 (v := .ref (ad n9)) (oO_k g8).1 (cc_o11 (oO_k g8).2) rfl (fun w h => .tail _ (iA_23 h)) (by decide) (.tail _ qA_675) rfl (by rw [en9]; rfl) dX11_meanPower_19 ?_
  clear en9
  obtain ⟨g10, h⟩ := oif_some h
  obtain ⟨n11, en11, h⟩ := obind_some h
  have h_n11 : n11 < T.1 := by rw [← cp0.1]; exact cp0.2.2 _ _ _ en11
  refine c_get E G n9 6 (v := .ref (ad n11)) (oO_k g10).1 (cc_o6 (oO_k g10).2) rfl (fun w h => .tail _ (iA_14 h)) (by decide) (.tail _ qA_695) rfl (by rw [en11]; rfl) dX11_meanPower_22 ?_
  clear en11
  refine lv_aload_n hx hb dX11_meanPower_25 rfl (lv_at hl 0 rfl) ?_
  obtain ⟨g12, h⟩ := oif_some h
  obtain ⟨n13, en13, h⟩ := obind_some h
  have h_n13 : n13 < T.1 := by rw [← cp0.1]; exact cp0.2.2 _ _ _ en13
  refine c_get E G l0 12 (v := .ref (ad n13)) (oO_k g12).1 (cc_o11 (oO_k g12).2) rfl (fun w h => .tail _ (iA_23 h)) (by decide) (.tail _ qA_671) rfl (by rw [en13]; rfl) dX11_meanPower_26 ?_
  clear en13
  refine lv_iconst (v := 0) hx hb dX11_meanPower_29 (by decide) ?_
  obtain ⟨g14, h⟩ := oif_some h
  obtain ⟨T15, eT15, h⟩ := obind_some h
  have hg2 := s_X4_sumIn eT15
  have hrc2 := hg2.2.2 cp0.2.2
  have hT2 := s_X11_meanPower_b33 _ _ h
  refine q_avv (As := [.ref (ad n7), .ref (ad n11), .ref (ad n13), .int 0]) (rest := []) E G hA hX hN hml (a_X4_sumIn l hst D cI cJ cZ cMic cSrc cSt cAI cAJ ad T s0 n7 n11 n13 (0 : Int32) eT15 cp0.2.2 (by rw [cp0.1]; exact h_s0) (by rw [cp0.1]; exact h_n7) (by rw [cp0.1]; exact h_n11) (by rw [cp0.1]; exact h_n13)) (cwV 4 hts (gaV qA_816 qA_817 qA_818 qA_426 qA_438) rfl rfl rfl (by decide +kernel) ⟨Nat.le_of_ble_eq_true rfl, Nat.le_of_ble_eq_true rfl⟩) (oO_k g14).1 (cc_o4 (oO_k g14).2) rfl rfl hl.1 rfl (lv_room (Nat.le_of_ble_eq_true rfl)) dX11_meanPower_30 (cs_avx hgl cp0 hg2 hT2) (fun ad2 H locs hga G => ?_)
  refine w_cast (c2 := T15.1 - T0.1) (s2 := sg T15 - sg T0) (cs_f1 hgl cp0 hg2) (cs_f2 hgl cp0 hg2) ?_
  have hl := lv_sub hl [0] rfl
  rw [show ad l0 = ad2 l0 from (hga l0 (by rw [cp0.1]; exact h_l0)).symm] at hl
  exact b_X11_meanPower_b33 E hA hX hN hml hst htab hlocks kx _ _ _ _ _ _ h (GL.tr (gl_cpr hgl cp0) hg2) hrc2 (fun n hn => (hga n (by rw [cp0.1]; exact Nat.lt_of_lt_of_le hn hgl.1)).trans (had n hn)) (Nat.lt_of_lt_of_le (by rw [cp0.1]; exact h_l0) hg2.1) G hl
set_option maxHeartbeats 4000000 in
set_option maxRecDepth 100000 in
theorem b_X11_meanPower (l : Launch) (hst : l.stackTraces = false) (D : va_G) (cI cJ cZ cMic cSrc cSt cAI cAJ : ClassId) (ad : Nat → Nat) (T : AT) (o : Nat) {e1 : Nat} {r1 : Int64} {T1 : AT} (h : g_X11_meanPower T o = some (e1 + 1, r1, T1)) (hrc : RC T) (h_o : o < T.1) : kAXl l yX11_meanPower (Cond.code yX11_meanPower cX11_meanPower 1 (some .long) :: wsA) 7 149 cI cJ cZ cMic cSrc cSt cAI cAJ D ad T [.ref (ad o)] e1 T1 := by
  intro sz
  refine vx_ofW (cc := cX11_meanPower) (maxL := 1) (ret := (some .long)) (by decide) rfl ?_
  intro p e s m args below meth c s₁ B hml htab hv
  obtain ⟨rfl, hsz, hP, hK, hD0, hX, hN⟩ := hv
  have hx := B.exec
  have hb := B.bytes
  have hr := B.returns
  have hts := atoms_spec (ws := (Cond.code yX11_meanPower cX11_meanPower 1 (some .long) :: wsA)) B.pre
  have hown : s.vm.findClass RX11 = some m.cls := findClass_of_methodNamed B.named
  have hlocks := B.notSynchronized
  subst hsz
  have hD := hD0.self (sz := s.heap.size)
  generalize hAe : va_A (cW ad T.1 (cc cI cJ cZ cMic cSrc cSt cAI cAJ ad T)) s.heap.size = A at hD hX ⊢
  have hA : ∀ q : Nat, s.heap.size ≤ q → A q := fun q h => by rw [← hAe]; exact Or.inr h
  have G : gC cI cJ cZ cMic cSrc cSt cAI cAJ D ad A s.heap s.heap [] T := ⟨hP, hD, va_S.rf⟩
  have E : cE p c cX11_meanPower s m ([.ref (ad o)] : List Value).toArray (Cond.code yX11_meanPower cX11_meanPower 1 (some .long) :: wsA) D RX11 (CT cI cJ cZ cMic cSrc cSt cAI cAJ) := ⟨hx, hb, hts, hown, hK⟩
  have htab : ∀ x ∈ c.exceptionTable.toList, False := fun x hx => htab x hx
  have hl := lv_entry ([.ref (ad o)]) (n := 1) (Nat.le_of_ble_eq_true rfl)
  rw [lg_entry_eq]
  generalize (lg_sl ([.ref (ad o)]) ++ List.replicate (1 - (lg_sl ([.ref (ad o)])).length) Slot.unset).toArray = ls at hl ⊢
  have hl : lv_has ls 1 [(0, .ref (ad o))] := hl
  have hgl := GL.rf T
  have had : ∀ n, n < T.1 → ad n = ad n := fun _ _ => rfl
  have hT1 := s_X11_meanPower h
  have hcs := cs_okx hgl hT1
  have hcx := cs_okx1 hgl hT1
  refine w_cast (Nat.sub_self T.1).symm (Nat.sub_self (sg T)).symm ?_
  have cp0 := cpr0 hrc
  unfold g_X11_meanPower at h
  refine lv_aload_n hx hb dX11_meanPower_0 rfl (lv_at hl 0 rfl) ?_
  obtain ⟨g2, h⟩ := oif_some h
  rcases othr_t h with ⟨r0, eT3⟩ | ⟨r5, T3, eT3, h⟩
  · refine q_xvv (As := []) (rest := []) E G hA hX hN hml (x_X11_needCamera l hst D cI cJ cZ cMic cSrc cSt cAI cAJ ad T o eT3) (cwV 0 hts (gaV qA_728 qA_729 qA_730 qA_131 qA_731) rfl rfl rfl (by decide +kernel) ⟨Nat.le_of_ble_eq_true rfl, Nat.le_of_ble_eq_true rfl⟩) (oO_k g2).1 (cc_o11 (oO_k g2).2) rfl rfl hl.1 rfl (lv_room (Nat.le_of_ble_eq_true rfl)) dX11_meanPower_1 hcx (fun E9 ce q9 T9 H locs hp G hce hcv hcl => ?_)
    obtain ⟨hE, hT⟩ := hp
    subst hE
    rw [hT] at G
    exact vx_out (fun x hx => (htab x hx).elim) hlocks hce hcv hcl (fun t ht hvm => ⟨(T1, ad), trivial, ⟨⟨rfl, rfl, had⟩, by rw [ht]; exact G.1, va_K.moved hvm hK, G.2.1⟩, G.2.2.F ht⟩) G.2.2.2.2 hcx.1 hcx.2
  refine q_cvv (As := []) (rest := []) E G hA hX hN hml (u_X11_needCamera l hst D cI cJ cZ cMic cSrc cSt cAI cAJ ad T o eT3) (cwV 0 hts (gaV qA_728 qA_729 qA_730 qA_131 qA_731) rfl rfl rfl (by decide +kernel) ⟨Nat.le_of_ble_eq_true rfl, Nat.le_of_ble_eq_true rfl⟩) (oO_k g2).1 (cc_o11 (oO_k g2).2) rfl rfl hl.1 rfl (lv_room (Nat.le_of_ble_eq_true rfl)) dX11_meanPower_1 hcs (fun T4 H locs hq G => ?_)
  rw [hq] at G
  clear hq
  have cp1 := cpr_sp cp0 (s_X11_needCamera eT3)
  refine lv_aload_n hx hb dX11_meanPower_4 rfl (lv_at hl 0 rfl) ?_
  obtain ⟨g7, h⟩ := oif_some h
  obtain ⟨r9, T8, eT8, h⟩ := obind2_some h
  obtain ⟨g10, h⟩ := oif_some h
  have hg2 := s_X11_powersNow eT8
  have hrc2 := hg2.2.2 cp1.2.2
  have hT2 := s_X11_meanPower_b8 _ _ _ h
  refine q_avr (As := []) (rest := []) E G hA hX hN hml (a_X11_powersNow l hst D cI cJ cZ cMic cSrc cSt cAI cAJ ad T3 o eT8 cp1.2.2 (by rw [cp1.1]; exact h_o)) (cwV 0 hts (gaV qA_799 qA_800 qA_801 qA_131 qA_802) rfl rfl rfl (by decide +kernel) ⟨Nat.le_of_ble_eq_true rfl, Nat.le_of_ble_eq_true rfl⟩) (oO_k g7).1 (cc_o11 (oO_k g7).2) rfl rfl hl.1 rfl (lv_room (Nat.le_of_ble_eq_true rfl)) dX11_meanPower_5 (cs_avx hgl cp1 hg2 hT2) (fun ad2 H locs hga G => ?_)
  refine w_cast (c2 := T8.1 - T.1) (s2 := sg T8 - sg T) (cs_f1 hgl cp1 hg2) (cs_f2 hgl cp1 hg2) ?_
  have h_new : r9 < T8.1 := Nat.le_of_ble_eq_true g10
  have hl := lv_sub hl [0] rfl
  rw [show ad o = ad2 o from (hga o (by rw [cp1.1]; exact h_o)).symm] at hl
  exact b_X11_meanPower_b8 E hA hX hN hml hst htab hlocks (fun ad H locs t had G hvm h1 h2 => ⟨(T1, ad), trivial, ⟨⟨rfl, rfl, had⟩, (c_thrown G hK hvm h1 h2).1⟩, (c_thrown G hK hvm h1 h2).2⟩) _ _ _ _ _ _ _ h (GL.tr (gl_cpr hgl cp1) hg2) hrc2 (fun n hn => (hga n (by rw [cp1.1]; exact Nat.lt_of_lt_of_le hn hgl.1)).trans (had n hn)) h_new (Nat.lt_of_lt_of_le (by rw [cp1.1]; exact h_o) hg2.1) G hl
def g_X11_peaks_b8  (T : AT) (s0 : Nat) : Option (Nat × Int32 × AT) := oif (oO T s0 4 = true) <| elet (T.2.2.1 s0 3) fun v3 => some (0, v3, T)
def g_X11_peaks (T : AT) (o : Nat) : Option (Nat × Int32 × AT) := oif (oO T o 11 = true) <| othr (g_X11_needCamera T o) 0 fun r5 T3 => oif (oO T3 o 11 = true) <| obind2 (g_X11_powersNow T3 o) fun r9 T8 => oif (Nat.blt r9 T8.1 = true) <| g_X11_peaks_b8 T8 r9
set_option maxHeartbeats 4000000 in
set_option maxRecDepth 100000 in
theorem s_X11_peaks_b8 {e1 : Nat} {r1 : Int32} {T1 : AT} : ∀ (T : AT) (s0 : Nat), g_X11_peaks_b8 T s0 = some (e1, r1, T1) → GL T T1 := by
  intro T s0 h
  have p0 := GL.rf T
  unfold g_X11_peaks_b8 at h
  obtain ⟨g2, h⟩ := oif_some h
  obtain ⟨v3, -, h⟩ := elet_some h
  rw [← (osome3 h).2.2]
  exact p0
set_option maxHeartbeats 4000000 in
set_option maxRecDepth 100000 in
theorem s_X11_peaks {T : AT} {o : Nat} {e1 : Nat} {r1 : Int32} {T1 : AT} (h : g_X11_peaks T o = some (e1, r1, T1)) : GL T T1 := by
  have p0 := GL.rf T
  unfold g_X11_peaks at h
  obtain ⟨g2, h⟩ := oif_some h
  rcases othr_s h with ⟨k9, r9, e9, -⟩ | ⟨r4, T3, eT3, h⟩
  · exact GL.tr p0 (gl_sp (s_X11_needCamera e9))
  have p1 : GL T T3 := GL.tr p0 (gl_sp (s_X11_needCamera eT3))
  obtain ⟨g5, h⟩ := oif_some h
  obtain ⟨r7, T6, eT6, h⟩ := obind2_some h
  obtain ⟨g8, h⟩ := oif_some h
  have p2 : GL T T6 := GL.tr p1 (s_X11_powersNow eT6)
  exact GL.tr p2 (s_X11_peaks_b8 _ _ h)
set_option maxHeartbeats 4000000 in
set_option maxRecDepth 100000 in
theorem a_X11_peaks_b8 {p : Program} {l : Launch} {e : Env} {s : State} {m : MethodId} {args : Array Value} {below : List Frame} {meth : Method} {c : Code} {Q : State → Prop} {D : va_G} {A : Nat → Prop} {cI cJ cZ cMic cSrc cSt cAI cAJ : ClassId} {ad0 : Nat → Nat} {T0 : AT} {r1 : Int32} {T1 : AT} (E : cE p c cX11_peaks s m args (Cond.code yX11_peaks cX11_peaks 1 (some .int) :: wsA) D RX11 (CT cI cJ cZ cMic cSrc cSt cAI cAJ)) (hA : ∀ q : Nat, s.heap.size ≤ q → A q) (hX : xT A s) (hN : nX s) (hml : c.maxLocals = 1) (hst : l.stackTraces = false) (kr11 : ∀ (ad : Nat → Nat) (H : Heap) (locs : List Loc) (ls : Array Slot), (∀ n, n < T0.1 → ad n = ad0 n) → gC cI cJ cZ cMic cSrc cSt cAI cAJ D ad A s.heap H locs T1 → W p l e { frames := 7, cells := T1.1 - T0.1, slots := sg T1 - sg T0, locals := 149 } s m args below meth c H locs (T1.1 - T0.1) (sg T1 - sg T0) Q (F0 m 11 ls [.int r1])) : ∀ (T : AT) (ad : Nat → Nat) (H : Heap) (locs : List Loc) (ls : Array Slot) (s0 : Nat), g_X11_peaks_b8 T s0 = some (0, r1, T1) → GL T0 T → RC T → (∀ n, n < T0.1 → ad n = ad0 n) → s0 < T.1 → gC cI cJ cZ cMic cSrc cSt cAI cAJ D ad A s.heap H locs T → lv_has ls 1 [] → W p l e { frames := 7, cells := T1.1 - T0.1, slots := sg T1 - sg T0, locals := 149 } s m args below meth c H locs (T.1 - T0.1) (sg T - sg T0) Q (F0 m 8 ls [.ref (ad s0)]) := by
  have hx := E.1
  have hb := E.2.1
  have hts := E.2.2.1
  have hown := E.2.2.2.1
  have hK := E.2.2.2.2
  intro T ad H locs ls s0 h hgl hrc had h_s0 G hl
  have hT1 := s_X11_peaks_b8 _ _ h
  have hcs := cs_ok hgl hT1
  have cp0 := cpr0 hrc
  unfold g_X11_peaks_b8 at h
  obtain ⟨g2, h⟩ := oif_some h
  refine c_get E G s0 3 (oO_k g2).1 (cc_o4 (oO_k g2).2) rfl (fun w h => .tail _ (iA_21 h)) (by decide) (.tail _ qA_821) rfl rfl dX11_peaks_8 ?_
  refine lv_topi (fun v3 ev3 => ?_)
  have h := elet_at ev3 h
  clear ev3
  rw [(osome3 h).2.2] at G
  refine w_cast (c2 := T1.1 - T0.1) (s2 := sg T1 - sg T0) (by rw [← (osome3 h).2.2, cp0.1] <;> rfl) (by rw [← (osome3 h).2.2, sg_cpr cp0] <;> rfl) ?_
  refine lv_to ((osome3 h).2.1) ?_
  exact kr11 ad _ _ _ had G
set_option maxHeartbeats 4000000 in
set_option maxRecDepth 100000 in
theorem a_X11_peaks (l : Launch) (hst : l.stackTraces = false) (D : va_G) (cI cJ cZ cMic cSrc cSt cAI cAJ : ClassId) (ad : Nat → Nat) (T : AT) (o : Nat) {r1 : Int32} {T1 : AT} (h : g_X11_peaks T o = some (0, r1, T1)) (hrc : RC T) (h_o : o < T.1) : kAi l yX11_peaks (Cond.code yX11_peaks cX11_peaks 1 (some .int) :: wsA) 7 149 cI cJ cZ cMic cSrc cSt cAI cAJ D ad T [.ref (ad o)] r1 T1 := by
  intro sz
  refine Met.ofW (cc := cX11_peaks) (maxL := 1) (ret := (some .int)) (by decide) rfl ?_
  intro p e s m args below meth c s₁ B hml hv
  obtain ⟨rfl, hsz, hP, hK, hD0, hX, hN⟩ := hv
  have hx := B.exec
  have hb := B.bytes
  have hr := B.returns
  have hts := atoms_spec (ws := (Cond.code yX11_peaks cX11_peaks 1 (some .int) :: wsA)) B.pre
  have hown : s.vm.findClass RX11 = some m.cls := findClass_of_methodNamed B.named
  have hlocks := B.notSynchronized
  subst hsz
  have hD := hD0.self (sz := s.heap.size)
  generalize hAe : va_A (cW ad T.1 (cc cI cJ cZ cMic cSrc cSt cAI cAJ ad T)) s.heap.size = A at hD hX ⊢
  have hA : ∀ q : Nat, s.heap.size ≤ q → A q := fun q h => by rw [← hAe]; exact Or.inr h
  have G : gC cI cJ cZ cMic cSrc cSt cAI cAJ D ad A s.heap s.heap [] T := ⟨hP, hD, va_S.rf⟩
  have E : cE p c cX11_peaks s m ([.ref (ad o)] : List Value).toArray (Cond.code yX11_peaks cX11_peaks 1 (some .int) :: wsA) D RX11 (CT cI cJ cZ cMic cSrc cSt cAI cAJ) := ⟨hx, hb, hts, hown, hK⟩
  have hl := lv_entry ([.ref (ad o)]) (n := 1) (Nat.le_of_ble_eq_true rfl)
  rw [lg_entry_eq]
  generalize (lg_sl ([.ref (ad o)]) ++ List.replicate (1 - (lg_sl ([.ref (ad o)])).length) Slot.unset).toArray = ls at hl ⊢
  have hl : lv_has ls 1 [(0, .ref (ad o))] := hl
  have hgl := GL.rf T
  have had : ∀ n, n < T.1 → ad n = ad n := fun _ _ => rfl
  have hT1 := s_X11_peaks h
  have hcs := cs_ok hgl hT1
  refine w_cast (Nat.sub_self T.1).symm (Nat.sub_self (sg T)).symm ?_
  have cp0 := cpr0 hrc
  unfold g_X11_peaks at h
  refine lv_aload_n hx hb dX11_peaks_0 rfl (lv_at hl 0 rfl) ?_
  obtain ⟨g2, h⟩ := oif_some h
  obtain ⟨r5, T3, eT3, h⟩ := othr_n h
  refine q_cvv (As := []) (rest := []) E G hA hX hN hml (u_X11_needCamera l hst D cI cJ cZ cMic cSrc cSt cAI cAJ ad T o eT3) (cwV 0 hts (gaV qA_728 qA_729 qA_730 qA_131 qA_731) rfl rfl rfl (by decide +kernel) ⟨Nat.le_of_ble_eq_true rfl, Nat.le_of_ble_eq_true rfl⟩) (oO_k g2).1 (cc_o11 (oO_k g2).2) rfl rfl hl.1 rfl (lv_room (Nat.le_of_ble_eq_true rfl)) dX11_peaks_1 hcs (fun T4 H locs hq G => ?_)
  rw [hq] at G
  clear hq
  have cp1 := cpr_sp cp0 (s_X11_needCamera eT3)
  refine lv_aload_n hx hb dX11_peaks_4 rfl (lv_at hl 0 rfl) ?_
  obtain ⟨g7, h⟩ := oif_some h
  obtain ⟨r9, T8, eT8, h⟩ := obind2_some h
  obtain ⟨g10, h⟩ := oif_some h
  have hg2 := s_X11_powersNow eT8
  have hrc2 := hg2.2.2 cp1.2.2
  have hT2 := s_X11_peaks_b8 _ _ h
  refine q_avr (As := []) (rest := []) E G hA hX hN hml (a_X11_powersNow l hst D cI cJ cZ cMic cSrc cSt cAI cAJ ad T3 o eT8 cp1.2.2 (by rw [cp1.1]; exact h_o)) (cwV 0 hts (gaV qA_799 qA_800 qA_801 qA_131 qA_802) rfl rfl rfl (by decide +kernel) ⟨Nat.le_of_ble_eq_true rfl, Nat.le_of_ble_eq_true rfl⟩) (oO_k g7).1 (cc_o11 (oO_k g7).2) rfl rfl hl.1 rfl (lv_room (Nat.le_of_ble_eq_true rfl)) dX11_peaks_5 (cs_av hgl cp1 hg2 hT2) (fun ad2 H locs hga G => ?_)
  refine w_cast (c2 := T8.1 - T.1) (s2 := sg T8 - sg T) (cs_f1 hgl cp1 hg2) (cs_f2 hgl cp1 hg2) ?_
  have h_new : r9 < T8.1 := Nat.le_of_ble_eq_true g10
  have hl := lv_sub hl [] rfl
  exact a_X11_peaks_b8 E hA hX hN hml hst (fun ad H locs ls had G => W.iret (v := r1) hx hb hr (fun t ht hW => ⟨⟨r1, (T1, ad), rfl, ⟨rfl, rfl, had⟩, ⟨by rw [ht]; exact G.1, va_K.moved hW.alike hK, G.2.1⟩⟩, G.2.2.F ht⟩) G.2.2.2.2 dX11_peaks_11) _ _ _ _ _ _ h (GL.tr (gl_cpr hgl cp1) hg2) hrc2 (fun n hn => (hga n (by rw [cp1.1]; exact Nat.lt_of_lt_of_le hn hgl.1)).trans (had n hn)) h_new G hl
set_option maxHeartbeats 4000000 in
set_option maxRecDepth 100000 in
theorem b_X11_peaks_b8 {p : Program} {l : Launch} {e : Env} {s : State} {m : MethodId} {args : Array Value} {below : List Frame} {meth : Method} {c : Code} {Qc : Array Value → State → Outcome → State → Prop} {XC : String → State → State → Prop} {D : va_G} {A : Nat → Prop} {cI cJ cZ cMic cSrc cSt cAI cAJ : ClassId} {ad0 : Nat → Nat} {T0 : AT} {e1 : Nat} {r1 : Int32} {T1 : AT} (E : cE p c cX11_peaks s m args (Cond.code yX11_peaks cX11_peaks 1 (some .int) :: wsA) D RX11 (CT cI cJ cZ cMic cSrc cSt cAI cAJ)) (hA : ∀ q : Nat, s.heap.size ≤ q → A q) (hX : xT A s) (hN : nX s) (hml : c.maxLocals = 1) (hst : l.stackTraces = false) (htab : ∀ x ∈ c.exceptionTable.toList, False) (hlocks : meth.locks = false) (kx : ∀ (ad : Nat → Nat) (H : Heap) (locs : List Loc) (t : State), (∀ n, n < T0.1 → ad n = ad0 n) → gC cI cJ cZ cMic cSrc cSt cAI cAJ D ad A s.heap H locs T1 → s.vm.Alike t.vm → H.size ≤ t.heap.size → (∀ q, q < H.size → t.heap[q]? = H[q]?) → XC (exn e1) s t) : ∀ (T : AT) (ad : Nat → Nat) (H : Heap) (locs : List Loc) (ls : Array Slot) (s0 : Nat), g_X11_peaks_b8 T s0 = some (e1 + 1, r1, T1) → GL T0 T → RC T → (∀ n, n < T0.1 → ad n = ad0 n) → s0 < T.1 → gC cI cJ cZ cMic cSrc cSt cAI cAJ D ad A s.heap H locs T → lv_has ls 1 [] → W p l e { frames := 7, cells := T1.1 - T0.1 + 1, slots := sg T1 - sg T0 + 6, locals := 149 } s m args below meth c H locs (T.1 - T0.1) (sg T - sg T0) (vx_MQ below Qc XC args s (T1.1 - T0.1 + 1) (sg T1 - sg T0 + 6) A) (F0 m 8 ls [.ref (ad s0)]) := by
  have hx := E.1
  have hb := E.2.1
  have hts := E.2.2.1
  have hown := E.2.2.2.1
  have hK := E.2.2.2.2
  intro T ad H locs ls s0 h hgl hrc had h_s0 G hl
  have hT1 := s_X11_peaks_b8 _ _ h
  have hcs := cs_okx hgl hT1
  have hcx := cs_okx1 hgl hT1
  have cp0 := cpr0 hrc
  unfold g_X11_peaks_b8 at h
  obtain ⟨g2, h⟩ := oif_some h
  refine c_get E G s0 3 (oO_k g2).1 (cc_o4 (oO_k g2).2) rfl (fun w h => .tail _ (iA_21 h)) (by decide) (.tail _ qA_821) rfl rfl dX11_peaks_8 ?_
  refine lv_topi (fun v3 ev3 => ?_)
  have h := elet_at ev3 h
  clear ev3
  exact (Nat.succ_ne_zero _ (congrArg Prod.fst (Option.some.inj h)).symm).elim
set_option maxHeartbeats 4000000 in
set_option maxRecDepth 100000 in
theorem b_X11_peaks (l : Launch) (hst : l.stackTraces = false) (D : va_G) (cI cJ cZ cMic cSrc cSt cAI cAJ : ClassId) (ad : Nat → Nat) (T : AT) (o : Nat) {e1 : Nat} {r1 : Int32} {T1 : AT} (h : g_X11_peaks T o = some (e1 + 1, r1, T1)) (hrc : RC T) (h_o : o < T.1) : kAXi l yX11_peaks (Cond.code yX11_peaks cX11_peaks 1 (some .int) :: wsA) 7 149 cI cJ cZ cMic cSrc cSt cAI cAJ D ad T [.ref (ad o)] e1 T1 := by
  intro sz
  refine vx_ofW (cc := cX11_peaks) (maxL := 1) (ret := (some .int)) (by decide) rfl ?_
  intro p e s m args below meth c s₁ B hml htab hv
  obtain ⟨rfl, hsz, hP, hK, hD0, hX, hN⟩ := hv
  have hx := B.exec
  have hb := B.bytes
  have hr := B.returns
  have hts := atoms_spec (ws := (Cond.code yX11_peaks cX11_peaks 1 (some .int) :: wsA)) B.pre
  have hown : s.vm.findClass RX11 = some m.cls := findClass_of_methodNamed B.named
  have hlocks := B.notSynchronized
  subst hsz
  have hD := hD0.self (sz := s.heap.size)
  generalize hAe : va_A (cW ad T.1 (cc cI cJ cZ cMic cSrc cSt cAI cAJ ad T)) s.heap.size = A at hD hX ⊢
  have hA : ∀ q : Nat, s.heap.size ≤ q → A q := fun q h => by rw [← hAe]; exact Or.inr h
  have G : gC cI cJ cZ cMic cSrc cSt cAI cAJ D ad A s.heap s.heap [] T := ⟨hP, hD, va_S.rf⟩
  have E : cE p c cX11_peaks s m ([.ref (ad o)] : List Value).toArray (Cond.code yX11_peaks cX11_peaks 1 (some .int) :: wsA) D RX11 (CT cI cJ cZ cMic cSrc cSt cAI cAJ) := ⟨hx, hb, hts, hown, hK⟩
  have htab : ∀ x ∈ c.exceptionTable.toList, False := fun x hx => htab x hx
  have hl := lv_entry ([.ref (ad o)]) (n := 1) (Nat.le_of_ble_eq_true rfl)
  rw [lg_entry_eq]
  generalize (lg_sl ([.ref (ad o)]) ++ List.replicate (1 - (lg_sl ([.ref (ad o)])).length) Slot.unset).toArray = ls at hl ⊢
  have hl : lv_has ls 1 [(0, .ref (ad o))] := hl
  have hgl := GL.rf T
  have had : ∀ n, n < T.1 → ad n = ad n := fun _ _ => rfl
  have hT1 := s_X11_peaks h
  have hcs := cs_okx hgl hT1
  have hcx := cs_okx1 hgl hT1
  refine w_cast (Nat.sub_self T.1).symm (Nat.sub_self (sg T)).symm ?_
  have cp0 := cpr0 hrc
  unfold g_X11_peaks at h
  refine lv_aload_n hx hb dX11_peaks_0 rfl (lv_at hl 0 rfl) ?_
  obtain ⟨g2, h⟩ := oif_some h
  rcases othr_t h with ⟨r0, eT3⟩ | ⟨r5, T3, eT3, h⟩
  · refine q_xvv (As := []) (rest := []) E G hA hX hN hml (x_X11_needCamera l hst D cI cJ cZ cMic cSrc cSt cAI cAJ ad T o eT3) (cwV 0 hts (gaV qA_728 qA_729 qA_730 qA_131 qA_731) rfl rfl rfl (by decide +kernel) ⟨Nat.le_of_ble_eq_true rfl, Nat.le_of_ble_eq_true rfl⟩) (oO_k g2).1 (cc_o11 (oO_k g2).2) rfl rfl hl.1 rfl (lv_room (Nat.le_of_ble_eq_true rfl)) dX11_peaks_1 hcx (fun E9 ce q9 T9 H locs hp G hce hcv hcl => ?_)
    obtain ⟨hE, hT⟩ := hp
    subst hE
    rw [hT] at G
    exact vx_out (fun x hx => (htab x hx).elim) hlocks hce hcv hcl (fun t ht hvm => ⟨(T1, ad), trivial, ⟨⟨rfl, rfl, had⟩, by rw [ht]; exact G.1, va_K.moved hvm hK, G.2.1⟩, G.2.2.F ht⟩) G.2.2.2.2 hcx.1 hcx.2
  refine q_cvv (As := []) (rest := []) E G hA hX hN hml (u_X11_needCamera l hst D cI cJ cZ cMic cSrc cSt cAI cAJ ad T o eT3) (cwV 0 hts (gaV qA_728 qA_729 qA_730 qA_131 qA_731) rfl rfl rfl (by decide +kernel) ⟨Nat.le_of_ble_eq_true rfl, Nat.le_of_ble_eq_true rfl⟩) (oO_k g2).1 (cc_o11 (oO_k g2).2) rfl rfl hl.1 rfl (lv_room (Nat.le_of_ble_eq_true rfl)) dX11_peaks_1 hcs (fun T4 H locs hq G => ?_)
  rw [hq] at G
  clear hq
  have cp1 := cpr_sp cp0 (s_X11_needCamera eT3)
  refine lv_aload_n hx hb dX11_peaks_4 rfl (lv_at hl 0 rfl) ?_
  obtain ⟨g7, h⟩ := oif_some h
  obtain ⟨r9, T8, eT8, h⟩ := obind2_some h
  obtain ⟨g10, h⟩ := oif_some h
  have hg2 := s_X11_powersNow eT8
  have hrc2 := hg2.2.2 cp1.2.2
  have hT2 := s_X11_peaks_b8 _ _ h
  refine q_avr (As := []) (rest := []) E G hA hX hN hml (a_X11_powersNow l hst D cI cJ cZ cMic cSrc cSt cAI cAJ ad T3 o eT8 cp1.2.2 (by rw [cp1.1]; exact h_o)) (cwV 0 hts (gaV qA_799 qA_800 qA_801 qA_131 qA_802) rfl rfl rfl (by decide +kernel) ⟨Nat.le_of_ble_eq_true rfl, Nat.le_of_ble_eq_true rfl⟩) (oO_k g7).1 (cc_o11 (oO_k g7).2) rfl rfl hl.1 rfl (lv_room (Nat.le_of_ble_eq_true rfl)) dX11_peaks_5 (cs_avx hgl cp1 hg2 hT2) (fun ad2 H locs hga G => ?_)
  refine w_cast (c2 := T8.1 - T.1) (s2 := sg T8 - sg T) (cs_f1 hgl cp1 hg2) (cs_f2 hgl cp1 hg2) ?_
  have h_new : r9 < T8.1 := Nat.le_of_ble_eq_true g10
  have hl := lv_sub hl [] rfl
  exact b_X11_peaks_b8 E hA hX hN hml hst htab hlocks (fun ad H locs t had G hvm h1 h2 => ⟨(T1, ad), trivial, ⟨⟨rfl, rfl, had⟩, (c_thrown G hK hvm h1 h2).1⟩, (c_thrown G hK hvm h1 h2).2⟩) _ _ _ _ _ _ h (GL.tr (gl_cpr hgl cp1) hg2) hrc2 (fun n hn => (hga n (by rw [cp1.1]; exact Nat.lt_of_lt_of_le hn hgl.1)).trans (had n hn)) h_new G hl
def g_X11_peakAt_b8  (T : AT) (s0 : Nat) (l1 : Int32) : Option (Nat × Int32 × AT) := oif (oO T s0 4 = true) <| elet (T.2.2.1 s0 3) fun v3 => othr (g_X11_needIndex T l1 v3) 0 fun r6 T4 => oif (oO T4 s0 4 = true) <| obind2 (g_X4_peakRanked T4 s0 l1) fun r11 T9 => some (0, r11, T9)
def g_X11_peakAt (T : AT) (o : Nat) (a0 : Int32) : Option (Nat × Int32 × AT) := oif (oO T o 11 = true) <| othr (g_X11_needCamera T o) 0 fun r5 T3 => oif (oO T3 o 11 = true) <| obind2 (g_X11_powersNow T3 o) fun r9 T8 => oif (Nat.blt r9 T8.1 = true) <| g_X11_peakAt_b8 T8 r9 a0
set_option maxHeartbeats 4000000 in
set_option maxRecDepth 100000 in
theorem s_X11_peakAt_b8 {e1 : Nat} {r1 : Int32} {T1 : AT} : ∀ (T : AT) (s0 : Nat) (l1 : Int32), g_X11_peakAt_b8 T s0 l1 = some (e1, r1, T1) → GL T T1 := by
  intro T s0 l1 h
  have p0 := GL.rf T
  unfold g_X11_peakAt_b8 at h
  obtain ⟨g2, h⟩ := oif_some h
  obtain ⟨v3, -, h⟩ := elet_some h
  rcases othr_s h with ⟨k9, r9, e9, -⟩ | ⟨r5, T4, eT4, h⟩
  · exact GL.tr p0 (gl_sp (s_X11_needIndex e9))
  have p1 : GL T T4 := GL.tr p0 (gl_sp (s_X11_needIndex eT4))
  obtain ⟨g6, h⟩ := oif_some h
  obtain ⟨r8, T7, eT7, h⟩ := obind2_some h
  have p2 : GL T T7 := GL.tr p1 (gl_sp (s_X4_peakRanked eT7))
  rw [← (osome3 h).2.2]
  exact p2
set_option maxHeartbeats 4000000 in
set_option maxRecDepth 100000 in
theorem s_X11_peakAt {T : AT} {o : Nat} {a0 : Int32} {e1 : Nat} {r1 : Int32} {T1 : AT} (h : g_X11_peakAt T o a0 = some (e1, r1, T1)) : GL T T1 := by
  have p0 := GL.rf T
  unfold g_X11_peakAt at h
  obtain ⟨g2, h⟩ := oif_some h
  rcases othr_s h with ⟨k9, r9, e9, -⟩ | ⟨r4, T3, eT3, h⟩
  · exact GL.tr p0 (gl_sp (s_X11_needCamera e9))
  have p1 : GL T T3 := GL.tr p0 (gl_sp (s_X11_needCamera eT3))
  obtain ⟨g5, h⟩ := oif_some h
  obtain ⟨r7, T6, eT6, h⟩ := obind2_some h
  obtain ⟨g8, h⟩ := oif_some h
  have p2 : GL T T6 := GL.tr p1 (s_X11_powersNow eT6)
  exact GL.tr p2 (s_X11_peakAt_b8 _ _ _ h)
set_option maxHeartbeats 4000000 in
set_option maxRecDepth 100000 in
theorem a_X11_peakAt_b8 {p : Program} {l : Launch} {e : Env} {s : State} {m : MethodId} {args : Array Value} {below : List Frame} {meth : Method} {c : Code} {Q : State → Prop} {D : va_G} {A : Nat → Prop} {cI cJ cZ cMic cSrc cSt cAI cAJ : ClassId} {ad0 : Nat → Nat} {T0 : AT} {r1 : Int32} {T1 : AT} (E : cE p c cX11_peakAt s m args (Cond.code yX11_peakAt cX11_peakAt 3 (some .int) :: wsA) D RX11 (CT cI cJ cZ cMic cSrc cSt cAI cAJ)) (hA : ∀ q : Nat, s.heap.size ≤ q → A q) (hX : xT A s) (hN : nX s) (hml : c.maxLocals = 3) (hst : l.stackTraces = false) (kr22 : ∀ (ad : Nat → Nat) (H : Heap) (locs : List Loc) (ls : Array Slot), (∀ n, n < T0.1 → ad n = ad0 n) → gC cI cJ cZ cMic cSrc cSt cAI cAJ D ad A s.heap H locs T1 → W p l e { frames := 7, cells := T1.1 - T0.1, slots := sg T1 - sg T0, locals := 149 } s m args below meth c H locs (T1.1 - T0.1) (sg T1 - sg T0) Q (F0 m 22 ls [.int r1])) : ∀ (T : AT) (ad : Nat → Nat) (H : Heap) (locs : List Loc) (ls : Array Slot) (s0 : Nat) (l1 : Int32), g_X11_peakAt_b8 T s0 l1 = some (0, r1, T1) → GL T0 T → RC T → (∀ n, n < T0.1 → ad n = ad0 n) → s0 < T.1 → gC cI cJ cZ cMic cSrc cSt cAI cAJ D ad A s.heap H locs T → lv_has ls 3 [(1, .int l1)] → W p l e { frames := 7, cells := T1.1 - T0.1, slots := sg T1 - sg T0, locals := 149 } s m args below meth c H locs (T.1 - T0.1) (sg T - sg T0) Q (F0 m 8 ls [.ref (ad s0)]) := by
  have hx := E.1
  have hb := E.2.1
  have hts := E.2.2.1
  have hown := E.2.2.2.1
  have hK := E.2.2.2.2
  intro T ad H locs ls s0 l1 h hgl hrc had h_s0 G hl
  have hT1 := s_X11_peakAt_b8 _ _ _ h
  have hcs := cs_ok hgl hT1
  have cp0 := cpr0 hrc
  unfold g_X11_peakAt_b8 at h
  refine lv_astore_n (lv' := [(2, .ref (ad s0)), (1, .int l1)]) hx hb dX11_peakAt_8 rfl hl (by decide) rfl (fun ls hl => ?_)
  refine lv_iload_n hx hb dX11_peakAt_9 rfl (lv_at hl 1 rfl) ?_
  refine lv_aload_n hx hb dX11_peakAt_10 rfl (lv_at hl 0 rfl) ?_
  obtain ⟨g2, h⟩ := oif_some h
  refine c_get E G s0 3 (oO_k g2).1 (cc_o4 (oO_k g2).2) rfl (fun w h => .tail _ (iA_21 h)) (by decide) (.tail _ qA_821) rfl rfl dX11_peakAt_11 ?_
  refine lv_topi (fun v3 ev3 => ?_)
  have h := elet_at ev3 h
  clear ev3
  obtain ⟨r6, T4, eT4, h⟩ := othr_n h
  refine q_csv (As := [.int l1, .int v3]) (rest := []) E G hA hX hN hml (u_X11_needIndex l hst D cI cJ cZ cMic cSrc cSt cAI cAJ ad T l1 v3 eT4) (cwS 2 hts (gaS qA_738 qA_739 qA_131 qA_740) rfl rfl rfl (by decide +kernel) ⟨Nat.le_of_ble_eq_true rfl, Nat.le_of_ble_eq_true rfl⟩) rfl hl.1 rfl (lv_room (Nat.le_of_ble_eq_true rfl)) dX11_peakAt_14 hcs (fun T5 H locs hq G => ?_)
  rw [hq] at G
  clear hq
  have cp1 := cpr_sp cp0 (s_X11_needIndex eT4)
  refine lv_aload_n hx hb dX11_peakAt_17 rfl (lv_at hl 0 rfl) ?_
  refine lv_iload_n hx hb dX11_peakAt_18 rfl (lv_at hl 1 rfl) ?_
  obtain ⟨g8, h⟩ := oif_some h
  obtain ⟨r11, T9, eT9, h⟩ := obind2_some h
  refine q_cvi (As := [.int l1]) (rest := []) E G hA hX hN hml (u_X4_peakRanked l hst D cI cJ cZ cMic cSrc cSt cAI cAJ ad T4 s0 l1 eT9) (cwV 1 hts (gaV qA_823 qA_824 qA_825 qA_426 qA_441) rfl rfl rfl (by decide +kernel) ⟨Nat.le_of_ble_eq_true rfl, Nat.le_of_ble_eq_true rfl⟩) (oO_k g8).1 (cc_o4 (oO_k g8).2) rfl rfl hl.1 rfl (lv_room (Nat.le_of_ble_eq_true rfl)) dX11_peakAt_19 hcs (fun q12 T10 H locs hq G => ?_)
  obtain ⟨hq1, hq2⟩ := hq
  rw [hq2] at G
  refine lv_to hq1 ?_
  clear hq1 hq2
  have cp2 := cpr_sp cp1 (s_X4_peakRanked eT9)
  rw [(osome3 h).2.2] at G
  refine w_cast (c2 := T1.1 - T0.1) (s2 := sg T1 - sg T0) (by rw [← (osome3 h).2.2, cp2.1] <;> rfl) (by rw [← (osome3 h).2.2, sg_cpr cp2] <;> rfl) ?_
  refine lv_to ((osome3 h).2.1) ?_
  exact kr22 ad _ _ _ had G
set_option maxHeartbeats 4000000 in
set_option maxRecDepth 100000 in
theorem a_X11_peakAt (l : Launch) (hst : l.stackTraces = false) (D : va_G) (cI cJ cZ cMic cSrc cSt cAI cAJ : ClassId) (ad : Nat → Nat) (T : AT) (o : Nat) (a0 : Int32) {r1 : Int32} {T1 : AT} (h : g_X11_peakAt T o a0 = some (0, r1, T1)) (hrc : RC T) (h_o : o < T.1) : kAi l yX11_peakAt (Cond.code yX11_peakAt cX11_peakAt 3 (some .int) :: wsA) 7 149 cI cJ cZ cMic cSrc cSt cAI cAJ D ad T [.ref (ad o), .int a0] r1 T1 := by
  intro sz
  refine Met.ofW (cc := cX11_peakAt) (maxL := 3) (ret := (some .int)) (by decide) rfl ?_
  intro p e s m args below meth c s₁ B hml hv
  obtain ⟨rfl, hsz, hP, hK, hD0, hX, hN⟩ := hv
  have hx := B.exec
  have hb := B.bytes
  have hr := B.returns
  have hts := atoms_spec (ws := (Cond.code yX11_peakAt cX11_peakAt 3 (some .int) :: wsA)) B.pre
  have hown : s.vm.findClass RX11 = some m.cls := findClass_of_methodNamed B.named
  have hlocks := B.notSynchronized
  subst hsz
  have hD := hD0.self (sz := s.heap.size)
  generalize hAe : va_A (cW ad T.1 (cc cI cJ cZ cMic cSrc cSt cAI cAJ ad T)) s.heap.size = A at hD hX ⊢
  have hA : ∀ q : Nat, s.heap.size ≤ q → A q := fun q h => by rw [← hAe]; exact Or.inr h
  have G : gC cI cJ cZ cMic cSrc cSt cAI cAJ D ad A s.heap s.heap [] T := ⟨hP, hD, va_S.rf⟩
  have E : cE p c cX11_peakAt s m ([.ref (ad o), .int a0] : List Value).toArray (Cond.code yX11_peakAt cX11_peakAt 3 (some .int) :: wsA) D RX11 (CT cI cJ cZ cMic cSrc cSt cAI cAJ) := ⟨hx, hb, hts, hown, hK⟩
  have hl := lv_entry ([.ref (ad o), .int a0]) (n := 3) (Nat.le_of_ble_eq_true rfl)
  rw [lg_entry_eq]
  generalize (lg_sl ([.ref (ad o), .int a0]) ++ List.replicate (3 - (lg_sl ([.ref (ad o), .int a0])).length) Slot.unset).toArray = ls at hl ⊢
  have hl : lv_has ls 3 [(0, .ref (ad o)), (1, .int a0)] := hl
  have hgl := GL.rf T
  have had : ∀ n, n < T.1 → ad n = ad n := fun _ _ => rfl
  have hT1 := s_X11_peakAt h
  have hcs := cs_ok hgl hT1
  refine w_cast (Nat.sub_self T.1).symm (Nat.sub_self (sg T)).symm ?_
  have cp0 := cpr0 hrc
  unfold g_X11_peakAt at h
  refine lv_aload_n hx hb dX11_peakAt_0 rfl (lv_at hl 0 rfl) ?_
  obtain ⟨g2, h⟩ := oif_some h
  obtain ⟨r5, T3, eT3, h⟩ := othr_n h
  refine q_cvv (As := []) (rest := []) E G hA hX hN hml (u_X11_needCamera l hst D cI cJ cZ cMic cSrc cSt cAI cAJ ad T o eT3) (cwV 0 hts (gaV qA_728 qA_729 qA_730 qA_131 qA_731) rfl rfl rfl (by decide +kernel) ⟨Nat.le_of_ble_eq_true rfl, Nat.le_of_ble_eq_true rfl⟩) (oO_k g2).1 (cc_o11 (oO_k g2).2) rfl rfl hl.1 rfl (lv_room (Nat.le_of_ble_eq_true rfl)) dX11_peakAt_1 hcs (fun T4 H locs hq G => ?_)
  rw [hq] at G
  clear hq
  have cp1 := cpr_sp cp0 (s_X11_needCamera eT3)
  refine lv_aload_n hx hb dX11_peakAt_4 rfl (lv_at hl 0 rfl) ?_
  obtain ⟨g7, h⟩ := oif_some h
  obtain ⟨r9, T8, eT8, h⟩ := obind2_some h
  obtain ⟨g10, h⟩ := oif_some h
  have hg2 := s_X11_powersNow eT8
  have hrc2 := hg2.2.2 cp1.2.2
  have hT2 := s_X11_peakAt_b8 _ _ _ h
  refine q_avr (As := []) (rest := []) E G hA hX hN hml (a_X11_powersNow l hst D cI cJ cZ cMic cSrc cSt cAI cAJ ad T3 o eT8 cp1.2.2 (by rw [cp1.1]; exact h_o)) (cwV 0 hts (gaV qA_799 qA_800 qA_801 qA_131 qA_802) rfl rfl rfl (by decide +kernel) ⟨Nat.le_of_ble_eq_true rfl, Nat.le_of_ble_eq_true rfl⟩) (oO_k g7).1 (cc_o11 (oO_k g7).2) rfl rfl hl.1 rfl (lv_room (Nat.le_of_ble_eq_true rfl)) dX11_peakAt_5 (cs_av hgl cp1 hg2 hT2) (fun ad2 H locs hga G => ?_)
  refine w_cast (c2 := T8.1 - T.1) (s2 := sg T8 - sg T) (cs_f1 hgl cp1 hg2) (cs_f2 hgl cp1 hg2) ?_
  have h_new : r9 < T8.1 := Nat.le_of_ble_eq_true g10
  have hl := lv_sub hl [1] rfl
  exact a_X11_peakAt_b8 E hA hX hN hml hst (fun ad H locs ls had G => W.iret (v := r1) hx hb hr (fun t ht hW => ⟨⟨r1, (T1, ad), rfl, ⟨rfl, rfl, had⟩, ⟨by rw [ht]; exact G.1, va_K.moved hW.alike hK, G.2.1⟩⟩, G.2.2.F ht⟩) G.2.2.2.2 dX11_peakAt_22) _ _ _ _ _ _ _ h (GL.tr (gl_cpr hgl cp1) hg2) hrc2 (fun n hn => (hga n (by rw [cp1.1]; exact Nat.lt_of_lt_of_le hn hgl.1)).trans (had n hn)) h_new G hl
set_option maxHeartbeats 4000000 in
set_option maxRecDepth 100000 in
theorem b_X11_peakAt_b8 {p : Program} {l : Launch} {e : Env} {s : State} {m : MethodId} {args : Array Value} {below : List Frame} {meth : Method} {c : Code} {Qc : Array Value → State → Outcome → State → Prop} {XC : String → State → State → Prop} {D : va_G} {A : Nat → Prop} {cI cJ cZ cMic cSrc cSt cAI cAJ : ClassId} {ad0 : Nat → Nat} {T0 : AT} {e1 : Nat} {r1 : Int32} {T1 : AT} (E : cE p c cX11_peakAt s m args (Cond.code yX11_peakAt cX11_peakAt 3 (some .int) :: wsA) D RX11 (CT cI cJ cZ cMic cSrc cSt cAI cAJ)) (hA : ∀ q : Nat, s.heap.size ≤ q → A q) (hX : xT A s) (hN : nX s) (hml : c.maxLocals = 3) (hst : l.stackTraces = false) (htab : ∀ x ∈ c.exceptionTable.toList, False) (hlocks : meth.locks = false) (kx : ∀ (ad : Nat → Nat) (H : Heap) (locs : List Loc) (t : State), (∀ n, n < T0.1 → ad n = ad0 n) → gC cI cJ cZ cMic cSrc cSt cAI cAJ D ad A s.heap H locs T1 → s.vm.Alike t.vm → H.size ≤ t.heap.size → (∀ q, q < H.size → t.heap[q]? = H[q]?) → XC (exn e1) s t) : ∀ (T : AT) (ad : Nat → Nat) (H : Heap) (locs : List Loc) (ls : Array Slot) (s0 : Nat) (l1 : Int32), g_X11_peakAt_b8 T s0 l1 = some (e1 + 1, r1, T1) → GL T0 T → RC T → (∀ n, n < T0.1 → ad n = ad0 n) → s0 < T.1 → gC cI cJ cZ cMic cSrc cSt cAI cAJ D ad A s.heap H locs T → lv_has ls 3 [(1, .int l1)] → W p l e { frames := 7, cells := T1.1 - T0.1 + 1, slots := sg T1 - sg T0 + 6, locals := 149 } s m args below meth c H locs (T.1 - T0.1) (sg T - sg T0) (vx_MQ below Qc XC args s (T1.1 - T0.1 + 1) (sg T1 - sg T0 + 6) A) (F0 m 8 ls [.ref (ad s0)]) := by
  have hx := E.1
  have hb := E.2.1
  have hts := E.2.2.1
  have hown := E.2.2.2.1
  have hK := E.2.2.2.2
  intro T ad H locs ls s0 l1 h hgl hrc had h_s0 G hl
  have hT1 := s_X11_peakAt_b8 _ _ _ h
  have hcs := cs_okx hgl hT1
  have hcx := cs_okx1 hgl hT1
  have cp0 := cpr0 hrc
  unfold g_X11_peakAt_b8 at h
  refine lv_astore_n (lv' := [(2, .ref (ad s0)), (1, .int l1)]) hx hb dX11_peakAt_8 rfl hl (by decide) rfl (fun ls hl => ?_)
  refine lv_iload_n hx hb dX11_peakAt_9 rfl (lv_at hl 1 rfl) ?_
  refine lv_aload_n hx hb dX11_peakAt_10 rfl (lv_at hl 0 rfl) ?_
  obtain ⟨g2, h⟩ := oif_some h
  refine c_get E G s0 3 (oO_k g2).1 (cc_o4 (oO_k g2).2) rfl (fun w h => .tail _ (iA_21 h)) (by decide) (.tail _ qA_821) rfl rfl dX11_peakAt_11 ?_
  refine lv_topi (fun v3 ev3 => ?_)
  have h := elet_at ev3 h
  clear ev3
  rcases othr_t h with ⟨r0, eT4⟩ | ⟨r6, T4, eT4, h⟩
  · refine q_xsv (As := [.int l1, .int v3]) (rest := []) E G hA hX hN hml (x_X11_needIndex l hst D cI cJ cZ cMic cSrc cSt cAI cAJ ad T l1 v3 eT4) (cwS 2 hts (gaS qA_738 qA_739 qA_131 qA_740) rfl rfl rfl (by decide +kernel) ⟨Nat.le_of_ble_eq_true rfl, Nat.le_of_ble_eq_true rfl⟩) rfl hl.1 rfl (lv_room (Nat.le_of_ble_eq_true rfl)) dX11_peakAt_14 hcx (fun E9 ce q9 T9 H locs hp G hce hcv hcl => ?_)
    obtain ⟨hE, hT⟩ := hp
    subst hE
    rw [hT] at G
    exact vx_out (fun x hx => (htab x hx).elim) hlocks hce hcv hcl (fun t ht hvm => kx ad _ _ _ had G hvm (by rw [ht]; exact Nat.le_refl _) (fun q hq => by rw [ht])) G.2.2.2.2 hcx.1 hcx.2
  refine q_csv (As := [.int l1, .int v3]) (rest := []) E G hA hX hN hml (u_X11_needIndex l hst D cI cJ cZ cMic cSrc cSt cAI cAJ ad T l1 v3 eT4) (cwS 2 hts (gaS qA_738 qA_739 qA_131 qA_740) rfl rfl rfl (by decide +kernel) ⟨Nat.le_of_ble_eq_true rfl, Nat.le_of_ble_eq_true rfl⟩) rfl hl.1 rfl (lv_room (Nat.le_of_ble_eq_true rfl)) dX11_peakAt_14 hcs (fun T5 H locs hq G => ?_)
  rw [hq] at G
  clear hq
  have cp1 := cpr_sp cp0 (s_X11_needIndex eT4)
  refine lv_aload_n hx hb dX11_peakAt_17 rfl (lv_at hl 0 rfl) ?_
  refine lv_iload_n hx hb dX11_peakAt_18 rfl (lv_at hl 1 rfl) ?_
  obtain ⟨g8, h⟩ := oif_some h
  obtain ⟨r11, T9, eT9, h⟩ := obind2_some h
  refine q_cvi (As := [.int l1]) (rest := []) E G hA hX hN hml (u_X4_peakRanked l hst D cI cJ cZ cMic cSrc cSt cAI cAJ ad T4 s0 l1 eT9) (cwV 1 hts (gaV qA_823 qA_824 qA_825 qA_426 qA_441) rfl rfl rfl (by decide +kernel) ⟨Nat.le_of_ble_eq_true rfl, Nat.le_of_ble_eq_true rfl⟩) (oO_k g8).1 (cc_o4 (oO_k g8).2) rfl rfl hl.1 rfl (lv_room (Nat.le_of_ble_eq_true rfl)) dX11_peakAt_19 hcs (fun q12 T10 H locs hq G => ?_)
  obtain ⟨hq1, hq2⟩ := hq
  rw [hq2] at G
  refine lv_to hq1 ?_
  clear hq1 hq2
  have cp2 := cpr_sp cp1 (s_X4_peakRanked eT9)
  exact (Nat.succ_ne_zero _ (congrArg Prod.fst (Option.some.inj h)).symm).elim
set_option maxHeartbeats 4000000 in
set_option maxRecDepth 100000 in
theorem b_X11_peakAt (l : Launch) (hst : l.stackTraces = false) (D : va_G) (cI cJ cZ cMic cSrc cSt cAI cAJ : ClassId) (ad : Nat → Nat) (T : AT) (o : Nat) (a0 : Int32) {e1 : Nat} {r1 : Int32} {T1 : AT} (h : g_X11_peakAt T o a0 = some (e1 + 1, r1, T1)) (hrc : RC T) (h_o : o < T.1) : kAXi l yX11_peakAt (Cond.code yX11_peakAt cX11_peakAt 3 (some .int) :: wsA) 7 149 cI cJ cZ cMic cSrc cSt cAI cAJ D ad T [.ref (ad o), .int a0] e1 T1 := by
  intro sz
  refine vx_ofW (cc := cX11_peakAt) (maxL := 3) (ret := (some .int)) (by decide) rfl ?_
  intro p e s m args below meth c s₁ B hml htab hv
  obtain ⟨rfl, hsz, hP, hK, hD0, hX, hN⟩ := hv
  have hx := B.exec
  have hb := B.bytes
  have hr := B.returns
  have hts := atoms_spec (ws := (Cond.code yX11_peakAt cX11_peakAt 3 (some .int) :: wsA)) B.pre
  have hown : s.vm.findClass RX11 = some m.cls := findClass_of_methodNamed B.named
  have hlocks := B.notSynchronized
  subst hsz
  have hD := hD0.self (sz := s.heap.size)
  generalize hAe : va_A (cW ad T.1 (cc cI cJ cZ cMic cSrc cSt cAI cAJ ad T)) s.heap.size = A at hD hX ⊢
  have hA : ∀ q : Nat, s.heap.size ≤ q → A q := fun q h => by rw [← hAe]; exact Or.inr h
  have G : gC cI cJ cZ cMic cSrc cSt cAI cAJ D ad A s.heap s.heap [] T := ⟨hP, hD, va_S.rf⟩
  have E : cE p c cX11_peakAt s m ([.ref (ad o), .int a0] : List Value).toArray (Cond.code yX11_peakAt cX11_peakAt 3 (some .int) :: wsA) D RX11 (CT cI cJ cZ cMic cSrc cSt cAI cAJ) := ⟨hx, hb, hts, hown, hK⟩
  have htab : ∀ x ∈ c.exceptionTable.toList, False := fun x hx => htab x hx
  have hl := lv_entry ([.ref (ad o), .int a0]) (n := 3) (Nat.le_of_ble_eq_true rfl)
  rw [lg_entry_eq]
  generalize (lg_sl ([.ref (ad o), .int a0]) ++ List.replicate (3 - (lg_sl ([.ref (ad o), .int a0])).length) Slot.unset).toArray = ls at hl ⊢
  have hl : lv_has ls 3 [(0, .ref (ad o)), (1, .int a0)] := hl
  have hgl := GL.rf T
  have had : ∀ n, n < T.1 → ad n = ad n := fun _ _ => rfl
  have hT1 := s_X11_peakAt h
  have hcs := cs_okx hgl hT1
  have hcx := cs_okx1 hgl hT1
  refine w_cast (Nat.sub_self T.1).symm (Nat.sub_self (sg T)).symm ?_
  have cp0 := cpr0 hrc
  unfold g_X11_peakAt at h
  refine lv_aload_n hx hb dX11_peakAt_0 rfl (lv_at hl 0 rfl) ?_
  obtain ⟨g2, h⟩ := oif_some h
  rcases othr_t h with ⟨r0, eT3⟩ | ⟨r5, T3, eT3, h⟩
  · refine q_xvv (As := []) (rest := []) E G hA hX hN hml (x_X11_needCamera l hst D cI cJ cZ cMic cSrc cSt cAI cAJ ad T o eT3) (cwV 0 hts (gaV qA_728 qA_729 qA_730 qA_131 qA_731) rfl rfl rfl (by decide +kernel) ⟨Nat.le_of_ble_eq_true rfl, Nat.le_of_ble_eq_true rfl⟩) (oO_k g2).1 (cc_o11 (oO_k g2).2) rfl rfl hl.1 rfl (lv_room (Nat.le_of_ble_eq_true rfl)) dX11_peakAt_1 hcx (fun E9 ce q9 T9 H locs hp G hce hcv hcl => ?_)
    obtain ⟨hE, hT⟩ := hp
    subst hE
    rw [hT] at G
    exact vx_out (fun x hx => (htab x hx).elim) hlocks hce hcv hcl (fun t ht hvm => ⟨(T1, ad), trivial, ⟨⟨rfl, rfl, had⟩, by rw [ht]; exact G.1, va_K.moved hvm hK, G.2.1⟩, G.2.2.F ht⟩) G.2.2.2.2 hcx.1 hcx.2
  refine q_cvv (As := []) (rest := []) E G hA hX hN hml (u_X11_needCamera l hst D cI cJ cZ cMic cSrc cSt cAI cAJ ad T o eT3) (cwV 0 hts (gaV qA_728 qA_729 qA_730 qA_131 qA_731) rfl rfl rfl (by decide +kernel) ⟨Nat.le_of_ble_eq_true rfl, Nat.le_of_ble_eq_true rfl⟩) (oO_k g2).1 (cc_o11 (oO_k g2).2) rfl rfl hl.1 rfl (lv_room (Nat.le_of_ble_eq_true rfl)) dX11_peakAt_1 hcs (fun T4 H locs hq G => ?_)
  rw [hq] at G
  clear hq
  have cp1 := cpr_sp cp0 (s_X11_needCamera eT3)
  refine lv_aload_n hx hb dX11_peakAt_4 rfl (lv_at hl 0 rfl) ?_
  obtain ⟨g7, h⟩ := oif_some h
  obtain ⟨r9, T8, eT8, h⟩ := obind2_some h
  obtain ⟨g10, h⟩ := oif_some h
  have hg2 := s_X11_powersNow eT8
  have hrc2 := hg2.2.2 cp1.2.2
  have hT2 := s_X11_peakAt_b8 _ _ _ h
  refine q_avr (As := []) (rest := []) E G hA hX hN hml (a_X11_powersNow l hst D cI cJ cZ cMic cSrc cSt cAI cAJ ad T3 o eT8 cp1.2.2 (by rw [cp1.1]; exact h_o)) (cwV 0 hts (gaV qA_799 qA_800 qA_801 qA_131 qA_802) rfl rfl rfl (by decide +kernel) ⟨Nat.le_of_ble_eq_true rfl, Nat.le_of_ble_eq_true rfl⟩) (oO_k g7).1 (cc_o11 (oO_k g7).2) rfl rfl hl.1 rfl (lv_room (Nat.le_of_ble_eq_true rfl)) dX11_peakAt_5 (cs_avx hgl cp1 hg2 hT2) (fun ad2 H locs hga G => ?_)
  refine w_cast (c2 := T8.1 - T.1) (s2 := sg T8 - sg T) (cs_f1 hgl cp1 hg2) (cs_f2 hgl cp1 hg2) ?_
  have h_new : r9 < T8.1 := Nat.le_of_ble_eq_true g10
  have hl := lv_sub hl [1] rfl
  exact b_X11_peakAt_b8 E hA hX hN hml hst htab hlocks (fun ad H locs t had G hvm h1 h2 => ⟨(T1, ad), trivial, ⟨⟨rfl, rfl, had⟩, (c_thrown G hK hvm h1 h2).1⟩, (c_thrown G hK hvm h1 h2).2⟩) _ _ _ _ _ _ _ h (GL.tr (gl_cpr hgl cp1) hg2) hrc2 (fun n hn => (hga n (by rw [cp1.1]; exact Nat.lt_of_lt_of_le hn hgl.1)).trans (had n hn)) h_new G hl
def g_X11_isPeak_b13  (T : AT) (s0 : Nat) (l0 : Nat) (l1 : Int32) : Option (Nat × Int32 × AT) := oif (oO T l0 11 = true) <| obind (T.2.2.2.2 l0 14) fun n3 => oif (oO T n3 6 = true) <| obind (T.2.2.2.2 n3 6) fun n5 => oif (oO T s0 4 = true) <| obind2 (g_X4_standsOut T s0 l1 n5) fun r9 T7 => oif (r9 = 0 ∨ r9 = 1) <| some (0, r9, T7)
def g_X11_isPeak (T : AT) (o : Nat) (a0 : Int32) : Option (Nat × Int32 × AT) := oif (oO T o 11 = true) <| othr (g_X11_needCamera T o) 0 fun r5 T3 => oif (oO T3 o 11 = true) <| othr (g_X11_needCell T3 o a0) 0 fun r10 T8 => oif (oO T8 o 11 = true) <| obind2 (g_X11_powersNow T8 o) fun r14 T13 => oif (Nat.blt r14 T13.1 = true) <| g_X11_isPeak_b13 T13 r14 o a0
set_option maxHeartbeats 4000000 in
set_option maxRecDepth 100000 in
theorem s_X11_isPeak_b13 {e1 : Nat} {r1 : Int32} {T1 : AT} : ∀ (T : AT) (s0 : Nat) (l0 : Nat) (l1 : Int32), g_X11_isPeak_b13 T s0 l0 l1 = some (e1, r1, T1) → GL T T1 := by
  intro T s0 l0 l1 h
  have p0 := GL.rf T
  unfold g_X11_isPeak_b13 at h
  obtain ⟨g2, h⟩ := oif_some h
  obtain ⟨n3, en3, h⟩ := obind_some h
  obtain ⟨g4, h⟩ := oif_some h
  obtain ⟨n5, en5, h⟩ := obind_some h
  obtain ⟨g6, h⟩ := oif_some h
  obtain ⟨r8, T7, eT7, h⟩ := obind2_some h
  have p1 : GL T T7 := GL.tr p0 (gl_sp (s_X4_standsOut eT7))
  obtain ⟨gz, h⟩ := oif_some h
  rw [← (osome3 h).2.2]
  exact p1
set_option maxHeartbeats 4000000 in
set_option maxRecDepth 100000 in
theorem s_X11_isPeak {T : AT} {o : Nat} {a0 : Int32} {e1 : Nat} {r1 : Int32} {T1 : AT} (h : g_X11_isPeak T o a0 = some (e1, r1, T1)) : GL T T1 := by
  have p0 := GL.rf T
  unfold g_X11_isPeak at h
  obtain ⟨g2, h⟩ := oif_some h
  rcases othr_s h with ⟨k9, r9, e9, -⟩ | ⟨r4, T3, eT3, h⟩
  · exact GL.tr p0 (gl_sp (s_X11_needCamera e9))
  have p1 : GL T T3 := GL.tr p0 (gl_sp (s_X11_needCamera eT3))
  obtain ⟨g5, h⟩ := oif_some h
  rcases othr_s h with ⟨k9, r9, e9, -⟩ | ⟨r7, T6, eT6, h⟩
  · exact GL.tr p1 (gl_sp (s_X11_needCell e9))
  have p2 : GL T T6 := GL.tr p1 (gl_sp (s_X11_needCell eT6))
  obtain ⟨g8, h⟩ := oif_some h
  obtain ⟨r10, T9, eT9, h⟩ := obind2_some h
  obtain ⟨g11, h⟩ := oif_some h
  have p3 : GL T T9 := GL.tr p2 (s_X11_powersNow eT9)
  exact GL.tr p3 (s_X11_isPeak_b13 _ _ _ _ h)
set_option maxHeartbeats 4000000 in
set_option maxRecDepth 100000 in
theorem a_X11_isPeak_b13 {p : Program} {l : Launch} {e : Env} {s : State} {m : MethodId} {args : Array Value} {below : List Frame} {meth : Method} {c : Code} {Q : State → Prop} {D : va_G} {A : Nat → Prop} {cI cJ cZ cMic cSrc cSt cAI cAJ : ClassId} {ad0 : Nat → Nat} {T0 : AT} {r1 : Int32} {T1 : AT} (E : cE p c cX11_isPeak s m args (Cond.code yX11_isPeak cX11_isPeak 2 (some .boolean) :: wsA) D RX11 (CT cI cJ cZ cMic cSrc cSt cAI cAJ)) (hA : ∀ q : Nat, s.heap.size ≤ q → A q) (hX : xT A s) (hN : nX s) (hml : c.maxLocals = 2) (hst : l.stackTraces = false) (kr24 : ∀ (ad : Nat → Nat) (H : Heap) (locs : List Loc) (ls : Array Slot), (r1 = 0 ∨ r1 = 1) → (∀ n, n < T0.1 → ad n = ad0 n) → gC cI cJ cZ cMic cSrc cSt cAI cAJ D ad A s.heap H locs T1 → W p l e { frames := 8, cells := T1.1 - T0.1, slots := sg T1 - sg T0, locals := 149 } s m args below meth c H locs (T1.1 - T0.1) (sg T1 - sg T0) Q (F0 m 24 ls [.int r1])) : ∀ (T : AT) (ad : Nat → Nat) (H : Heap) (locs : List Loc) (ls : Array Slot) (s0 : Nat) (l0 : Nat) (l1 : Int32), g_X11_isPeak_b13 T s0 l0 l1 = some (0, r1, T1) → GL T0 T → RC T → (∀ n, n < T0.1 → ad n = ad0 n) → s0 < T.1 → l0 < T.1 → gC cI cJ cZ cMic cSrc cSt cAI cAJ D ad A s.heap H locs T → lv_has ls 2 [(0, .ref (ad l0)), (1, .int l1)] → W p l e { frames := 8, cells := T1.1 - T0.1, slots := sg T1 - sg T0, locals := 149 } s m args below meth c H locs (T.1 - T0.1) (sg T - sg T0) Q (F0 m 13 ls [.ref (ad s0)]) := by
  have hx := E.1
  have hb := E.2.1
  have hts := E.2.2.1
  have hown := E.2.2.2.1
  have hK := E.2.2.2.2
  intro T ad H locs ls s0 l0 l1 h hgl hrc had h_s0 h_l0 G hl
  have hT1 := s_X11_isPeak_b13 _ _ _ _ h
  have hcs := cs_ok hgl hT1
  have cp0 := cpr0 hrc
  unfold g_X11_isPeak_b13 at h
  refine lv_iload_n hx hb dX11_isPeak_13 rfl (lv_at hl 1 rfl) ?_
  refine lv_aload_n hx hb dX11_isPeak_14 rfl (lv_at hl 0 rfl) ?_
  obtain ⟨g2, h⟩ := oif_some h
  obtain ⟨n3, en3, h⟩ := obind_some h
  have h_n3 : n3 < T.1 := by rw [← cp0.1]; exact cp0.2.2 _ _ _ en3
  refine c_get E G l0 14 (v := .ref (ad n3)) (oO_k g2).1 (cc_o11 (oO_k g2).2) rfl (fun w h => .tail _ (iA_23 h)) (by decide) (.tail _ qA_675) rfl (by rw [en3]; rfl) dX11_isPeak_15 ?_
  clear en3
  obtain ⟨g4, h⟩ := oif_some h
  obtain ⟨n5, en5, h⟩ := obind_some h
  have h_n5 : n5 < T.1 := by rw [← cp0.1]; exact cp0.2.2 _ _ _ en5
  refine c_get E G n3 6 (v := .ref (ad n5)) (oO_k g4).1 (cc_o6 (oO_k g4).2) rfl (fun w h => .tail _ (iA_14 h)) (by decide) (.tail _ qA_695) rfl (by rw [en5]; rfl) dX11_isPeak_18 ?_
  clear en5
  obtain ⟨g6, h⟩ := oif_some h
  obtain ⟨r9, T7, eT7, h⟩ := obind2_some h
  refine q_cvi (As := [.int l1, .ref (ad n5)]) (rest := []) E G hA hX hN hml (u_X4_standsOut l hst D cI cJ cZ cMic cSrc cSt cAI cAJ ad T s0 l1 n5 eT7) (cwV 2 hts (gaV qA_827 qA_424 qA_425 qA_426 qA_427) rfl rfl rfl (by decide +kernel) ⟨Nat.le_of_ble_eq_true rfl, Nat.le_of_ble_eq_true rfl⟩) (oO_k g6).1 (cc_o4 (oO_k g6).2) rfl rfl hl.1 rfl (lv_room (Nat.le_of_ble_eq_true rfl)) dX11_isPeak_21 hcs (fun q10 T8 H locs hq G => ?_)
  obtain ⟨hq1, hq2⟩ := hq
  rw [hq2] at G
  refine lv_to hq1 ?_
  clear hq1 hq2
  have cp1 := cpr_sp cp0 (s_X4_standsOut eT7)
  obtain ⟨gz, h⟩ := oif_some h
  rw [(osome3 h).2.2] at G
  refine w_cast (c2 := T1.1 - T0.1) (s2 := sg T1 - sg T0) (by rw [← (osome3 h).2.2, cp1.1] <;> rfl) (by rw [← (osome3 h).2.2, sg_cpr cp1] <;> rfl) ?_
  have gr : r1 = 0 ∨ r1 = 1 := by rw [← (osome3 h).2.1]; exact gz
  refine lv_to ((osome3 h).2.1) ?_
  exact kr24 ad _ _ _ gr had G
set_option maxHeartbeats 4000000 in
set_option maxRecDepth 100000 in
theorem a_X11_isPeak (l : Launch) (hst : l.stackTraces = false) (D : va_G) (cI cJ cZ cMic cSrc cSt cAI cAJ : ClassId) (ad : Nat → Nat) (T : AT) (o : Nat) (a0 : Int32) {r1 : Int32} {T1 : AT} (h : g_X11_isPeak T o a0 = some (0, r1, T1)) (hrc : RC T) (h_o : o < T.1) : kAi l yX11_isPeak (Cond.code yX11_isPeak cX11_isPeak 2 (some .boolean) :: wsA) 8 149 cI cJ cZ cMic cSrc cSt cAI cAJ D ad T [.ref (ad o), .int a0] r1 T1 := by
  intro sz
  refine Met.ofW (cc := cX11_isPeak) (maxL := 2) (ret := (some .boolean)) (by decide) rfl ?_
  intro p e s m args below meth c s₁ B hml hv
  obtain ⟨rfl, hsz, hP, hK, hD0, hX, hN⟩ := hv
  have hx := B.exec
  have hb := B.bytes
  have hr := B.returns
  have hts := atoms_spec (ws := (Cond.code yX11_isPeak cX11_isPeak 2 (some .boolean) :: wsA)) B.pre
  have hown : s.vm.findClass RX11 = some m.cls := findClass_of_methodNamed B.named
  have hlocks := B.notSynchronized
  subst hsz
  have hD := hD0.self (sz := s.heap.size)
  generalize hAe : va_A (cW ad T.1 (cc cI cJ cZ cMic cSrc cSt cAI cAJ ad T)) s.heap.size = A at hD hX ⊢
  have hA : ∀ q : Nat, s.heap.size ≤ q → A q := fun q h => by rw [← hAe]; exact Or.inr h
  have G : gC cI cJ cZ cMic cSrc cSt cAI cAJ D ad A s.heap s.heap [] T := ⟨hP, hD, va_S.rf⟩
  have E : cE p c cX11_isPeak s m ([.ref (ad o), .int a0] : List Value).toArray (Cond.code yX11_isPeak cX11_isPeak 2 (some .boolean) :: wsA) D RX11 (CT cI cJ cZ cMic cSrc cSt cAI cAJ) := ⟨hx, hb, hts, hown, hK⟩
  have hl := lv_entry ([.ref (ad o), .int a0]) (n := 2) (Nat.le_of_ble_eq_true rfl)
  rw [lg_entry_eq]
  generalize (lg_sl ([.ref (ad o), .int a0]) ++ List.replicate (2 - (lg_sl ([.ref (ad o), .int a0])).length) Slot.unset).toArray = ls at hl ⊢
  have hl : lv_has ls 2 [(0, .ref (ad o)), (1, .int a0)] := hl
  have hgl := GL.rf T
  have had : ∀ n, n < T.1 → ad n = ad n := fun _ _ => rfl
  have hT1 := s_X11_isPeak h
  have hcs := cs_ok hgl hT1
  refine w_cast (Nat.sub_self T.1).symm (Nat.sub_self (sg T)).symm ?_
  have cp0 := cpr0 hrc
  unfold g_X11_isPeak at h
  refine lv_aload_n hx hb dX11_isPeak_0 rfl (lv_at hl 0 rfl) ?_
  obtain ⟨g2, h⟩ := oif_some h
  obtain ⟨r5, T3, eT3, h⟩ := othr_n h
  refine q_cvv (As := []) (rest := []) E G hA hX hN hml (u_X11_needCamera l hst D cI cJ cZ cMic cSrc cSt cAI cAJ ad T o eT3) (cwV 0 hts (gaV qA_728 qA_729 qA_730 qA_131 qA_731) rfl rfl rfl (by decide +kernel) ⟨Nat.le_of_ble_eq_true rfl, Nat.le_of_ble_eq_true rfl⟩) (oO_k g2).1 (cc_o11 (oO_k g2).2) rfl rfl hl.1 rfl (lv_room (Nat.le_of_ble_eq_true rfl)) dX11_isPeak_1 hcs (fun T4 H locs hq G => ?_)
  rw [hq] at G
  clear hq
  have cp1 := cpr_sp cp0 (s_X11_needCamera eT3)
  refine lv_aload_n hx hb dX11_isPeak_4 rfl (lv_at hl 0 rfl) ?_
  refine lv_iload_n hx hb dX11_isPeak_5 rfl (lv_at hl 1 rfl) ?_
  obtain ⟨g7, h⟩ := oif_some h
  obtain ⟨r10, T8, eT8, h⟩ := othr_n h
  refine q_cvv (As := [.int a0]) (rest := []) E G hA hX hN hml (u_X11_needCell l hst D cI cJ cZ cMic cSrc cSt cAI cAJ ad T3 o a0 eT8) (cwV 1 hts (gaV qA_752 qA_753 qA_754 qA_131 qA_755) rfl rfl rfl (by decide +kernel) ⟨Nat.le_of_ble_eq_true rfl, Nat.le_of_ble_eq_true rfl⟩) (oO_k g7).1 (cc_o11 (oO_k g7).2) rfl rfl hl.1 rfl (lv_room (Nat.le_of_ble_eq_true rfl)) dX11_isPeak_6 hcs (fun T9 H locs hq G => ?_)
  rw [hq] at G
  clear hq
  have cp2 := cpr_sp cp1 (s_X11_needCell eT8)
  refine lv_aload_n hx hb dX11_isPeak_9 rfl (lv_at hl 0 rfl) ?_
  obtain ⟨g12, h⟩ := oif_some h
  obtain ⟨r14, T13, eT13, h⟩ := obind2_some h
  obtain ⟨g15, h⟩ := oif_some h
  have hg2 := s_X11_powersNow eT13
  have hrc2 := hg2.2.2 cp2.2.2
  have hT2 := s_X11_isPeak_b13 _ _ _ _ h
  refine q_avr (As := []) (rest := []) E G hA hX hN hml (a_X11_powersNow l hst D cI cJ cZ cMic cSrc cSt cAI cAJ ad T8 o eT13 cp2.2.2 (by rw [cp2.1]; exact h_o)) (cwV 0 hts (gaV qA_799 qA_800 qA_801 qA_131 qA_802) rfl rfl rfl (by decide +kernel) ⟨Nat.le_of_ble_eq_true rfl, Nat.le_of_ble_eq_true rfl⟩) (oO_k g12).1 (cc_o11 (oO_k g12).2) rfl rfl hl.1 rfl (lv_room (Nat.le_of_ble_eq_true rfl)) dX11_isPeak_10 (cs_av hgl cp2 hg2 hT2) (fun ad2 H locs hga G => ?_)
  refine w_cast (c2 := T13.1 - T.1) (s2 := sg T13 - sg T) (cs_f1 hgl cp2 hg2) (cs_f2 hgl cp2 hg2) ?_
  have h_new : r14 < T13.1 := Nat.le_of_ble_eq_true g15
  have hl := lv_sub hl [0, 1] rfl
  rw [show ad o = ad2 o from (hga o (by rw [cp2.1]; exact h_o)).symm] at hl
  exact a_X11_isPeak_b13 E hA hX hN hml hst (fun ad H locs ls gz had G => W.zret (v := r1) hx hb hr (nar01 gz) (fun t ht hW => ⟨⟨r1, (T1, ad), rfl, ⟨rfl, rfl, had⟩, ⟨by rw [ht]; exact G.1, va_K.moved hW.alike hK, G.2.1⟩⟩, G.2.2.F ht⟩) G.2.2.2.2 dX11_isPeak_24) _ _ _ _ _ _ _ _ h (GL.tr (gl_cpr hgl cp2) hg2) hrc2 (fun n hn => (hga n (by rw [cp2.1]; exact Nat.lt_of_lt_of_le hn hgl.1)).trans (had n hn)) h_new (Nat.lt_of_lt_of_le (by rw [cp2.1]; exact h_o) hg2.1) G hl
set_option maxHeartbeats 4000000 in
set_option maxRecDepth 100000 in
theorem b_X11_isPeak_b13 {p : Program} {l : Launch} {e : Env} {s : State} {m : MethodId} {args : Array Value} {below : List Frame} {meth : Method} {c : Code} {Qc : Array Value → State → Outcome → State → Prop} {XC : String → State → State → Prop} {D : va_G} {A : Nat → Prop} {cI cJ cZ cMic cSrc cSt cAI cAJ : ClassId} {ad0 : Nat → Nat} {T0 : AT} {e1 : Nat} {r1 : Int32} {T1 : AT} (E : cE p c cX11_isPeak s m args (Cond.code yX11_isPeak cX11_isPeak 2 (some .boolean) :: wsA) D RX11 (CT cI cJ cZ cMic cSrc cSt cAI cAJ)) (hA : ∀ q : Nat, s.heap.size ≤ q → A q) (hX : xT A s) (hN : nX s) (hml : c.maxLocals = 2) (hst : l.stackTraces = false) (htab : ∀ x ∈ c.exceptionTable.toList, False) (hlocks : meth.locks = false) (kx : ∀ (ad : Nat → Nat) (H : Heap) (locs : List Loc) (t : State), (∀ n, n < T0.1 → ad n = ad0 n) → gC cI cJ cZ cMic cSrc cSt cAI cAJ D ad A s.heap H locs T1 → s.vm.Alike t.vm → H.size ≤ t.heap.size → (∀ q, q < H.size → t.heap[q]? = H[q]?) → XC (exn e1) s t) : ∀ (T : AT) (ad : Nat → Nat) (H : Heap) (locs : List Loc) (ls : Array Slot) (s0 : Nat) (l0 : Nat) (l1 : Int32), g_X11_isPeak_b13 T s0 l0 l1 = some (e1 + 1, r1, T1) → GL T0 T → RC T → (∀ n, n < T0.1 → ad n = ad0 n) → s0 < T.1 → l0 < T.1 → gC cI cJ cZ cMic cSrc cSt cAI cAJ D ad A s.heap H locs T → lv_has ls 2 [(0, .ref (ad l0)), (1, .int l1)] → W p l e { frames := 8, cells := T1.1 - T0.1 + 1, slots := sg T1 - sg T0 + 6, locals := 149 } s m args below meth c H locs (T.1 - T0.1) (sg T - sg T0) (vx_MQ below Qc XC args s (T1.1 - T0.1 + 1) (sg T1 - sg T0 + 6) A) (F0 m 13 ls [.ref (ad s0)]) := by
  have hx := E.1
  have hb := E.2.1
  have hts := E.2.2.1
  have hown := E.2.2.2.1
  have hK := E.2.2.2.2
  intro T ad H locs ls s0 l0 l1 h hgl hrc had h_s0 h_l0 G hl
  have hT1 := s_X11_isPeak_b13 _ _ _ _ h
  have hcs := cs_okx hgl hT1
  have hcx := cs_okx1 hgl hT1
  have cp0 := cpr0 hrc
  unfold g_X11_isPeak_b13 at h
  refine lv_iload_n hx hb dX11_isPeak_13 rfl (lv_at hl 1 rfl) ?_
  refine lv_aload_n hx hb dX11_isPeak_14 rfl (lv_at hl 0 rfl) ?_
  obtain ⟨g2, h⟩ := oif_some h
  obtain ⟨n3, en3, h⟩ := obind_some h
  have h_n3 : n3 < T.1 := by rw [← cp0.1]; exact cp0.2.2 _ _ _ en3
  refine c_get E G l0 14 (v := .ref (ad n3)) (oO_k g2).1 (cc_o11 (oO_k g2).2) rfl (fun w h => .tail _ (iA_23 h)) (by decide) (.tail _ qA_675) rfl (by rw [en3]; rfl) dX11_isPeak_15 ?_
  clear en3
  obtain ⟨g4, h⟩ := oif_some h
  obtain ⟨n5, en5, h⟩ := obind_some h
  have h_n5 : n5 < T.1 := by rw [← cp0.1]; exact cp0.2.2 _ _ _ en5
  refine c_get E G n3 6 (v := .ref (ad n5)) (oO_k g4).1 (cc_o6 (oO_k g4).2) rfl (fun w h => .tail _ (iA_14 h)) (by decide) (.tail _ qA_695) rfl (by rw [en5]; rfl) dX11_isPeak_18 ?_
  clear en5
  obtain ⟨g6, h⟩ := oif_some h
  obtain ⟨r9, T7, eT7, h⟩ := obind2_some h
  refine q_cvi (As := [.int l1, .ref (ad n5)]) (rest := []) E G hA hX hN hml (u_X4_standsOut l hst D cI cJ cZ cMic cSrc cSt cAI cAJ ad T s0 l1 n5 eT7) (cwV 2 hts (gaV qA_827 qA_424 qA_425 qA_426 qA_427) rfl rfl rfl (by decide +kernel) ⟨Nat.le_of_ble_eq_true rfl, Nat.le_of_ble_eq_true rfl⟩) (oO_k g6).1 (cc_o4 (oO_k g6).2) rfl rfl hl.1 rfl (lv_room (Nat.le_of_ble_eq_true rfl)) dX11_isPeak_21 hcs (fun q10 T8 H locs hq G => ?_)
  obtain ⟨hq1, hq2⟩ := hq
  rw [hq2] at G
  refine lv_to hq1 ?_
  clear hq1 hq2
  have cp1 := cpr_sp cp0 (s_X4_standsOut eT7)
  obtain ⟨gz, h⟩ := oif_some h
  exact (Nat.succ_ne_zero _ (congrArg Prod.fst (Option.some.inj h)).symm).elim
set_option maxHeartbeats 4000000 in
set_option maxRecDepth 100000 in
theorem b_X11_isPeak (l : Launch) (hst : l.stackTraces = false) (D : va_G) (cI cJ cZ cMic cSrc cSt cAI cAJ : ClassId) (ad : Nat → Nat) (T : AT) (o : Nat) (a0 : Int32) {e1 : Nat} {r1 : Int32} {T1 : AT} (h : g_X11_isPeak T o a0 = some (e1 + 1, r1, T1)) (hrc : RC T) (h_o : o < T.1) : kAXi l yX11_isPeak (Cond.code yX11_isPeak cX11_isPeak 2 (some .boolean) :: wsA) 8 149 cI cJ cZ cMic cSrc cSt cAI cAJ D ad T [.ref (ad o), .int a0] e1 T1 := by
  intro sz
  refine vx_ofW (cc := cX11_isPeak) (maxL := 2) (ret := (some .boolean)) (by decide) rfl ?_
  intro p e s m args below meth c s₁ B hml htab hv
  obtain ⟨rfl, hsz, hP, hK, hD0, hX, hN⟩ := hv
  have hx := B.exec
  have hb := B.bytes
  have hr := B.returns
  have hts := atoms_spec (ws := (Cond.code yX11_isPeak cX11_isPeak 2 (some .boolean) :: wsA)) B.pre
  have hown : s.vm.findClass RX11 = some m.cls := findClass_of_methodNamed B.named
  have hlocks := B.notSynchronized
  subst hsz
  have hD := hD0.self (sz := s.heap.size)
  generalize hAe : va_A (cW ad T.1 (cc cI cJ cZ cMic cSrc cSt cAI cAJ ad T)) s.heap.size = A at hD hX ⊢
  have hA : ∀ q : Nat, s.heap.size ≤ q → A q := fun q h => by rw [← hAe]; exact Or.inr h
  have G : gC cI cJ cZ cMic cSrc cSt cAI cAJ D ad A s.heap s.heap [] T := ⟨hP, hD, va_S.rf⟩
  have E : cE p c cX11_isPeak s m ([.ref (ad o), .int a0] : List Value).toArray (Cond.code yX11_isPeak cX11_isPeak 2 (some .boolean) :: wsA) D RX11 (CT cI cJ cZ cMic cSrc cSt cAI cAJ) := ⟨hx, hb, hts, hown, hK⟩
  have htab : ∀ x ∈ c.exceptionTable.toList, False := fun x hx => htab x hx
  have hl := lv_entry ([.ref (ad o), .int a0]) (n := 2) (Nat.le_of_ble_eq_true rfl)
  rw [lg_entry_eq]
  generalize (lg_sl ([.ref (ad o), .int a0]) ++ List.replicate (2 - (lg_sl ([.ref (ad o), .int a0])).length) Slot.unset).toArray = ls at hl ⊢
  have hl : lv_has ls 2 [(0, .ref (ad o)), (1, .int a0)] := hl
  have hgl := GL.rf T
  have had : ∀ n, n < T.1 → ad n = ad n := fun _ _ => rfl
  have hT1 := s_X11_isPeak h
  have hcs := cs_okx hgl hT1
  have hcx := cs_okx1 hgl hT1
  refine w_cast (Nat.sub_self T.1).symm (Nat.sub_self (sg T)).symm ?_
  have cp0 := cpr0 hrc
  unfold g_X11_isPeak at h
  refine lv_aload_n hx hb dX11_isPeak_0 rfl (lv_at hl 0 rfl) ?_
  obtain ⟨g2, h⟩ := oif_some h
  rcases othr_t h with ⟨r0, eT3⟩ | ⟨r5, T3, eT3, h⟩
  · refine q_xvv (As := []) (rest := []) E G hA hX hN hml (x_X11_needCamera l hst D cI cJ cZ cMic cSrc cSt cAI cAJ ad T o eT3) (cwV 0 hts (gaV qA_728 qA_729 qA_730 qA_131 qA_731) rfl rfl rfl (by decide +kernel) ⟨Nat.le_of_ble_eq_true rfl, Nat.le_of_ble_eq_true rfl⟩) (oO_k g2).1 (cc_o11 (oO_k g2).2) rfl rfl hl.1 rfl (lv_room (Nat.le_of_ble_eq_true rfl)) dX11_isPeak_1 hcx (fun E9 ce q9 T9 H locs hp G hce hcv hcl => ?_)
    obtain ⟨hE, hT⟩ := hp
    subst hE
    rw [hT] at G
    exact vx_out (fun x hx => (htab x hx).elim) hlocks hce hcv hcl (fun t ht hvm => ⟨(T1, ad), trivial, ⟨⟨rfl, rfl, had⟩, by rw [ht]; exact G.1, va_K.moved hvm hK, G.2.1⟩, G.2.2.F ht⟩) G.2.2.2.2 hcx.1 hcx.2
  refine q_cvv (As := []) (rest := []) E G hA hX hN hml (u_X11_needCamera l hst D cI cJ cZ cMic cSrc cSt cAI cAJ ad T o eT3) (cwV 0 hts (gaV qA_728 qA_729 qA_730 qA_131 qA_731) rfl rfl rfl (by decide +kernel) ⟨Nat.le_of_ble_eq_true rfl, Nat.le_of_ble_eq_true rfl⟩) (oO_k g2).1 (cc_o11 (oO_k g2).2) rfl rfl hl.1 rfl (lv_room (Nat.le_of_ble_eq_true rfl)) dX11_isPeak_1 hcs (fun T4 H locs hq G => ?_)
  rw [hq] at G
  clear hq
  have cp1 := cpr_sp cp0 (s_X11_needCamera eT3)
  refine lv_aload_n hx hb dX11_isPeak_4 rfl (lv_at hl 0 rfl) ?_
  refine lv_iload_n hx hb dX11_isPeak_5 rfl (lv_at hl 1 rfl) ?_
  obtain ⟨g7, h⟩ := oif_some h
  rcases othr_t h with ⟨r0, eT8⟩ | ⟨r10, T8, eT8, h⟩
  · refine q_xvv (As := [.int a0]) (rest := []) E G hA hX hN hml (x_X11_needCell l hst D cI cJ cZ cMic cSrc cSt cAI cAJ ad T3 o a0 eT8) (cwV 1 hts (gaV qA_752 qA_753 qA_754 qA_131 qA_755) rfl rfl rfl (by decide +kernel) ⟨Nat.le_of_ble_eq_true rfl, Nat.le_of_ble_eq_true rfl⟩) (oO_k g7).1 (cc_o11 (oO_k g7).2) rfl rfl hl.1 rfl (lv_room (Nat.le_of_ble_eq_true rfl)) dX11_isPeak_6 hcx (fun E9 ce q9 T9 H locs hp G hce hcv hcl => ?_)
    obtain ⟨hE, hT⟩ := hp
    subst hE
    rw [hT] at G
    exact vx_out (fun x hx => (htab x hx).elim) hlocks hce hcv hcl (fun t ht hvm => ⟨(T1, ad), trivial, ⟨⟨rfl, rfl, had⟩, by rw [ht]; exact G.1, va_K.moved hvm hK, G.2.1⟩, G.2.2.F ht⟩) G.2.2.2.2 hcx.1 hcx.2
  refine q_cvv (As := [.int a0]) (rest := []) E G hA hX hN hml (u_X11_needCell l hst D cI cJ cZ cMic cSrc cSt cAI cAJ ad T3 o a0 eT8) (cwV 1 hts (gaV qA_752 qA_753 qA_754 qA_131 qA_755) rfl rfl rfl (by decide +kernel) ⟨Nat.le_of_ble_eq_true rfl, Nat.le_of_ble_eq_true rfl⟩) (oO_k g7).1 (cc_o11 (oO_k g7).2) rfl rfl hl.1 rfl (lv_room (Nat.le_of_ble_eq_true rfl)) dX11_isPeak_6 hcs (fun T9 H locs hq G => ?_)
  rw [hq] at G
  clear hq
  have cp2 := cpr_sp cp1 (s_X11_needCell eT8)
  refine lv_aload_n hx hb dX11_isPeak_9 rfl (lv_at hl 0 rfl) ?_
  obtain ⟨g12, h⟩ := oif_some h
  obtain ⟨r14, T13, eT13, h⟩ := obind2_some h
  obtain ⟨g15, h⟩ := oif_some h
  have hg2 := s_X11_powersNow eT13
  have hrc2 := hg2.2.2 cp2.2.2
  have hT2 := s_X11_isPeak_b13 _ _ _ _ h
  refine q_avr (As := []) (rest := []) E G hA hX hN hml (a_X11_powersNow l hst D cI cJ cZ cMic cSrc cSt cAI cAJ ad T8 o eT13 cp2.2.2 (by rw [cp2.1]; exact h_o)) (cwV 0 hts (gaV qA_799 qA_800 qA_801 qA_131 qA_802) rfl rfl rfl (by decide +kernel) ⟨Nat.le_of_ble_eq_true rfl, Nat.le_of_ble_eq_true rfl⟩) (oO_k g12).1 (cc_o11 (oO_k g12).2) rfl rfl hl.1 rfl (lv_room (Nat.le_of_ble_eq_true rfl)) dX11_isPeak_10 (cs_avx hgl cp2 hg2 hT2) (fun ad2 H locs hga G => ?_)
  refine w_cast (c2 := T13.1 - T.1) (s2 := sg T13 - sg T) (cs_f1 hgl cp2 hg2) (cs_f2 hgl cp2 hg2) ?_
  have h_new : r14 < T13.1 := Nat.le_of_ble_eq_true g15
  have hl := lv_sub hl [0, 1] rfl
  rw [show ad o = ad2 o from (hga o (by rw [cp2.1]; exact h_o)).symm] at hl
  exact b_X11_isPeak_b13 E hA hX hN hml hst htab hlocks (fun ad H locs t had G hvm h1 h2 => ⟨(T1, ad), trivial, ⟨⟨rfl, rfl, had⟩, (c_thrown G hK hvm h1 h2).1⟩, (c_thrown G hK hvm h1 h2).2⟩) _ _ _ _ _ _ _ _ h (GL.tr (gl_cpr hgl cp2) hg2) hrc2 (fun n hn => (hga n (by rw [cp2.1]; exact Nat.lt_of_lt_of_le hn hgl.1)).trans (had n hn)) h_new (Nat.lt_of_lt_of_le (by rw [cp2.1]; exact h_o) hg2.1) G hl
end
