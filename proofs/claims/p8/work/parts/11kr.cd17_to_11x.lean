section
/-! 11kr.cd17.lean.txt -/
def g_X11_keepForUndo_b48  (T : AT) (l0 : Nat) : Option (AT) := oif (oO T l0 11 = true) <| obind (T.2.2.2.2 l0 4) fun n3 => oif (oO T n3 4 = true) <| elet (uI T n3 0 0) fun T5 => some T5
def g_X11_keepForUndo_b29  (T : AT) (l0 : Nat) : Option (AT) := oif (oO T l0 11 = true) <| elet (T.2.2.1 l0 16) fun v3 => if 6 ≤ v3 then (g_X11_keepForUndo_b48 T l0) else (oif (oO T l0 11 = true) <| elet (T.2.2.1 l0 16) fun v6 => elet (v6 + 1) fun v7 => oif (oO T l0 11 = true) <| elet (uI T l0 16 v7) fun T9 => g_X11_keepForUndo_b48 T9 l0)
def g_X11_keepForUndo (T : AT) (o : Nat) : Option (AT) := oif (oO T o 11 = true) <| elet (T.2.2.1 o 17) fun v3 => elet (v3 + 1) fun v4 => elet (v4 - v4 / 6 * 6) fun v5 => oif (oO T o 11 = true) <| elet (uI T o 17 v5) fun T7 => oif (oO T7 o 11 = true) <| obind (T7.2.2.2.2 o 8) fun n9 => oif (oO T7 o 11 = true) <| elet (T7.2.2.1 o 17) fun v11 => oif (aA T7 n9 105 = true) <| oif (inb v11 (T7.2.1 n9).2 = true) <| obind (T7.2.2.2.2 n9 v11.toNatClampNeg) fun n14 => oif (oO T7 o 11 = true) <| obind (T7.2.2.2.2 o 6) fun n16 => oif (oO T7 n14 8 = true) <| obind (g_X8_copyFrom T7 n14 n16) fun T18 => g_X11_keepForUndo_b29 T18 o
set_option maxHeartbeats 4000000 in
set_option maxRecDepth 100000 in
theorem s_X11_keepForUndo_b48 {T1 : AT} : ∀ (T : AT) (l0 : Nat), g_X11_keepForUndo_b48 T l0 = some T1 → GL T T1 := by
  intro T l0 h
  have p0 := GL.rf T
  unfold g_X11_keepForUndo_b48 at h
  obtain ⟨g2, h⟩ := oif_some h
  obtain ⟨n3, en3, h⟩ := obind_some h
  obtain ⟨g4, h⟩ := oif_some h
  obtain ⟨T5, eT5, h⟩ := elet_some h
  have p1 : GL T T5 := GL.tr p0 (by rw [eT5]; exact gl_sp sp_uI)
  rw [← osome1 h]
  exact p1
set_option maxHeartbeats 4000000 in
set_option maxRecDepth 100000 in
theorem s_X11_keepForUndo_b29 {T1 : AT} : ∀ (T : AT) (l0 : Nat), g_X11_keepForUndo_b29 T l0 = some T1 → GL T T1 := by
  intro T l0 h
  have p0 := GL.rf T
  unfold g_X11_keepForUndo_b29 at h
  obtain ⟨g2, h⟩ := oif_some h
  obtain ⟨v3, -, h⟩ := elet_some h
  rcases oif_or h with ⟨c4, h⟩ | ⟨c4, h⟩
  · have h := h
    exact GL.tr p0 (s_X11_keepForUndo_b48 _ _ h)
  · have h := h
    obtain ⟨g5, h⟩ := oif_some h
    obtain ⟨v6, -, h⟩ := elet_some h
    obtain ⟨v7, -, h⟩ := elet_some h
    obtain ⟨g8, h⟩ := oif_some h
    obtain ⟨T9, eT9, h⟩ := elet_some h
    have p1 : GL T T9 := GL.tr p0 (by rw [eT9]; exact gl_sp sp_uI)
    exact GL.tr p1 (s_X11_keepForUndo_b48 _ _ h)
set_option maxHeartbeats 4000000 in
set_option maxRecDepth 100000 in
theorem s_X11_keepForUndo {T : AT} {o : Nat} {T1 : AT} (h : g_X11_keepForUndo T o = some T1) : GL T T1 := by
  have p0 := GL.rf T
  unfold g_X11_keepForUndo at h
  obtain ⟨g2, h⟩ := oif_some h
  obtain ⟨v3, -, h⟩ := elet_some h
  obtain ⟨v4, -, h⟩ := elet_some h
  obtain ⟨v5, -, h⟩ := elet_some h
  obtain ⟨g6, h⟩ := oif_some h
  obtain ⟨T7, eT7, h⟩ := elet_some h
  have p1 : GL T T7 := GL.tr p0 (by rw [eT7]; exact gl_sp sp_uI)
  obtain ⟨g8, h⟩ := oif_some h
  obtain ⟨n9, en9, h⟩ := obind_some h
  obtain ⟨g10, h⟩ := oif_some h
  obtain ⟨v11, -, h⟩ := elet_some h
  obtain ⟨g12, h⟩ := oif_some h
  obtain ⟨g13, h⟩ := oif_some h
  obtain ⟨n14, en14, h⟩ := obind_some h
  obtain ⟨g15, h⟩ := oif_some h
  obtain ⟨n16, en16, h⟩ := obind_some h
  obtain ⟨g17, h⟩ := oif_some h
  obtain ⟨T18, eT18, h⟩ := obind_some h
  have p2 : GL T T18 := GL.tr p1 (s_X8_copyFrom eT18)
  exact GL.tr p2 (s_X11_keepForUndo_b29 _ _ h)
set_option maxHeartbeats 4000000 in
set_option maxRecDepth 100000 in
theorem a_X11_keepForUndo_b48 {p : Program} {l : Launch} {e : Env} {s : State} {m : MethodId} {args : Array Value} {below : List Frame} {meth : Method} {c : Code} {Q : State → Prop} {D : va_G} {A : Nat → Prop} {cI cJ cZ cMic cSrc cSt cAI cAJ : ClassId} {ad0 : Nat → Nat} {T0 : AT} {T1 : AT} (E : cE p c cX11_keepForUndo s m args (Cond.code yX11_keepForUndo cX11_keepForUndo 1 none :: wsA) D RX11 (CT cI cJ cZ cMic cSrc cSt cAI cAJ)) (hA : ∀ q : Nat, s.heap.size ≤ q → A q) (hX : xT A s) (hN : nX s) (hml : c.maxLocals = 1) (hst : l.stackTraces = false) (kr56 : ∀ (ad : Nat → Nat) (H : Heap) (locs : List Loc) (ls : Array Slot), (∀ n, n < T0.1 → ad n = ad0 n) → gC cI cJ cZ cMic cSrc cSt cAI cAJ D ad A s.heap H locs T1 → W p l e { frames := 4, cells := T1.1 - T0.1, slots := sg T1 - sg T0, locals := 84 } s m args below meth c H locs (T1.1 - T0.1) (sg T1 - sg T0) Q (F0 m 56 ls [])) : ∀ (T : AT) (ad : Nat → Nat) (H : Heap) (locs : List Loc) (ls : Array Slot) (l0 : Nat), g_X11_keepForUndo_b48 T l0 = some T1 → GL T0 T → RC T → (∀ n, n < T0.1 → ad n = ad0 n) → l0 < T.1 → gC cI cJ cZ cMic cSrc cSt cAI cAJ D ad A s.heap H locs T → lv_has ls 1 [(0, .ref (ad l0))] → W p l e { frames := 4, cells := T1.1 - T0.1, slots := sg T1 - sg T0, locals := 84 } s m args below meth c H locs (T.1 - T0.1) (sg T - sg T0) Q (F0 m 48 ls []) := by
  have hx := E.1
  have hb := E.2.1
  have hts := E.2.2.1
  have hown := E.2.2.2.1
  have hK := E.2.2.2.2
  intro T ad H locs ls l0 h hgl hrc had h_l0 G hl
  have hT1 := s_X11_keepForUndo_b48 _ _ h
  have hcs := cs_ok hgl hT1
  have cp0 := cpr0 hrc
  unfold g_X11_keepForUndo_b48 at h
  refine lv_aload_n hx hb dX11_keepForUndo_48 rfl (lv_at hl 0 rfl) ?_
  obtain ⟨g2, h⟩ := oif_some h
  obtain ⟨n3, en3, h⟩ := obind_some h
  have h_n3 : n3 < T.1 := by rw [← cp0.1]; exact cp0.2.2 _ _ _ en3
  refine c_get E G l0 4 (v := .ref (ad n3)) (oO_k g2).1 (cc_o11 (oO_k g2).2) rfl (fun w h => .tail _ (iA_23 h)) (by decide) (.tail _ qA_660) rfl (by rw [en3]; rfl) dX11_keepForUndo_49 ?_
  clear en3
  refine lv_iconst (v := 0) hx hb dX11_keepForUndo_52 (by decide) ?_
  obtain ⟨g4, h⟩ := oif_some h
  refine c_put E G n3 0 (v := .int 0) (oO_k g4).1 (cc_o4 (oO_k g4).2) rfl (fun w h => .tail _ (iA_21 h)) tyX4 tyX4_ok nmX4 (by decide) (.tail _ qA_704) ⟨rfl, rfl, rfl⟩ rfl rfl (Nat.le_of_ble_eq_true rfl) dX11_keepForUndo_53 (fun H locs G => ?_)
  have G := gC_up_i (f := upd (T.2.2.1 n3) 0 0) (by rw [(oO_k g4).2]; rfl) G
  obtain ⟨T5, eT5, h⟩ := elet_some h
  have G : gC cI cJ cZ cMic cSrc cSt cAI cAJ D ad A s.heap H locs T5 := by rw [eT5]; exact G
  have cp1 := show CPR T T5 from by rw [eT5]; exact cpr_sp cp0 sp_uI
  clear eT5
  rw [osome1 h] at G
  refine w_cast (c2 := T1.1 - T0.1) (s2 := sg T1 - sg T0) (by rw [← osome1 h, cp1.1] <;> rfl) (by rw [← osome1 h, sg_cpr cp1] <;> rfl) ?_
  exact kr56 ad _ _ _ had G
set_option maxHeartbeats 4000000 in
set_option maxRecDepth 100000 in
theorem a_X11_keepForUndo_b29 {p : Program} {l : Launch} {e : Env} {s : State} {m : MethodId} {args : Array Value} {below : List Frame} {meth : Method} {c : Code} {Q : State → Prop} {D : va_G} {A : Nat → Prop} {cI cJ cZ cMic cSrc cSt cAI cAJ : ClassId} {ad0 : Nat → Nat} {T0 : AT} {T1 : AT} (E : cE p c cX11_keepForUndo s m args (Cond.code yX11_keepForUndo cX11_keepForUndo 1 none :: wsA) D RX11 (CT cI cJ cZ cMic cSrc cSt cAI cAJ)) (hA : ∀ q : Nat, s.heap.size ≤ q → A q) (hX : xT A s) (hN : nX s) (hml : c.maxLocals = 1) (hst : l.stackTraces = false) (kr56 : ∀ (ad : Nat → Nat) (H : Heap) (locs : List Loc) (ls : Array Slot), (∀ n, n < T0.1 → ad n = ad0 n) → gC cI cJ cZ cMic cSrc cSt cAI cAJ D ad A s.heap H locs T1 → W p l e { frames := 4, cells := T1.1 - T0.1, slots := sg T1 - sg T0, locals := 84 } s m args below meth c H locs (T1.1 - T0.1) (sg T1 - sg T0) Q (F0 m 56 ls [])) : ∀ (T : AT) (ad : Nat → Nat) (H : Heap) (locs : List Loc) (ls : Array Slot) (l0 : Nat), g_X11_keepForUndo_b29 T l0 = some T1 → GL T0 T → RC T → (∀ n, n < T0.1 → ad n = ad0 n) → l0 < T.1 → gC cI cJ cZ cMic cSrc cSt cAI cAJ D ad A s.heap H locs T → lv_has ls 1 [(0, .ref (ad l0))] → W p l e { frames := 4, cells := T1.1 - T0.1, slots := sg T1 - sg T0, locals := 84 } s m args below meth c H locs (T.1 - T0.1) (sg T - sg T0) Q (F0 m 29 ls []) := by
  have hx := E.1
  have hb := E.2.1
  have hts := E.2.2.1
  have hown := E.2.2.2.1
  have hK := E.2.2.2.2
  intro T ad H locs ls l0 h hgl hrc had h_l0 G hl
  have hT1 := s_X11_keepForUndo_b29 _ _ h
  have hcs := cs_ok hgl hT1
  have cp0 := cpr0 hrc
  unfold g_X11_keepForUndo_b29 at h
  refine lv_aload_n hx hb dX11_keepForUndo_29 rfl (lv_at hl 0 rfl) ?_
  obtain ⟨g2, h⟩ := oif_some h
  refine c_get E G l0 16 (oO_k g2).1 (cc_o11 (oO_k g2).2) rfl (fun w h => .tail _ (iA_23 h)) (by decide) (.tail _ qA_703) rfl rfl dX11_keepForUndo_30 ?_
  refine lv_topi (fun v3 ev3 => ?_)
  have h := elet_at ev3 h
  clear ev3
  refine lv_bipush (v := 6) hx hb dX11_keepForUndo_33 (by decide) ?_
  refine lv_icmp_ge (tgt := 48) hx hb dX11_keepForUndo_35 (by decide) (fun c4 => ?_) (fun c4 => ?_)
  · have h := oif_pos c4 h
    have hl := lv_sub hl [0] rfl
    refine w_cast (c2 := T.1 - T0.1) (s2 := sg T - sg T0) (by rw [cp0.1] <;> rfl) (by rw [sg_cpr cp0] <;> rfl) ?_
    exact a_X11_keepForUndo_b48 E hA hX hN hml hst kr56 _ _ _ _ _ _ h (gl_cpr hgl cp0) cp0.2.2 had (by rw [cp0.1]; exact h_l0) G hl
  · have h := oif_neg c4 h
    refine lv_aload_n hx hb dX11_keepForUndo_38 rfl (lv_at hl 0 rfl) ?_
    refine lv_dup hx hb dX11_keepForUndo_39 rfl ?_
    obtain ⟨g5, h⟩ := oif_some h
    refine c_get E G l0 16 (oO_k g5).1 (cc_o11 (oO_k g5).2) rfl (fun w h => .tail _ (iA_23 h)) (by decide) (.tail _ qA_703) rfl rfl dX11_keepForUndo_40 ?_
    refine lv_topi (fun v6 ev6 => ?_)
    have h := elet_at ev6 h
    clear ev6
    refine lv_iconst (v := 1) hx hb dX11_keepForUndo_43 (by decide) ?_
    refine lv_iadd hx hb dX11_keepForUndo_44 ?_
    refine lv_topi (fun v7 ev7 => ?_)
    have h := elet_at ev7 h
    clear ev7
    obtain ⟨g8, h⟩ := oif_some h
    refine c_put E G l0 16 (v := .int v7) (oO_k g8).1 (cc_o11 (oO_k g8).2) rfl (fun w h => .tail _ (iA_23 h)) tyX11 tyX11_ok nmX11 (by decide) (.tail _ qA_703) ⟨rfl, rfl, rfl⟩ rfl rfl (Nat.le_of_ble_eq_true rfl) dX11_keepForUndo_45 (fun H locs G => ?_)
    have G := gC_up_i (f := upd (T.2.2.1 l0) 16 v7) (by rw [(oO_k g8).2]; rfl) G
    obtain ⟨T9, eT9, h⟩ := elet_some h
    have G : gC cI cJ cZ cMic cSrc cSt cAI cAJ D ad A s.heap H locs T9 := by rw [eT9]; exact G
    have cp1 := show CPR T T9 from by rw [eT9]; exact cpr_sp cp0 sp_uI
    clear eT9
    have hl := lv_sub hl [0] rfl
    refine w_cast (c2 := T9.1 - T0.1) (s2 := sg T9 - sg T0) (by rw [cp1.1] <;> rfl) (by rw [sg_cpr cp1] <;> rfl) ?_
    exact a_X11_keepForUndo_b48 E hA hX hN hml hst kr56 _ _ _ _ _ _ h (gl_cpr hgl cp1) cp1.2.2 had (by rw [cp1.1]; exact h_l0) G hl
set_option maxHeartbeats 4000000 in
set_option maxRecDepth 100000 in
theorem a_X11_keepForUndo (l : Launch) (hst : l.stackTraces = false) (D : va_G) (cI cJ cZ cMic cSrc cSt cAI cAJ : ClassId) (ad : Nat → Nat) (T : AT) (o : Nat) {T1 : AT} (h : g_X11_keepForUndo T o = some T1) (hrc : RC T) (h_o : o < T.1) : kAv l yX11_keepForUndo (Cond.code yX11_keepForUndo cX11_keepForUndo 1 none :: wsA) 4 84 cI cJ cZ cMic cSrc cSt cAI cAJ D ad T [.ref (ad o)] T1 := by
  intro sz
  refine pro_in (cc := cX11_keepForUndo) (maxL := 1) (ret := none) (by exact pn_RX11) rfl (by exact Nat.le_of_ble_eq_true rfl) (fun p e s m below meth c ls hx hb hr hts hown hlocks hml hv hl => ?_)
  obtain ⟨hsz, hP, hK, hD0, hX, hN⟩ := hv
  subst hsz
  have hD := hD0.self (sz := s.heap.size)
  generalize hAe : va_A (cW ad T.1 (cc cI cJ cZ cMic cSrc cSt cAI cAJ ad T)) s.heap.size = A at hD hX ⊢
  have hA : ∀ q : Nat, s.heap.size ≤ q → A q := fun q h => by rw [← hAe]; exact Or.inr h
  have G : gC cI cJ cZ cMic cSrc cSt cAI cAJ D ad A s.heap s.heap [] T := ⟨hP, hD, va_S.rf⟩
  have E : cE p c cX11_keepForUndo s m ([.ref (ad o)] : List Value).toArray (Cond.code yX11_keepForUndo cX11_keepForUndo 1 none :: wsA) D RX11 (CT cI cJ cZ cMic cSrc cSt cAI cAJ) := ⟨hx, hb, hts, hown, hK⟩
  have hl : lv_has ls 1 [(0, .ref (ad o))] := hl
  have hgl := GL.rf T
  have had : ∀ n, n < T.1 → ad n = ad n := fun _ _ => rfl
  have hT1 := s_X11_keepForUndo h
  have hcs := cs_ok hgl hT1
  refine w_cast (Nat.sub_self T.1).symm (Nat.sub_self (sg T)).symm ?_
  have cp0 := cpr0 hrc
  unfold g_X11_keepForUndo at h
  refine lv_aload_n hx hb dX11_keepForUndo_0 rfl (lv_at hl 0 rfl) ?_
  refine lv_aload_n hx hb dX11_keepForUndo_1 rfl (lv_at hl 0 rfl) ?_
  obtain ⟨g2, h⟩ := oif_some h
  refine c_get E G o 17 (oO_k g2).1 (cc_o11 (oO_k g2).2) rfl (fun w h => .tail _ (iA_23 h)) (by decide) (.tail _ qA_929) rfl rfl dX11_keepForUndo_2 ?_
  refine lv_topi (fun v3 ev3 => ?_)
  have h := elet_at ev3 h
  clear ev3
  refine lv_iconst (v := 1) hx hb dX11_keepForUndo_5 (by decide) ?_
  refine lv_iadd hx hb dX11_keepForUndo_6 ?_
  refine lv_topi (fun v4 ev4 => ?_)
  have h := elet_at ev4 h
  clear ev4
  refine lv_bipush (v := 6) hx hb dX11_keepForUndo_7 (by decide) ?_
  refine lv_irem hx hb dX11_keepForUndo_9 (by decide) ?_
  refine lv_topi (fun v5 ev5 => ?_)
  have h := elet_at ev5 h
  clear ev5
  obtain ⟨g6, h⟩ := oif_some h
  refine c_put E G o 17 (v := .int v5) (oO_k g6).1 (cc_o11 (oO_k g6).2) rfl (fun w h => .tail _ (iA_23 h)) tyX11 tyX11_ok nmX11 (by decide) (.tail _ qA_929) ⟨rfl, rfl, rfl⟩ rfl rfl (Nat.le_of_ble_eq_true rfl) dX11_keepForUndo_10 (fun H locs G => ?_)
  have G := gC_up_i (f := upd (T.2.2.1 o) 17 v5) (by rw [(oO_k g6).2]; rfl) G
  obtain ⟨T7, eT7, h⟩ := elet_some h
  have G : gC cI cJ cZ cMic cSrc cSt cAI cAJ D ad A s.heap H locs T7 := by rw [eT7]; exact G
  have cp1 := show CPR T T7 from by rw [eT7]; exact cpr_sp cp0 sp_uI
  clear eT7
  refine lv_aload_n hx hb dX11_keepForUndo_13 rfl (lv_at hl 0 rfl) ?_
  obtain ⟨g8, h⟩ := oif_some h
  obtain ⟨n9, en9, h⟩ := obind_some h
  have h_n9 : n9 < T.1 := by rw [← cp1.1]; exact cp1.2.2 _ _ _ en9
  refine c_get E G o 8 (v := .ref (ad n9)) (oO_k g8).1 (cc_o11 (oO_k g8).2) rfl (fun w h => .tail _ (iA_23 h)) (by decide) (.tail _ qA_666) rfl (by rw [en9]; rfl) dX11_keepForUndo_14 ?_
  clear en9
  refine lv_aload_n hx hb dX11_keepForUndo_17 rfl (lv_at hl 0 rfl) ?_
  obtain ⟨g10, h⟩ := oif_some h
  refine c_get E G o 17 (oO_k g10).1 (cc_o11 (oO_k g10).2) rfl (fun w h => .tail _ (iA_23 h)) (by decide) (.tail _ qA_929) rfl rfl dX11_keepForUndo_18 ?_
  refine lv_topi (fun v11 ev11 => ?_)
  have h := elet_at ev11 h
  clear ev11
  obtain ⟨g12, h⟩ := oif_some h
  obtain ⟨g13, h⟩ := oif_some h
  obtain ⟨n14, en14, h⟩ := obind_some h
  have h_n14 : n14 < T.1 := by rw [← cp1.1]; exact cp1.2.2 _ _ _ en14
  refine c_aldq E G n9 5 (k := v11.toNatClampNeg) (v := .ref (ad n14)) (aA_k g12).1 (cc_a105 (aA_k g12).2.1) rfl (inb_k g13).1 (inb_k g13).2 (aA_k g12).2.2 (by show va_rf ((T7.2.2.2.2 n9 v11.toNatClampNeg).map ad) = _; rw [en14]; rfl) dX11_keepForUndo_21 ?_
  clear en14
  refine lv_aload_n hx hb dX11_keepForUndo_22 rfl (lv_at hl 0 rfl) ?_
  obtain ⟨g15, h⟩ := oif_some h
  obtain ⟨n16, en16, h⟩ := obind_some h
  have h_n16 : n16 < T.1 := by rw [← cp1.1]; exact cp1.2.2 _ _ _ en16
  refine c_get E G o 6 (v := .ref (ad n16)) (oO_k g15).1 (cc_o11 (oO_k g15).2) rfl (fun w h => .tail _ (iA_23 h)) (by decide) (.tail _ qA_664) rfl (by rw [en16]; rfl) dX11_keepForUndo_23 ?_
  clear en16
  obtain ⟨g17, h⟩ := oif_some h
  obtain ⟨T18, eT18, h⟩ := obind_some h
  have hg2 := s_X8_copyFrom eT18
  have hrc2 := hg2.2.2 cp1.2.2
  have hT2 := s_X11_keepForUndo_b29 _ _ h
  refine q_avv (As := [.ref (ad n16)]) (rest := []) E G hA hX hN hml (a_X8_copyFrom l hst D cI cJ cZ cMic cSrc cSt cAI cAJ ad T7 n14 n16 eT18 cp1.2.2 (by rw [cp1.1]; exact h_n14) (by rw [cp1.1]; exact h_n16)) (cwV 1 hts (gaV qA_911 qA_912 qA_913 qA_47 qA_603) rfl rfl rfl (by decide +kernel) ⟨Nat.le_of_ble_eq_true rfl, Nat.le_of_ble_eq_true rfl⟩) (oO_k g17).1 (cc_o8 (oO_k g17).2) rfl rfl hl.1 rfl (lv_room (Nat.le_of_ble_eq_true rfl)) dX11_keepForUndo_26 (cs_av hgl cp1 hg2 hT2) (fun ad2 H locs hga G => ?_)
  refine w_cast (c2 := T18.1 - T.1) (s2 := sg T18 - sg T) (cs_f1 hgl cp1 hg2) (cs_f2 hgl cp1 hg2) ?_
  have hl := lv_sub hl [0] rfl
  rw [show ad o = ad2 o from (hga o (by rw [cp1.1]; exact h_o)).symm] at hl
  exact a_X11_keepForUndo_b29 E hA hX hN hml hst (fun ad H locs ls had G => W.vret hx hb hr (fun t ht hW => ⟨⟨(T1, ad), rfl, ⟨rfl, had⟩, ⟨by rw [ht]; exact G.1, va_K.moved hW.alike hK, G.2.1⟩⟩, G.2.2.F ht⟩) G.2.2.2.2 dX11_keepForUndo_56) _ _ _ _ _ _ h (GL.tr (gl_cpr hgl cp1) hg2) hrc2 (fun n hn => (hga n (by rw [cp1.1]; exact Nat.lt_of_lt_of_le hn hgl.1)).trans (had n hn)) (Nat.lt_of_lt_of_le (by rw [cp1.1]; exact h_o) hg2.1) G hl
def g_X11_mute_b23  (T : AT) (l0 : Nat) (l1 : Int32) (l2 : Int32) (l3 : Int32) : Option (Nat × Int32 × AT) := oif (oO T l0 11 = true) <| obind (T.2.2.2.2 l0 6) fun n3 => oif (oO T n3 8 = true) <| obind (T.2.2.2.2 n3 3) fun n5 => oif (aA T n5 102 = true) <| oif (inb l1 (T.2.1 n5).2 = true) <| oif (l2 = 0 ∨ l2 = 1) <| elet (uI T n5 l1.toNatClampNeg l2) fun T8 => oif (l3 = 0 ∨ l3 = 1) <| some (0, l3, T8)
def g_X11_mute (T : AT) (o : Nat) (a0 : Int32) (a1 : Int32) : Option (Nat × Int32 × AT) := oif (oO T o 11 = true) <| othr (g_X11_needCamera T o) 0 fun r5 T3 => oif (oO T3 o 11 = true) <| othr (g_X11_needMic T3 o a0) 0 fun r10 T8 => oif (oO T8 o 11 = true) <| obind (T8.2.2.2.2 o 6) fun n13 => oif (oO T8 n13 8 = true) <| obind (T8.2.2.2.2 n13 3) fun n15 => oif (aA T8 n15 102 = true) <| oif (inb a0 (T8.2.1 n15).2 = true) <| elet (T8.2.2.1 n15 a0.toNatClampNeg) fun v18 => oif (oO T8 o 11 = true) <| obind (g_X11_keepForUndo T8 o) fun T20 => g_X11_mute_b23 T20 o a0 a1 v18
set_option maxHeartbeats 4000000 in
set_option maxRecDepth 100000 in
theorem s_X11_mute_b23 {e1 : Nat} {r1 : Int32} {T1 : AT} : ∀ (T : AT) (l0 : Nat) (l1 : Int32) (l2 : Int32) (l3 : Int32), g_X11_mute_b23 T l0 l1 l2 l3 = some (e1, r1, T1) → GL T T1 := by
  intro T l0 l1 l2 l3 h
  have p0 := GL.rf T
  unfold g_X11_mute_b23 at h
  obtain ⟨g2, h⟩ := oif_some h
  obtain ⟨n3, en3, h⟩ := obind_some h
  obtain ⟨g4, h⟩ := oif_some h
  obtain ⟨n5, en5, h⟩ := obind_some h
  obtain ⟨g6, h⟩ := oif_some h
  obtain ⟨g7, h⟩ := oif_some h
  obtain ⟨gz, h⟩ := oif_some h
  obtain ⟨T8, eT8, h⟩ := elet_some h
  have p1 : GL T T8 := GL.tr p0 (by rw [eT8]; exact gl_sp sp_uI)
  obtain ⟨gz, h⟩ := oif_some h
  rw [← (osome3 h).2.2]
  exact p1
set_option maxHeartbeats 4000000 in
set_option maxRecDepth 100000 in
theorem s_X11_mute {T : AT} {o : Nat} {a0 : Int32} {a1 : Int32} {e1 : Nat} {r1 : Int32} {T1 : AT} (h : g_X11_mute T o a0 a1 = some (e1, r1, T1)) : GL T T1 := by
  have p0 := GL.rf T
  unfold g_X11_mute at h
  obtain ⟨g2, h⟩ := oif_some h
  rcases othr_s h with ⟨k9, r9, e9, -⟩ | ⟨r4, T3, eT3, h⟩
  · exact GL.tr p0 (gl_sp (s_X11_needCamera e9))
  have p1 : GL T T3 := GL.tr p0 (gl_sp (s_X11_needCamera eT3))
  obtain ⟨g5, h⟩ := oif_some h
  rcases othr_s h with ⟨k9, r9, e9, -⟩ | ⟨r7, T6, eT6, h⟩
  · exact GL.tr p1 (gl_sp (s_X11_needMic e9))
  have p2 : GL T T6 := GL.tr p1 (gl_sp (s_X11_needMic eT6))
  obtain ⟨g8, h⟩ := oif_some h
  obtain ⟨n9, en9, h⟩ := obind_some h
  obtain ⟨g10, h⟩ := oif_some h
  obtain ⟨n11, en11, h⟩ := obind_some h
  obtain ⟨g12, h⟩ := oif_some h
  obtain ⟨g13, h⟩ := oif_some h
  obtain ⟨v14, -, h⟩ := elet_some h
  obtain ⟨g15, h⟩ := oif_some h
  obtain ⟨T16, eT16, h⟩ := obind_some h
  have p3 : GL T T16 := GL.tr p2 (s_X11_keepForUndo eT16)
  exact GL.tr p3 (s_X11_mute_b23 _ _ _ _ _ h)
set_option maxHeartbeats 4000000 in
set_option maxRecDepth 100000 in
theorem a_X11_mute_b23 {p : Program} {l : Launch} {e : Env} {s : State} {m : MethodId} {args : Array Value} {below : List Frame} {meth : Method} {c : Code} {Q : State → Prop} {D : va_G} {A : Nat → Prop} {cI cJ cZ cMic cSrc cSt cAI cAJ : ClassId} {ad0 : Nat → Nat} {T0 : AT} {r1 : Int32} {T1 : AT} (E : cE p c cX11_mute s m args (Cond.code yX11_mute cX11_mute 4 (some .boolean) :: wsA) D RX11 (CT cI cJ cZ cMic cSrc cSt cAI cAJ)) (hA : ∀ q : Nat, s.heap.size ≤ q → A q) (hX : xT A s) (hN : nX s) (hml : c.maxLocals = 4) (hst : l.stackTraces = false) (kr34 : ∀ (ad : Nat → Nat) (H : Heap) (locs : List Loc) (ls : Array Slot), (r1 = 0 ∨ r1 = 1) → (∀ n, n < T0.1 → ad n = ad0 n) → gC cI cJ cZ cMic cSrc cSt cAI cAJ D ad A s.heap H locs T1 → W p l e { frames := 8, cells := T1.1 - T0.1, slots := sg T1 - sg T0, locals := 123 } s m args below meth c H locs (T1.1 - T0.1) (sg T1 - sg T0) Q (F0 m 34 ls [.int r1])) : ∀ (T : AT) (ad : Nat → Nat) (H : Heap) (locs : List Loc) (ls : Array Slot) (l0 : Nat) (l1 : Int32) (l2 : Int32) (l3 : Int32), g_X11_mute_b23 T l0 l1 l2 l3 = some (0, r1, T1) → GL T0 T → RC T → (∀ n, n < T0.1 → ad n = ad0 n) → l0 < T.1 → gC cI cJ cZ cMic cSrc cSt cAI cAJ D ad A s.heap H locs T → lv_has ls 4 [(0, .ref (ad l0)), (1, .int l1), (2, .int l2), (3, .int l3)] → W p l e { frames := 8, cells := T1.1 - T0.1, slots := sg T1 - sg T0, locals := 123 } s m args below meth c H locs (T.1 - T0.1) (sg T - sg T0) Q (F0 m 23 ls []) := by
  have hx := E.1
  have hb := E.2.1
  have hts := E.2.2.1
  have hown := E.2.2.2.1
  have hK := E.2.2.2.2
  intro T ad H locs ls l0 l1 l2 l3 h hgl hrc had h_l0 G hl
  have hT1 := s_X11_mute_b23 _ _ _ _ _ h
  have hcs := cs_ok hgl hT1
  have cp0 := cpr0 hrc
  unfold g_X11_mute_b23 at h
  refine lv_aload_n hx hb dX11_mute_23 rfl (lv_at hl 0 rfl) ?_
  obtain ⟨g2, h⟩ := oif_some h
  obtain ⟨n3, en3, h⟩ := obind_some h
  have h_n3 : n3 < T.1 := by rw [← cp0.1]; exact cp0.2.2 _ _ _ en3
  refine c_get E G l0 6 (v := .ref (ad n3)) (oO_k g2).1 (cc_o11 (oO_k g2).2) rfl (fun w h => .tail _ (iA_23 h)) (by decide) (.tail _ qA_664) rfl (by rw [en3]; rfl) dX11_mute_24 ?_
  clear en3
  obtain ⟨g4, h⟩ := oif_some h
  obtain ⟨n5, en5, h⟩ := obind_some h
  have h_n5 : n5 < T.1 := by rw [← cp0.1]; exact cp0.2.2 _ _ _ en5
  refine c_get E G n3 3 (v := .ref (ad n5)) (oO_k g4).1 (cc_o8 (oO_k g4).2) rfl (fun w h => .tail _ (iA_16 h)) (by decide) (.tail _ qA_746) rfl (by rw [en5]; rfl) dX11_mute_27 ?_
  clear en5
  refine lv_iload_n hx hb dX11_mute_30 rfl (lv_at hl 1 rfl) ?_
  refine lv_iload_n hx hb dX11_mute_31 rfl (lv_at hl 2 rfl) ?_
  obtain ⟨g6, h⟩ := oif_some h
  obtain ⟨g7, h⟩ := oif_some h
  obtain ⟨gz, h⟩ := oif_some h
  refine c_zast E G n5 2 (k := l1.toNatClampNeg) (v := l2) (aA_k g6).1 (cc_a102 (aA_k g6).2.1) rfl (inb_k g7).1 (inb_k g7).2 (aA_k g6).2.2 (by rcases gz with rfl | rfl <;> rfl) dX11_mute_32 (fun H locs G => ?_)
  have G := gC_up_i (f := upd (T.2.2.1 n5) l1.toNatClampNeg l2) (ccv_102 (aA_k g6).2.1) G
  obtain ⟨T8, eT8, h⟩ := elet_some h
  have G : gC cI cJ cZ cMic cSrc cSt cAI cAJ D ad A s.heap H locs T8 := by rw [eT8]; exact G
  have cp1 := show CPR T T8 from by rw [eT8]; exact cpr_sp cp0 sp_uI
  clear eT8
  refine lv_iload_n hx hb dX11_mute_33 rfl (lv_at hl 3 rfl) ?_
  obtain ⟨gz, h⟩ := oif_some h
  rw [(osome3 h).2.2] at G
  refine w_cast (c2 := T1.1 - T0.1) (s2 := sg T1 - sg T0) (by rw [← (osome3 h).2.2, cp1.1] <;> rfl) (by rw [← (osome3 h).2.2, sg_cpr cp1] <;> rfl) ?_
  have gr : r1 = 0 ∨ r1 = 1 := by rw [← (osome3 h).2.1]; exact gz
  refine lv_to ((osome3 h).2.1) ?_
  exact kr34 ad _ _ _ gr had G
set_option maxHeartbeats 4000000 in
set_option maxRecDepth 100000 in
theorem a_X11_mute (l : Launch) (hst : l.stackTraces = false) (D : va_G) (cI cJ cZ cMic cSrc cSt cAI cAJ : ClassId) (ad : Nat → Nat) (T : AT) (o : Nat) (a0 : Int32) (a1 : Int32) {r1 : Int32} {T1 : AT} (h : g_X11_mute T o a0 a1 = some (0, r1, T1)) (hrc : RC T) (h_o : o < T.1) : kAi l yX11_mute (Cond.code yX11_mute cX11_mute 4 (some .boolean) :: wsA) 8 123 cI cJ cZ cMic cSrc cSt cAI cAJ D ad T [.ref (ad o), .int a0, .int a1] r1 T1 := by
  intro sz
  refine pro_in (cc := cX11_mute) (maxL := 4) (ret := (some .boolean)) (by exact pn_RX11) rfl (by exact Nat.le_of_ble_eq_true rfl) (fun p e s m below meth c ls hx hb hr hts hown hlocks hml hv hl => ?_)
  obtain ⟨hsz, hP, hK, hD0, hX, hN⟩ := hv
  subst hsz
  have hD := hD0.self (sz := s.heap.size)
  generalize hAe : va_A (cW ad T.1 (cc cI cJ cZ cMic cSrc cSt cAI cAJ ad T)) s.heap.size = A at hD hX ⊢
  have hA : ∀ q : Nat, s.heap.size ≤ q → A q := fun q h => by rw [← hAe]; exact Or.inr h
  have G : gC cI cJ cZ cMic cSrc cSt cAI cAJ D ad A s.heap s.heap [] T := ⟨hP, hD, va_S.rf⟩
  have E : cE p c cX11_mute s m ([.ref (ad o), .int a0, .int a1] : List Value).toArray (Cond.code yX11_mute cX11_mute 4 (some .boolean) :: wsA) D RX11 (CT cI cJ cZ cMic cSrc cSt cAI cAJ) := ⟨hx, hb, hts, hown, hK⟩
  have hl : lv_has ls 4 [(0, .ref (ad o)), (1, .int a0), (2, .int a1)] := hl
  have hgl := GL.rf T
  have had : ∀ n, n < T.1 → ad n = ad n := fun _ _ => rfl
  have hT1 := s_X11_mute h
  have hcs := cs_ok hgl hT1
  refine w_cast (Nat.sub_self T.1).symm (Nat.sub_self (sg T)).symm ?_
  have cp0 := cpr0 hrc
  unfold g_X11_mute at h
  refine lv_aload_n hx hb dX11_mute_0 rfl (lv_at hl 0 rfl) ?_
  obtain ⟨g2, h⟩ := oif_some h
  obtain ⟨r5, T3, eT3, h⟩ := othr_n h
  refine q_cvv (As := []) (rest := []) E G hA hX hN hml (u_X11_needCamera l hst D cI cJ cZ cMic cSrc cSt cAI cAJ ad T o eT3) (cwV 0 hts (gaV qA_728 qA_729 qA_730 qA_131 qA_731) rfl rfl rfl (by decide +kernel) ⟨Nat.le_of_ble_eq_true rfl, Nat.le_of_ble_eq_true rfl⟩) (oO_k g2).1 (cc_o11 (oO_k g2).2) rfl rfl hl.1 rfl (lv_room (Nat.le_of_ble_eq_true rfl)) dX11_mute_1 hcs (fun T4 H locs hq G => ?_)
  rw [hq] at G
  clear hq
  have cp1 := cpr_sp cp0 (s_X11_needCamera eT3)
  refine lv_aload_n hx hb dX11_mute_4 rfl (lv_at hl 0 rfl) ?_
  refine lv_iload_n hx hb dX11_mute_5 rfl (lv_at hl 1 rfl) ?_
  obtain ⟨g7, h⟩ := oif_some h
  obtain ⟨r10, T8, eT8, h⟩ := othr_n h
  refine q_cvv (As := [.int a0]) (rest := []) E G hA hX hN hml (u_X11_needMic l hst D cI cJ cZ cMic cSrc cSt cAI cAJ ad T3 o a0 eT8) (cwV 1 hts (gaV qA_734 qA_735 qA_736 qA_131 qA_737) rfl rfl rfl (by decide +kernel) ⟨Nat.le_of_ble_eq_true rfl, Nat.le_of_ble_eq_true rfl⟩) (oO_k g7).1 (cc_o11 (oO_k g7).2) rfl rfl hl.1 rfl (lv_room (Nat.le_of_ble_eq_true rfl)) dX11_mute_6 hcs (fun T9 H locs hq G => ?_)
  rw [hq] at G
  clear hq
  have cp2 := cpr_sp cp1 (s_X11_needMic eT8)
  refine lv_aload_n hx hb dX11_mute_9 rfl (lv_at hl 0 rfl) ?_
  obtain ⟨g12, h⟩ := oif_some h
  obtain ⟨n13, en13, h⟩ := obind_some h
  have h_n13 : n13 < T.1 := by rw [← cp2.1]; exact cp2.2.2 _ _ _ en13
  refine c_get E G o 6 (v := .ref (ad n13)) (oO_k g12).1 (cc_o11 (oO_k g12).2) rfl (fun w h => .tail _ (iA_23 h)) (by decide) (.tail _ qA_664) rfl (by rw [en13]; rfl) dX11_mute_10 ?_
  clear en13
  obtain ⟨g14, h⟩ := oif_some h
  obtain ⟨n15, en15, h⟩ := obind_some h
  have h_n15 : n15 < T.1 := by rw [← cp2.1]; exact cp2.2.2 _ _ _ en15
  refine c_get E G n13 3 (v := .ref (ad n15)) (oO_k g14).1 (cc_o8 (oO_k g14).2) rfl (fun w h => .tail _ (iA_16 h)) (by decide) (.tail _ qA_746) rfl (by rw [en15]; rfl) dX11_mute_13 ?_
  clear en15
  refine lv_iload_n hx hb dX11_mute_16 rfl (lv_at hl 1 rfl) ?_
  obtain ⟨g16, h⟩ := oif_some h
  obtain ⟨g17, h⟩ := oif_some h
  refine c_zald E G n15 2 (k := a0.toNatClampNeg) (aA_k g16).1 (cc_a102 (aA_k g16).2.1) rfl (inb_k g17).1 (inb_k g17).2 (aA_k g16).2.2 dX11_mute_17 ?_
  refine lv_topi (fun v18 ev18 => ?_)
  have h := elet_at ev18 h
  clear ev18
  refine lv_istore_n (lv' := [(3, .int v18), (0, .ref (ad o)), (1, .int a0), (2, .int a1)]) hx hb dX11_mute_18 rfl hl (by decide) rfl (fun ls hl => ?_)
  refine lv_aload_n hx hb dX11_mute_19 rfl (lv_at hl 1 rfl) ?_
  obtain ⟨g19, h⟩ := oif_some h
  obtain ⟨T20, eT20, h⟩ := obind_some h
  have hg2 := s_X11_keepForUndo eT20
  have hrc2 := hg2.2.2 cp2.2.2
  have hT2 := s_X11_mute_b23 _ _ _ _ _ h
  refine q_avv (As := []) (rest := []) E G hA hX hN hml (a_X11_keepForUndo l hst D cI cJ cZ cMic cSrc cSt cAI cAJ ad T8 o eT20 cp2.2.2 (by rw [cp2.1]; exact h_o)) (cwV 0 hts (gaV qA_925 qA_926 qA_927 qA_131 qA_928) rfl rfl rfl (by decide +kernel) ⟨Nat.le_of_ble_eq_true rfl, Nat.le_of_ble_eq_true rfl⟩) (oO_k g19).1 (cc_o11 (oO_k g19).2) rfl rfl hl.1 rfl (lv_room (Nat.le_of_ble_eq_true rfl)) dX11_mute_20 (cs_av hgl cp2 hg2 hT2) (fun ad2 H locs hga G => ?_)
  refine w_cast (c2 := T20.1 - T.1) (s2 := sg T20 - sg T) (cs_f1 hgl cp2 hg2) (cs_f2 hgl cp2 hg2) ?_
  have hl := lv_sub hl [1, 2, 3, 0] rfl
  rw [show ad o = ad2 o from (hga o (by rw [cp2.1]; exact h_o)).symm] at hl
  exact a_X11_mute_b23 E hA hX hN hml hst (fun ad H locs ls gz had G => W.zret (v := r1) hx hb hr (nar01 gz) (fun t ht hW => ⟨⟨r1, (T1, ad), rfl, ⟨rfl, rfl, had⟩, ⟨by rw [ht]; exact G.1, va_K.moved hW.alike hK, G.2.1⟩⟩, G.2.2.F ht⟩) G.2.2.2.2 dX11_mute_34) _ _ _ _ _ _ _ _ _ h (GL.tr (gl_cpr hgl cp2) hg2) hrc2 (fun n hn => (hga n (by rw [cp2.1]; exact Nat.lt_of_lt_of_le hn hgl.1)).trans (had n hn)) (Nat.lt_of_lt_of_le (by rw [cp2.1]; exact h_o) hg2.1) G hl
set_option maxHeartbeats 4000000 in
set_option maxRecDepth 100000 in
theorem b_X11_mute_b23 {p : Program} {l : Launch} {e : Env} {s : State} {m : MethodId} {args : Array Value} {below : List Frame} {meth : Method} {c : Code} {Qc : Array Value → State → Outcome → State → Prop} {XC : String → State → State → Prop} {D : va_G} {A : Nat → Prop} {cI cJ cZ cMic cSrc cSt cAI cAJ : ClassId} {ad0 : Nat → Nat} {T0 : AT} {e1 : Nat} {r1 : Int32} {T1 : AT} (E : cE p c cX11_mute s m args (Cond.code yX11_mute cX11_mute 4 (some .boolean) :: wsA) D RX11 (CT cI cJ cZ cMic cSrc cSt cAI cAJ)) (hA : ∀ q : Nat, s.heap.size ≤ q → A q) (hX : xT A s) (hN : nX s) (hml : c.maxLocals = 4) (hst : l.stackTraces = false) (htab : ∀ x ∈ c.exceptionTable.toList, False) (hlocks : meth.locks = false) (kx : ∀ (ad : Nat → Nat) (H : Heap) (locs : List Loc) (t : State), (∀ n, n < T0.1 → ad n = ad0 n) → gC cI cJ cZ cMic cSrc cSt cAI cAJ D ad A s.heap H locs T1 → s.vm.Alike t.vm → H.size ≤ t.heap.size → (∀ q, q < H.size → t.heap[q]? = H[q]?) → XC (exn e1) s t) : ∀ (T : AT) (ad : Nat → Nat) (H : Heap) (locs : List Loc) (ls : Array Slot) (l0 : Nat) (l1 : Int32) (l2 : Int32) (l3 : Int32), g_X11_mute_b23 T l0 l1 l2 l3 = some (e1 + 1, r1, T1) → GL T0 T → RC T → (∀ n, n < T0.1 → ad n = ad0 n) → l0 < T.1 → gC cI cJ cZ cMic cSrc cSt cAI cAJ D ad A s.heap H locs T → lv_has ls 4 [(0, .ref (ad l0)), (1, .int l1), (2, .int l2), (3, .int l3)] → W p l e { frames := 8, cells := T1.1 - T0.1 + 1, slots := sg T1 - sg T0 + 6, locals := 123 } s m args below meth c H locs (T.1 - T0.1) (sg T - sg T0) (vx_MQ below Qc XC args s (T1.1 - T0.1 + 1) (sg T1 - sg T0 + 6) A) (F0 m 23 ls []) := by
  have hx := E.1
  have hb := E.2.1
  have hts := E.2.2.1
  have hown := E.2.2.2.1
  have hK := E.2.2.2.2
  intro T ad H locs ls l0 l1 l2 l3 h hgl hrc had h_l0 G hl
  have hT1 := s_X11_mute_b23 _ _ _ _ _ h
  have hcs := cs_okx hgl hT1
  have hcx := cs_okx1 hgl hT1
  have cp0 := cpr0 hrc
  unfold g_X11_mute_b23 at h
  refine lv_aload_n hx hb dX11_mute_23 rfl (lv_at hl 0 rfl) ?_
  obtain ⟨g2, h⟩ := oif_some h
  obtain ⟨n3, en3, h⟩ := obind_some h
  have h_n3 : n3 < T.1 := by rw [← cp0.1]; exact cp0.2.2 _ _ _ en3
  refine c_get E G l0 6 (v := .ref (ad n3)) (oO_k g2).1 (cc_o11 (oO_k g2).2) rfl (fun w h => .tail _ (iA_23 h)) (by decide) (.tail _ qA_664) rfl (by rw [en3]; rfl) dX11_mute_24 ?_
  clear en3
  obtain ⟨g4, h⟩ := oif_some h
  obtain ⟨n5, en5, h⟩ := obind_some h
  have h_n5 : n5 < T.1 := by rw [← cp0.1]; exact cp0.2.2 _ _ _ en5
  refine c_get E G n3 3 (v := .ref (ad n5)) (oO_k g4).1 (cc_o8 (oO_k g4).2) rfl (fun w h => .tail _ (iA_16 h)) (by decide) (.tail _ qA_746) rfl (by rw [en5]; rfl) dX11_mute_27 ?_
  clear en5
  refine lv_iload_n hx hb dX11_mute_30 rfl (lv_at hl 1 rfl) ?_
  refine lv_iload_n hx hb dX11_mute_31 rfl (lv_at hl 2 rfl) ?_
  obtain ⟨g6, h⟩ := oif_some h
  obtain ⟨g7, h⟩ := oif_some h
  obtain ⟨gz, h⟩ := oif_some h
  refine c_zast E G n5 2 (k := l1.toNatClampNeg) (v := l2) (aA_k g6).1 (cc_a102 (aA_k g6).2.1) rfl (inb_k g7).1 (inb_k g7).2 (aA_k g6).2.2 (by rcases gz with rfl | rfl <;> rfl) dX11_mute_32 (fun H locs G => ?_)
  have G := gC_up_i (f := upd (T.2.2.1 n5) l1.toNatClampNeg l2) (ccv_102 (aA_k g6).2.1) G
  obtain ⟨T8, eT8, h⟩ := elet_some h
  have G : gC cI cJ cZ cMic cSrc cSt cAI cAJ D ad A s.heap H locs T8 := by rw [eT8]; exact G
  have cp1 := show CPR T T8 from by rw [eT8]; exact cpr_sp cp0 sp_uI
  clear eT8
  refine lv_iload_n hx hb dX11_mute_33 rfl (lv_at hl 3 rfl) ?_
  obtain ⟨gz, h⟩ := oif_some h
  exact (Nat.succ_ne_zero _ (congrArg Prod.fst (Option.some.inj h)).symm).elim
set_option maxHeartbeats 4000000 in
set_option maxRecDepth 100000 in
theorem b_X11_mute (l : Launch) (hst : l.stackTraces = false) (D : va_G) (cI cJ cZ cMic cSrc cSt cAI cAJ : ClassId) (ad : Nat → Nat) (T : AT) (o : Nat) (a0 : Int32) (a1 : Int32) {e1 : Nat} {r1 : Int32} {T1 : AT} (h : g_X11_mute T o a0 a1 = some (e1 + 1, r1, T1)) (hrc : RC T) (h_o : o < T.1) : kAXi l yX11_mute (Cond.code yX11_mute cX11_mute 4 (some .boolean) :: wsA) 8 123 cI cJ cZ cMic cSrc cSt cAI cAJ D ad T [.ref (ad o), .int a0, .int a1] e1 T1 := by
  intro sz
  refine pro_inX (cc := cX11_mute) (maxL := 4) (ret := (some .boolean)) (by exact pn_RX11) rfl (by exact Nat.le_of_ble_eq_true rfl) (fun p e s m below meth c ls hx hb hr hts hown hlocks htab hml hv hl => ?_)
  obtain ⟨hsz, hP, hK, hD0, hX, hN⟩ := hv
  subst hsz
  have hD := hD0.self (sz := s.heap.size)
  generalize hAe : va_A (cW ad T.1 (cc cI cJ cZ cMic cSrc cSt cAI cAJ ad T)) s.heap.size = A at hD hX ⊢
  have hA : ∀ q : Nat, s.heap.size ≤ q → A q := fun q h => by rw [← hAe]; exact Or.inr h
  have G : gC cI cJ cZ cMic cSrc cSt cAI cAJ D ad A s.heap s.heap [] T := ⟨hP, hD, va_S.rf⟩
  have E : cE p c cX11_mute s m ([.ref (ad o), .int a0, .int a1] : List Value).toArray (Cond.code yX11_mute cX11_mute 4 (some .boolean) :: wsA) D RX11 (CT cI cJ cZ cMic cSrc cSt cAI cAJ) := ⟨hx, hb, hts, hown, hK⟩
  have htab : ∀ x ∈ c.exceptionTable.toList, False := fun x hx => htab x hx
  have hl : lv_has ls 4 [(0, .ref (ad o)), (1, .int a0), (2, .int a1)] := hl
  have hgl := GL.rf T
  have had : ∀ n, n < T.1 → ad n = ad n := fun _ _ => rfl
  have hT1 := s_X11_mute h
  have hcs := cs_okx hgl hT1
  have hcx := cs_okx1 hgl hT1
  refine w_cast (Nat.sub_self T.1).symm (Nat.sub_self (sg T)).symm ?_
  have cp0 := cpr0 hrc
  unfold g_X11_mute at h
  refine lv_aload_n hx hb dX11_mute_0 rfl (lv_at hl 0 rfl) ?_
  obtain ⟨g2, h⟩ := oif_some h
  rcases othr_t h with ⟨r0, eT3⟩ | ⟨r5, T3, eT3, h⟩
  · refine q_xvv (As := []) (rest := []) E G hA hX hN hml (x_X11_needCamera l hst D cI cJ cZ cMic cSrc cSt cAI cAJ ad T o eT3) (cwV 0 hts (gaV qA_728 qA_729 qA_730 qA_131 qA_731) rfl rfl rfl (by decide +kernel) ⟨Nat.le_of_ble_eq_true rfl, Nat.le_of_ble_eq_true rfl⟩) (oO_k g2).1 (cc_o11 (oO_k g2).2) rfl rfl hl.1 rfl (lv_room (Nat.le_of_ble_eq_true rfl)) dX11_mute_1 hcx (fun E9 ce q9 T9 H locs hp G hce hcv hcl => ?_)
    obtain ⟨hE, hT⟩ := hp
    subst hE
    rw [hT] at G
    exact vx_out (fun x hx => (htab x hx).elim) hlocks hce hcv hcl (fun t ht hvm => ⟨(T1, ad), trivial, ⟨⟨rfl, rfl, had⟩, by rw [ht]; exact G.1, va_K.moved hvm hK, G.2.1⟩, G.2.2.F ht⟩) G.2.2.2.2 hcx.1 hcx.2
  refine q_cvv (As := []) (rest := []) E G hA hX hN hml (u_X11_needCamera l hst D cI cJ cZ cMic cSrc cSt cAI cAJ ad T o eT3) (cwV 0 hts (gaV qA_728 qA_729 qA_730 qA_131 qA_731) rfl rfl rfl (by decide +kernel) ⟨Nat.le_of_ble_eq_true rfl, Nat.le_of_ble_eq_true rfl⟩) (oO_k g2).1 (cc_o11 (oO_k g2).2) rfl rfl hl.1 rfl (lv_room (Nat.le_of_ble_eq_true rfl)) dX11_mute_1 hcs (fun T4 H locs hq G => ?_)
  rw [hq] at G
  clear hq
  have cp1 := cpr_sp cp0 (s_X11_needCamera eT3)
  refine lv_aload_n hx hb dX11_mute_4 rfl (lv_at hl 0 rfl) ?_
  refine lv_iload_n hx hb dX11_mute_5 rfl (lv_at hl 1 rfl) ?_
  obtain ⟨g7, h⟩ := oif_some h
  rcases othr_t h with ⟨r0, eT8⟩ | ⟨r10, T8, eT8, h⟩
  · refine q_xvv (As := [.int a0]) (rest := []) E G hA hX hN hml (x_X11_needMic l hst D cI cJ cZ cMic cSrc cSt cAI cAJ ad T3 o a0 eT8) (cwV 1 hts (gaV qA_734 qA_735 qA_736 qA_131 qA_737) rfl rfl rfl (by decide +kernel) ⟨Nat.le_of_ble_eq_true rfl, Nat.le_of_ble_eq_true rfl⟩) (oO_k g7).1 (cc_o11 (oO_k g7).2) rfl rfl hl.1 rfl (lv_room (Nat.le_of_ble_eq_true rfl)) dX11_mute_6 hcx (fun E9 ce q9 T9 H locs hp G hce hcv hcl => ?_)
    obtain ⟨hE, hT⟩ := hp
    subst hE
    rw [hT] at G
    exact vx_out (fun x hx => (htab x hx).elim) hlocks hce hcv hcl (fun t ht hvm => ⟨(T1, ad), trivial, ⟨⟨rfl, rfl, had⟩, by rw [ht]; exact G.1, va_K.moved hvm hK, G.2.1⟩, G.2.2.F ht⟩) G.2.2.2.2 hcx.1 hcx.2
  refine q_cvv (As := [.int a0]) (rest := []) E G hA hX hN hml (u_X11_needMic l hst D cI cJ cZ cMic cSrc cSt cAI cAJ ad T3 o a0 eT8) (cwV 1 hts (gaV qA_734 qA_735 qA_736 qA_131 qA_737) rfl rfl rfl (by decide +kernel) ⟨Nat.le_of_ble_eq_true rfl, Nat.le_of_ble_eq_true rfl⟩) (oO_k g7).1 (cc_o11 (oO_k g7).2) rfl rfl hl.1 rfl (lv_room (Nat.le_of_ble_eq_true rfl)) dX11_mute_6 hcs (fun T9 H locs hq G => ?_)
  rw [hq] at G
  clear hq
  have cp2 := cpr_sp cp1 (s_X11_needMic eT8)
  refine lv_aload_n hx hb dX11_mute_9 rfl (lv_at hl 0 rfl) ?_
  obtain ⟨g12, h⟩ := oif_some h
  obtain ⟨n13, en13, h⟩ := obind_some h
  have h_n13 : n13 < T.1 := by rw [← cp2.1]; exact cp2.2.2 _ _ _ en13
  refine c_get E G o 6 (v := .ref (ad n13)) (oO_k g12).1 (cc_o11 (oO_k g12).2) rfl (fun w h => .tail _ (iA_23 h)) (by decide) (.tail _ qA_664) rfl (by rw [en13]; rfl) dX11_mute_10 ?_
  clear en13
  obtain ⟨g14, h⟩ := oif_some h
  obtain ⟨n15, en15, h⟩ := obind_some h
  have h_n15 : n15 < T.1 := by rw [← cp2.1]; exact cp2.2.2 _ _ _ en15
  refine c_get E G n13 3 (v := .ref (ad n15)) (oO_k g14).1 (cc_o8 (oO_k g14).2) rfl (fun w h => .tail _ (iA_16 h)) (by decide) (.tail _ qA_746) rfl (by rw [en15]; rfl) dX11_mute_13 ?_
  clear en15
  refine lv_iload_n hx hb dX11_mute_16 rfl (lv_at hl 1 rfl) ?_
  obtain ⟨g16, h⟩ := oif_some h
  obtain ⟨g17, h⟩ := oif_some h
  refine c_zald E G n15 2 (k := a0.toNatClampNeg) (aA_k g16).1 (cc_a102 (aA_k g16).2.1) rfl (inb_k g17).1 (inb_k g17).2 (aA_k g16).2.2 dX11_mute_17 ?_
  refine lv_topi (fun v18 ev18 => ?_)
  have h := elet_at ev18 h
  clear ev18
  refine lv_istore_n (lv' := [(3, .int v18), (0, .ref (ad o)), (1, .int a0), (2, .int a1)]) hx hb dX11_mute_18 rfl hl (by decide) rfl (fun ls hl => ?_)
  refine lv_aload_n hx hb dX11_mute_19 rfl (lv_at hl 1 rfl) ?_
  obtain ⟨g19, h⟩ := oif_some h
  obtain ⟨T20, eT20, h⟩ := obind_some h
  have hg2 := s_X11_keepForUndo eT20
  have hrc2 := hg2.2.2 cp2.2.2
  have hT2 := s_X11_mute_b23 _ _ _ _ _ h
  refine q_avv (As := []) (rest := []) E G hA hX hN hml (a_X11_keepForUndo l hst D cI cJ cZ cMic cSrc cSt cAI cAJ ad T8 o eT20 cp2.2.2 (by rw [cp2.1]; exact h_o)) (cwV 0 hts (gaV qA_925 qA_926 qA_927 qA_131 qA_928) rfl rfl rfl (by decide +kernel) ⟨Nat.le_of_ble_eq_true rfl, Nat.le_of_ble_eq_true rfl⟩) (oO_k g19).1 (cc_o11 (oO_k g19).2) rfl rfl hl.1 rfl (lv_room (Nat.le_of_ble_eq_true rfl)) dX11_mute_20 (cs_avx hgl cp2 hg2 hT2) (fun ad2 H locs hga G => ?_)
  refine w_cast (c2 := T20.1 - T.1) (s2 := sg T20 - sg T) (cs_f1 hgl cp2 hg2) (cs_f2 hgl cp2 hg2) ?_
  have hl := lv_sub hl [1, 2, 3, 0] rfl
  rw [show ad o = ad2 o from (hga o (by rw [cp2.1]; exact h_o)).symm] at hl
  exact b_X11_mute_b23 E hA hX hN hml hst htab hlocks (fun ad H locs t had G hvm h1 h2 => ⟨(T1, ad), trivial, ⟨⟨rfl, rfl, had⟩, (c_thrown G hK hvm h1 h2).1⟩, (c_thrown G hK hvm h1 h2).2⟩) _ _ _ _ _ _ _ _ _ h (GL.tr (gl_cpr hgl cp2) hg2) hrc2 (fun n hn => (hga n (by rw [cp2.1]; exact Nat.lt_of_lt_of_le hn hgl.1)).trans (had n hn)) (Nat.lt_of_lt_of_le (by rw [cp2.1]; exact h_o) hg2.1) G hl
def g_X11_setWeight_b30  (T : AT) (l0 : Nat) (l1 : Int32) (l2 : Int32) (l3 : Int32) : Option (Nat × Int32 × AT) := oif (oO T l0 11 = true) <| obind (T.2.2.2.2 l0 6) fun n3 => oif (oO T n3 8 = true) <| obind (T.2.2.2.2 n3 4) fun n5 => oif (aA T n5 100 = true) <| oif (inb l1 (T.2.1 n5).2 = true) <| elet (uI T n5 l1.toNatClampNeg l2) fun T8 => some (0, l3, T8)
def g_X11_setWeight (T : AT) (o : Nat) (a0 : Int32) (a1 : Int32) : Option (Nat × Int32 × AT) := oif (oO T o 11 = true) <| othr (g_X11_needCamera T o) 0 fun r5 T3 => oif (oO T3 o 11 = true) <| othr (g_X11_needMic T3 o a0) 0 fun r10 T8 => othr (g_X11_needRange T8 a1 (0 : Int32) (9 : Int32)) 0 fun r14 T12 => oif (oO T12 o 11 = true) <| obind (T12.2.2.2.2 o 6) fun n17 => oif (oO T12 n17 8 = true) <| obind (T12.2.2.2.2 n17 4) fun n19 => oif (aA T12 n19 100 = true) <| oif (inb a0 (T12.2.1 n19).2 = true) <| elet (T12.2.2.1 n19 a0.toNatClampNeg) fun v22 => oif (oO T12 o 11 = true) <| obind (g_X11_keepForUndo T12 o) fun T24 => g_X11_setWeight_b30 T24 o a0 a1 v22
set_option maxHeartbeats 4000000 in
set_option maxRecDepth 100000 in
theorem s_X11_setWeight_b30 {e1 : Nat} {r1 : Int32} {T1 : AT} : ∀ (T : AT) (l0 : Nat) (l1 : Int32) (l2 : Int32) (l3 : Int32), g_X11_setWeight_b30 T l0 l1 l2 l3 = some (e1, r1, T1) → GL T T1 := by
  intro T l0 l1 l2 l3 h
  have p0 := GL.rf T
  unfold g_X11_setWeight_b30 at h
  obtain ⟨g2, h⟩ := oif_some h
  obtain ⟨n3, en3, h⟩ := obind_some h
  obtain ⟨g4, h⟩ := oif_some h
  obtain ⟨n5, en5, h⟩ := obind_some h
  obtain ⟨g6, h⟩ := oif_some h
  obtain ⟨g7, h⟩ := oif_some h
  obtain ⟨T8, eT8, h⟩ := elet_some h
  have p1 : GL T T8 := GL.tr p0 (by rw [eT8]; exact gl_sp sp_uI)
  rw [← (osome3 h).2.2]
  exact p1
set_option maxHeartbeats 4000000 in
set_option maxRecDepth 100000 in
theorem s_X11_setWeight {T : AT} {o : Nat} {a0 : Int32} {a1 : Int32} {e1 : Nat} {r1 : Int32} {T1 : AT} (h : g_X11_setWeight T o a0 a1 = some (e1, r1, T1)) : GL T T1 := by
  have p0 := GL.rf T
  unfold g_X11_setWeight at h
  obtain ⟨g2, h⟩ := oif_some h
  rcases othr_s h with ⟨k9, r9, e9, -⟩ | ⟨r4, T3, eT3, h⟩
  · exact GL.tr p0 (gl_sp (s_X11_needCamera e9))
  have p1 : GL T T3 := GL.tr p0 (gl_sp (s_X11_needCamera eT3))
  obtain ⟨g5, h⟩ := oif_some h
  rcases othr_s h with ⟨k9, r9, e9, -⟩ | ⟨r7, T6, eT6, h⟩
  · exact GL.tr p1 (gl_sp (s_X11_needMic e9))
  have p2 : GL T T6 := GL.tr p1 (gl_sp (s_X11_needMic eT6))
  rcases othr_s h with ⟨k9, r9, e9, -⟩ | ⟨r9, T8, eT8, h⟩
  · exact GL.tr p2 (gl_sp (s_X11_needRange e9))
  have p3 : GL T T8 := GL.tr p2 (gl_sp (s_X11_needRange eT8))
  obtain ⟨g10, h⟩ := oif_some h
  obtain ⟨n11, en11, h⟩ := obind_some h
  obtain ⟨g12, h⟩ := oif_some h
  obtain ⟨n13, en13, h⟩ := obind_some h
  obtain ⟨g14, h⟩ := oif_some h
  obtain ⟨g15, h⟩ := oif_some h
  obtain ⟨v16, -, h⟩ := elet_some h
  obtain ⟨g17, h⟩ := oif_some h
  obtain ⟨T18, eT18, h⟩ := obind_some h
  have p4 : GL T T18 := GL.tr p3 (s_X11_keepForUndo eT18)
  exact GL.tr p4 (s_X11_setWeight_b30 _ _ _ _ _ h)
set_option maxHeartbeats 4000000 in
set_option maxRecDepth 100000 in
theorem a_X11_setWeight_b30 {p : Program} {l : Launch} {e : Env} {s : State} {m : MethodId} {args : Array Value} {below : List Frame} {meth : Method} {c : Code} {Q : State → Prop} {D : va_G} {A : Nat → Prop} {cI cJ cZ cMic cSrc cSt cAI cAJ : ClassId} {ad0 : Nat → Nat} {T0 : AT} {r1 : Int32} {T1 : AT} (E : cE p c cX11_setWeight s m args (Cond.code yX11_setWeight cX11_setWeight 4 (some .int) :: wsA) D RX11 (CT cI cJ cZ cMic cSrc cSt cAI cAJ)) (hA : ∀ q : Nat, s.heap.size ≤ q → A q) (hX : xT A s) (hN : nX s) (hml : c.maxLocals = 4) (hst : l.stackTraces = false) (kr41 : ∀ (ad : Nat → Nat) (H : Heap) (locs : List Loc) (ls : Array Slot), (∀ n, n < T0.1 → ad n = ad0 n) → gC cI cJ cZ cMic cSrc cSt cAI cAJ D ad A s.heap H locs T1 → W p l e { frames := 8, cells := T1.1 - T0.1, slots := sg T1 - sg T0, locals := 123 } s m args below meth c H locs (T1.1 - T0.1) (sg T1 - sg T0) Q (F0 m 41 ls [.int r1])) : ∀ (T : AT) (ad : Nat → Nat) (H : Heap) (locs : List Loc) (ls : Array Slot) (l0 : Nat) (l1 : Int32) (l2 : Int32) (l3 : Int32), g_X11_setWeight_b30 T l0 l1 l2 l3 = some (0, r1, T1) → GL T0 T → RC T → (∀ n, n < T0.1 → ad n = ad0 n) → l0 < T.1 → gC cI cJ cZ cMic cSrc cSt cAI cAJ D ad A s.heap H locs T → lv_has ls 4 [(0, .ref (ad l0)), (1, .int l1), (2, .int l2), (3, .int l3)] → W p l e { frames := 8, cells := T1.1 - T0.1, slots := sg T1 - sg T0, locals := 123 } s m args below meth c H locs (T.1 - T0.1) (sg T - sg T0) Q (F0 m 30 ls []) := by
  have hx := E.1
  have hb := E.2.1
  have hts := E.2.2.1
  have hown := E.2.2.2.1
  have hK := E.2.2.2.2
  intro T ad H locs ls l0 l1 l2 l3 h hgl hrc had h_l0 G hl
  have hT1 := s_X11_setWeight_b30 _ _ _ _ _ h
  have hcs := cs_ok hgl hT1
  have cp0 := cpr0 hrc
  unfold g_X11_setWeight_b30 at h
  refine lv_aload_n hx hb dX11_setWeight_30 rfl (lv_at hl 0 rfl) ?_
  obtain ⟨g2, h⟩ := oif_some h
  obtain ⟨n3, en3, h⟩ := obind_some h
  have h_n3 : n3 < T.1 := by rw [← cp0.1]; exact cp0.2.2 _ _ _ en3
  refine c_get E G l0 6 (v := .ref (ad n3)) (oO_k g2).1 (cc_o11 (oO_k g2).2) rfl (fun w h => .tail _ (iA_23 h)) (by decide) (.tail _ qA_664) rfl (by rw [en3]; rfl) dX11_setWeight_31 ?_
  clear en3
  obtain ⟨g4, h⟩ := oif_some h
  obtain ⟨n5, en5, h⟩ := obind_some h
  have h_n5 : n5 < T.1 := by rw [← cp0.1]; exact cp0.2.2 _ _ _ en5
  refine c_get E G n3 4 (v := .ref (ad n5)) (oO_k g4).1 (cc_o8 (oO_k g4).2) rfl (fun w h => .tail _ (iA_16 h)) (by decide) (.tail _ qA_727) rfl (by rw [en5]; rfl) dX11_setWeight_34 ?_
  clear en5
  refine lv_iload_n hx hb dX11_setWeight_37 rfl (lv_at hl 1 rfl) ?_
  refine lv_iload_n hx hb dX11_setWeight_38 rfl (lv_at hl 2 rfl) ?_
  obtain ⟨g6, h⟩ := oif_some h
  obtain ⟨g7, h⟩ := oif_some h
  refine c_iast E G n5 0 (k := l1.toNatClampNeg) (v := l2) (aA_k g6).1 (cc_a100 (aA_k g6).2.1) rfl (inb_k g7).1 (inb_k g7).2 (aA_k g6).2.2 dX11_setWeight_39 (fun H locs G => ?_)
  have G := gC_up_i (f := upd (T.2.2.1 n5) l1.toNatClampNeg l2) (ccv_100 (aA_k g6).2.1) G
  obtain ⟨T8, eT8, h⟩ := elet_some h
  have G : gC cI cJ cZ cMic cSrc cSt cAI cAJ D ad A s.heap H locs T8 := by rw [eT8]; exact G
  have cp1 := show CPR T T8 from by rw [eT8]; exact cpr_sp cp0 sp_uI
  clear eT8
  refine lv_iload_n hx hb dX11_setWeight_40 rfl (lv_at hl 3 rfl) ?_
  rw [(osome3 h).2.2] at G
  refine w_cast (c2 := T1.1 - T0.1) (s2 := sg T1 - sg T0) (by rw [← (osome3 h).2.2, cp1.1] <;> rfl) (by rw [← (osome3 h).2.2, sg_cpr cp1] <;> rfl) ?_
  refine lv_to ((osome3 h).2.1) ?_
  exact kr41 ad _ _ _ had G
set_option maxHeartbeats 4000000 in
set_option maxRecDepth 100000 in
theorem a_X11_setWeight (l : Launch) (hst : l.stackTraces = false) (D : va_G) (cI cJ cZ cMic cSrc cSt cAI cAJ : ClassId) (ad : Nat → Nat) (T : AT) (o : Nat) (a0 : Int32) (a1 : Int32) {r1 : Int32} {T1 : AT} (h : g_X11_setWeight T o a0 a1 = some (0, r1, T1)) (hrc : RC T) (h_o : o < T.1) : kAi l yX11_setWeight (Cond.code yX11_setWeight cX11_setWeight 4 (some .int) :: wsA) 8 123 cI cJ cZ cMic cSrc cSt cAI cAJ D ad T [.ref (ad o), .int a0, .int a1] r1 T1 := by
  intro sz
  refine pro_in (cc := cX11_setWeight) (maxL := 4) (ret := (some .int)) (by exact pn_RX11) rfl (by exact Nat.le_of_ble_eq_true rfl) (fun p e s m below meth c ls hx hb hr hts hown hlocks hml hv hl => ?_)
  obtain ⟨hsz, hP, hK, hD0, hX, hN⟩ := hv
  subst hsz
  have hD := hD0.self (sz := s.heap.size)
  generalize hAe : va_A (cW ad T.1 (cc cI cJ cZ cMic cSrc cSt cAI cAJ ad T)) s.heap.size = A at hD hX ⊢
  have hA : ∀ q : Nat, s.heap.size ≤ q → A q := fun q h => by rw [← hAe]; exact Or.inr h
  have G : gC cI cJ cZ cMic cSrc cSt cAI cAJ D ad A s.heap s.heap [] T := ⟨hP, hD, va_S.rf⟩
  have E : cE p c cX11_setWeight s m ([.ref (ad o), .int a0, .int a1] : List Value).toArray (Cond.code yX11_setWeight cX11_setWeight 4 (some .int) :: wsA) D RX11 (CT cI cJ cZ cMic cSrc cSt cAI cAJ) := ⟨hx, hb, hts, hown, hK⟩
  have hl : lv_has ls 4 [(0, .ref (ad o)), (1, .int a0), (2, .int a1)] := hl
  have hgl := GL.rf T
  have had : ∀ n, n < T.1 → ad n = ad n := fun _ _ => rfl
  have hT1 := s_X11_setWeight h
  have hcs := cs_ok hgl hT1
  refine w_cast (Nat.sub_self T.1).symm (Nat.sub_self (sg T)).symm ?_
  have cp0 := cpr0 hrc
  unfold g_X11_setWeight at h
  refine lv_aload_n hx hb dX11_setWeight_0 rfl (lv_at hl 0 rfl) ?_
  obtain ⟨g2, h⟩ := oif_some h
  obtain ⟨r5, T3, eT3, h⟩ := othr_n h
  refine q_cvv (As := []) (rest := []) E G hA hX hN hml (u_X11_needCamera l hst D cI cJ cZ cMic cSrc cSt cAI cAJ ad T o eT3) (cwV 0 hts (gaV qA_728 qA_729 qA_730 qA_131 qA_731) rfl rfl rfl (by decide +kernel) ⟨Nat.le_of_ble_eq_true rfl, Nat.le_of_ble_eq_true rfl⟩) (oO_k g2).1 (cc_o11 (oO_k g2).2) rfl rfl hl.1 rfl (lv_room (Nat.le_of_ble_eq_true rfl)) dX11_setWeight_1 hcs (fun T4 H locs hq G => ?_)
  rw [hq] at G
  clear hq
  have cp1 := cpr_sp cp0 (s_X11_needCamera eT3)
  refine lv_aload_n hx hb dX11_setWeight_4 rfl (lv_at hl 0 rfl) ?_
  refine lv_iload_n hx hb dX11_setWeight_5 rfl (lv_at hl 1 rfl) ?_
  obtain ⟨g7, h⟩ := oif_some h
  obtain ⟨r10, T8, eT8, h⟩ := othr_n h
  refine q_cvv (As := [.int a0]) (rest := []) E G hA hX hN hml (u_X11_needMic l hst D cI cJ cZ cMic cSrc cSt cAI cAJ ad T3 o a0 eT8) (cwV 1 hts (gaV qA_734 qA_735 qA_736 qA_131 qA_737) rfl rfl rfl (by decide +kernel) ⟨Nat.le_of_ble_eq_true rfl, Nat.le_of_ble_eq_true rfl⟩) (oO_k g7).1 (cc_o11 (oO_k g7).2) rfl rfl hl.1 rfl (lv_room (Nat.le_of_ble_eq_true rfl)) dX11_setWeight_6 hcs (fun T9 H locs hq G => ?_)
  rw [hq] at G
  clear hq
  have cp2 := cpr_sp cp1 (s_X11_needMic eT8)
  refine lv_iload_n hx hb dX11_setWeight_9 rfl (lv_at hl 2 rfl) ?_
  refine lv_iconst (v := 0) hx hb dX11_setWeight_10 (by decide) ?_
  refine lv_bipush (v := 9) hx hb dX11_setWeight_11 (by decide) ?_
  obtain ⟨r14, T12, eT12, h⟩ := othr_n h
  refine q_csv (As := [.int a1, .int 0, .int 9]) (rest := []) E G hA hX hN hml (u_X11_needRange l hst D cI cJ cZ cMic cSrc cSt cAI cAJ ad T8 a1 (0 : Int32) (9 : Int32) eT12) (cwS 3 hts (gaS qA_741 qA_742 qA_131 qA_743) rfl rfl rfl (by decide +kernel) ⟨Nat.le_of_ble_eq_true rfl, Nat.le_of_ble_eq_true rfl⟩) rfl hl.1 rfl (lv_room (Nat.le_of_ble_eq_true rfl)) dX11_setWeight_13 hcs (fun T13 H locs hq G => ?_)
  rw [hq] at G
  clear hq
  have cp3 := cpr_sp cp2 (s_X11_needRange eT12)
  refine lv_aload_n hx hb dX11_setWeight_16 rfl (lv_at hl 0 rfl) ?_
  obtain ⟨g16, h⟩ := oif_some h
  obtain ⟨n17, en17, h⟩ := obind_some h
  have h_n17 : n17 < T.1 := by rw [← cp3.1]; exact cp3.2.2 _ _ _ en17
  refine c_get E G o 6 (v := .ref (ad n17)) (oO_k g16).1 (cc_o11 (oO_k g16).2) rfl (fun w h => .tail _ (iA_23 h)) (by decide) (.tail _ qA_664) rfl (by rw [en17]; rfl) dX11_setWeight_17 ?_
  clear en17
  obtain ⟨g18, h⟩ := oif_some h
  obtain ⟨n19, en19, h⟩ := obind_some h
  have h_n19 : n19 < T.1 := by rw [← cp3.1]; exact cp3.2.2 _ _ _ en19
  refine c_get E G n17 4 (v := .ref (ad n19)) (oO_k g18).1 (cc_o8 (oO_k g18).2) rfl (fun w h => .tail _ (iA_16 h)) (by decide) (.tail _ qA_727) rfl (by rw [en19]; rfl) dX11_setWeight_20 ?_
  clear en19
  refine lv_iload_n hx hb dX11_setWeight_23 rfl (lv_at hl 1 rfl) ?_
  obtain ⟨g20, h⟩ := oif_some h
  obtain ⟨g21, h⟩ := oif_some h
  refine c_iald E G n19 0 (k := a0.toNatClampNeg) (aA_k g20).1 (cc_a100 (aA_k g20).2.1) rfl (inb_k g21).1 (inb_k g21).2 (aA_k g20).2.2 dX11_setWeight_24 ?_
  refine lv_topi (fun v22 ev22 => ?_)
  have h := elet_at ev22 h
  clear ev22
  refine lv_istore_n (lv' := [(3, .int v22), (0, .ref (ad o)), (1, .int a0), (2, .int a1)]) hx hb dX11_setWeight_25 rfl hl (by decide) rfl (fun ls hl => ?_)
  refine lv_aload_n hx hb dX11_setWeight_26 rfl (lv_at hl 1 rfl) ?_
  obtain ⟨g23, h⟩ := oif_some h
  obtain ⟨T24, eT24, h⟩ := obind_some h
  have hg2 := s_X11_keepForUndo eT24
  have hrc2 := hg2.2.2 cp3.2.2
  have hT2 := s_X11_setWeight_b30 _ _ _ _ _ h
  refine q_avv (As := []) (rest := []) E G hA hX hN hml (a_X11_keepForUndo l hst D cI cJ cZ cMic cSrc cSt cAI cAJ ad T12 o eT24 cp3.2.2 (by rw [cp3.1]; exact h_o)) (cwV 0 hts (gaV qA_925 qA_926 qA_927 qA_131 qA_928) rfl rfl rfl (by decide +kernel) ⟨Nat.le_of_ble_eq_true rfl, Nat.le_of_ble_eq_true rfl⟩) (oO_k g23).1 (cc_o11 (oO_k g23).2) rfl rfl hl.1 rfl (lv_room (Nat.le_of_ble_eq_true rfl)) dX11_setWeight_27 (cs_av hgl cp3 hg2 hT2) (fun ad2 H locs hga G => ?_)
  refine w_cast (c2 := T24.1 - T.1) (s2 := sg T24 - sg T) (cs_f1 hgl cp3 hg2) (cs_f2 hgl cp3 hg2) ?_
  have hl := lv_sub hl [1, 2, 3, 0] rfl
  rw [show ad o = ad2 o from (hga o (by rw [cp3.1]; exact h_o)).symm] at hl
  exact a_X11_setWeight_b30 E hA hX hN hml hst (fun ad H locs ls had G => W.iret (v := r1) hx hb hr (fun t ht hW => ⟨⟨r1, (T1, ad), rfl, ⟨rfl, rfl, had⟩, ⟨by rw [ht]; exact G.1, va_K.moved hW.alike hK, G.2.1⟩⟩, G.2.2.F ht⟩) G.2.2.2.2 dX11_setWeight_41) _ _ _ _ _ _ _ _ _ h (GL.tr (gl_cpr hgl cp3) hg2) hrc2 (fun n hn => (hga n (by rw [cp3.1]; exact Nat.lt_of_lt_of_le hn hgl.1)).trans (had n hn)) (Nat.lt_of_lt_of_le (by rw [cp3.1]; exact h_o) hg2.1) G hl
set_option maxHeartbeats 4000000 in
set_option maxRecDepth 100000 in
theorem b_X11_setWeight_b30 {p : Program} {l : Launch} {e : Env} {s : State} {m : MethodId} {args : Array Value} {below : List Frame} {meth : Method} {c : Code} {Qc : Array Value → State → Outcome → State → Prop} {XC : String → State → State → Prop} {D : va_G} {A : Nat → Prop} {cI cJ cZ cMic cSrc cSt cAI cAJ : ClassId} {ad0 : Nat → Nat} {T0 : AT} {e1 : Nat} {r1 : Int32} {T1 : AT} (E : cE p c cX11_setWeight s m args (Cond.code yX11_setWeight cX11_setWeight 4 (some .int) :: wsA) D RX11 (CT cI cJ cZ cMic cSrc cSt cAI cAJ)) (hA : ∀ q : Nat, s.heap.size ≤ q → A q) (hX : xT A s) (hN : nX s) (hml : c.maxLocals = 4) (hst : l.stackTraces = false) (htab : ∀ x ∈ c.exceptionTable.toList, False) (hlocks : meth.locks = false) (kx : ∀ (ad : Nat → Nat) (H : Heap) (locs : List Loc) (t : State), (∀ n, n < T0.1 → ad n = ad0 n) → gC cI cJ cZ cMic cSrc cSt cAI cAJ D ad A s.heap H locs T1 → s.vm.Alike t.vm → H.size ≤ t.heap.size → (∀ q, q < H.size → t.heap[q]? = H[q]?) → XC (exn e1) s t) : ∀ (T : AT) (ad : Nat → Nat) (H : Heap) (locs : List Loc) (ls : Array Slot) (l0 : Nat) (l1 : Int32) (l2 : Int32) (l3 : Int32), g_X11_setWeight_b30 T l0 l1 l2 l3 = some (e1 + 1, r1, T1) → GL T0 T → RC T → (∀ n, n < T0.1 → ad n = ad0 n) → l0 < T.1 → gC cI cJ cZ cMic cSrc cSt cAI cAJ D ad A s.heap H locs T → lv_has ls 4 [(0, .ref (ad l0)), (1, .int l1), (2, .int l2), (3, .int l3)] → W p l e { frames := 8, cells := T1.1 - T0.1 + 1, slots := sg T1 - sg T0 + 6, locals := 123 } s m args below meth c H locs (T.1 - T0.1) (sg T - sg T0) (vx_MQ below Qc XC args s (T1.1 - T0.1 + 1) (sg T1 - sg T0 + 6) A) (F0 m 30 ls []) := by
  have hx := E.1
  have hb := E.2.1
  have hts := E.2.2.1
  have hown := E.2.2.2.1
  have hK := E.2.2.2.2
  intro T ad H locs ls l0 l1 l2 l3 h hgl hrc had h_l0 G hl
  have hT1 := s_X11_setWeight_b30 _ _ _ _ _ h
  have hcs := cs_okx hgl hT1
  have hcx := cs_okx1 hgl hT1
  have cp0 := cpr0 hrc
  unfold g_X11_setWeight_b30 at h
  refine lv_aload_n hx hb dX11_setWeight_30 rfl (lv_at hl 0 rfl) ?_
  obtain ⟨g2, h⟩ := oif_some h
  obtain ⟨n3, en3, h⟩ := obind_some h
  have h_n3 : n3 < T.1 := by rw [← cp0.1]; exact cp0.2.2 _ _ _ en3
  refine c_get E G l0 6 (v := .ref (ad n3)) (oO_k g2).1 (cc_o11 (oO_k g2).2) rfl (fun w h => .tail _ (iA_23 h)) (by decide) (.tail _ qA_664) rfl (by rw [en3]; rfl) dX11_setWeight_31 ?_
  clear en3
  obtain ⟨g4, h⟩ := oif_some h
  obtain ⟨n5, en5, h⟩ := obind_some h
  have h_n5 : n5 < T.1 := by rw [← cp0.1]; exact cp0.2.2 _ _ _ en5
  refine c_get E G n3 4 (v := .ref (ad n5)) (oO_k g4).1 (cc_o8 (oO_k g4).2) rfl (fun w h => .tail _ (iA_16 h)) (by decide) (.tail _ qA_727) rfl (by rw [en5]; rfl) dX11_setWeight_34 ?_
  clear en5
  refine lv_iload_n hx hb dX11_setWeight_37 rfl (lv_at hl 1 rfl) ?_
  refine lv_iload_n hx hb dX11_setWeight_38 rfl (lv_at hl 2 rfl) ?_
  obtain ⟨g6, h⟩ := oif_some h
  obtain ⟨g7, h⟩ := oif_some h
  refine c_iast E G n5 0 (k := l1.toNatClampNeg) (v := l2) (aA_k g6).1 (cc_a100 (aA_k g6).2.1) rfl (inb_k g7).1 (inb_k g7).2 (aA_k g6).2.2 dX11_setWeight_39 (fun H locs G => ?_)
  have G := gC_up_i (f := upd (T.2.2.1 n5) l1.toNatClampNeg l2) (ccv_100 (aA_k g6).2.1) G
  obtain ⟨T8, eT8, h⟩ := elet_some h
  have G : gC cI cJ cZ cMic cSrc cSt cAI cAJ D ad A s.heap H locs T8 := by rw [eT8]; exact G
  have cp1 := show CPR T T8 from by rw [eT8]; exact cpr_sp cp0 sp_uI
  clear eT8
  refine lv_iload_n hx hb dX11_setWeight_40 rfl (lv_at hl 3 rfl) ?_
  exact (Nat.succ_ne_zero _ (congrArg Prod.fst (Option.some.inj h)).symm).elim
set_option maxHeartbeats 4000000 in
set_option maxRecDepth 100000 in
theorem b_X11_setWeight (l : Launch) (hst : l.stackTraces = false) (D : va_G) (cI cJ cZ cMic cSrc cSt cAI cAJ : ClassId) (ad : Nat → Nat) (T : AT) (o : Nat) (a0 : Int32) (a1 : Int32) {e1 : Nat} {r1 : Int32} {T1 : AT} (h : g_X11_setWeight T o a0 a1 = some (e1 + 1, r1, T1)) (hrc : RC T) (h_o : o < T.1) : kAXi l yX11_setWeight (Cond.code yX11_setWeight cX11_setWeight 4 (some .int) :: wsA) 8 123 cI cJ cZ cMic cSrc cSt cAI cAJ D ad T [.ref (ad o), .int a0, .int a1] e1 T1 := by
  intro sz
  refine pro_inX (cc := cX11_setWeight) (maxL := 4) (ret := (some .int)) (by exact pn_RX11) rfl (by exact Nat.le_of_ble_eq_true rfl) (fun p e s m below meth c ls hx hb hr hts hown hlocks htab hml hv hl => ?_)
  obtain ⟨hsz, hP, hK, hD0, hX, hN⟩ := hv
  subst hsz
  have hD := hD0.self (sz := s.heap.size)
  generalize hAe : va_A (cW ad T.1 (cc cI cJ cZ cMic cSrc cSt cAI cAJ ad T)) s.heap.size = A at hD hX ⊢
  have hA : ∀ q : Nat, s.heap.size ≤ q → A q := fun q h => by rw [← hAe]; exact Or.inr h
  have G : gC cI cJ cZ cMic cSrc cSt cAI cAJ D ad A s.heap s.heap [] T := ⟨hP, hD, va_S.rf⟩
  have E : cE p c cX11_setWeight s m ([.ref (ad o), .int a0, .int a1] : List Value).toArray (Cond.code yX11_setWeight cX11_setWeight 4 (some .int) :: wsA) D RX11 (CT cI cJ cZ cMic cSrc cSt cAI cAJ) := ⟨hx, hb, hts, hown, hK⟩
  have htab : ∀ x ∈ c.exceptionTable.toList, False := fun x hx => htab x hx
  have hl : lv_has ls 4 [(0, .ref (ad o)), (1, .int a0), (2, .int a1)] := hl
  have hgl := GL.rf T
  have had : ∀ n, n < T.1 → ad n = ad n := fun _ _ => rfl
  have hT1 := s_X11_setWeight h
  have hcs := cs_okx hgl hT1
  have hcx := cs_okx1 hgl hT1
  refine w_cast (Nat.sub_self T.1).symm (Nat.sub_self (sg T)).symm ?_
  have cp0 := cpr0 hrc
  unfold g_X11_setWeight at h
  refine lv_aload_n hx hb dX11_setWeight_0 rfl (lv_at hl 0 rfl) ?_
  obtain ⟨g2, h⟩ := oif_some h
  rcases othr_t h with ⟨r0, eT3⟩ | ⟨r5, T3, eT3, h⟩
  · refine q_xvv (As := []) (rest := []) E G hA hX hN hml (x_X11_needCamera l hst D cI cJ cZ cMic cSrc cSt cAI cAJ ad T o eT3) (cwV 0 hts (gaV qA_728 qA_729 qA_730 qA_131 qA_731) rfl rfl rfl (by decide +kernel) ⟨Nat.le_of_ble_eq_true rfl, Nat.le_of_ble_eq_true rfl⟩) (oO_k g2).1 (cc_o11 (oO_k g2).2) rfl rfl hl.1 rfl (lv_room (Nat.le_of_ble_eq_true rfl)) dX11_setWeight_1 hcx (fun E9 ce q9 T9 H locs hp G hce hcv hcl => ?_)
    obtain ⟨hE, hT⟩ := hp
    subst hE
    rw [hT] at G
    exact vx_out (fun x hx => (htab x hx).elim) hlocks hce hcv hcl (fun t ht hvm => ⟨(T1, ad), trivial, ⟨⟨rfl, rfl, had⟩, by rw [ht]; exact G.1, va_K.moved hvm hK, G.2.1⟩, G.2.2.F ht⟩) G.2.2.2.2 hcx.1 hcx.2
  refine q_cvv (As := []) (rest := []) E G hA hX hN hml (u_X11_needCamera l hst D cI cJ cZ cMic cSrc cSt cAI cAJ ad T o eT3) (cwV 0 hts (gaV qA_728 qA_729 qA_730 qA_131 qA_731) rfl rfl rfl (by decide +kernel) ⟨Nat.le_of_ble_eq_true rfl, Nat.le_of_ble_eq_true rfl⟩) (oO_k g2).1 (cc_o11 (oO_k g2).2) rfl rfl hl.1 rfl (lv_room (Nat.le_of_ble_eq_true rfl)) dX11_setWeight_1 hcs (fun T4 H locs hq G => ?_)
  rw [hq] at G
  clear hq
  have cp1 := cpr_sp cp0 (s_X11_needCamera eT3)
  refine lv_aload_n hx hb dX11_setWeight_4 rfl (lv_at hl 0 rfl) ?_
  refine lv_iload_n hx hb dX11_setWeight_5 rfl (lv_at hl 1 rfl) ?_
  obtain ⟨g7, h⟩ := oif_some h
  rcases othr_t h with ⟨r0, eT8⟩ | ⟨r10, T8, eT8, h⟩
  · refine q_xvv (As := [.int a0]) (rest := []) E G hA hX hN hml (x_X11_needMic l hst D cI cJ cZ cMic cSrc cSt cAI cAJ ad T3 o a0 eT8) (cwV 1 hts (gaV qA_734 qA_735 qA_736 qA_131 qA_737) rfl rfl rfl (by decide +kernel) ⟨Nat.le_of_ble_eq_true rfl, Nat.le_of_ble_eq_true rfl⟩) (oO_k g7).1 (cc_o11 (oO_k g7).2) rfl rfl hl.1 rfl (lv_room (Nat.le_of_ble_eq_true rfl)) dX11_setWeight_6 hcx (fun E9 ce q9 T9 H locs hp G hce hcv hcl => ?_)
    obtain ⟨hE, hT⟩ := hp
    subst hE
    rw [hT] at G
    exact vx_out (fun x hx => (htab x hx).elim) hlocks hce hcv hcl (fun t ht hvm => ⟨(T1, ad), trivial, ⟨⟨rfl, rfl, had⟩, by rw [ht]; exact G.1, va_K.moved hvm hK, G.2.1⟩, G.2.2.F ht⟩) G.2.2.2.2 hcx.1 hcx.2
  refine q_cvv (As := [.int a0]) (rest := []) E G hA hX hN hml (u_X11_needMic l hst D cI cJ cZ cMic cSrc cSt cAI cAJ ad T3 o a0 eT8) (cwV 1 hts (gaV qA_734 qA_735 qA_736 qA_131 qA_737) rfl rfl rfl (by decide +kernel) ⟨Nat.le_of_ble_eq_true rfl, Nat.le_of_ble_eq_true rfl⟩) (oO_k g7).1 (cc_o11 (oO_k g7).2) rfl rfl hl.1 rfl (lv_room (Nat.le_of_ble_eq_true rfl)) dX11_setWeight_6 hcs (fun T9 H locs hq G => ?_)
  rw [hq] at G
  clear hq
  have cp2 := cpr_sp cp1 (s_X11_needMic eT8)
  refine lv_iload_n hx hb dX11_setWeight_9 rfl (lv_at hl 2 rfl) ?_
  refine lv_iconst (v := 0) hx hb dX11_setWeight_10 (by decide) ?_
  refine lv_bipush (v := 9) hx hb dX11_setWeight_11 (by decide) ?_
  rcases othr_t h with ⟨r0, eT12⟩ | ⟨r14, T12, eT12, h⟩
  · refine q_xsv (As := [.int a1, .int 0, .int 9]) (rest := []) E G hA hX hN hml (x_X11_needRange l hst D cI cJ cZ cMic cSrc cSt cAI cAJ ad T8 a1 (0 : Int32) (9 : Int32) eT12) (cwS 3 hts (gaS qA_741 qA_742 qA_131 qA_743) rfl rfl rfl (by decide +kernel) ⟨Nat.le_of_ble_eq_true rfl, Nat.le_of_ble_eq_true rfl⟩) rfl hl.1 rfl (lv_room (Nat.le_of_ble_eq_true rfl)) dX11_setWeight_13 hcx (fun E9 ce q9 T9 H locs hp G hce hcv hcl => ?_)
    obtain ⟨hE, hT⟩ := hp
    subst hE
    rw [hT] at G
    exact vx_out (fun x hx => (htab x hx).elim) hlocks hce hcv hcl (fun t ht hvm => ⟨(T1, ad), trivial, ⟨⟨rfl, rfl, had⟩, by rw [ht]; exact G.1, va_K.moved hvm hK, G.2.1⟩, G.2.2.F ht⟩) G.2.2.2.2 hcx.1 hcx.2
  refine q_csv (As := [.int a1, .int 0, .int 9]) (rest := []) E G hA hX hN hml (u_X11_needRange l hst D cI cJ cZ cMic cSrc cSt cAI cAJ ad T8 a1 (0 : Int32) (9 : Int32) eT12) (cwS 3 hts (gaS qA_741 qA_742 qA_131 qA_743) rfl rfl rfl (by decide +kernel) ⟨Nat.le_of_ble_eq_true rfl, Nat.le_of_ble_eq_true rfl⟩) rfl hl.1 rfl (lv_room (Nat.le_of_ble_eq_true rfl)) dX11_setWeight_13 hcs (fun T13 H locs hq G => ?_)
  rw [hq] at G
  clear hq
  have cp3 := cpr_sp cp2 (s_X11_needRange eT12)
  refine lv_aload_n hx hb dX11_setWeight_16 rfl (lv_at hl 0 rfl) ?_
  obtain ⟨g16, h⟩ := oif_some h
  obtain ⟨n17, en17, h⟩ := obind_some h
  have h_n17 : n17 < T.1 := by rw [← cp3.1]; exact cp3.2.2 _ _ _ en17
  refine c_get E G o 6 (v := .ref (ad n17)) (oO_k g16).1 (cc_o11 (oO_k g16).2) rfl (fun w h => .tail _ (iA_23 h)) (by decide) (.tail _ qA_664) rfl (by rw [en17]; rfl) dX11_setWeight_17 ?_
  clear en17
  obtain ⟨g18, h⟩ := oif_some h
  obtain ⟨n19, en19, h⟩ := obind_some h
  have h_n19 : n19 < T.1 := by rw [← cp3.1]; exact cp3.2.2 _ _ _ en19
  refine c_get E G n17 4 (v := .ref (ad n19)) (oO_k g18).1 (cc_o8 (oO_k g18).2) rfl (fun w h => .tail _ (iA_16 h)) (by decide) (.tail _ qA_727) rfl (by rw [en19]; rfl) dX11_setWeight_20 ?_
  clear en19
  refine lv_iload_n hx hb dX11_setWeight_23 rfl (lv_at hl 1 rfl) ?_
  obtain ⟨g20, h⟩ := oif_some h
  obtain ⟨g21, h⟩ := oif_some h
  refine c_iald E G n19 0 (k := a0.toNatClampNeg) (aA_k g20).1 (cc_a100 (aA_k g20).2.1) rfl (inb_k g21).1 (inb_k g21).2 (aA_k g20).2.2 dX11_setWeight_24 ?_
  refine lv_topi (fun v22 ev22 => ?_)
  have h := elet_at ev22 h
  clear ev22
  refine lv_istore_n (lv' := [(3, .int v22), (0, .ref (ad o)), (1, .int a0), (2, .int a1)]) hx hb dX11_setWeight_25 rfl hl (by decide) rfl (fun ls hl => ?_)
  refine lv_aload_n hx hb dX11_setWeight_26 rfl (lv_at hl 1 rfl) ?_
  obtain ⟨g23, h⟩ := oif_some h
  obtain ⟨T24, eT24, h⟩ := obind_some h
  have hg2 := s_X11_keepForUndo eT24
  have hrc2 := hg2.2.2 cp3.2.2
  have hT2 := s_X11_setWeight_b30 _ _ _ _ _ h
  refine q_avv (As := []) (rest := []) E G hA hX hN hml (a_X11_keepForUndo l hst D cI cJ cZ cMic cSrc cSt cAI cAJ ad T12 o eT24 cp3.2.2 (by rw [cp3.1]; exact h_o)) (cwV 0 hts (gaV qA_925 qA_926 qA_927 qA_131 qA_928) rfl rfl rfl (by decide +kernel) ⟨Nat.le_of_ble_eq_true rfl, Nat.le_of_ble_eq_true rfl⟩) (oO_k g23).1 (cc_o11 (oO_k g23).2) rfl rfl hl.1 rfl (lv_room (Nat.le_of_ble_eq_true rfl)) dX11_setWeight_27 (cs_avx hgl cp3 hg2 hT2) (fun ad2 H locs hga G => ?_)
  refine w_cast (c2 := T24.1 - T.1) (s2 := sg T24 - sg T) (cs_f1 hgl cp3 hg2) (cs_f2 hgl cp3 hg2) ?_
  have hl := lv_sub hl [1, 2, 3, 0] rfl
  rw [show ad o = ad2 o from (hga o (by rw [cp3.1]; exact h_o)).symm] at hl
  exact b_X11_setWeight_b30 E hA hX hN hml hst htab hlocks (fun ad H locs t had G hvm h1 h2 => ⟨(T1, ad), trivial, ⟨⟨rfl, rfl, had⟩, (c_thrown G hK hvm h1 h2).1⟩, (c_thrown G hK hvm h1 h2).2⟩) _ _ _ _ _ _ _ _ _ h (GL.tr (gl_cpr hgl cp3) hg2) hrc2 (fun n hn => (hga n (by rw [cp3.1]; exact Nat.lt_of_lt_of_le hn hgl.1)).trans (had n hn)) (Nat.lt_of_lt_of_le (by rw [cp3.1]; exact h_o) hg2.1) G hl
def g_X11_setOn_b48  (T : AT) (l3 : Int32) : Option (Nat × Int32 × AT) := oif (l3 = 0 ∨ l3 = 1) <| some (0, l3, T)
def g_X11_setOn_b23  (T : AT) (l0 : Nat) (l1 : Int32) (l2 : Int32) (l3 : Int32) : Option (Nat × Int32 × AT) := oif (oO T l0 11 = true) <| obind (T.2.2.2.2 l0 6) fun n3 => oif (oO T n3 8 = true) <| obind (T.2.2.2.2 n3 5) fun n5 => oif (aA T n5 102 = true) <| oif (inb l1 (T.2.1 n5).2 = true) <| oif (l2 = 0 ∨ l2 = 1) <| elet (uI T n5 l1.toNatClampNeg l2) fun T8 => oif (oO T8 l0 11 = true) <| obind (T8.2.2.2.2 l0 2) fun n10 => oif (oO T8 l0 11 = true) <| obind (T8.2.2.2.2 l0 14) fun n12 => oif (oO T8 l0 11 = true) <| obind (T8.2.2.2.2 l0 6) fun n14 => oif (oO T8 n10 5 = true) <| obind (g_X5_record T8 n10 n12 n14) fun T16 => g_X11_setOn_b48 T16 l3
def g_X11_setOn (T : AT) (o : Nat) (a0 : Int32) (a1 : Int32) : Option (Nat × Int32 × AT) := oif (oO T o 11 = true) <| othr (g_X11_needCamera T o) 0 fun r5 T3 => oif (oO T3 o 11 = true) <| othr (g_X11_needSource T3 o a0) 0 fun r10 T8 => oif (oO T8 o 11 = true) <| obind (T8.2.2.2.2 o 6) fun n13 => oif (oO T8 n13 8 = true) <| obind (T8.2.2.2.2 n13 5) fun n15 => oif (aA T8 n15 102 = true) <| oif (inb a0 (T8.2.1 n15).2 = true) <| elet (T8.2.2.1 n15 a0.toNatClampNeg) fun v18 => oif (oO T8 o 11 = true) <| obind (g_X11_keepForUndo T8 o) fun T20 => g_X11_setOn_b23 T20 o a0 a1 v18
set_option maxHeartbeats 4000000 in
set_option maxRecDepth 100000 in
theorem s_X11_setOn_b48 {e1 : Nat} {r1 : Int32} {T1 : AT} : ∀ (T : AT) (l3 : Int32), g_X11_setOn_b48 T l3 = some (e1, r1, T1) → GL T T1 := by
  intro T l3 h
  have p0 := GL.rf T
  unfold g_X11_setOn_b48 at h
  obtain ⟨gz, h⟩ := oif_some h
  rw [← (osome3 h).2.2]
  exact p0
set_option maxHeartbeats 4000000 in
set_option maxRecDepth 100000 in
theorem s_X11_setOn_b23 {e1 : Nat} {r1 : Int32} {T1 : AT} : ∀ (T : AT) (l0 : Nat) (l1 : Int32) (l2 : Int32) (l3 : Int32), g_X11_setOn_b23 T l0 l1 l2 l3 = some (e1, r1, T1) → GL T T1 := by
  intro T l0 l1 l2 l3 h
  have p0 := GL.rf T
  unfold g_X11_setOn_b23 at h
  obtain ⟨g2, h⟩ := oif_some h
  obtain ⟨n3, en3, h⟩ := obind_some h
  obtain ⟨g4, h⟩ := oif_some h
  obtain ⟨n5, en5, h⟩ := obind_some h
  obtain ⟨g6, h⟩ := oif_some h
  obtain ⟨g7, h⟩ := oif_some h
  obtain ⟨gz, h⟩ := oif_some h
  obtain ⟨T8, eT8, h⟩ := elet_some h
  have p1 : GL T T8 := GL.tr p0 (by rw [eT8]; exact gl_sp sp_uI)
  obtain ⟨g9, h⟩ := oif_some h
  obtain ⟨n10, en10, h⟩ := obind_some h
  obtain ⟨g11, h⟩ := oif_some h
  obtain ⟨n12, en12, h⟩ := obind_some h
  obtain ⟨g13, h⟩ := oif_some h
  obtain ⟨n14, en14, h⟩ := obind_some h
  obtain ⟨g15, h⟩ := oif_some h
  obtain ⟨T16, eT16, h⟩ := obind_some h
  have p2 : GL T T16 := GL.tr p1 (s_X5_record eT16)
  exact GL.tr p2 (s_X11_setOn_b48 _ _ h)
set_option maxHeartbeats 4000000 in
set_option maxRecDepth 100000 in
theorem s_X11_setOn {T : AT} {o : Nat} {a0 : Int32} {a1 : Int32} {e1 : Nat} {r1 : Int32} {T1 : AT} (h : g_X11_setOn T o a0 a1 = some (e1, r1, T1)) : GL T T1 := by
  have p0 := GL.rf T
  unfold g_X11_setOn at h
  obtain ⟨g2, h⟩ := oif_some h
  rcases othr_s h with ⟨k9, r9, e9, -⟩ | ⟨r4, T3, eT3, h⟩
  · exact GL.tr p0 (gl_sp (s_X11_needCamera e9))
  have p1 : GL T T3 := GL.tr p0 (gl_sp (s_X11_needCamera eT3))
  obtain ⟨g5, h⟩ := oif_some h
  rcases othr_s h with ⟨k9, r9, e9, -⟩ | ⟨r7, T6, eT6, h⟩
  · exact GL.tr p1 (gl_sp (s_X11_needSource e9))
  have p2 : GL T T6 := GL.tr p1 (gl_sp (s_X11_needSource eT6))
  obtain ⟨g8, h⟩ := oif_some h
  obtain ⟨n9, en9, h⟩ := obind_some h
  obtain ⟨g10, h⟩ := oif_some h
  obtain ⟨n11, en11, h⟩ := obind_some h
  obtain ⟨g12, h⟩ := oif_some h
  obtain ⟨g13, h⟩ := oif_some h
  obtain ⟨v14, -, h⟩ := elet_some h
  obtain ⟨g15, h⟩ := oif_some h
  obtain ⟨T16, eT16, h⟩ := obind_some h
  have p3 : GL T T16 := GL.tr p2 (s_X11_keepForUndo eT16)
  exact GL.tr p3 (s_X11_setOn_b23 _ _ _ _ _ h)
set_option maxHeartbeats 4000000 in
set_option maxRecDepth 100000 in
theorem a_X11_setOn_b48 {p : Program} {l : Launch} {e : Env} {s : State} {m : MethodId} {args : Array Value} {below : List Frame} {meth : Method} {c : Code} {Q : State → Prop} {D : va_G} {A : Nat → Prop} {cI cJ cZ cMic cSrc cSt cAI cAJ : ClassId} {ad0 : Nat → Nat} {T0 : AT} {r1 : Int32} {T1 : AT} (E : cE p c cX11_setOn s m args (Cond.code yX11_setOn cX11_setOn 4 (some .boolean) :: wsA) D RX11 (CT cI cJ cZ cMic cSrc cSt cAI cAJ)) (hA : ∀ q : Nat, s.heap.size ≤ q → A q) (hX : xT A s) (hN : nX s) (hml : c.maxLocals = 4) (hst : l.stackTraces = false) (kr49 : ∀ (ad : Nat → Nat) (H : Heap) (locs : List Loc) (ls : Array Slot), (r1 = 0 ∨ r1 = 1) → (∀ n, n < T0.1 → ad n = ad0 n) → gC cI cJ cZ cMic cSrc cSt cAI cAJ D ad A s.heap H locs T1 → W p l e { frames := 8, cells := T1.1 - T0.1, slots := sg T1 - sg T0, locals := 124 } s m args below meth c H locs (T1.1 - T0.1) (sg T1 - sg T0) Q (F0 m 49 ls [.int r1])) : ∀ (T : AT) (ad : Nat → Nat) (H : Heap) (locs : List Loc) (ls : Array Slot) (l3 : Int32), g_X11_setOn_b48 T l3 = some (0, r1, T1) → GL T0 T → RC T → (∀ n, n < T0.1 → ad n = ad0 n) → gC cI cJ cZ cMic cSrc cSt cAI cAJ D ad A s.heap H locs T → lv_has ls 4 [(3, .int l3)] → W p l e { frames := 8, cells := T1.1 - T0.1, slots := sg T1 - sg T0, locals := 124 } s m args below meth c H locs (T.1 - T0.1) (sg T - sg T0) Q (F0 m 48 ls []) := by
  have hx := E.1
  have hb := E.2.1
  have hts := E.2.2.1
  have hown := E.2.2.2.1
  have hK := E.2.2.2.2
  intro T ad H locs ls l3 h hgl hrc had G hl
  have hT1 := s_X11_setOn_b48 _ _ h
  have hcs := cs_ok hgl hT1
  have cp0 := cpr0 hrc
  unfold g_X11_setOn_b48 at h
  refine lv_iload_n hx hb dX11_setOn_48 rfl (lv_at hl 0 rfl) ?_
  obtain ⟨gz, h⟩ := oif_some h
  rw [(osome3 h).2.2] at G
  refine w_cast (c2 := T1.1 - T0.1) (s2 := sg T1 - sg T0) (by rw [← (osome3 h).2.2, cp0.1] <;> rfl) (by rw [← (osome3 h).2.2, sg_cpr cp0] <;> rfl) ?_
  have gr : r1 = 0 ∨ r1 = 1 := by rw [← (osome3 h).2.1]; exact gz
  refine lv_to ((osome3 h).2.1) ?_
  exact kr49 ad _ _ _ gr had G
set_option maxHeartbeats 4000000 in
set_option maxRecDepth 100000 in
theorem a_X11_setOn_b23 {p : Program} {l : Launch} {e : Env} {s : State} {m : MethodId} {args : Array Value} {below : List Frame} {meth : Method} {c : Code} {Q : State → Prop} {D : va_G} {A : Nat → Prop} {cI cJ cZ cMic cSrc cSt cAI cAJ : ClassId} {ad0 : Nat → Nat} {T0 : AT} {r1 : Int32} {T1 : AT} (E : cE p c cX11_setOn s m args (Cond.code yX11_setOn cX11_setOn 4 (some .boolean) :: wsA) D RX11 (CT cI cJ cZ cMic cSrc cSt cAI cAJ)) (hA : ∀ q : Nat, s.heap.size ≤ q → A q) (hX : xT A s) (hN : nX s) (hml : c.maxLocals = 4) (hst : l.stackTraces = false) (kr49 : ∀ (ad : Nat → Nat) (H : Heap) (locs : List Loc) (ls : Array Slot), (r1 = 0 ∨ r1 = 1) → (∀ n, n < T0.1 → ad n = ad0 n) → gC cI cJ cZ cMic cSrc cSt cAI cAJ D ad A s.heap H locs T1 → W p l e { frames := 8, cells := T1.1 - T0.1, slots := sg T1 - sg T0, locals := 124 } s m args below meth c H locs (T1.1 - T0.1) (sg T1 - sg T0) Q (F0 m 49 ls [.int r1])) : ∀ (T : AT) (ad : Nat → Nat) (H : Heap) (locs : List Loc) (ls : Array Slot) (l0 : Nat) (l1 : Int32) (l2 : Int32) (l3 : Int32), g_X11_setOn_b23 T l0 l1 l2 l3 = some (0, r1, T1) → GL T0 T → RC T → (∀ n, n < T0.1 → ad n = ad0 n) → l0 < T.1 → gC cI cJ cZ cMic cSrc cSt cAI cAJ D ad A s.heap H locs T → lv_has ls 4 [(0, .ref (ad l0)), (1, .int l1), (2, .int l2), (3, .int l3)] → W p l e { frames := 8, cells := T1.1 - T0.1, slots := sg T1 - sg T0, locals := 124 } s m args below meth c H locs (T.1 - T0.1) (sg T - sg T0) Q (F0 m 23 ls []) := by
  have hx := E.1
  have hb := E.2.1
  have hts := E.2.2.1
  have hown := E.2.2.2.1
  have hK := E.2.2.2.2
  intro T ad H locs ls l0 l1 l2 l3 h hgl hrc had h_l0 G hl
  have hT1 := s_X11_setOn_b23 _ _ _ _ _ h
  have hcs := cs_ok hgl hT1
  have cp0 := cpr0 hrc
  unfold g_X11_setOn_b23 at h
  refine lv_aload_n hx hb dX11_setOn_23 rfl (lv_at hl 0 rfl) ?_
  obtain ⟨g2, h⟩ := oif_some h
  obtain ⟨n3, en3, h⟩ := obind_some h
  have h_n3 : n3 < T.1 := by rw [← cp0.1]; exact cp0.2.2 _ _ _ en3
  refine c_get E G l0 6 (v := .ref (ad n3)) (oO_k g2).1 (cc_o11 (oO_k g2).2) rfl (fun w h => .tail _ (iA_23 h)) (by decide) (.tail _ qA_664) rfl (by rw [en3]; rfl) dX11_setOn_24 ?_
  clear en3
  obtain ⟨g4, h⟩ := oif_some h
  obtain ⟨n5, en5, h⟩ := obind_some h
  have h_n5 : n5 < T.1 := by rw [← cp0.1]; exact cp0.2.2 _ _ _ en5
  refine c_get E G n3 5 (v := .ref (ad n5)) (oO_k g4).1 (cc_o8 (oO_k g4).2) rfl (fun w h => .tail _ (iA_16 h)) (by decide) (.tail _ qA_772) rfl (by rw [en5]; rfl) dX11_setOn_27 ?_
  clear en5
  refine lv_iload_n hx hb dX11_setOn_30 rfl (lv_at hl 1 rfl) ?_
  refine lv_iload_n hx hb dX11_setOn_31 rfl (lv_at hl 2 rfl) ?_
  obtain ⟨g6, h⟩ := oif_some h
  obtain ⟨g7, h⟩ := oif_some h
  obtain ⟨gz, h⟩ := oif_some h
  refine c_zast E G n5 2 (k := l1.toNatClampNeg) (v := l2) (aA_k g6).1 (cc_a102 (aA_k g6).2.1) rfl (inb_k g7).1 (inb_k g7).2 (aA_k g6).2.2 (by rcases gz with rfl | rfl <;> rfl) dX11_setOn_32 (fun H locs G => ?_)
  have G := gC_up_i (f := upd (T.2.2.1 n5) l1.toNatClampNeg l2) (ccv_102 (aA_k g6).2.1) G
  obtain ⟨T8, eT8, h⟩ := elet_some h
  have G : gC cI cJ cZ cMic cSrc cSt cAI cAJ D ad A s.heap H locs T8 := by rw [eT8]; exact G
  have cp1 := show CPR T T8 from by rw [eT8]; exact cpr_sp cp0 sp_uI
  clear eT8
  refine lv_aload_n hx hb dX11_setOn_33 rfl (lv_at hl 0 rfl) ?_
  obtain ⟨g9, h⟩ := oif_some h
  obtain ⟨n10, en10, h⟩ := obind_some h
  have h_n10 : n10 < T.1 := by rw [← cp1.1]; exact cp1.2.2 _ _ _ en10
  refine c_get E G l0 2 (v := .ref (ad n10)) (oO_k g9).1 (cc_o11 (oO_k g9).2) rfl (fun w h => .tail _ (iA_23 h)) (by decide) (.tail _ qA_654) rfl (by rw [en10]; rfl) dX11_setOn_34 ?_
  clear en10
  refine lv_aload_n hx hb dX11_setOn_37 rfl (lv_at hl 0 rfl) ?_
  obtain ⟨g11, h⟩ := oif_some h
  obtain ⟨n12, en12, h⟩ := obind_some h
  have h_n12 : n12 < T.1 := by rw [← cp1.1]; exact cp1.2.2 _ _ _ en12
  refine c_get E G l0 14 (v := .ref (ad n12)) (oO_k g11).1 (cc_o11 (oO_k g11).2) rfl (fun w h => .tail _ (iA_23 h)) (by decide) (.tail _ qA_675) rfl (by rw [en12]; rfl) dX11_setOn_38 ?_
  clear en12
  refine lv_aload_n hx hb dX11_setOn_41 rfl (lv_at hl 0 rfl) ?_
  obtain ⟨g13, h⟩ := oif_some h
  obtain ⟨n14, en14, h⟩ := obind_some h
  have h_n14 : n14 < T.1 := by rw [← cp1.1]; exact cp1.2.2 _ _ _ en14
  refine c_get E G l0 6 (v := .ref (ad n14)) (oO_k g13).1 (cc_o11 (oO_k g13).2) rfl (fun w h => .tail _ (iA_23 h)) (by decide) (.tail _ qA_664) rfl (by rw [en14]; rfl) dX11_setOn_42 ?_
  clear en14
  obtain ⟨g15, h⟩ := oif_some h
  obtain ⟨T16, eT16, h⟩ := obind_some h
  have hg2 := s_X5_record eT16
  have hrc2 := hg2.2.2 cp1.2.2
  have hT2 := s_X11_setOn_b48 _ _ h
  refine q_avv (As := [.ref (ad n12), .ref (ad n14)]) (rest := []) E G hA hX hN hml (a_X5_record l hst D cI cJ cZ cMic cSrc cSt cAI cAJ ad T8 n10 n12 n14 eT16 cp1.2.2 (by rw [cp1.1]; exact h_n10) (by rw [cp1.1]; exact h_n12) (by rw [cp1.1]; exact h_n14)) (cwV 2 hts (gaV qA_711 qA_712 qA_713 qA_475 qA_463) rfl rfl rfl (by decide +kernel) ⟨Nat.le_of_ble_eq_true rfl, Nat.le_of_ble_eq_true rfl⟩) (oO_k g15).1 (cc_o5 (oO_k g15).2) rfl rfl hl.1 rfl (lv_room (Nat.le_of_ble_eq_true rfl)) dX11_setOn_45 (cs_av hgl cp1 hg2 hT2) (fun ad2 H locs hga G => ?_)
  refine w_cast (c2 := T16.1 - T0.1) (s2 := sg T16 - sg T0) (cs_f1 hgl cp1 hg2) (cs_f2 hgl cp1 hg2) ?_
  have hl := lv_sub hl [3] rfl
  exact a_X11_setOn_b48 E hA hX hN hml hst kr49 _ _ _ _ _ _ h (GL.tr (gl_cpr hgl cp1) hg2) hrc2 (fun n hn => (hga n (by rw [cp1.1]; exact Nat.lt_of_lt_of_le hn hgl.1)).trans (had n hn)) G hl
set_option maxHeartbeats 4000000 in
set_option maxRecDepth 100000 in
theorem a_X11_setOn (l : Launch) (hst : l.stackTraces = false) (D : va_G) (cI cJ cZ cMic cSrc cSt cAI cAJ : ClassId) (ad : Nat → Nat) (T : AT) (o : Nat) (a0 : Int32) (a1 : Int32) {r1 : Int32} {T1 : AT} (h : g_X11_setOn T o a0 a1 = some (0, r1, T1)) (hrc : RC T) (h_o : o < T.1) : kAi l yX11_setOn (Cond.code yX11_setOn cX11_setOn 4 (some .boolean) :: wsA) 8 124 cI cJ cZ cMic cSrc cSt cAI cAJ D ad T [.ref (ad o), .int a0, .int a1] r1 T1 := by
  intro sz
  refine pro_in (cc := cX11_setOn) (maxL := 4) (ret := (some .boolean)) (by exact pn_RX11) rfl (by exact Nat.le_of_ble_eq_true rfl) (fun p e s m below meth c ls hx hb hr hts hown hlocks hml hv hl => ?_)
  obtain ⟨hsz, hP, hK, hD0, hX, hN⟩ := hv
  subst hsz
  have hD := hD0.self (sz := s.heap.size)
  generalize hAe : va_A (cW ad T.1 (cc cI cJ cZ cMic cSrc cSt cAI cAJ ad T)) s.heap.size = A at hD hX ⊢
  have hA : ∀ q : Nat, s.heap.size ≤ q → A q := fun q h => by rw [← hAe]; exact Or.inr h
  have G : gC cI cJ cZ cMic cSrc cSt cAI cAJ D ad A s.heap s.heap [] T := ⟨hP, hD, va_S.rf⟩
  have E : cE p c cX11_setOn s m ([.ref (ad o), .int a0, .int a1] : List Value).toArray (Cond.code yX11_setOn cX11_setOn 4 (some .boolean) :: wsA) D RX11 (CT cI cJ cZ cMic cSrc cSt cAI cAJ) := ⟨hx, hb, hts, hown, hK⟩
  have hl : lv_has ls 4 [(0, .ref (ad o)), (1, .int a0), (2, .int a1)] := hl
  have hgl := GL.rf T
  have had : ∀ n, n < T.1 → ad n = ad n := fun _ _ => rfl
  have hT1 := s_X11_setOn h
  have hcs := cs_ok hgl hT1
  refine w_cast (Nat.sub_self T.1).symm (Nat.sub_self (sg T)).symm ?_
  have cp0 := cpr0 hrc
  unfold g_X11_setOn at h
  refine lv_aload_n hx hb dX11_setOn_0 rfl (lv_at hl 0 rfl) ?_
  obtain ⟨g2, h⟩ := oif_some h
  obtain ⟨r5, T3, eT3, h⟩ := othr_n h
  refine q_cvv (As := []) (rest := []) E G hA hX hN hml (u_X11_needCamera l hst D cI cJ cZ cMic cSrc cSt cAI cAJ ad T o eT3) (cwV 0 hts (gaV qA_728 qA_729 qA_730 qA_131 qA_731) rfl rfl rfl (by decide +kernel) ⟨Nat.le_of_ble_eq_true rfl, Nat.le_of_ble_eq_true rfl⟩) (oO_k g2).1 (cc_o11 (oO_k g2).2) rfl rfl hl.1 rfl (lv_room (Nat.le_of_ble_eq_true rfl)) dX11_setOn_1 hcs (fun T4 H locs hq G => ?_)
  rw [hq] at G
  clear hq
  have cp1 := cpr_sp cp0 (s_X11_needCamera eT3)
  refine lv_aload_n hx hb dX11_setOn_4 rfl (lv_at hl 0 rfl) ?_
  refine lv_iload_n hx hb dX11_setOn_5 rfl (lv_at hl 1 rfl) ?_
  obtain ⟨g7, h⟩ := oif_some h
  obtain ⟨r10, T8, eT8, h⟩ := othr_n h
  refine q_cvv (As := [.int a0]) (rest := []) E G hA hX hN hml (u_X11_needSource l hst D cI cJ cZ cMic cSrc cSt cAI cAJ ad T3 o a0 eT8) (cwV 1 hts (gaV qA_766 qA_767 qA_768 qA_131 qA_769) rfl rfl rfl (by decide +kernel) ⟨Nat.le_of_ble_eq_true rfl, Nat.le_of_ble_eq_true rfl⟩) (oO_k g7).1 (cc_o11 (oO_k g7).2) rfl rfl hl.1 rfl (lv_room (Nat.le_of_ble_eq_true rfl)) dX11_setOn_6 hcs (fun T9 H locs hq G => ?_)
  rw [hq] at G
  clear hq
  have cp2 := cpr_sp cp1 (s_X11_needSource eT8)
  refine lv_aload_n hx hb dX11_setOn_9 rfl (lv_at hl 0 rfl) ?_
  obtain ⟨g12, h⟩ := oif_some h
  obtain ⟨n13, en13, h⟩ := obind_some h
  have h_n13 : n13 < T.1 := by rw [← cp2.1]; exact cp2.2.2 _ _ _ en13
  refine c_get E G o 6 (v := .ref (ad n13)) (oO_k g12).1 (cc_o11 (oO_k g12).2) rfl (fun w h => .tail _ (iA_23 h)) (by decide) (.tail _ qA_664) rfl (by rw [en13]; rfl) dX11_setOn_10 ?_
  clear en13
  obtain ⟨g14, h⟩ := oif_some h
  obtain ⟨n15, en15, h⟩ := obind_some h
  have h_n15 : n15 < T.1 := by rw [← cp2.1]; exact cp2.2.2 _ _ _ en15
  refine c_get E G n13 5 (v := .ref (ad n15)) (oO_k g14).1 (cc_o8 (oO_k g14).2) rfl (fun w h => .tail _ (iA_16 h)) (by decide) (.tail _ qA_772) rfl (by rw [en15]; rfl) dX11_setOn_13 ?_
  clear en15
  refine lv_iload_n hx hb dX11_setOn_16 rfl (lv_at hl 1 rfl) ?_
  obtain ⟨g16, h⟩ := oif_some h
  obtain ⟨g17, h⟩ := oif_some h
  refine c_zald E G n15 2 (k := a0.toNatClampNeg) (aA_k g16).1 (cc_a102 (aA_k g16).2.1) rfl (inb_k g17).1 (inb_k g17).2 (aA_k g16).2.2 dX11_setOn_17 ?_
  refine lv_topi (fun v18 ev18 => ?_)
  have h := elet_at ev18 h
  clear ev18
  refine lv_istore_n (lv' := [(3, .int v18), (0, .ref (ad o)), (1, .int a0), (2, .int a1)]) hx hb dX11_setOn_18 rfl hl (by decide) rfl (fun ls hl => ?_)
  refine lv_aload_n hx hb dX11_setOn_19 rfl (lv_at hl 1 rfl) ?_
  obtain ⟨g19, h⟩ := oif_some h
  obtain ⟨T20, eT20, h⟩ := obind_some h
  have hg2 := s_X11_keepForUndo eT20
  have hrc2 := hg2.2.2 cp2.2.2
  have hT2 := s_X11_setOn_b23 _ _ _ _ _ h
  refine q_avv (As := []) (rest := []) E G hA hX hN hml (a_X11_keepForUndo l hst D cI cJ cZ cMic cSrc cSt cAI cAJ ad T8 o eT20 cp2.2.2 (by rw [cp2.1]; exact h_o)) (cwV 0 hts (gaV qA_925 qA_926 qA_927 qA_131 qA_928) rfl rfl rfl (by decide +kernel) ⟨Nat.le_of_ble_eq_true rfl, Nat.le_of_ble_eq_true rfl⟩) (oO_k g19).1 (cc_o11 (oO_k g19).2) rfl rfl hl.1 rfl (lv_room (Nat.le_of_ble_eq_true rfl)) dX11_setOn_20 (cs_av hgl cp2 hg2 hT2) (fun ad2 H locs hga G => ?_)
  refine w_cast (c2 := T20.1 - T.1) (s2 := sg T20 - sg T) (cs_f1 hgl cp2 hg2) (cs_f2 hgl cp2 hg2) ?_
  have hl := lv_sub hl [1, 2, 3, 0] rfl
  rw [show ad o = ad2 o from (hga o (by rw [cp2.1]; exact h_o)).symm] at hl
  exact a_X11_setOn_b23 E hA hX hN hml hst (fun ad H locs ls gz had G => W.zret (v := r1) hx hb hr (nar01 gz) (fun t ht hW => ⟨⟨r1, (T1, ad), rfl, ⟨rfl, rfl, had⟩, ⟨by rw [ht]; exact G.1, va_K.moved hW.alike hK, G.2.1⟩⟩, G.2.2.F ht⟩) G.2.2.2.2 dX11_setOn_49) _ _ _ _ _ _ _ _ _ h (GL.tr (gl_cpr hgl cp2) hg2) hrc2 (fun n hn => (hga n (by rw [cp2.1]; exact Nat.lt_of_lt_of_le hn hgl.1)).trans (had n hn)) (Nat.lt_of_lt_of_le (by rw [cp2.1]; exact h_o) hg2.1) G hl
set_option maxHeartbeats 4000000 in
set_option maxRecDepth 100000 in
theorem b_X11_setOn_b48 {p : Program} {l : Launch} {e : Env} {s : State} {m : MethodId} {args : Array Value} {below : List Frame} {meth : Method} {c : Code} {Qc : Array Value → State → Outcome → State → Prop} {XC : String → State → State → Prop} {D : va_G} {A : Nat → Prop} {cI cJ cZ cMic cSrc cSt cAI cAJ : ClassId} {ad0 : Nat → Nat} {T0 : AT} {e1 : Nat} {r1 : Int32} {T1 : AT} (E : cE p c cX11_setOn s m args (Cond.code yX11_setOn cX11_setOn 4 (some .boolean) :: wsA) D RX11 (CT cI cJ cZ cMic cSrc cSt cAI cAJ)) (hA : ∀ q : Nat, s.heap.size ≤ q → A q) (hX : xT A s) (hN : nX s) (hml : c.maxLocals = 4) (hst : l.stackTraces = false) (htab : ∀ x ∈ c.exceptionTable.toList, False) (hlocks : meth.locks = false) (kx : ∀ (ad : Nat → Nat) (H : Heap) (locs : List Loc) (t : State), (∀ n, n < T0.1 → ad n = ad0 n) → gC cI cJ cZ cMic cSrc cSt cAI cAJ D ad A s.heap H locs T1 → s.vm.Alike t.vm → H.size ≤ t.heap.size → (∀ q, q < H.size → t.heap[q]? = H[q]?) → XC (exn e1) s t) : ∀ (T : AT) (ad : Nat → Nat) (H : Heap) (locs : List Loc) (ls : Array Slot) (l3 : Int32), g_X11_setOn_b48 T l3 = some (e1 + 1, r1, T1) → GL T0 T → RC T → (∀ n, n < T0.1 → ad n = ad0 n) → gC cI cJ cZ cMic cSrc cSt cAI cAJ D ad A s.heap H locs T → lv_has ls 4 [(3, .int l3)] → W p l e { frames := 8, cells := T1.1 - T0.1 + 1, slots := sg T1 - sg T0 + 6, locals := 124 } s m args below meth c H locs (T.1 - T0.1) (sg T - sg T0) (vx_MQ below Qc XC args s (T1.1 - T0.1 + 1) (sg T1 - sg T0 + 6) A) (F0 m 48 ls []) := by
  have hx := E.1
  have hb := E.2.1
  have hts := E.2.2.1
  have hown := E.2.2.2.1
  have hK := E.2.2.2.2
  intro T ad H locs ls l3 h hgl hrc had G hl
  have hT1 := s_X11_setOn_b48 _ _ h
  have hcs := cs_okx hgl hT1
  have hcx := cs_okx1 hgl hT1
  have cp0 := cpr0 hrc
  unfold g_X11_setOn_b48 at h
  refine lv_iload_n hx hb dX11_setOn_48 rfl (lv_at hl 0 rfl) ?_
  obtain ⟨gz, h⟩ := oif_some h
  exact (Nat.succ_ne_zero _ (congrArg Prod.fst (Option.some.inj h)).symm).elim
set_option maxHeartbeats 4000000 in
set_option maxRecDepth 100000 in
theorem b_X11_setOn_b23 {p : Program} {l : Launch} {e : Env} {s : State} {m : MethodId} {args : Array Value} {below : List Frame} {meth : Method} {c : Code} {Qc : Array Value → State → Outcome → State → Prop} {XC : String → State → State → Prop} {D : va_G} {A : Nat → Prop} {cI cJ cZ cMic cSrc cSt cAI cAJ : ClassId} {ad0 : Nat → Nat} {T0 : AT} {e1 : Nat} {r1 : Int32} {T1 : AT} (E : cE p c cX11_setOn s m args (Cond.code yX11_setOn cX11_setOn 4 (some .boolean) :: wsA) D RX11 (CT cI cJ cZ cMic cSrc cSt cAI cAJ)) (hA : ∀ q : Nat, s.heap.size ≤ q → A q) (hX : xT A s) (hN : nX s) (hml : c.maxLocals = 4) (hst : l.stackTraces = false) (htab : ∀ x ∈ c.exceptionTable.toList, False) (hlocks : meth.locks = false) (kx : ∀ (ad : Nat → Nat) (H : Heap) (locs : List Loc) (t : State), (∀ n, n < T0.1 → ad n = ad0 n) → gC cI cJ cZ cMic cSrc cSt cAI cAJ D ad A s.heap H locs T1 → s.vm.Alike t.vm → H.size ≤ t.heap.size → (∀ q, q < H.size → t.heap[q]? = H[q]?) → XC (exn e1) s t) : ∀ (T : AT) (ad : Nat → Nat) (H : Heap) (locs : List Loc) (ls : Array Slot) (l0 : Nat) (l1 : Int32) (l2 : Int32) (l3 : Int32), g_X11_setOn_b23 T l0 l1 l2 l3 = some (e1 + 1, r1, T1) → GL T0 T → RC T → (∀ n, n < T0.1 → ad n = ad0 n) → l0 < T.1 → gC cI cJ cZ cMic cSrc cSt cAI cAJ D ad A s.heap H locs T → lv_has ls 4 [(0, .ref (ad l0)), (1, .int l1), (2, .int l2), (3, .int l3)] → W p l e { frames := 8, cells := T1.1 - T0.1 + 1, slots := sg T1 - sg T0 + 6, locals := 124 } s m args below meth c H locs (T.1 - T0.1) (sg T - sg T0) (vx_MQ below Qc XC args s (T1.1 - T0.1 + 1) (sg T1 - sg T0 + 6) A) (F0 m 23 ls []) := by
  have hx := E.1
  have hb := E.2.1
  have hts := E.2.2.1
  have hown := E.2.2.2.1
  have hK := E.2.2.2.2
  intro T ad H locs ls l0 l1 l2 l3 h hgl hrc had h_l0 G hl
  have hT1 := s_X11_setOn_b23 _ _ _ _ _ h
  have hcs := cs_okx hgl hT1
  have hcx := cs_okx1 hgl hT1
  have cp0 := cpr0 hrc
  unfold g_X11_setOn_b23 at h
  refine lv_aload_n hx hb dX11_setOn_23 rfl (lv_at hl 0 rfl) ?_
  obtain ⟨g2, h⟩ := oif_some h
  obtain ⟨n3, en3, h⟩ := obind_some h
  have h_n3 : n3 < T.1 := by rw [← cp0.1]; exact cp0.2.2 _ _ _ en3
  refine c_get E G l0 6 (v := .ref (ad n3)) (oO_k g2).1 (cc_o11 (oO_k g2).2) rfl (fun w h => .tail _ (iA_23 h)) (by decide) (.tail _ qA_664) rfl (by rw [en3]; rfl) dX11_setOn_24 ?_
  clear en3
  obtain ⟨g4, h⟩ := oif_some h
  obtain ⟨n5, en5, h⟩ := obind_some h
  have h_n5 : n5 < T.1 := by rw [← cp0.1]; exact cp0.2.2 _ _ _ en5
  refine c_get E G n3 5 (v := .ref (ad n5)) (oO_k g4).1 (cc_o8 (oO_k g4).2) rfl (fun w h => .tail _ (iA_16 h)) (by decide) (.tail _ qA_772) rfl (by rw [en5]; rfl) dX11_setOn_27 ?_
  clear en5
  refine lv_iload_n hx hb dX11_setOn_30 rfl (lv_at hl 1 rfl) ?_
  refine lv_iload_n hx hb dX11_setOn_31 rfl (lv_at hl 2 rfl) ?_
  obtain ⟨g6, h⟩ := oif_some h
  obtain ⟨g7, h⟩ := oif_some h
  obtain ⟨gz, h⟩ := oif_some h
  refine c_zast E G n5 2 (k := l1.toNatClampNeg) (v := l2) (aA_k g6).1 (cc_a102 (aA_k g6).2.1) rfl (inb_k g7).1 (inb_k g7).2 (aA_k g6).2.2 (by rcases gz with rfl | rfl <;> rfl) dX11_setOn_32 (fun H locs G => ?_)
  have G := gC_up_i (f := upd (T.2.2.1 n5) l1.toNatClampNeg l2) (ccv_102 (aA_k g6).2.1) G
  obtain ⟨T8, eT8, h⟩ := elet_some h
  have G : gC cI cJ cZ cMic cSrc cSt cAI cAJ D ad A s.heap H locs T8 := by rw [eT8]; exact G
  have cp1 := show CPR T T8 from by rw [eT8]; exact cpr_sp cp0 sp_uI
  clear eT8
  refine lv_aload_n hx hb dX11_setOn_33 rfl (lv_at hl 0 rfl) ?_
  obtain ⟨g9, h⟩ := oif_some h
  obtain ⟨n10, en10, h⟩ := obind_some h
  have h_n10 : n10 < T.1 := by rw [← cp1.1]; exact cp1.2.2 _ _ _ en10
  refine c_get E G l0 2 (v := .ref (ad n10)) (oO_k g9).1 (cc_o11 (oO_k g9).2) rfl (fun w h => .tail _ (iA_23 h)) (by decide) (.tail _ qA_654) rfl (by rw [en10]; rfl) dX11_setOn_34 ?_
  clear en10
  refine lv_aload_n hx hb dX11_setOn_37 rfl (lv_at hl 0 rfl) ?_
  obtain ⟨g11, h⟩ := oif_some h
  obtain ⟨n12, en12, h⟩ := obind_some h
  have h_n12 : n12 < T.1 := by rw [← cp1.1]; exact cp1.2.2 _ _ _ en12
  refine c_get E G l0 14 (v := .ref (ad n12)) (oO_k g11).1 (cc_o11 (oO_k g11).2) rfl (fun w h => .tail _ (iA_23 h)) (by decide) (.tail _ qA_675) rfl (by rw [en12]; rfl) dX11_setOn_38 ?_
  clear en12
  refine lv_aload_n hx hb dX11_setOn_41 rfl (lv_at hl 0 rfl) ?_
  obtain ⟨g13, h⟩ := oif_some h
  obtain ⟨n14, en14, h⟩ := obind_some h
  have h_n14 : n14 < T.1 := by rw [← cp1.1]; exact cp1.2.2 _ _ _ en14
  refine c_get E G l0 6 (v := .ref (ad n14)) (oO_k g13).1 (cc_o11 (oO_k g13).2) rfl (fun w h => .tail _ (iA_23 h)) (by decide) (.tail _ qA_664) rfl (by rw [en14]; rfl) dX11_setOn_42 ?_
  clear en14
  obtain ⟨g15, h⟩ := oif_some h
  obtain ⟨T16, eT16, h⟩ := obind_some h
  have hg2 := s_X5_record eT16
  have hrc2 := hg2.2.2 cp1.2.2
  have hT2 := s_X11_setOn_b48 _ _ h
  refine q_avv (As := [.ref (ad n12), .ref (ad n14)]) (rest := []) E G hA hX hN hml (a_X5_record l hst D cI cJ cZ cMic cSrc cSt cAI cAJ ad T8 n10 n12 n14 eT16 cp1.2.2 (by rw [cp1.1]; exact h_n10) (by rw [cp1.1]; exact h_n12) (by rw [cp1.1]; exact h_n14)) (cwV 2 hts (gaV qA_711 qA_712 qA_713 qA_475 qA_463) rfl rfl rfl (by decide +kernel) ⟨Nat.le_of_ble_eq_true rfl, Nat.le_of_ble_eq_true rfl⟩) (oO_k g15).1 (cc_o5 (oO_k g15).2) rfl rfl hl.1 rfl (lv_room (Nat.le_of_ble_eq_true rfl)) dX11_setOn_45 (cs_avx hgl cp1 hg2 hT2) (fun ad2 H locs hga G => ?_)
  refine w_cast (c2 := T16.1 - T0.1) (s2 := sg T16 - sg T0) (cs_f1 hgl cp1 hg2) (cs_f2 hgl cp1 hg2) ?_
  have hl := lv_sub hl [3] rfl
  exact b_X11_setOn_b48 E hA hX hN hml hst htab hlocks kx _ _ _ _ _ _ h (GL.tr (gl_cpr hgl cp1) hg2) hrc2 (fun n hn => (hga n (by rw [cp1.1]; exact Nat.lt_of_lt_of_le hn hgl.1)).trans (had n hn)) G hl
set_option maxHeartbeats 4000000 in
set_option maxRecDepth 100000 in
theorem b_X11_setOn (l : Launch) (hst : l.stackTraces = false) (D : va_G) (cI cJ cZ cMic cSrc cSt cAI cAJ : ClassId) (ad : Nat → Nat) (T : AT) (o : Nat) (a0 : Int32) (a1 : Int32) {e1 : Nat} {r1 : Int32} {T1 : AT} (h : g_X11_setOn T o a0 a1 = some (e1 + 1, r1, T1)) (hrc : RC T) (h_o : o < T.1) : kAXi l yX11_setOn (Cond.code yX11_setOn cX11_setOn 4 (some .boolean) :: wsA) 8 124 cI cJ cZ cMic cSrc cSt cAI cAJ D ad T [.ref (ad o), .int a0, .int a1] e1 T1 := by
  intro sz
  refine pro_inX (cc := cX11_setOn) (maxL := 4) (ret := (some .boolean)) (by exact pn_RX11) rfl (by exact Nat.le_of_ble_eq_true rfl) (fun p e s m below meth c ls hx hb hr hts hown hlocks htab hml hv hl => ?_)
  obtain ⟨hsz, hP, hK, hD0, hX, hN⟩ := hv
  subst hsz
  have hD := hD0.self (sz := s.heap.size)
  generalize hAe : va_A (cW ad T.1 (cc cI cJ cZ cMic cSrc cSt cAI cAJ ad T)) s.heap.size = A at hD hX ⊢
  have hA : ∀ q : Nat, s.heap.size ≤ q → A q := fun q h => by rw [← hAe]; exact Or.inr h
  have G : gC cI cJ cZ cMic cSrc cSt cAI cAJ D ad A s.heap s.heap [] T := ⟨hP, hD, va_S.rf⟩
  have E : cE p c cX11_setOn s m ([.ref (ad o), .int a0, .int a1] : List Value).toArray (Cond.code yX11_setOn cX11_setOn 4 (some .boolean) :: wsA) D RX11 (CT cI cJ cZ cMic cSrc cSt cAI cAJ) := ⟨hx, hb, hts, hown, hK⟩
  have htab : ∀ x ∈ c.exceptionTable.toList, False := fun x hx => htab x hx
  have hl : lv_has ls 4 [(0, .ref (ad o)), (1, .int a0), (2, .int a1)] := hl
  have hgl := GL.rf T
  have had : ∀ n, n < T.1 → ad n = ad n := fun _ _ => rfl
  have hT1 := s_X11_setOn h
  have hcs := cs_okx hgl hT1
  have hcx := cs_okx1 hgl hT1
  refine w_cast (Nat.sub_self T.1).symm (Nat.sub_self (sg T)).symm ?_
  have cp0 := cpr0 hrc
  unfold g_X11_setOn at h
  refine lv_aload_n hx hb dX11_setOn_0 rfl (lv_at hl 0 rfl) ?_
  obtain ⟨g2, h⟩ := oif_some h
  rcases othr_t h with ⟨r0, eT3⟩ | ⟨r5, T3, eT3, h⟩
  · refine q_xvv (As := []) (rest := []) E G hA hX hN hml (x_X11_needCamera l hst D cI cJ cZ cMic cSrc cSt cAI cAJ ad T o eT3) (cwV 0 hts (gaV qA_728 qA_729 qA_730 qA_131 qA_731) rfl rfl rfl (by decide +kernel) ⟨Nat.le_of_ble_eq_true rfl, Nat.le_of_ble_eq_true rfl⟩) (oO_k g2).1 (cc_o11 (oO_k g2).2) rfl rfl hl.1 rfl (lv_room (Nat.le_of_ble_eq_true rfl)) dX11_setOn_1 hcx (fun E9 ce q9 T9 H locs hp G hce hcv hcl => ?_)
    obtain ⟨hE, hT⟩ := hp
    subst hE
    rw [hT] at G
    exact vx_out (fun x hx => (htab x hx).elim) hlocks hce hcv hcl (fun t ht hvm => ⟨(T1, ad), trivial, ⟨⟨rfl, rfl, had⟩, by rw [ht]; exact G.1, va_K.moved hvm hK, G.2.1⟩, G.2.2.F ht⟩) G.2.2.2.2 hcx.1 hcx.2
  refine q_cvv (As := []) (rest := []) E G hA hX hN hml (u_X11_needCamera l hst D cI cJ cZ cMic cSrc cSt cAI cAJ ad T o eT3) (cwV 0 hts (gaV qA_728 qA_729 qA_730 qA_131 qA_731) rfl rfl rfl (by decide +kernel) ⟨Nat.le_of_ble_eq_true rfl, Nat.le_of_ble_eq_true rfl⟩) (oO_k g2).1 (cc_o11 (oO_k g2).2) rfl rfl hl.1 rfl (lv_room (Nat.le_of_ble_eq_true rfl)) dX11_setOn_1 hcs (fun T4 H locs hq G => ?_)
  rw [hq] at G
  clear hq
  have cp1 := cpr_sp cp0 (s_X11_needCamera eT3)
  refine lv_aload_n hx hb dX11_setOn_4 rfl (lv_at hl 0 rfl) ?_
  refine lv_iload_n hx hb dX11_setOn_5 rfl (lv_at hl 1 rfl) ?_
  obtain ⟨g7, h⟩ := oif_some h
  rcases othr_t h with ⟨r0, eT8⟩ | ⟨r10, T8, eT8, h⟩
  · refine q_xvv (As := [.int a0]) (rest := []) E G hA hX hN hml (x_X11_needSource l hst D cI cJ cZ cMic cSrc cSt cAI cAJ ad T3 o a0 eT8) (cwV 1 hts (gaV qA_766 qA_767 qA_768 qA_131 qA_769) rfl rfl rfl (by decide +kernel) ⟨Nat.le_of_ble_eq_true rfl, Nat.le_of_ble_eq_true rfl⟩) (oO_k g7).1 (cc_o11 (oO_k g7).2) rfl rfl hl.1 rfl (lv_room (Nat.le_of_ble_eq_true rfl)) dX11_setOn_6 hcx (fun E9 ce q9 T9 H locs hp G hce hcv hcl => ?_)
    obtain ⟨hE, hT⟩ := hp
    subst hE
    rw [hT] at G
    exact vx_out (fun x hx => (htab x hx).elim) hlocks hce hcv hcl (fun t ht hvm => ⟨(T1, ad), trivial, ⟨⟨rfl, rfl, had⟩, by rw [ht]; exact G.1, va_K.moved hvm hK, G.2.1⟩, G.2.2.F ht⟩) G.2.2.2.2 hcx.1 hcx.2
  refine q_cvv (As := [.int a0]) (rest := []) E G hA hX hN hml (u_X11_needSource l hst D cI cJ cZ cMic cSrc cSt cAI cAJ ad T3 o a0 eT8) (cwV 1 hts (gaV qA_766 qA_767 qA_768 qA_131 qA_769) rfl rfl rfl (by decide +kernel) ⟨Nat.le_of_ble_eq_true rfl, Nat.le_of_ble_eq_true rfl⟩) (oO_k g7).1 (cc_o11 (oO_k g7).2) rfl rfl hl.1 rfl (lv_room (Nat.le_of_ble_eq_true rfl)) dX11_setOn_6 hcs (fun T9 H locs hq G => ?_)
  rw [hq] at G
  clear hq
  have cp2 := cpr_sp cp1 (s_X11_needSource eT8)
  refine lv_aload_n hx hb dX11_setOn_9 rfl (lv_at hl 0 rfl) ?_
  obtain ⟨g12, h⟩ := oif_some h
  obtain ⟨n13, en13, h⟩ := obind_some h
  have h_n13 : n13 < T.1 := by rw [← cp2.1]; exact cp2.2.2 _ _ _ en13
  refine c_get E G o 6 (v := .ref (ad n13)) (oO_k g12).1 (cc_o11 (oO_k g12).2) rfl (fun w h => .tail _ (iA_23 h)) (by decide) (.tail _ qA_664) rfl (by rw [en13]; rfl) dX11_setOn_10 ?_
  clear en13
  obtain ⟨g14, h⟩ := oif_some h
  obtain ⟨n15, en15, h⟩ := obind_some h
  have h_n15 : n15 < T.1 := by rw [← cp2.1]; exact cp2.2.2 _ _ _ en15
  refine c_get E G n13 5 (v := .ref (ad n15)) (oO_k g14).1 (cc_o8 (oO_k g14).2) rfl (fun w h => .tail _ (iA_16 h)) (by decide) (.tail _ qA_772) rfl (by rw [en15]; rfl) dX11_setOn_13 ?_
  clear en15
  refine lv_iload_n hx hb dX11_setOn_16 rfl (lv_at hl 1 rfl) ?_
  obtain ⟨g16, h⟩ := oif_some h
  obtain ⟨g17, h⟩ := oif_some h
  refine c_zald E G n15 2 (k := a0.toNatClampNeg) (aA_k g16).1 (cc_a102 (aA_k g16).2.1) rfl (inb_k g17).1 (inb_k g17).2 (aA_k g16).2.2 dX11_setOn_17 ?_
  refine lv_topi (fun v18 ev18 => ?_)
  have h := elet_at ev18 h
  clear ev18
  refine lv_istore_n (lv' := [(3, .int v18), (0, .ref (ad o)), (1, .int a0), (2, .int a1)]) hx hb dX11_setOn_18 rfl hl (by decide) rfl (fun ls hl => ?_)
  refine lv_aload_n hx hb dX11_setOn_19 rfl (lv_at hl 1 rfl) ?_
  obtain ⟨g19, h⟩ := oif_some h
  obtain ⟨T20, eT20, h⟩ := obind_some h
  have hg2 := s_X11_keepForUndo eT20
  have hrc2 := hg2.2.2 cp2.2.2
  have hT2 := s_X11_setOn_b23 _ _ _ _ _ h
  refine q_avv (As := []) (rest := []) E G hA hX hN hml (a_X11_keepForUndo l hst D cI cJ cZ cMic cSrc cSt cAI cAJ ad T8 o eT20 cp2.2.2 (by rw [cp2.1]; exact h_o)) (cwV 0 hts (gaV qA_925 qA_926 qA_927 qA_131 qA_928) rfl rfl rfl (by decide +kernel) ⟨Nat.le_of_ble_eq_true rfl, Nat.le_of_ble_eq_true rfl⟩) (oO_k g19).1 (cc_o11 (oO_k g19).2) rfl rfl hl.1 rfl (lv_room (Nat.le_of_ble_eq_true rfl)) dX11_setOn_20 (cs_avx hgl cp2 hg2 hT2) (fun ad2 H locs hga G => ?_)
  refine w_cast (c2 := T20.1 - T.1) (s2 := sg T20 - sg T) (cs_f1 hgl cp2 hg2) (cs_f2 hgl cp2 hg2) ?_
  have hl := lv_sub hl [1, 2, 3, 0] rfl
  rw [show ad o = ad2 o from (hga o (by rw [cp2.1]; exact h_o)).symm] at hl
  exact b_X11_setOn_b23 E hA hX hN hml hst htab hlocks (fun ad H locs t had G hvm h1 h2 => ⟨(T1, ad), trivial, ⟨⟨rfl, rfl, had⟩, (c_thrown G hK hvm h1 h2).1⟩, (c_thrown G hK hvm h1 h2).2⟩) _ _ _ _ _ _ _ _ _ h (GL.tr (gl_cpr hgl cp2) hg2) hrc2 (fun n hn => (hga n (by rw [cp2.1]; exact Nat.lt_of_lt_of_le hn hgl.1)).trans (had n hn)) (Nat.lt_of_lt_of_le (by rw [cp2.1]; exact h_o) hg2.1) G hl
def g_X11_moveSource_b72  (T : AT) (s0 : Nat) : Option (Nat × Int32 × AT) := oif (oO T s0 4 = true) <| elet (T.2.2.1 s0 2) fun v3 => some (0, v3, T)
def g_X11_moveSource_b68  (T : AT) (l0 : Nat) : Option (Nat × Int32 × AT) := oif (oO T l0 11 = true) <| obind2 (g_X11_powersNow T l0) fun r4 T3 => oif (Nat.blt r4 T3.1 = true) <| g_X11_moveSource_b72 T3 r4
def g_X11_moveSource_b33  (T : AT) (l0 : Nat) (l1 : Int32) (l2 : Int32) (l3 : Int32) : Option (Nat × Int32 × AT) := oif (oO T l0 11 = true) <| obind (T.2.2.2.2 l0 6) fun n3 => oif (oO T n3 8 = true) <| obind (T.2.2.2.2 n3 6) fun n5 => oif (aA T n5 100 = true) <| oif (inb l1 (T.2.1 n5).2 = true) <| elet (uI T n5 l1.toNatClampNeg l2) fun T8 => oif (oO T8 l0 11 = true) <| obind (T8.2.2.2.2 l0 6) fun n10 => oif (oO T8 n10 8 = true) <| obind (T8.2.2.2.2 n10 7) fun n12 => oif (aA T8 n12 100 = true) <| oif (inb l1 (T8.2.1 n12).2 = true) <| elet (uI T8 n12 l1.toNatClampNeg l3) fun T15 => oif (oO T15 l0 11 = true) <| obind (T15.2.2.2.2 l0 2) fun n17 => oif (oO T15 l0 11 = true) <| obind (T15.2.2.2.2 l0 14) fun n19 => oif (oO T15 l0 11 = true) <| obind (T15.2.2.2.2 l0 6) fun n21 => oif (oO T15 n17 5 = true) <| obind (g_X5_record T15 n17 n19 n21) fun T23 => g_X11_moveSource_b68 T23 l0
def g_X11_moveSource (T : AT) (o : Nat) (a0 : Int32) (a1 : Int32) (a2 : Int32) : Option (Nat × Int32 × AT) := oif (oO T o 11 = true) <| othr (g_X11_needCamera T o) 0 fun r5 T3 => oif (oO T3 o 11 = true) <| othr (g_X11_needSource T3 o a0) 0 fun r10 T8 => othr (g_X11_needRange T8 a1 ((-2000) : Int32) (2000 : Int32)) 0 fun r14 T12 => othr (g_X11_needRange T12 a2 ((-2000) : Int32) (2000 : Int32)) 0 fun r18 T16 => oif (oO T16 o 11 = true) <| obind (g_X11_keepForUndo T16 o) fun T21 => g_X11_moveSource_b33 T21 o a0 a1 a2
set_option maxHeartbeats 4000000 in
set_option maxRecDepth 100000 in
theorem s_X11_moveSource_b72 {e1 : Nat} {r1 : Int32} {T1 : AT} : ∀ (T : AT) (s0 : Nat), g_X11_moveSource_b72 T s0 = some (e1, r1, T1) → GL T T1 := by
  intro T s0 h
  have p0 := GL.rf T
  unfold g_X11_moveSource_b72 at h
  obtain ⟨g2, h⟩ := oif_some h
  obtain ⟨v3, -, h⟩ := elet_some h
  rw [← (osome3 h).2.2]
  exact p0
set_option maxHeartbeats 4000000 in
set_option maxRecDepth 100000 in
theorem s_X11_moveSource_b68 {e1 : Nat} {r1 : Int32} {T1 : AT} : ∀ (T : AT) (l0 : Nat), g_X11_moveSource_b68 T l0 = some (e1, r1, T1) → GL T T1 := by
  intro T l0 h
  have p0 := GL.rf T
  unfold g_X11_moveSource_b68 at h
  obtain ⟨g2, h⟩ := oif_some h
  obtain ⟨r4, T3, eT3, h⟩ := obind2_some h
  obtain ⟨g5, h⟩ := oif_some h
  have p1 : GL T T3 := GL.tr p0 (s_X11_powersNow eT3)
  exact GL.tr p1 (s_X11_moveSource_b72 _ _ h)
set_option maxHeartbeats 4000000 in
set_option maxRecDepth 100000 in
theorem s_X11_moveSource_b33 {e1 : Nat} {r1 : Int32} {T1 : AT} : ∀ (T : AT) (l0 : Nat) (l1 : Int32) (l2 : Int32) (l3 : Int32), g_X11_moveSource_b33 T l0 l1 l2 l3 = some (e1, r1, T1) → GL T T1 := by
  intro T l0 l1 l2 l3 h
  have p0 := GL.rf T
  unfold g_X11_moveSource_b33 at h
  obtain ⟨g2, h⟩ := oif_some h
  obtain ⟨n3, en3, h⟩ := obind_some h
  obtain ⟨g4, h⟩ := oif_some h
  obtain ⟨n5, en5, h⟩ := obind_some h
  obtain ⟨g6, h⟩ := oif_some h
  obtain ⟨g7, h⟩ := oif_some h
  obtain ⟨T8, eT8, h⟩ := elet_some h
  have p1 : GL T T8 := GL.tr p0 (by rw [eT8]; exact gl_sp sp_uI)
  obtain ⟨g9, h⟩ := oif_some h
  obtain ⟨n10, en10, h⟩ := obind_some h
  obtain ⟨g11, h⟩ := oif_some h
  obtain ⟨n12, en12, h⟩ := obind_some h
  obtain ⟨g13, h⟩ := oif_some h
  obtain ⟨g14, h⟩ := oif_some h
  obtain ⟨T15, eT15, h⟩ := elet_some h
  have p2 : GL T T15 := GL.tr p1 (by rw [eT15]; exact gl_sp sp_uI)
  obtain ⟨g16, h⟩ := oif_some h
  obtain ⟨n17, en17, h⟩ := obind_some h
  obtain ⟨g18, h⟩ := oif_some h
  obtain ⟨n19, en19, h⟩ := obind_some h
  obtain ⟨g20, h⟩ := oif_some h
  obtain ⟨n21, en21, h⟩ := obind_some h
  obtain ⟨g22, h⟩ := oif_some h
  obtain ⟨T23, eT23, h⟩ := obind_some h
  have p3 : GL T T23 := GL.tr p2 (s_X5_record eT23)
  exact GL.tr p3 (s_X11_moveSource_b68 _ _ h)
set_option maxHeartbeats 4000000 in
set_option maxRecDepth 100000 in
theorem s_X11_moveSource {T : AT} {o : Nat} {a0 : Int32} {a1 : Int32} {a2 : Int32} {e1 : Nat} {r1 : Int32} {T1 : AT} (h : g_X11_moveSource T o a0 a1 a2 = some (e1, r1, T1)) : GL T T1 := by
  have p0 := GL.rf T
  unfold g_X11_moveSource at h
  obtain ⟨g2, h⟩ := oif_some h
  rcases othr_s h with ⟨k9, r9, e9, -⟩ | ⟨r4, T3, eT3, h⟩
  · exact GL.tr p0 (gl_sp (s_X11_needCamera e9))
  have p1 : GL T T3 := GL.tr p0 (gl_sp (s_X11_needCamera eT3))
  obtain ⟨g5, h⟩ := oif_some h
  rcases othr_s h with ⟨k9, r9, e9, -⟩ | ⟨r7, T6, eT6, h⟩
  · exact GL.tr p1 (gl_sp (s_X11_needSource e9))
  have p2 : GL T T6 := GL.tr p1 (gl_sp (s_X11_needSource eT6))
  rcases othr_s h with ⟨k9, r9, e9, -⟩ | ⟨r9, T8, eT8, h⟩
  · exact GL.tr p2 (gl_sp (s_X11_needRange e9))
  have p3 : GL T T8 := GL.tr p2 (gl_sp (s_X11_needRange eT8))
  rcases othr_s h with ⟨k9, r9, e9, -⟩ | ⟨r11, T10, eT10, h⟩
  · exact GL.tr p3 (gl_sp (s_X11_needRange e9))
  have p4 : GL T T10 := GL.tr p3 (gl_sp (s_X11_needRange eT10))
  obtain ⟨g12, h⟩ := oif_some h
  obtain ⟨T13, eT13, h⟩ := obind_some h
  have p5 : GL T T13 := GL.tr p4 (s_X11_keepForUndo eT13)
  exact GL.tr p5 (s_X11_moveSource_b33 _ _ _ _ _ h)
set_option maxHeartbeats 4000000 in
set_option maxRecDepth 100000 in
theorem a_X11_moveSource_b72 {p : Program} {l : Launch} {e : Env} {s : State} {m : MethodId} {args : Array Value} {below : List Frame} {meth : Method} {c : Code} {Q : State → Prop} {D : va_G} {A : Nat → Prop} {cI cJ cZ cMic cSrc cSt cAI cAJ : ClassId} {ad0 : Nat → Nat} {T0 : AT} {r1 : Int32} {T1 : AT} (E : cE p c cX11_moveSource s m args (Cond.code yX11_moveSource cX11_moveSource 4 (some .int) :: wsA) D RX11 (CT cI cJ cZ cMic cSrc cSt cAI cAJ)) (hA : ∀ q : Nat, s.heap.size ≤ q → A q) (hX : xT A s) (hN : nX s) (hml : c.maxLocals = 4) (hst : l.stackTraces = false) (kr75 : ∀ (ad : Nat → Nat) (H : Heap) (locs : List Loc) (ls : Array Slot), (∀ n, n < T0.1 → ad n = ad0 n) → gC cI cJ cZ cMic cSrc cSt cAI cAJ D ad A s.heap H locs T1 → W p l e { frames := 8, cells := T1.1 - T0.1, slots := sg T1 - sg T0, locals := 149 } s m args below meth c H locs (T1.1 - T0.1) (sg T1 - sg T0) Q (F0 m 75 ls [.int r1])) : ∀ (T : AT) (ad : Nat → Nat) (H : Heap) (locs : List Loc) (ls : Array Slot) (s0 : Nat), g_X11_moveSource_b72 T s0 = some (0, r1, T1) → GL T0 T → RC T → (∀ n, n < T0.1 → ad n = ad0 n) → s0 < T.1 → gC cI cJ cZ cMic cSrc cSt cAI cAJ D ad A s.heap H locs T → lv_has ls 4 [] → W p l e { frames := 8, cells := T1.1 - T0.1, slots := sg T1 - sg T0, locals := 149 } s m args below meth c H locs (T.1 - T0.1) (sg T - sg T0) Q (F0 m 72 ls [.ref (ad s0)]) := by
  have hx := E.1
  have hb := E.2.1
  have hts := E.2.2.1
  have hown := E.2.2.2.1
  have hK := E.2.2.2.2
  intro T ad H locs ls s0 h hgl hrc had h_s0 G hl
  have hT1 := s_X11_moveSource_b72 _ _ h
  have hcs := cs_ok hgl hT1
  have cp0 := cpr0 hrc
  unfold g_X11_moveSource_b72 at h
  obtain ⟨g2, h⟩ := oif_some h
  refine c_get E G s0 2 (oO_k g2).1 (cc_o4 (oO_k g2).2) rfl (fun w h => .tail _ (iA_21 h)) (by decide) (.tail _ qA_812) rfl rfl dX11_moveSource_72 ?_
  refine lv_topi (fun v3 ev3 => ?_)
  have h := elet_at ev3 h
  clear ev3
  rw [(osome3 h).2.2] at G
  refine w_cast (c2 := T1.1 - T0.1) (s2 := sg T1 - sg T0) (by rw [← (osome3 h).2.2, cp0.1] <;> rfl) (by rw [← (osome3 h).2.2, sg_cpr cp0] <;> rfl) ?_
  refine lv_to ((osome3 h).2.1) ?_
  exact kr75 ad _ _ _ had G
set_option maxHeartbeats 4000000 in
set_option maxRecDepth 100000 in
theorem a_X11_moveSource_b68 {p : Program} {l : Launch} {e : Env} {s : State} {m : MethodId} {args : Array Value} {below : List Frame} {meth : Method} {c : Code} {Q : State → Prop} {D : va_G} {A : Nat → Prop} {cI cJ cZ cMic cSrc cSt cAI cAJ : ClassId} {ad0 : Nat → Nat} {T0 : AT} {r1 : Int32} {T1 : AT} (E : cE p c cX11_moveSource s m args (Cond.code yX11_moveSource cX11_moveSource 4 (some .int) :: wsA) D RX11 (CT cI cJ cZ cMic cSrc cSt cAI cAJ)) (hA : ∀ q : Nat, s.heap.size ≤ q → A q) (hX : xT A s) (hN : nX s) (hml : c.maxLocals = 4) (hst : l.stackTraces = false) (kr75 : ∀ (ad : Nat → Nat) (H : Heap) (locs : List Loc) (ls : Array Slot), (∀ n, n < T0.1 → ad n = ad0 n) → gC cI cJ cZ cMic cSrc cSt cAI cAJ D ad A s.heap H locs T1 → W p l e { frames := 8, cells := T1.1 - T0.1, slots := sg T1 - sg T0, locals := 149 } s m args below meth c H locs (T1.1 - T0.1) (sg T1 - sg T0) Q (F0 m 75 ls [.int r1])) : ∀ (T : AT) (ad : Nat → Nat) (H : Heap) (locs : List Loc) (ls : Array Slot) (l0 : Nat), g_X11_moveSource_b68 T l0 = some (0, r1, T1) → GL T0 T → RC T → (∀ n, n < T0.1 → ad n = ad0 n) → l0 < T.1 → gC cI cJ cZ cMic cSrc cSt cAI cAJ D ad A s.heap H locs T → lv_has ls 4 [(0, .ref (ad l0))] → W p l e { frames := 8, cells := T1.1 - T0.1, slots := sg T1 - sg T0, locals := 149 } s m args below meth c H locs (T.1 - T0.1) (sg T - sg T0) Q (F0 m 68 ls []) := by
  have hx := E.1
  have hb := E.2.1
  have hts := E.2.2.1
  have hown := E.2.2.2.1
  have hK := E.2.2.2.2
  intro T ad H locs ls l0 h hgl hrc had h_l0 G hl
  have hT1 := s_X11_moveSource_b68 _ _ h
  have hcs := cs_ok hgl hT1
  have cp0 := cpr0 hrc
  unfold g_X11_moveSource_b68 at h
  refine lv_aload_n hx hb dX11_moveSource_68 rfl (lv_at hl 0 rfl) ?_
  obtain ⟨g2, h⟩ := oif_some h
  obtain ⟨r4, T3, eT3, h⟩ := obind2_some h
  obtain ⟨g5, h⟩ := oif_some h
  have hg2 := s_X11_powersNow eT3
  have hrc2 := hg2.2.2 cp0.2.2
  have hT2 := s_X11_moveSource_b72 _ _ h
  refine q_avr (As := []) (rest := []) E G hA hX hN hml (a_X11_powersNow l hst D cI cJ cZ cMic cSrc cSt cAI cAJ ad T l0 eT3 cp0.2.2 (by rw [cp0.1]; exact h_l0)) (cwV 0 hts (gaV qA_799 qA_800 qA_801 qA_131 qA_802) rfl rfl rfl (by decide +kernel) ⟨Nat.le_of_ble_eq_true rfl, Nat.le_of_ble_eq_true rfl⟩) (oO_k g2).1 (cc_o11 (oO_k g2).2) rfl rfl hl.1 rfl (lv_room (Nat.le_of_ble_eq_true rfl)) dX11_moveSource_69 (cs_av hgl cp0 hg2 hT2) (fun ad2 H locs hga G => ?_)
  refine w_cast (c2 := T3.1 - T0.1) (s2 := sg T3 - sg T0) (cs_f1 hgl cp0 hg2) (cs_f2 hgl cp0 hg2) ?_
  have h_new : r4 < T3.1 := Nat.le_of_ble_eq_true g5
  have hl := lv_sub hl [] rfl
  exact a_X11_moveSource_b72 E hA hX hN hml hst kr75 _ _ _ _ _ _ h (GL.tr (gl_cpr hgl cp0) hg2) hrc2 (fun n hn => (hga n (by rw [cp0.1]; exact Nat.lt_of_lt_of_le hn hgl.1)).trans (had n hn)) h_new G hl
set_option maxHeartbeats 4000000 in
set_option maxRecDepth 100000 in
theorem a_X11_moveSource_b33 {p : Program} {l : Launch} {e : Env} {s : State} {m : MethodId} {args : Array Value} {below : List Frame} {meth : Method} {c : Code} {Q : State → Prop} {D : va_G} {A : Nat → Prop} {cI cJ cZ cMic cSrc cSt cAI cAJ : ClassId} {ad0 : Nat → Nat} {T0 : AT} {r1 : Int32} {T1 : AT} (E : cE p c cX11_moveSource s m args (Cond.code yX11_moveSource cX11_moveSource 4 (some .int) :: wsA) D RX11 (CT cI cJ cZ cMic cSrc cSt cAI cAJ)) (hA : ∀ q : Nat, s.heap.size ≤ q → A q) (hX : xT A s) (hN : nX s) (hml : c.maxLocals = 4) (hst : l.stackTraces = false) (kr75 : ∀ (ad : Nat → Nat) (H : Heap) (locs : List Loc) (ls : Array Slot), (∀ n, n < T0.1 → ad n = ad0 n) → gC cI cJ cZ cMic cSrc cSt cAI cAJ D ad A s.heap H locs T1 → W p l e { frames := 8, cells := T1.1 - T0.1, slots := sg T1 - sg T0, locals := 149 } s m args below meth c H locs (T1.1 - T0.1) (sg T1 - sg T0) Q (F0 m 75 ls [.int r1])) : ∀ (T : AT) (ad : Nat → Nat) (H : Heap) (locs : List Loc) (ls : Array Slot) (l0 : Nat) (l1 : Int32) (l2 : Int32) (l3 : Int32), g_X11_moveSource_b33 T l0 l1 l2 l3 = some (0, r1, T1) → GL T0 T → RC T → (∀ n, n < T0.1 → ad n = ad0 n) → l0 < T.1 → gC cI cJ cZ cMic cSrc cSt cAI cAJ D ad A s.heap H locs T → lv_has ls 4 [(0, .ref (ad l0)), (1, .int l1), (2, .int l2), (3, .int l3)] → W p l e { frames := 8, cells := T1.1 - T0.1, slots := sg T1 - sg T0, locals := 149 } s m args below meth c H locs (T.1 - T0.1) (sg T - sg T0) Q (F0 m 33 ls []) := by
  have hx := E.1
  have hb := E.2.1
  have hts := E.2.2.1
  have hown := E.2.2.2.1
  have hK := E.2.2.2.2
  intro T ad H locs ls l0 l1 l2 l3 h hgl hrc had h_l0 G hl
  have hT1 := s_X11_moveSource_b33 _ _ _ _ _ h
  have hcs := cs_ok hgl hT1
  have cp0 := cpr0 hrc
  unfold g_X11_moveSource_b33 at h
  refine lv_aload_n hx hb dX11_moveSource_33 rfl (lv_at hl 0 rfl) ?_
  obtain ⟨g2, h⟩ := oif_some h
  obtain ⟨n3, en3, h⟩ := obind_some h
  have h_n3 : n3 < T.1 := by rw [← cp0.1]; exact cp0.2.2 _ _ _ en3
  refine c_get E G l0 6 (v := .ref (ad n3)) (oO_k g2).1 (cc_o11 (oO_k g2).2) rfl (fun w h => .tail _ (iA_23 h)) (by decide) (.tail _ qA_664) rfl (by rw [en3]; rfl) dX11_moveSource_34 ?_
  clear en3
  obtain ⟨g4, h⟩ := oif_some h
  obtain ⟨n5, en5, h⟩ := obind_some h
  have h_n5 : n5 < T.1 := by rw [← cp0.1]; exact cp0.2.2 _ _ _ en5
  refine c_get E G n3 6 (v := .ref (ad n5)) (oO_k g4).1 (cc_o8 (oO_k g4).2) rfl (fun w h => .tail _ (iA_16 h)) (by decide) (.tail _ qA_762) rfl (by rw [en5]; rfl) dX11_moveSource_37 ?_
  clear en5
  refine lv_iload_n hx hb dX11_moveSource_40 rfl (lv_at hl 1 rfl) ?_
  refine lv_iload_n hx hb dX11_moveSource_41 rfl (lv_at hl 2 rfl) ?_
  obtain ⟨g6, h⟩ := oif_some h
  obtain ⟨g7, h⟩ := oif_some h
  refine c_iast E G n5 0 (k := l1.toNatClampNeg) (v := l2) (aA_k g6).1 (cc_a100 (aA_k g6).2.1) rfl (inb_k g7).1 (inb_k g7).2 (aA_k g6).2.2 dX11_moveSource_42 (fun H locs G => ?_)
  have G := gC_up_i (f := upd (T.2.2.1 n5) l1.toNatClampNeg l2) (ccv_100 (aA_k g6).2.1) G
  obtain ⟨T8, eT8, h⟩ := elet_some h
  have G : gC cI cJ cZ cMic cSrc cSt cAI cAJ D ad A s.heap H locs T8 := by rw [eT8]; exact G
  have cp1 := show CPR T T8 from by rw [eT8]; exact cpr_sp cp0 sp_uI
  clear eT8
  refine lv_aload_n hx hb dX11_moveSource_43 rfl (lv_at hl 0 rfl) ?_
  obtain ⟨g9, h⟩ := oif_some h
  obtain ⟨n10, en10, h⟩ := obind_some h
  have h_n10 : n10 < T.1 := by rw [← cp1.1]; exact cp1.2.2 _ _ _ en10
  refine c_get E G l0 6 (v := .ref (ad n10)) (oO_k g9).1 (cc_o11 (oO_k g9).2) rfl (fun w h => .tail _ (iA_23 h)) (by decide) (.tail _ qA_664) rfl (by rw [en10]; rfl) dX11_moveSource_44 ?_
  clear en10
  obtain ⟨g11, h⟩ := oif_some h
  obtain ⟨n12, en12, h⟩ := obind_some h
  have h_n12 : n12 < T.1 := by rw [← cp1.1]; exact cp1.2.2 _ _ _ en12
  refine c_get E G n10 7 (v := .ref (ad n12)) (oO_k g11).1 (cc_o8 (oO_k g11).2) rfl (fun w h => .tail _ (iA_16 h)) (by decide) (.tail _ qA_764) rfl (by rw [en12]; rfl) dX11_moveSource_47 ?_
  clear en12
  refine lv_iload_n hx hb dX11_moveSource_50 rfl (lv_at hl 1 rfl) ?_
  refine lv_iload_n hx hb dX11_moveSource_51 rfl (lv_at hl 3 rfl) ?_
  obtain ⟨g13, h⟩ := oif_some h
  obtain ⟨g14, h⟩ := oif_some h
  refine c_iast E G n12 0 (k := l1.toNatClampNeg) (v := l3) (aA_k g13).1 (cc_a100 (aA_k g13).2.1) rfl (inb_k g14).1 (inb_k g14).2 (aA_k g13).2.2 dX11_moveSource_52 (fun H locs G => ?_)
  have G := gC_up_i (f := upd (T8.2.2.1 n12) l1.toNatClampNeg l3) (ccv_100 (aA_k g13).2.1) G
  obtain ⟨T15, eT15, h⟩ := elet_some h
  have G : gC cI cJ cZ cMic cSrc cSt cAI cAJ D ad A s.heap H locs T15 := by rw [eT15]; exact G
  have cp2 := show CPR T T15 from by rw [eT15]; exact cpr_sp cp1 sp_uI
  clear eT15
  refine lv_aload_n hx hb dX11_moveSource_53 rfl (lv_at hl 0 rfl) ?_
  obtain ⟨g16, h⟩ := oif_some h
  obtain ⟨n17, en17, h⟩ := obind_some h
  have h_n17 : n17 < T.1 := by rw [← cp2.1]; exact cp2.2.2 _ _ _ en17
  refine c_get E G l0 2 (v := .ref (ad n17)) (oO_k g16).1 (cc_o11 (oO_k g16).2) rfl (fun w h => .tail _ (iA_23 h)) (by decide) (.tail _ qA_654) rfl (by rw [en17]; rfl) dX11_moveSource_54 ?_
  clear en17
  refine lv_aload_n hx hb dX11_moveSource_57 rfl (lv_at hl 0 rfl) ?_
  obtain ⟨g18, h⟩ := oif_some h
  obtain ⟨n19, en19, h⟩ := obind_some h
  have h_n19 : n19 < T.1 := by rw [← cp2.1]; exact cp2.2.2 _ _ _ en19
  refine c_get E G l0 14 (v := .ref (ad n19)) (oO_k g18).1 (cc_o11 (oO_k g18).2) rfl (fun w h => .tail _ (iA_23 h)) (by decide) (.tail _ qA_675) rfl (by rw [en19]; rfl) dX11_moveSource_58 ?_
  clear en19
  refine lv_aload_n hx hb dX11_moveSource_61 rfl (lv_at hl 0 rfl) ?_
  obtain ⟨g20, h⟩ := oif_some h
  obtain ⟨n21, en21, h⟩ := obind_some h
  have h_n21 : n21 < T.1 := by rw [← cp2.1]; exact cp2.2.2 _ _ _ en21
  refine c_get E G l0 6 (v := .ref (ad n21)) (oO_k g20).1 (cc_o11 (oO_k g20).2) rfl (fun w h => .tail _ (iA_23 h)) (by decide) (.tail _ qA_664) rfl (by rw [en21]; rfl) dX11_moveSource_62 ?_
  clear en21
  obtain ⟨g22, h⟩ := oif_some h
  obtain ⟨T23, eT23, h⟩ := obind_some h
  have hg2 := s_X5_record eT23
  have hrc2 := hg2.2.2 cp2.2.2
  have hT2 := s_X11_moveSource_b68 _ _ h
  refine q_avv (As := [.ref (ad n19), .ref (ad n21)]) (rest := []) E G hA hX hN hml (a_X5_record l hst D cI cJ cZ cMic cSrc cSt cAI cAJ ad T15 n17 n19 n21 eT23 cp2.2.2 (by rw [cp2.1]; exact h_n17) (by rw [cp2.1]; exact h_n19) (by rw [cp2.1]; exact h_n21)) (cwV 2 hts (gaV qA_711 qA_712 qA_713 qA_475 qA_463) rfl rfl rfl (by decide +kernel) ⟨Nat.le_of_ble_eq_true rfl, Nat.le_of_ble_eq_true rfl⟩) (oO_k g22).1 (cc_o5 (oO_k g22).2) rfl rfl hl.1 rfl (lv_room (Nat.le_of_ble_eq_true rfl)) dX11_moveSource_65 (cs_av hgl cp2 hg2 hT2) (fun ad2 H locs hga G => ?_)
  refine w_cast (c2 := T23.1 - T0.1) (s2 := sg T23 - sg T0) (cs_f1 hgl cp2 hg2) (cs_f2 hgl cp2 hg2) ?_
  have hl := lv_sub hl [0] rfl
  rw [show ad l0 = ad2 l0 from (hga l0 (by rw [cp2.1]; exact h_l0)).symm] at hl
  exact a_X11_moveSource_b68 E hA hX hN hml hst kr75 _ _ _ _ _ _ h (GL.tr (gl_cpr hgl cp2) hg2) hrc2 (fun n hn => (hga n (by rw [cp2.1]; exact Nat.lt_of_lt_of_le hn hgl.1)).trans (had n hn)) (Nat.lt_of_lt_of_le (by rw [cp2.1]; exact h_l0) hg2.1) G hl
set_option maxHeartbeats 4000000 in
set_option maxRecDepth 100000 in
theorem a_X11_moveSource (l : Launch) (hst : l.stackTraces = false) (D : va_G) (cI cJ cZ cMic cSrc cSt cAI cAJ : ClassId) (ad : Nat → Nat) (T : AT) (o : Nat) (a0 : Int32) (a1 : Int32) (a2 : Int32) {r1 : Int32} {T1 : AT} (h : g_X11_moveSource T o a0 a1 a2 = some (0, r1, T1)) (hrc : RC T) (h_o : o < T.1) : kAi l yX11_moveSource (Cond.code yX11_moveSource cX11_moveSource 4 (some .int) :: wsA) 8 149 cI cJ cZ cMic cSrc cSt cAI cAJ D ad T [.ref (ad o), .int a0, .int a1, .int a2] r1 T1 := by
  intro sz
  refine pro_in (cc := cX11_moveSource) (maxL := 4) (ret := (some .int)) (by exact pn_RX11) rfl (by exact Nat.le_of_ble_eq_true rfl) (fun p e s m below meth c ls hx hb hr hts hown hlocks hml hv hl => ?_)
  obtain ⟨hsz, hP, hK, hD0, hX, hN⟩ := hv
  subst hsz
  have hD := hD0.self (sz := s.heap.size)
  generalize hAe : va_A (cW ad T.1 (cc cI cJ cZ cMic cSrc cSt cAI cAJ ad T)) s.heap.size = A at hD hX ⊢
  have hA : ∀ q : Nat, s.heap.size ≤ q → A q := fun q h => by rw [← hAe]; exact Or.inr h
  have G : gC cI cJ cZ cMic cSrc cSt cAI cAJ D ad A s.heap s.heap [] T := ⟨hP, hD, va_S.rf⟩
  have E : cE p c cX11_moveSource s m ([.ref (ad o), .int a0, .int a1, .int a2] : List Value).toArray (Cond.code yX11_moveSource cX11_moveSource 4 (some .int) :: wsA) D RX11 (CT cI cJ cZ cMic cSrc cSt cAI cAJ) := ⟨hx, hb, hts, hown, hK⟩
  have hl : lv_has ls 4 [(0, .ref (ad o)), (1, .int a0), (2, .int a1), (3, .int a2)] := hl
  have hgl := GL.rf T
  have had : ∀ n, n < T.1 → ad n = ad n := fun _ _ => rfl
  have hT1 := s_X11_moveSource h
  have hcs := cs_ok hgl hT1
  refine w_cast (Nat.sub_self T.1).symm (Nat.sub_self (sg T)).symm ?_
  have cp0 := cpr0 hrc
  unfold g_X11_moveSource at h
  refine lv_aload_n hx hb dX11_moveSource_0 rfl (lv_at hl 0 rfl) ?_
  obtain ⟨g2, h⟩ := oif_some h
  obtain ⟨r5, T3, eT3, h⟩ := othr_n h
  refine q_cvv (As := []) (rest := []) E G hA hX hN hml (u_X11_needCamera l hst D cI cJ cZ cMic cSrc cSt cAI cAJ ad T o eT3) (cwV 0 hts (gaV qA_728 qA_729 qA_730 qA_131 qA_731) rfl rfl rfl (by decide +kernel) ⟨Nat.le_of_ble_eq_true rfl, Nat.le_of_ble_eq_true rfl⟩) (oO_k g2).1 (cc_o11 (oO_k g2).2) rfl rfl hl.1 rfl (lv_room (Nat.le_of_ble_eq_true rfl)) dX11_moveSource_1 hcs (fun T4 H locs hq G => ?_)
  rw [hq] at G
  clear hq
  have cp1 := cpr_sp cp0 (s_X11_needCamera eT3)
  refine lv_aload_n hx hb dX11_moveSource_4 rfl (lv_at hl 0 rfl) ?_
  refine lv_iload_n hx hb dX11_moveSource_5 rfl (lv_at hl 1 rfl) ?_
  obtain ⟨g7, h⟩ := oif_some h
  obtain ⟨r10, T8, eT8, h⟩ := othr_n h
  refine q_cvv (As := [.int a0]) (rest := []) E G hA hX hN hml (u_X11_needSource l hst D cI cJ cZ cMic cSrc cSt cAI cAJ ad T3 o a0 eT8) (cwV 1 hts (gaV qA_766 qA_767 qA_768 qA_131 qA_769) rfl rfl rfl (by decide +kernel) ⟨Nat.le_of_ble_eq_true rfl, Nat.le_of_ble_eq_true rfl⟩) (oO_k g7).1 (cc_o11 (oO_k g7).2) rfl rfl hl.1 rfl (lv_room (Nat.le_of_ble_eq_true rfl)) dX11_moveSource_6 hcs (fun T9 H locs hq G => ?_)
  rw [hq] at G
  clear hq
  have cp2 := cpr_sp cp1 (s_X11_needSource eT8)
  refine lv_iload_n hx hb dX11_moveSource_9 rfl (lv_at hl 2 rfl) ?_
  refine lv_sipush (v := (-2000)) hx hb dX11_moveSource_10 (by decide) ?_
  refine lv_sipush (v := 2000) hx hb dX11_moveSource_13 (by decide) ?_
  obtain ⟨r14, T12, eT12, h⟩ := othr_n h
  refine q_csv (As := [.int a1, .int (-2000), .int 2000]) (rest := []) E G hA hX hN hml (u_X11_needRange l hst D cI cJ cZ cMic cSrc cSt cAI cAJ ad T8 a1 ((-2000) : Int32) (2000 : Int32) eT12) (cwS 3 hts (gaS qA_741 qA_742 qA_131 qA_743) rfl rfl rfl (by decide +kernel) ⟨Nat.le_of_ble_eq_true rfl, Nat.le_of_ble_eq_true rfl⟩) rfl hl.1 rfl (lv_room (Nat.le_of_ble_eq_true rfl)) dX11_moveSource_16 hcs (fun T13 H locs hq G => ?_)
  rw [hq] at G
  clear hq
  have cp3 := cpr_sp cp2 (s_X11_needRange eT12)
  refine lv_iload_n hx hb dX11_moveSource_19 rfl (lv_at hl 3 rfl) ?_
  refine lv_sipush (v := (-2000)) hx hb dX11_moveSource_20 (by decide) ?_
  refine lv_sipush (v := 2000) hx hb dX11_moveSource_23 (by decide) ?_
  obtain ⟨r18, T16, eT16, h⟩ := othr_n h
  refine q_csv (As := [.int a2, .int (-2000), .int 2000]) (rest := []) E G hA hX hN hml (u_X11_needRange l hst D cI cJ cZ cMic cSrc cSt cAI cAJ ad T12 a2 ((-2000) : Int32) (2000 : Int32) eT16) (cwS 3 hts (gaS qA_741 qA_742 qA_131 qA_743) rfl rfl rfl (by decide +kernel) ⟨Nat.le_of_ble_eq_true rfl, Nat.le_of_ble_eq_true rfl⟩) rfl hl.1 rfl (lv_room (Nat.le_of_ble_eq_true rfl)) dX11_moveSource_26 hcs (fun T17 H locs hq G => ?_)
  rw [hq] at G
  clear hq
  have cp4 := cpr_sp cp3 (s_X11_needRange eT16)
  refine lv_aload_n hx hb dX11_moveSource_29 rfl (lv_at hl 0 rfl) ?_
  obtain ⟨g20, h⟩ := oif_some h
  obtain ⟨T21, eT21, h⟩ := obind_some h
  have hg2 := s_X11_keepForUndo eT21
  have hrc2 := hg2.2.2 cp4.2.2
  have hT2 := s_X11_moveSource_b33 _ _ _ _ _ h
  refine q_avv (As := []) (rest := []) E G hA hX hN hml (a_X11_keepForUndo l hst D cI cJ cZ cMic cSrc cSt cAI cAJ ad T16 o eT21 cp4.2.2 (by rw [cp4.1]; exact h_o)) (cwV 0 hts (gaV qA_925 qA_926 qA_927 qA_131 qA_928) rfl rfl rfl (by decide +kernel) ⟨Nat.le_of_ble_eq_true rfl, Nat.le_of_ble_eq_true rfl⟩) (oO_k g20).1 (cc_o11 (oO_k g20).2) rfl rfl hl.1 rfl (lv_room (Nat.le_of_ble_eq_true rfl)) dX11_moveSource_30 (cs_av hgl cp4 hg2 hT2) (fun ad2 H locs hga G => ?_)
  refine w_cast (c2 := T21.1 - T.1) (s2 := sg T21 - sg T) (cs_f1 hgl cp4 hg2) (cs_f2 hgl cp4 hg2) ?_
  have hl := lv_sub hl [0, 1, 2, 3] rfl
  rw [show ad o = ad2 o from (hga o (by rw [cp4.1]; exact h_o)).symm] at hl
  exact a_X11_moveSource_b33 E hA hX hN hml hst (fun ad H locs ls had G => W.iret (v := r1) hx hb hr (fun t ht hW => ⟨⟨r1, (T1, ad), rfl, ⟨rfl, rfl, had⟩, ⟨by rw [ht]; exact G.1, va_K.moved hW.alike hK, G.2.1⟩⟩, G.2.2.F ht⟩) G.2.2.2.2 dX11_moveSource_75) _ _ _ _ _ _ _ _ _ h (GL.tr (gl_cpr hgl cp4) hg2) hrc2 (fun n hn => (hga n (by rw [cp4.1]; exact Nat.lt_of_lt_of_le hn hgl.1)).trans (had n hn)) (Nat.lt_of_lt_of_le (by rw [cp4.1]; exact h_o) hg2.1) G hl
set_option maxHeartbeats 4000000 in
set_option maxRecDepth 100000 in
theorem b_X11_moveSource_b72 {p : Program} {l : Launch} {e : Env} {s : State} {m : MethodId} {args : Array Value} {below : List Frame} {meth : Method} {c : Code} {Qc : Array Value → State → Outcome → State → Prop} {XC : String → State → State → Prop} {D : va_G} {A : Nat → Prop} {cI cJ cZ cMic cSrc cSt cAI cAJ : ClassId} {ad0 : Nat → Nat} {T0 : AT} {e1 : Nat} {r1 : Int32} {T1 : AT} (E : cE p c cX11_moveSource s m args (Cond.code yX11_moveSource cX11_moveSource 4 (some .int) :: wsA) D RX11 (CT cI cJ cZ cMic cSrc cSt cAI cAJ)) (hA : ∀ q : Nat, s.heap.size ≤ q → A q) (hX : xT A s) (hN : nX s) (hml : c.maxLocals = 4) (hst : l.stackTraces = false) (htab : ∀ x ∈ c.exceptionTable.toList, False) (hlocks : meth.locks = false) (kx : ∀ (ad : Nat → Nat) (H : Heap) (locs : List Loc) (t : State), (∀ n, n < T0.1 → ad n = ad0 n) → gC cI cJ cZ cMic cSrc cSt cAI cAJ D ad A s.heap H locs T1 → s.vm.Alike t.vm → H.size ≤ t.heap.size → (∀ q, q < H.size → t.heap[q]? = H[q]?) → XC (exn e1) s t) : ∀ (T : AT) (ad : Nat → Nat) (H : Heap) (locs : List Loc) (ls : Array Slot) (s0 : Nat), g_X11_moveSource_b72 T s0 = some (e1 + 1, r1, T1) → GL T0 T → RC T → (∀ n, n < T0.1 → ad n = ad0 n) → s0 < T.1 → gC cI cJ cZ cMic cSrc cSt cAI cAJ D ad A s.heap H locs T → lv_has ls 4 [] → W p l e { frames := 8, cells := T1.1 - T0.1 + 1, slots := sg T1 - sg T0 + 6, locals := 149 } s m args below meth c H locs (T.1 - T0.1) (sg T - sg T0) (vx_MQ below Qc XC args s (T1.1 - T0.1 + 1) (sg T1 - sg T0 + 6) A) (F0 m 72 ls [.ref (ad s0)]) := by
  have hx := E.1
  have hb := E.2.1
  have hts := E.2.2.1
  have hown := E.2.2.2.1
  have hK := E.2.2.2.2
  intro T ad H locs ls s0 h hgl hrc had h_s0 G hl
  have hT1 := s_X11_moveSource_b72 _ _ h
  have hcs := cs_okx hgl hT1
  have hcx := cs_okx1 hgl hT1
  have cp0 := cpr0 hrc
  unfold g_X11_moveSource_b72 at h
  obtain ⟨g2, h⟩ := oif_some h
  refine c_get E G s0 2 (oO_k g2).1 (cc_o4 (oO_k g2).2) rfl (fun w h => .tail _ (iA_21 h)) (by decide) (.tail _ qA_812) rfl rfl dX11_moveSource_72 ?_
  refine lv_topi (fun v3 ev3 => ?_)
  have h := elet_at ev3 h
  clear ev3
  exact (Nat.succ_ne_zero _ (congrArg Prod.fst (Option.some.inj h)).symm).elim
set_option maxHeartbeats 4000000 in
set_option maxRecDepth 100000 in
theorem b_X11_moveSource_b68 {p : Program} {l : Launch} {e : Env} {s : State} {m : MethodId} {args : Array Value} {below : List Frame} {meth : Method} {c : Code} {Qc : Array Value → State → Outcome → State → Prop} {XC : String → State → State → Prop} {D : va_G} {A : Nat → Prop} {cI cJ cZ cMic cSrc cSt cAI cAJ : ClassId} {ad0 : Nat → Nat} {T0 : AT} {e1 : Nat} {r1 : Int32} {T1 : AT} (E : cE p c cX11_moveSource s m args (Cond.code yX11_moveSource cX11_moveSource 4 (some .int) :: wsA) D RX11 (CT cI cJ cZ cMic cSrc cSt cAI cAJ)) (hA : ∀ q : Nat, s.heap.size ≤ q → A q) (hX : xT A s) (hN : nX s) (hml : c.maxLocals = 4) (hst : l.stackTraces = false) (htab : ∀ x ∈ c.exceptionTable.toList, False) (hlocks : meth.locks = false) (kx : ∀ (ad : Nat → Nat) (H : Heap) (locs : List Loc) (t : State), (∀ n, n < T0.1 → ad n = ad0 n) → gC cI cJ cZ cMic cSrc cSt cAI cAJ D ad A s.heap H locs T1 → s.vm.Alike t.vm → H.size ≤ t.heap.size → (∀ q, q < H.size → t.heap[q]? = H[q]?) → XC (exn e1) s t) : ∀ (T : AT) (ad : Nat → Nat) (H : Heap) (locs : List Loc) (ls : Array Slot) (l0 : Nat), g_X11_moveSource_b68 T l0 = some (e1 + 1, r1, T1) → GL T0 T → RC T → (∀ n, n < T0.1 → ad n = ad0 n) → l0 < T.1 → gC cI cJ cZ cMic cSrc cSt cAI cAJ D ad A s.heap H locs T → lv_has ls 4 [(0, .ref (ad l0))] → W p l e { frames := 8, cells := T1.1 - T0.1 + 1, slots := sg T1 - sg T0 + 6, locals := 149 } s m args below meth c H locs (T.1 - T0.1) (sg T - sg T0) (vx_MQ below Qc XC args s (T1.1 - T0.1 + 1) (sg T1 - sg T0 + 6) A) (F0 m 68 ls []) := by
  have hx := E.1
  have hb := E.2.1
  have hts := E.2.2.1
  have hown := E.2.2.2.1
  have hK := E.2.2.2.2
  intro T ad H locs ls l0 h hgl hrc had h_l0 G hl
  have hT1 := s_X11_moveSource_b68 _ _ h
  have hcs := cs_okx hgl hT1
  have hcx := cs_okx1 hgl hT1
  have cp0 := cpr0 hrc
  unfold g_X11_moveSource_b68 at h
  refine lv_aload_n hx hb dX11_moveSource_68 rfl (lv_at hl 0 rfl) ?_
  obtain ⟨g2, h⟩ := oif_some h
  obtain ⟨r4, T3, eT3, h⟩ := obind2_some h
  obtain ⟨g5, h⟩ := oif_some h
  have hg2 := s_X11_powersNow eT3
  have hrc2 := hg2.2.2 cp0.2.2
  have hT2 := s_X11_moveSource_b72 _ _ h
  refine q_avr (As := []) (rest := []) E G hA hX hN hml (a_X11_powersNow l hst D cI cJ cZ cMic cSrc cSt cAI cAJ ad T l0 eT3 cp0.2.2 (by rw [cp0.1]; exact h_l0)) (cwV 0 hts (gaV qA_799 qA_800 qA_801 qA_131 qA_802) rfl rfl rfl (by decide +kernel) ⟨Nat.le_of_ble_eq_true rfl, Nat.le_of_ble_eq_true rfl⟩) (oO_k g2).1 (cc_o11 (oO_k g2).2) rfl rfl hl.1 rfl (lv_room (Nat.le_of_ble_eq_true rfl)) dX11_moveSource_69 (cs_avx hgl cp0 hg2 hT2) (fun ad2 H locs hga G => ?_)
  refine w_cast (c2 := T3.1 - T0.1) (s2 := sg T3 - sg T0) (cs_f1 hgl cp0 hg2) (cs_f2 hgl cp0 hg2) ?_
  have h_new : r4 < T3.1 := Nat.le_of_ble_eq_true g5
  have hl := lv_sub hl [] rfl
  exact b_X11_moveSource_b72 E hA hX hN hml hst htab hlocks kx _ _ _ _ _ _ h (GL.tr (gl_cpr hgl cp0) hg2) hrc2 (fun n hn => (hga n (by rw [cp0.1]; exact Nat.lt_of_lt_of_le hn hgl.1)).trans (had n hn)) h_new G hl
set_option maxHeartbeats 4000000 in
set_option maxRecDepth 100000 in
theorem b_X11_moveSource_b33 {p : Program} {l : Launch} {e : Env} {s : State} {m : MethodId} {args : Array Value} {below : List Frame} {meth : Method} {c : Code} {Qc : Array Value → State → Outcome → State → Prop} {XC : String → State → State → Prop} {D : va_G} {A : Nat → Prop} {cI cJ cZ cMic cSrc cSt cAI cAJ : ClassId} {ad0 : Nat → Nat} {T0 : AT} {e1 : Nat} {r1 : Int32} {T1 : AT} (E : cE p c cX11_moveSource s m args (Cond.code yX11_moveSource cX11_moveSource 4 (some .int) :: wsA) D RX11 (CT cI cJ cZ cMic cSrc cSt cAI cAJ)) (hA : ∀ q : Nat, s.heap.size ≤ q → A q) (hX : xT A s) (hN : nX s) (hml : c.maxLocals = 4) (hst : l.stackTraces = false) (htab : ∀ x ∈ c.exceptionTable.toList, False) (hlocks : meth.locks = false) (kx : ∀ (ad : Nat → Nat) (H : Heap) (locs : List Loc) (t : State), (∀ n, n < T0.1 → ad n = ad0 n) → gC cI cJ cZ cMic cSrc cSt cAI cAJ D ad A s.heap H locs T1 → s.vm.Alike t.vm → H.size ≤ t.heap.size → (∀ q, q < H.size → t.heap[q]? = H[q]?) → XC (exn e1) s t) : ∀ (T : AT) (ad : Nat → Nat) (H : Heap) (locs : List Loc) (ls : Array Slot) (l0 : Nat) (l1 : Int32) (l2 : Int32) (l3 : Int32), g_X11_moveSource_b33 T l0 l1 l2 l3 = some (e1 + 1, r1, T1) → GL T0 T → RC T → (∀ n, n < T0.1 → ad n = ad0 n) → l0 < T.1 → gC cI cJ cZ cMic cSrc cSt cAI cAJ D ad A s.heap H locs T → lv_has ls 4 [(0, .ref (ad l0)), (1, .int l1), (2, .int l2), (3, .int l3)] → W p l e { frames := 8, cells := T1.1 - T0.1 + 1, slots := sg T1 - sg T0 + 6, locals := 149 } s m args below meth c H locs (T.1 - T0.1) (sg T - sg T0) (vx_MQ below Qc XC args s (T1.1 - T0.1 + 1) (sg T1 - sg T0 + 6) A) (F0 m 33 ls []) := by
  have hx := E.1
  have hb := E.2.1
  have hts := E.2.2.1
  have hown := E.2.2.2.1
  have hK := E.2.2.2.2
  intro T ad H locs ls l0 l1 l2 l3 h hgl hrc had h_l0 G hl
  have hT1 := s_X11_moveSource_b33 _ _ _ _ _ h
  have hcs := cs_okx hgl hT1
  have hcx := cs_okx1 hgl hT1
  have cp0 := cpr0 hrc
  unfold g_X11_moveSource_b33 at h
  refine lv_aload_n hx hb dX11_moveSource_33 rfl (lv_at hl 0 rfl) ?_
  obtain ⟨g2, h⟩ := oif_some h
  obtain ⟨n3, en3, h⟩ := obind_some h
  have h_n3 : n3 < T.1 := by rw [← cp0.1]; exact cp0.2.2 _ _ _ en3
  refine c_get E G l0 6 (v := .ref (ad n3)) (oO_k g2).1 (cc_o11 (oO_k g2).2) rfl (fun w h => .tail _ (iA_23 h)) (by decide) (.tail _ qA_664) rfl (by rw [en3]; rfl) dX11_moveSource_34 ?_
  clear en3
  obtain ⟨g4, h⟩ := oif_some h
  obtain ⟨n5, en5, h⟩ := obind_some h
  have h_n5 : n5 < T.1 := by rw [← cp0.1]; exact cp0.2.2 _ _ _ en5
  refine c_get E G n3 6 (v := .ref (ad n5)) (oO_k g4).1 (cc_o8 (oO_k g4).2) rfl (fun w h => .tail _ (iA_16 h)) (by decide) (.tail _ qA_762) rfl (by rw [en5]; rfl) dX11_moveSource_37 ?_
  clear en5
  refine lv_iload_n hx hb dX11_moveSource_40 rfl (lv_at hl 1 rfl) ?_
  refine lv_iload_n hx hb dX11_moveSource_41 rfl (lv_at hl 2 rfl) ?_
  obtain ⟨g6, h⟩ := oif_some h
  obtain ⟨g7, h⟩ := oif_some h
  refine c_iast E G n5 0 (k := l1.toNatClampNeg) (v := l2) (aA_k g6).1 (cc_a100 (aA_k g6).2.1) rfl (inb_k g7).1 (inb_k g7).2 (aA_k g6).2.2 dX11_moveSource_42 (fun H locs G => ?_)
  have G := gC_up_i (f := upd (T.2.2.1 n5) l1.toNatClampNeg l2) (ccv_100 (aA_k g6).2.1) G
  obtain ⟨T8, eT8, h⟩ := elet_some h
  have G : gC cI cJ cZ cMic cSrc cSt cAI cAJ D ad A s.heap H locs T8 := by rw [eT8]; exact G
  have cp1 := show CPR T T8 from by rw [eT8]; exact cpr_sp cp0 sp_uI
  clear eT8
  refine lv_aload_n hx hb dX11_moveSource_43 rfl (lv_at hl 0 rfl) ?_
  obtain ⟨g9, h⟩ := oif_some h
  obtain ⟨n10, en10, h⟩ := obind_some h
  have h_n10 : n10 < T.1 := by rw [← cp1.1]; exact cp1.2.2 _ _ _ en10
  refine c_get E G l0 6 (v := .ref (ad n10)) (oO_k g9).1 (cc_o11 (oO_k g9).2) rfl (fun w h => .tail _ (iA_23 h)) (by decide) (.tail _ qA_664) rfl (by rw [en10]; rfl) dX11_moveSource_44 ?_
  clear en10
  obtain ⟨g11, h⟩ := oif_some h
  obtain ⟨n12, en12, h⟩ := obind_some h
  have h_n12 : n12 < T.1 := by rw [← cp1.1]; exact cp1.2.2 _ _ _ en12
  refine c_get E G n10 7 (v := .ref (ad n12)) (oO_k g11).1 (cc_o8 (oO_k g11).2) rfl (fun w h => .tail _ (iA_16 h)) (by decide) (.tail _ qA_764) rfl (by rw [en12]; rfl) dX11_moveSource_47 ?_
  clear en12
  refine lv_iload_n hx hb dX11_moveSource_50 rfl (lv_at hl 1 rfl) ?_
  refine lv_iload_n hx hb dX11_moveSource_51 rfl (lv_at hl 3 rfl) ?_
  obtain ⟨g13, h⟩ := oif_some h
  obtain ⟨g14, h⟩ := oif_some h
  refine c_iast E G n12 0 (k := l1.toNatClampNeg) (v := l3) (aA_k g13).1 (cc_a100 (aA_k g13).2.1) rfl (inb_k g14).1 (inb_k g14).2 (aA_k g13).2.2 dX11_moveSource_52 (fun H locs G => ?_)
  have G := gC_up_i (f := upd (T8.2.2.1 n12) l1.toNatClampNeg l3) (ccv_100 (aA_k g13).2.1) G
  obtain ⟨T15, eT15, h⟩ := elet_some h
  have G : gC cI cJ cZ cMic cSrc cSt cAI cAJ D ad A s.heap H locs T15 := by rw [eT15]; exact G
  have cp2 := show CPR T T15 from by rw [eT15]; exact cpr_sp cp1 sp_uI
  clear eT15
  refine lv_aload_n hx hb dX11_moveSource_53 rfl (lv_at hl 0 rfl) ?_
  obtain ⟨g16, h⟩ := oif_some h
  obtain ⟨n17, en17, h⟩ := obind_some h
  have h_n17 : n17 < T.1 := by rw [← cp2.1]; exact cp2.2.2 _ _ _ en17
  refine c_get E G l0 2 (v := .ref (ad n17)) (oO_k g16).1 (cc_o11 (oO_k g16).2) rfl (fun w h => .tail _ (iA_23 h)) (by decide) (.tail _ qA_654) rfl (by rw [en17]; rfl) dX11_moveSource_54 ?_
  clear en17
  refine lv_aload_n hx hb dX11_moveSource_57 rfl (lv_at hl 0 rfl) ?_
  obtain ⟨g18, h⟩ := oif_some h
  obtain ⟨n19, en19, h⟩ := obind_some h
  have h_n19 : n19 < T.1 := by rw [← cp2.1]; exact cp2.2.2 _ _ _ en19
  refine c_get E G l0 14 (v := .ref (ad n19)) (oO_k g18).1 (cc_o11 (oO_k g18).2) rfl (fun w h => .tail _ (iA_23 h)) (by decide) (.tail _ qA_675) rfl (by rw [en19]; rfl) dX11_moveSource_58 ?_
  clear en19
  refine lv_aload_n hx hb dX11_moveSource_61 rfl (lv_at hl 0 rfl) ?_
  obtain ⟨g20, h⟩ := oif_some h
  obtain ⟨n21, en21, h⟩ := obind_some h
  have h_n21 : n21 < T.1 := by rw [← cp2.1]; exact cp2.2.2 _ _ _ en21
  refine c_get E G l0 6 (v := .ref (ad n21)) (oO_k g20).1 (cc_o11 (oO_k g20).2) rfl (fun w h => .tail _ (iA_23 h)) (by decide) (.tail _ qA_664) rfl (by rw [en21]; rfl) dX11_moveSource_62 ?_
  clear en21
  obtain ⟨g22, h⟩ := oif_some h
  obtain ⟨T23, eT23, h⟩ := obind_some h
  have hg2 := s_X5_record eT23
  have hrc2 := hg2.2.2 cp2.2.2
  have hT2 := s_X11_moveSource_b68 _ _ h
  refine q_avv (As := [.ref (ad n19), .ref (ad n21)]) (rest := []) E G hA hX hN hml (a_X5_record l hst D cI cJ cZ cMic cSrc cSt cAI cAJ ad T15 n17 n19 n21 eT23 cp2.2.2 (by rw [cp2.1]; exact h_n17) (by rw [cp2.1]; exact h_n19) (by rw [cp2.1]; exact h_n21)) (cwV 2 hts (gaV qA_711 qA_712 qA_713 qA_475 qA_463) rfl rfl rfl (by decide +kernel) ⟨Nat.le_of_ble_eq_true rfl, Nat.le_of_ble_eq_true rfl⟩) (oO_k g22).1 (cc_o5 (oO_k g22).2) rfl rfl hl.1 rfl (lv_room (Nat.le_of_ble_eq_true rfl)) dX11_moveSource_65 (cs_avx hgl cp2 hg2 hT2) (fun ad2 H locs hga G => ?_)
  refine w_cast (c2 := T23.1 - T0.1) (s2 := sg T23 - sg T0) (cs_f1 hgl cp2 hg2) (cs_f2 hgl cp2 hg2) ?_
  have hl := lv_sub hl [0] rfl
  rw [show ad l0 = ad2 l0 from (hga l0 (by rw [cp2.1]; exact h_l0)).symm] at hl
  exact b_X11_moveSource_b68 E hA hX hN hml hst htab hlocks kx _ _ _ _ _ _ h (GL.tr (gl_cpr hgl cp2) hg2) hrc2 (fun n hn => (hga n (by rw [cp2.1]; exact Nat.lt_of_lt_of_le hn hgl.1)).trans (had n hn)) (Nat.lt_of_lt_of_le (by rw [cp2.1]; exact h_l0) hg2.1) G hl
set_option maxHeartbeats 4000000 in
set_option maxRecDepth 100000 in
theorem b_X11_moveSource (l : Launch) (hst : l.stackTraces = false) (D : va_G) (cI cJ cZ cMic cSrc cSt cAI cAJ : ClassId) (ad : Nat → Nat) (T : AT) (o : Nat) (a0 : Int32) (a1 : Int32) (a2 : Int32) {e1 : Nat} {r1 : Int32} {T1 : AT} (h : g_X11_moveSource T o a0 a1 a2 = some (e1 + 1, r1, T1)) (hrc : RC T) (h_o : o < T.1) : kAXi l yX11_moveSource (Cond.code yX11_moveSource cX11_moveSource 4 (some .int) :: wsA) 8 149 cI cJ cZ cMic cSrc cSt cAI cAJ D ad T [.ref (ad o), .int a0, .int a1, .int a2] e1 T1 := by
  intro sz
  refine pro_inX (cc := cX11_moveSource) (maxL := 4) (ret := (some .int)) (by exact pn_RX11) rfl (by exact Nat.le_of_ble_eq_true rfl) (fun p e s m below meth c ls hx hb hr hts hown hlocks htab hml hv hl => ?_)
  obtain ⟨hsz, hP, hK, hD0, hX, hN⟩ := hv
  subst hsz
  have hD := hD0.self (sz := s.heap.size)
  generalize hAe : va_A (cW ad T.1 (cc cI cJ cZ cMic cSrc cSt cAI cAJ ad T)) s.heap.size = A at hD hX ⊢
  have hA : ∀ q : Nat, s.heap.size ≤ q → A q := fun q h => by rw [← hAe]; exact Or.inr h
  have G : gC cI cJ cZ cMic cSrc cSt cAI cAJ D ad A s.heap s.heap [] T := ⟨hP, hD, va_S.rf⟩
  have E : cE p c cX11_moveSource s m ([.ref (ad o), .int a0, .int a1, .int a2] : List Value).toArray (Cond.code yX11_moveSource cX11_moveSource 4 (some .int) :: wsA) D RX11 (CT cI cJ cZ cMic cSrc cSt cAI cAJ) := ⟨hx, hb, hts, hown, hK⟩
  have htab : ∀ x ∈ c.exceptionTable.toList, False := fun x hx => htab x hx
  have hl : lv_has ls 4 [(0, .ref (ad o)), (1, .int a0), (2, .int a1), (3, .int a2)] := hl
  have hgl := GL.rf T
  have had : ∀ n, n < T.1 → ad n = ad n := fun _ _ => rfl
  have hT1 := s_X11_moveSource h
  have hcs := cs_okx hgl hT1
  have hcx := cs_okx1 hgl hT1
  refine w_cast (Nat.sub_self T.1).symm (Nat.sub_self (sg T)).symm ?_
  have cp0 := cpr0 hrc
  unfold g_X11_moveSource at h
  refine lv_aload_n hx hb dX11_moveSource_0 rfl (lv_at hl 0 rfl) ?_
  obtain ⟨g2, h⟩ := oif_some h
  rcases othr_t h with ⟨r0, eT3⟩ | ⟨r5, T3, eT3, h⟩
  · refine q_xvv (As := []) (rest := []) E G hA hX hN hml (x_X11_needCamera l hst D cI cJ cZ cMic cSrc cSt cAI cAJ ad T o eT3) (cwV 0 hts (gaV qA_728 qA_729 qA_730 qA_131 qA_731) rfl rfl rfl (by decide +kernel) ⟨Nat.le_of_ble_eq_true rfl, Nat.le_of_ble_eq_true rfl⟩) (oO_k g2).1 (cc_o11 (oO_k g2).2) rfl rfl hl.1 rfl (lv_room (Nat.le_of_ble_eq_true rfl)) dX11_moveSource_1 hcx (fun E9 ce q9 T9 H locs hp G hce hcv hcl => ?_)
    obtain ⟨hE, hT⟩ := hp
    subst hE
    rw [hT] at G
    exact vx_out (fun x hx => (htab x hx).elim) hlocks hce hcv hcl (fun t ht hvm => ⟨(T1, ad), trivial, ⟨⟨rfl, rfl, had⟩, by rw [ht]; exact G.1, va_K.moved hvm hK, G.2.1⟩, G.2.2.F ht⟩) G.2.2.2.2 hcx.1 hcx.2
  refine q_cvv (As := []) (rest := []) E G hA hX hN hml (u_X11_needCamera l hst D cI cJ cZ cMic cSrc cSt cAI cAJ ad T o eT3) (cwV 0 hts (gaV qA_728 qA_729 qA_730 qA_131 qA_731) rfl rfl rfl (by decide +kernel) ⟨Nat.le_of_ble_eq_true rfl, Nat.le_of_ble_eq_true rfl⟩) (oO_k g2).1 (cc_o11 (oO_k g2).2) rfl rfl hl.1 rfl (lv_room (Nat.le_of_ble_eq_true rfl)) dX11_moveSource_1 hcs (fun T4 H locs hq G => ?_)
  rw [hq] at G
  clear hq
  have cp1 := cpr_sp cp0 (s_X11_needCamera eT3)
  refine lv_aload_n hx hb dX11_moveSource_4 rfl (lv_at hl 0 rfl) ?_
  refine lv_iload_n hx hb dX11_moveSource_5 rfl (lv_at hl 1 rfl) ?_
  obtain ⟨g7, h⟩ := oif_some h
  rcases othr_t h with ⟨r0, eT8⟩ | ⟨r10, T8, eT8, h⟩
  · refine q_xvv (As := [.int a0]) (rest := []) E G hA hX hN hml (x_X11_needSource l hst D cI cJ cZ cMic cSrc cSt cAI cAJ ad T3 o a0 eT8) (cwV 1 hts (gaV qA_766 qA_767 qA_768 qA_131 qA_769) rfl rfl rfl (by decide +kernel) ⟨Nat.le_of_ble_eq_true rfl, Nat.le_of_ble_eq_true rfl⟩) (oO_k g7).1 (cc_o11 (oO_k g7).2) rfl rfl hl.1 rfl (lv_room (Nat.le_of_ble_eq_true rfl)) dX11_moveSource_6 hcx (fun E9 ce q9 T9 H locs hp G hce hcv hcl => ?_)
    obtain ⟨hE, hT⟩ := hp
    subst hE
    rw [hT] at G
    exact vx_out (fun x hx => (htab x hx).elim) hlocks hce hcv hcl (fun t ht hvm => ⟨(T1, ad), trivial, ⟨⟨rfl, rfl, had⟩, by rw [ht]; exact G.1, va_K.moved hvm hK, G.2.1⟩, G.2.2.F ht⟩) G.2.2.2.2 hcx.1 hcx.2
  refine q_cvv (As := [.int a0]) (rest := []) E G hA hX hN hml (u_X11_needSource l hst D cI cJ cZ cMic cSrc cSt cAI cAJ ad T3 o a0 eT8) (cwV 1 hts (gaV qA_766 qA_767 qA_768 qA_131 qA_769) rfl rfl rfl (by decide +kernel) ⟨Nat.le_of_ble_eq_true rfl, Nat.le_of_ble_eq_true rfl⟩) (oO_k g7).1 (cc_o11 (oO_k g7).2) rfl rfl hl.1 rfl (lv_room (Nat.le_of_ble_eq_true rfl)) dX11_moveSource_6 hcs (fun T9 H locs hq G => ?_)
  rw [hq] at G
  clear hq
  have cp2 := cpr_sp cp1 (s_X11_needSource eT8)
  refine lv_iload_n hx hb dX11_moveSource_9 rfl (lv_at hl 2 rfl) ?_
  refine lv_sipush (v := (-2000)) hx hb dX11_moveSource_10 (by decide) ?_
  refine lv_sipush (v := 2000) hx hb dX11_moveSource_13 (by decide) ?_
  rcases othr_t h with ⟨r0, eT12⟩ | ⟨r14, T12, eT12, h⟩
  · refine q_xsv (As := [.int a1, .int (-2000), .int 2000]) (rest := []) E G hA hX hN hml (x_X11_needRange l hst D cI cJ cZ cMic cSrc cSt cAI cAJ ad T8 a1 ((-2000) : Int32) (2000 : Int32) eT12) (cwS 3 hts (gaS qA_741 qA_742 qA_131 qA_743) rfl rfl rfl (by decide +kernel) ⟨Nat.le_of_ble_eq_true rfl, Nat.le_of_ble_eq_true rfl⟩) rfl hl.1 rfl (lv_room (Nat.le_of_ble_eq_true rfl)) dX11_moveSource_16 hcx (fun E9 ce q9 T9 H locs hp G hce hcv hcl => ?_)
    obtain ⟨hE, hT⟩ := hp
    subst hE
    rw [hT] at G
    exact vx_out (fun x hx => (htab x hx).elim) hlocks hce hcv hcl (fun t ht hvm => ⟨(T1, ad), trivial, ⟨⟨rfl, rfl, had⟩, by rw [ht]; exact G.1, va_K.moved hvm hK, G.2.1⟩, G.2.2.F ht⟩) G.2.2.2.2 hcx.1 hcx.2
  refine q_csv (As := [.int a1, .int (-2000), .int 2000]) (rest := []) E G hA hX hN hml (u_X11_needRange l hst D cI cJ cZ cMic cSrc cSt cAI cAJ ad T8 a1 ((-2000) : Int32) (2000 : Int32) eT12) (cwS 3 hts (gaS qA_741 qA_742 qA_131 qA_743) rfl rfl rfl (by decide +kernel) ⟨Nat.le_of_ble_eq_true rfl, Nat.le_of_ble_eq_true rfl⟩) rfl hl.1 rfl (lv_room (Nat.le_of_ble_eq_true rfl)) dX11_moveSource_16 hcs (fun T13 H locs hq G => ?_)
  rw [hq] at G
  clear hq
  have cp3 := cpr_sp cp2 (s_X11_needRange eT12)
  refine lv_iload_n hx hb dX11_moveSource_19 rfl (lv_at hl 3 rfl) ?_
  refine lv_sipush (v := (-2000)) hx hb dX11_moveSource_20 (by decide) ?_
  refine lv_sipush (v := 2000) hx hb dX11_moveSource_23 (by decide) ?_
  rcases othr_t h with ⟨r0, eT16⟩ | ⟨r18, T16, eT16, h⟩
  · refine q_xsv (As := [.int a2, .int (-2000), .int 2000]) (rest := []) E G hA hX hN hml (x_X11_needRange l hst D cI cJ cZ cMic cSrc cSt cAI cAJ ad T12 a2 ((-2000) : Int32) (2000 : Int32) eT16) (cwS 3 hts (gaS qA_741 qA_742 qA_131 qA_743) rfl rfl rfl (by decide +kernel) ⟨Nat.le_of_ble_eq_true rfl, Nat.le_of_ble_eq_true rfl⟩) rfl hl.1 rfl (lv_room (Nat.le_of_ble_eq_true rfl)) dX11_moveSource_26 hcx (fun E9 ce q9 T9 H locs hp G hce hcv hcl => ?_)
    obtain ⟨hE, hT⟩ := hp
    subst hE
    rw [hT] at G
    exact vx_out (fun x hx => (htab x hx).elim) hlocks hce hcv hcl (fun t ht hvm => ⟨(T1, ad), trivial, ⟨⟨rfl, rfl, had⟩, by rw [ht]; exact G.1, va_K.moved hvm hK, G.2.1⟩, G.2.2.F ht⟩) G.2.2.2.2 hcx.1 hcx.2
  refine q_csv (As := [.int a2, .int (-2000), .int 2000]) (rest := []) E G hA hX hN hml (u_X11_needRange l hst D cI cJ cZ cMic cSrc cSt cAI cAJ ad T12 a2 ((-2000) : Int32) (2000 : Int32) eT16) (cwS 3 hts (gaS qA_741 qA_742 qA_131 qA_743) rfl rfl rfl (by decide +kernel) ⟨Nat.le_of_ble_eq_true rfl, Nat.le_of_ble_eq_true rfl⟩) rfl hl.1 rfl (lv_room (Nat.le_of_ble_eq_true rfl)) dX11_moveSource_26 hcs (fun T17 H locs hq G => ?_)
  rw [hq] at G
  clear hq
  have cp4 := cpr_sp cp3 (s_X11_needRange eT16)
  refine lv_aload_n hx hb dX11_moveSource_29 rfl (lv_at hl 0 rfl) ?_
  obtain ⟨g20, h⟩ := oif_some h
  obtain ⟨T21, eT21, h⟩ := obind_some h
  have hg2 := s_X11_keepForUndo eT21
  have hrc2 := hg2.2.2 cp4.2.2
  have hT2 := s_X11_moveSource_b33 _ _ _ _ _ h
  refine q_avv (As := []) (rest := []) E G hA hX hN hml (a_X11_keepForUndo l hst D cI cJ cZ cMic cSrc cSt cAI cAJ ad T16 o eT21 cp4.2.2 (by rw [cp4.1]; exact h_o)) (cwV 0 hts (gaV qA_925 qA_926 qA_927 qA_131 qA_928) rfl rfl rfl (by decide +kernel) ⟨Nat.le_of_ble_eq_true rfl, Nat.le_of_ble_eq_true rfl⟩) (oO_k g20).1 (cc_o11 (oO_k g20).2) rfl rfl hl.1 rfl (lv_room (Nat.le_of_ble_eq_true rfl)) dX11_moveSource_30 (cs_avx hgl cp4 hg2 hT2) (fun ad2 H locs hga G => ?_)
  refine w_cast (c2 := T21.1 - T.1) (s2 := sg T21 - sg T) (cs_f1 hgl cp4 hg2) (cs_f2 hgl cp4 hg2) ?_
  have hl := lv_sub hl [0, 1, 2, 3] rfl
  rw [show ad o = ad2 o from (hga o (by rw [cp4.1]; exact h_o)).symm] at hl
  exact b_X11_moveSource_b33 E hA hX hN hml hst htab hlocks (fun ad H locs t had G hvm h1 h2 => ⟨(T1, ad), trivial, ⟨⟨rfl, rfl, had⟩, (c_thrown G hK hvm h1 h2).1⟩, (c_thrown G hK hvm h1 h2).2⟩) _ _ _ _ _ _ _ _ _ h (GL.tr (gl_cpr hgl cp4) hg2) hrc2 (fun n hn => (hga n (by rw [cp4.1]; exact Nat.lt_of_lt_of_le hn hgl.1)).trans (had n hn)) (Nat.lt_of_lt_of_le (by rw [cp4.1]; exact h_o) hg2.1) G hl
def g_X11_setVelocity_b72  (T : AT) (s0 : Nat) : Option (Nat × Int32 × AT) := oif (oO T s0 4 = true) <| elet (T.2.2.1 s0 2) fun v3 => some (0, v3, T)
def g_X11_setVelocity_b68  (T : AT) (l0 : Nat) : Option (Nat × Int32 × AT) := oif (oO T l0 11 = true) <| obind2 (g_X11_powersNow T l0) fun r4 T3 => oif (Nat.blt r4 T3.1 = true) <| g_X11_setVelocity_b72 T3 r4
def g_X11_setVelocity_b33  (T : AT) (l0 : Nat) (l1 : Int32) (l2 : Int32) (l3 : Int32) : Option (Nat × Int32 × AT) := oif (oO T l0 11 = true) <| obind (T.2.2.2.2 l0 6) fun n3 => oif (oO T n3 8 = true) <| obind (T.2.2.2.2 n3 8) fun n5 => oif (aA T n5 100 = true) <| oif (inb l1 (T.2.1 n5).2 = true) <| elet (uI T n5 l1.toNatClampNeg l2) fun T8 => oif (oO T8 l0 11 = true) <| obind (T8.2.2.2.2 l0 6) fun n10 => oif (oO T8 n10 8 = true) <| obind (T8.2.2.2.2 n10 9) fun n12 => oif (aA T8 n12 100 = true) <| oif (inb l1 (T8.2.1 n12).2 = true) <| elet (uI T8 n12 l1.toNatClampNeg l3) fun T15 => oif (oO T15 l0 11 = true) <| obind (T15.2.2.2.2 l0 2) fun n17 => oif (oO T15 l0 11 = true) <| obind (T15.2.2.2.2 l0 14) fun n19 => oif (oO T15 l0 11 = true) <| obind (T15.2.2.2.2 l0 6) fun n21 => oif (oO T15 n17 5 = true) <| obind (g_X5_record T15 n17 n19 n21) fun T23 => g_X11_setVelocity_b68 T23 l0
def g_X11_setVelocity (T : AT) (o : Nat) (a0 : Int32) (a1 : Int32) (a2 : Int32) : Option (Nat × Int32 × AT) := oif (oO T o 11 = true) <| othr (g_X11_needCamera T o) 0 fun r5 T3 => oif (oO T3 o 11 = true) <| othr (g_X11_needSource T3 o a0) 0 fun r10 T8 => othr (g_X11_needRange T8 a1 ((-999) : Int32) (999 : Int32)) 0 fun r14 T12 => othr (g_X11_needRange T12 a2 ((-999) : Int32) (999 : Int32)) 0 fun r18 T16 => oif (oO T16 o 11 = true) <| obind (g_X11_keepForUndo T16 o) fun T21 => g_X11_setVelocity_b33 T21 o a0 a1 a2
set_option maxHeartbeats 4000000 in
set_option maxRecDepth 100000 in
theorem s_X11_setVelocity_b72 {e1 : Nat} {r1 : Int32} {T1 : AT} : ∀ (T : AT) (s0 : Nat), g_X11_setVelocity_b72 T s0 = some (e1, r1, T1) → GL T T1 := by
  intro T s0 h
  have p0 := GL.rf T
  unfold g_X11_setVelocity_b72 at h
  obtain ⟨g2, h⟩ := oif_some h
  obtain ⟨v3, -, h⟩ := elet_some h
  rw [← (osome3 h).2.2]
  exact p0
set_option maxHeartbeats 4000000 in
set_option maxRecDepth 100000 in
theorem s_X11_setVelocity_b68 {e1 : Nat} {r1 : Int32} {T1 : AT} : ∀ (T : AT) (l0 : Nat), g_X11_setVelocity_b68 T l0 = some (e1, r1, T1) → GL T T1 := by
  intro T l0 h
  have p0 := GL.rf T
  unfold g_X11_setVelocity_b68 at h
  obtain ⟨g2, h⟩ := oif_some h
  obtain ⟨r4, T3, eT3, h⟩ := obind2_some h
  obtain ⟨g5, h⟩ := oif_some h
  have p1 : GL T T3 := GL.tr p0 (s_X11_powersNow eT3)
  exact GL.tr p1 (s_X11_setVelocity_b72 _ _ h)
set_option maxHeartbeats 4000000 in
set_option maxRecDepth 100000 in
theorem s_X11_setVelocity_b33 {e1 : Nat} {r1 : Int32} {T1 : AT} : ∀ (T : AT) (l0 : Nat) (l1 : Int32) (l2 : Int32) (l3 : Int32), g_X11_setVelocity_b33 T l0 l1 l2 l3 = some (e1, r1, T1) → GL T T1 := by
  intro T l0 l1 l2 l3 h
  have p0 := GL.rf T
  unfold g_X11_setVelocity_b33 at h
  obtain ⟨g2, h⟩ := oif_some h
  obtain ⟨n3, en3, h⟩ := obind_some h
  obtain ⟨g4, h⟩ := oif_some h
  obtain ⟨n5, en5, h⟩ := obind_some h
  obtain ⟨g6, h⟩ := oif_some h
  obtain ⟨g7, h⟩ := oif_some h
  obtain ⟨T8, eT8, h⟩ := elet_some h
  have p1 : GL T T8 := GL.tr p0 (by rw [eT8]; exact gl_sp sp_uI)
  obtain ⟨g9, h⟩ := oif_some h
  obtain ⟨n10, en10, h⟩ := obind_some h
  obtain ⟨g11, h⟩ := oif_some h
  obtain ⟨n12, en12, h⟩ := obind_some h
  obtain ⟨g13, h⟩ := oif_some h
  obtain ⟨g14, h⟩ := oif_some h
  obtain ⟨T15, eT15, h⟩ := elet_some h
  have p2 : GL T T15 := GL.tr p1 (by rw [eT15]; exact gl_sp sp_uI)
  obtain ⟨g16, h⟩ := oif_some h
  obtain ⟨n17, en17, h⟩ := obind_some h
  obtain ⟨g18, h⟩ := oif_some h
  obtain ⟨n19, en19, h⟩ := obind_some h
  obtain ⟨g20, h⟩ := oif_some h
  obtain ⟨n21, en21, h⟩ := obind_some h
  obtain ⟨g22, h⟩ := oif_some h
  obtain ⟨T23, eT23, h⟩ := obind_some h
  have p3 : GL T T23 := GL.tr p2 (s_X5_record eT23)
  exact GL.tr p3 (s_X11_setVelocity_b68 _ _ h)
set_option maxHeartbeats 4000000 in
set_option maxRecDepth 100000 in
theorem s_X11_setVelocity {T : AT} {o : Nat} {a0 : Int32} {a1 : Int32} {a2 : Int32} {e1 : Nat} {r1 : Int32} {T1 : AT} (h : g_X11_setVelocity T o a0 a1 a2 = some (e1, r1, T1)) : GL T T1 := by
  have p0 := GL.rf T
  unfold g_X11_setVelocity at h
  obtain ⟨g2, h⟩ := oif_some h
  rcases othr_s h with ⟨k9, r9, e9, -⟩ | ⟨r4, T3, eT3, h⟩
  · exact GL.tr p0 (gl_sp (s_X11_needCamera e9))
  have p1 : GL T T3 := GL.tr p0 (gl_sp (s_X11_needCamera eT3))
  obtain ⟨g5, h⟩ := oif_some h
  rcases othr_s h with ⟨k9, r9, e9, -⟩ | ⟨r7, T6, eT6, h⟩
  · exact GL.tr p1 (gl_sp (s_X11_needSource e9))
  have p2 : GL T T6 := GL.tr p1 (gl_sp (s_X11_needSource eT6))
  rcases othr_s h with ⟨k9, r9, e9, -⟩ | ⟨r9, T8, eT8, h⟩
  · exact GL.tr p2 (gl_sp (s_X11_needRange e9))
  have p3 : GL T T8 := GL.tr p2 (gl_sp (s_X11_needRange eT8))
  rcases othr_s h with ⟨k9, r9, e9, -⟩ | ⟨r11, T10, eT10, h⟩
  · exact GL.tr p3 (gl_sp (s_X11_needRange e9))
  have p4 : GL T T10 := GL.tr p3 (gl_sp (s_X11_needRange eT10))
  obtain ⟨g12, h⟩ := oif_some h
  obtain ⟨T13, eT13, h⟩ := obind_some h
  have p5 : GL T T13 := GL.tr p4 (s_X11_keepForUndo eT13)
  exact GL.tr p5 (s_X11_setVelocity_b33 _ _ _ _ _ h)
set_option maxHeartbeats 4000000 in
set_option maxRecDepth 100000 in
theorem a_X11_setVelocity_b72 {p : Program} {l : Launch} {e : Env} {s : State} {m : MethodId} {args : Array Value} {below : List Frame} {meth : Method} {c : Code} {Q : State → Prop} {D : va_G} {A : Nat → Prop} {cI cJ cZ cMic cSrc cSt cAI cAJ : ClassId} {ad0 : Nat → Nat} {T0 : AT} {r1 : Int32} {T1 : AT} (E : cE p c cX11_setVelocity s m args (Cond.code yX11_setVelocity cX11_setVelocity 4 (some .int) :: wsA) D RX11 (CT cI cJ cZ cMic cSrc cSt cAI cAJ)) (hA : ∀ q : Nat, s.heap.size ≤ q → A q) (hX : xT A s) (hN : nX s) (hml : c.maxLocals = 4) (hst : l.stackTraces = false) (kr75 : ∀ (ad : Nat → Nat) (H : Heap) (locs : List Loc) (ls : Array Slot), (∀ n, n < T0.1 → ad n = ad0 n) → gC cI cJ cZ cMic cSrc cSt cAI cAJ D ad A s.heap H locs T1 → W p l e { frames := 8, cells := T1.1 - T0.1, slots := sg T1 - sg T0, locals := 149 } s m args below meth c H locs (T1.1 - T0.1) (sg T1 - sg T0) Q (F0 m 75 ls [.int r1])) : ∀ (T : AT) (ad : Nat → Nat) (H : Heap) (locs : List Loc) (ls : Array Slot) (s0 : Nat), g_X11_setVelocity_b72 T s0 = some (0, r1, T1) → GL T0 T → RC T → (∀ n, n < T0.1 → ad n = ad0 n) → s0 < T.1 → gC cI cJ cZ cMic cSrc cSt cAI cAJ D ad A s.heap H locs T → lv_has ls 4 [] → W p l e { frames := 8, cells := T1.1 - T0.1, slots := sg T1 - sg T0, locals := 149 } s m args below meth c H locs (T.1 - T0.1) (sg T - sg T0) Q (F0 m 72 ls [.ref (ad s0)]) := by
  have hx := E.1
  have hb := E.2.1
  have hts := E.2.2.1
  have hown := E.2.2.2.1
  have hK := E.2.2.2.2
  intro T ad H locs ls s0 h hgl hrc had h_s0 G hl
  have hT1 := s_X11_setVelocity_b72 _ _ h
  have hcs := cs_ok hgl hT1
  have cp0 := cpr0 hrc
  unfold g_X11_setVelocity_b72 at h
  obtain ⟨g2, h⟩ := oif_some h
  refine c_get E G s0 2 (oO_k g2).1 (cc_o4 (oO_k g2).2) rfl (fun w h => .tail _ (iA_21 h)) (by decide) (.tail _ qA_812) rfl rfl dX11_setVelocity_72 ?_
  refine lv_topi (fun v3 ev3 => ?_)
  have h := elet_at ev3 h
  clear ev3
  rw [(osome3 h).2.2] at G
  refine w_cast (c2 := T1.1 - T0.1) (s2 := sg T1 - sg T0) (by rw [← (osome3 h).2.2, cp0.1] <;> rfl) (by rw [← (osome3 h).2.2, sg_cpr cp0] <;> rfl) ?_
  refine lv_to ((osome3 h).2.1) ?_
  exact kr75 ad _ _ _ had G
set_option maxHeartbeats 4000000 in
set_option maxRecDepth 100000 in
theorem a_X11_setVelocity_b68 {p : Program} {l : Launch} {e : Env} {s : State} {m : MethodId} {args : Array Value} {below : List Frame} {meth : Method} {c : Code} {Q : State → Prop} {D : va_G} {A : Nat → Prop} {cI cJ cZ cMic cSrc cSt cAI cAJ : ClassId} {ad0 : Nat → Nat} {T0 : AT} {r1 : Int32} {T1 : AT} (E : cE p c cX11_setVelocity s m args (Cond.code yX11_setVelocity cX11_setVelocity 4 (some .int) :: wsA) D RX11 (CT cI cJ cZ cMic cSrc cSt cAI cAJ)) (hA : ∀ q : Nat, s.heap.size ≤ q → A q) (hX : xT A s) (hN : nX s) (hml : c.maxLocals = 4) (hst : l.stackTraces = false) (kr75 : ∀ (ad : Nat → Nat) (H : Heap) (locs : List Loc) (ls : Array Slot), (∀ n, n < T0.1 → ad n = ad0 n) → gC cI cJ cZ cMic cSrc cSt cAI cAJ D ad A s.heap H locs T1 → W p l e { frames := 8, cells := T1.1 - T0.1, slots := sg T1 - sg T0, locals := 149 } s m args below meth c H locs (T1.1 - T0.1) (sg T1 - sg T0) Q (F0 m 75 ls [.int r1])) : ∀ (T : AT) (ad : Nat → Nat) (H : Heap) (locs : List Loc) (ls : Array Slot) (l0 : Nat), g_X11_setVelocity_b68 T l0 = some (0, r1, T1) → GL T0 T → RC T → (∀ n, n < T0.1 → ad n = ad0 n) → l0 < T.1 → gC cI cJ cZ cMic cSrc cSt cAI cAJ D ad A s.heap H locs T → lv_has ls 4 [(0, .ref (ad l0))] → W p l e { frames := 8, cells := T1.1 - T0.1, slots := sg T1 - sg T0, locals := 149 } s m args below meth c H locs (T.1 - T0.1) (sg T - sg T0) Q (F0 m 68 ls []) := by
  have hx := E.1
  have hb := E.2.1
  have hts := E.2.2.1
  have hown := E.2.2.2.1
  have hK := E.2.2.2.2
  intro T ad H locs ls l0 h hgl hrc had h_l0 G hl
  have hT1 := s_X11_setVelocity_b68 _ _ h
  have hcs := cs_ok hgl hT1
  have cp0 := cpr0 hrc
  unfold g_X11_setVelocity_b68 at h
  refine lv_aload_n hx hb dX11_setVelocity_68 rfl (lv_at hl 0 rfl) ?_
  obtain ⟨g2, h⟩ := oif_some h
  obtain ⟨r4, T3, eT3, h⟩ := obind2_some h
  obtain ⟨g5, h⟩ := oif_some h
  have hg2 := s_X11_powersNow eT3
  have hrc2 := hg2.2.2 cp0.2.2
  have hT2 := s_X11_setVelocity_b72 _ _ h
  refine q_avr (As := []) (rest := []) E G hA hX hN hml (a_X11_powersNow l hst D cI cJ cZ cMic cSrc cSt cAI cAJ ad T l0 eT3 cp0.2.2 (by rw [cp0.1]; exact h_l0)) (cwV 0 hts (gaV qA_799 qA_800 qA_801 qA_131 qA_802) rfl rfl rfl (by decide +kernel) ⟨Nat.le_of_ble_eq_true rfl, Nat.le_of_ble_eq_true rfl⟩) (oO_k g2).1 (cc_o11 (oO_k g2).2) rfl rfl hl.1 rfl (lv_room (Nat.le_of_ble_eq_true rfl)) dX11_setVelocity_69 (cs_av hgl cp0 hg2 hT2) (fun ad2 H locs hga G => ?_)
  refine w_cast (c2 := T3.1 - T0.1) (s2 := sg T3 - sg T0) (cs_f1 hgl cp0 hg2) (cs_f2 hgl cp0 hg2) ?_
  have h_new : r4 < T3.1 := Nat.le_of_ble_eq_true g5
  have hl := lv_sub hl [] rfl
  exact a_X11_setVelocity_b72 E hA hX hN hml hst kr75 _ _ _ _ _ _ h (GL.tr (gl_cpr hgl cp0) hg2) hrc2 (fun n hn => (hga n (by rw [cp0.1]; exact Nat.lt_of_lt_of_le hn hgl.1)).trans (had n hn)) h_new G hl
set_option maxHeartbeats 4000000 in
set_option maxRecDepth 100000 in
theorem a_X11_setVelocity_b33 {p : Program} {l : Launch} {e : Env} {s : State} {m : MethodId} {args : Array Value} {below : List Frame} {meth : Method} {c : Code} {Q : State → Prop} {D : va_G} {A : Nat → Prop} {cI cJ cZ cMic cSrc cSt cAI cAJ : ClassId} {ad0 : Nat → Nat} {T0 : AT} {r1 : Int32} {T1 : AT} (E : cE p c cX11_setVelocity s m args (Cond.code yX11_setVelocity cX11_setVelocity 4 (some .int) :: wsA) D RX11 (CT cI cJ cZ cMic cSrc cSt cAI cAJ)) (hA : ∀ q : Nat, s.heap.size ≤ q → A q) (hX : xT A s) (hN : nX s) (hml : c.maxLocals = 4) (hst : l.stackTraces = false) (kr75 : ∀ (ad : Nat → Nat) (H : Heap) (locs : List Loc) (ls : Array Slot), (∀ n, n < T0.1 → ad n = ad0 n) → gC cI cJ cZ cMic cSrc cSt cAI cAJ D ad A s.heap H locs T1 → W p l e { frames := 8, cells := T1.1 - T0.1, slots := sg T1 - sg T0, locals := 149 } s m args below meth c H locs (T1.1 - T0.1) (sg T1 - sg T0) Q (F0 m 75 ls [.int r1])) : ∀ (T : AT) (ad : Nat → Nat) (H : Heap) (locs : List Loc) (ls : Array Slot) (l0 : Nat) (l1 : Int32) (l2 : Int32) (l3 : Int32), g_X11_setVelocity_b33 T l0 l1 l2 l3 = some (0, r1, T1) → GL T0 T → RC T → (∀ n, n < T0.1 → ad n = ad0 n) → l0 < T.1 → gC cI cJ cZ cMic cSrc cSt cAI cAJ D ad A s.heap H locs T → lv_has ls 4 [(0, .ref (ad l0)), (1, .int l1), (2, .int l2), (3, .int l3)] → W p l e { frames := 8, cells := T1.1 - T0.1, slots := sg T1 - sg T0, locals := 149 } s m args below meth c H locs (T.1 - T0.1) (sg T - sg T0) Q (F0 m 33 ls []) := by
  have hx := E.1
  have hb := E.2.1
  have hts := E.2.2.1
  have hown := E.2.2.2.1
  have hK := E.2.2.2.2
  intro T ad H locs ls l0 l1 l2 l3 h hgl hrc had h_l0 G hl
  have hT1 := s_X11_setVelocity_b33 _ _ _ _ _ h
  have hcs := cs_ok hgl hT1
  have cp0 := cpr0 hrc
  unfold g_X11_setVelocity_b33 at h
  refine lv_aload_n hx hb dX11_setVelocity_33 rfl (lv_at hl 0 rfl) ?_
  obtain ⟨g2, h⟩ := oif_some h
  obtain ⟨n3, en3, h⟩ := obind_some h
  have h_n3 : n3 < T.1 := by rw [← cp0.1]; exact cp0.2.2 _ _ _ en3
  refine c_get E G l0 6 (v := .ref (ad n3)) (oO_k g2).1 (cc_o11 (oO_k g2).2) rfl (fun w h => .tail _ (iA_23 h)) (by decide) (.tail _ qA_664) rfl (by rw [en3]; rfl) dX11_setVelocity_34 ?_
  clear en3
  obtain ⟨g4, h⟩ := oif_some h
  obtain ⟨n5, en5, h⟩ := obind_some h
  have h_n5 : n5 < T.1 := by rw [← cp0.1]; exact cp0.2.2 _ _ _ en5
  refine c_get E G n3 8 (v := .ref (ad n5)) (oO_k g4).1 (cc_o8 (oO_k g4).2) rfl (fun w h => .tail _ (iA_16 h)) (by decide) (.tail _ qA_763) rfl (by rw [en5]; rfl) dX11_setVelocity_37 ?_
  clear en5
  refine lv_iload_n hx hb dX11_setVelocity_40 rfl (lv_at hl 1 rfl) ?_
  refine lv_iload_n hx hb dX11_setVelocity_41 rfl (lv_at hl 2 rfl) ?_
  obtain ⟨g6, h⟩ := oif_some h
  obtain ⟨g7, h⟩ := oif_some h
  refine c_iast E G n5 0 (k := l1.toNatClampNeg) (v := l2) (aA_k g6).1 (cc_a100 (aA_k g6).2.1) rfl (inb_k g7).1 (inb_k g7).2 (aA_k g6).2.2 dX11_setVelocity_42 (fun H locs G => ?_)
  have G := gC_up_i (f := upd (T.2.2.1 n5) l1.toNatClampNeg l2) (ccv_100 (aA_k g6).2.1) G
  obtain ⟨T8, eT8, h⟩ := elet_some h
  have G : gC cI cJ cZ cMic cSrc cSt cAI cAJ D ad A s.heap H locs T8 := by rw [eT8]; exact G
  have cp1 := show CPR T T8 from by rw [eT8]; exact cpr_sp cp0 sp_uI
  clear eT8
  refine lv_aload_n hx hb dX11_setVelocity_43 rfl (lv_at hl 0 rfl) ?_
  obtain ⟨g9, h⟩ := oif_some h
  obtain ⟨n10, en10, h⟩ := obind_some h
  have h_n10 : n10 < T.1 := by rw [← cp1.1]; exact cp1.2.2 _ _ _ en10
  refine c_get E G l0 6 (v := .ref (ad n10)) (oO_k g9).1 (cc_o11 (oO_k g9).2) rfl (fun w h => .tail _ (iA_23 h)) (by decide) (.tail _ qA_664) rfl (by rw [en10]; rfl) dX11_setVelocity_44 ?_
  clear en10
  obtain ⟨g11, h⟩ := oif_some h
  obtain ⟨n12, en12, h⟩ := obind_some h
  have h_n12 : n12 < T.1 := by rw [← cp1.1]; exact cp1.2.2 _ _ _ en12
  refine c_get E G n10 9 (v := .ref (ad n12)) (oO_k g11).1 (cc_o8 (oO_k g11).2) rfl (fun w h => .tail _ (iA_16 h)) (by decide) (.tail _ qA_765) rfl (by rw [en12]; rfl) dX11_setVelocity_47 ?_
  clear en12
  refine lv_iload_n hx hb dX11_setVelocity_50 rfl (lv_at hl 1 rfl) ?_
  refine lv_iload_n hx hb dX11_setVelocity_51 rfl (lv_at hl 3 rfl) ?_
  obtain ⟨g13, h⟩ := oif_some h
  obtain ⟨g14, h⟩ := oif_some h
  refine c_iast E G n12 0 (k := l1.toNatClampNeg) (v := l3) (aA_k g13).1 (cc_a100 (aA_k g13).2.1) rfl (inb_k g14).1 (inb_k g14).2 (aA_k g13).2.2 dX11_setVelocity_52 (fun H locs G => ?_)
  have G := gC_up_i (f := upd (T8.2.2.1 n12) l1.toNatClampNeg l3) (ccv_100 (aA_k g13).2.1) G
  obtain ⟨T15, eT15, h⟩ := elet_some h
  have G : gC cI cJ cZ cMic cSrc cSt cAI cAJ D ad A s.heap H locs T15 := by rw [eT15]; exact G
  have cp2 := show CPR T T15 from by rw [eT15]; exact cpr_sp cp1 sp_uI
  clear eT15
  refine lv_aload_n hx hb dX11_setVelocity_53 rfl (lv_at hl 0 rfl) ?_
  obtain ⟨g16, h⟩ := oif_some h
  obtain ⟨n17, en17, h⟩ := obind_some h
  have h_n17 : n17 < T.1 := by rw [← cp2.1]; exact cp2.2.2 _ _ _ en17
  refine c_get E G l0 2 (v := .ref (ad n17)) (oO_k g16).1 (cc_o11 (oO_k g16).2) rfl (fun w h => .tail _ (iA_23 h)) (by decide) (.tail _ qA_654) rfl (by rw [en17]; rfl) dX11_setVelocity_54 ?_
  clear en17
  refine lv_aload_n hx hb dX11_setVelocity_57 rfl (lv_at hl 0 rfl) ?_
  obtain ⟨g18, h⟩ := oif_some h
  obtain ⟨n19, en19, h⟩ := obind_some h
  have h_n19 : n19 < T.1 := by rw [← cp2.1]; exact cp2.2.2 _ _ _ en19
  refine c_get E G l0 14 (v := .ref (ad n19)) (oO_k g18).1 (cc_o11 (oO_k g18).2) rfl (fun w h => .tail _ (iA_23 h)) (by decide) (.tail _ qA_675) rfl (by rw [en19]; rfl) dX11_setVelocity_58 ?_
  clear en19
  refine lv_aload_n hx hb dX11_setVelocity_61 rfl (lv_at hl 0 rfl) ?_
  obtain ⟨g20, h⟩ := oif_some h
  obtain ⟨n21, en21, h⟩ := obind_some h
  have h_n21 : n21 < T.1 := by rw [← cp2.1]; exact cp2.2.2 _ _ _ en21
  refine c_get E G l0 6 (v := .ref (ad n21)) (oO_k g20).1 (cc_o11 (oO_k g20).2) rfl (fun w h => .tail _ (iA_23 h)) (by decide) (.tail _ qA_664) rfl (by rw [en21]; rfl) dX11_setVelocity_62 ?_
  clear en21
  obtain ⟨g22, h⟩ := oif_some h
  obtain ⟨T23, eT23, h⟩ := obind_some h
  have hg2 := s_X5_record eT23
  have hrc2 := hg2.2.2 cp2.2.2
  have hT2 := s_X11_setVelocity_b68 _ _ h
  refine q_avv (As := [.ref (ad n19), .ref (ad n21)]) (rest := []) E G hA hX hN hml (a_X5_record l hst D cI cJ cZ cMic cSrc cSt cAI cAJ ad T15 n17 n19 n21 eT23 cp2.2.2 (by rw [cp2.1]; exact h_n17) (by rw [cp2.1]; exact h_n19) (by rw [cp2.1]; exact h_n21)) (cwV 2 hts (gaV qA_711 qA_712 qA_713 qA_475 qA_463) rfl rfl rfl (by decide +kernel) ⟨Nat.le_of_ble_eq_true rfl, Nat.le_of_ble_eq_true rfl⟩) (oO_k g22).1 (cc_o5 (oO_k g22).2) rfl rfl hl.1 rfl (lv_room (Nat.le_of_ble_eq_true rfl)) dX11_setVelocity_65 (cs_av hgl cp2 hg2 hT2) (fun ad2 H locs hga G => ?_)
  refine w_cast (c2 := T23.1 - T0.1) (s2 := sg T23 - sg T0) (cs_f1 hgl cp2 hg2) (cs_f2 hgl cp2 hg2) ?_
  have hl := lv_sub hl [0] rfl
  rw [show ad l0 = ad2 l0 from (hga l0 (by rw [cp2.1]; exact h_l0)).symm] at hl
  exact a_X11_setVelocity_b68 E hA hX hN hml hst kr75 _ _ _ _ _ _ h (GL.tr (gl_cpr hgl cp2) hg2) hrc2 (fun n hn => (hga n (by rw [cp2.1]; exact Nat.lt_of_lt_of_le hn hgl.1)).trans (had n hn)) (Nat.lt_of_lt_of_le (by rw [cp2.1]; exact h_l0) hg2.1) G hl
set_option maxHeartbeats 4000000 in
set_option maxRecDepth 100000 in
theorem a_X11_setVelocity (l : Launch) (hst : l.stackTraces = false) (D : va_G) (cI cJ cZ cMic cSrc cSt cAI cAJ : ClassId) (ad : Nat → Nat) (T : AT) (o : Nat) (a0 : Int32) (a1 : Int32) (a2 : Int32) {r1 : Int32} {T1 : AT} (h : g_X11_setVelocity T o a0 a1 a2 = some (0, r1, T1)) (hrc : RC T) (h_o : o < T.1) : kAi l yX11_setVelocity (Cond.code yX11_setVelocity cX11_setVelocity 4 (some .int) :: wsA) 8 149 cI cJ cZ cMic cSrc cSt cAI cAJ D ad T [.ref (ad o), .int a0, .int a1, .int a2] r1 T1 := by
  intro sz
  refine pro_in (cc := cX11_setVelocity) (maxL := 4) (ret := (some .int)) (by exact pn_RX11) rfl (by exact Nat.le_of_ble_eq_true rfl) (fun p e s m below meth c ls hx hb hr hts hown hlocks hml hv hl => ?_)
  obtain ⟨hsz, hP, hK, hD0, hX, hN⟩ := hv
  subst hsz
  have hD := hD0.self (sz := s.heap.size)
  generalize hAe : va_A (cW ad T.1 (cc cI cJ cZ cMic cSrc cSt cAI cAJ ad T)) s.heap.size = A at hD hX ⊢
  have hA : ∀ q : Nat, s.heap.size ≤ q → A q := fun q h => by rw [← hAe]; exact Or.inr h
  have G : gC cI cJ cZ cMic cSrc cSt cAI cAJ D ad A s.heap s.heap [] T := ⟨hP, hD, va_S.rf⟩
  have E : cE p c cX11_setVelocity s m ([.ref (ad o), .int a0, .int a1, .int a2] : List Value).toArray (Cond.code yX11_setVelocity cX11_setVelocity 4 (some .int) :: wsA) D RX11 (CT cI cJ cZ cMic cSrc cSt cAI cAJ) := ⟨hx, hb, hts, hown, hK⟩
  have hl : lv_has ls 4 [(0, .ref (ad o)), (1, .int a0), (2, .int a1), (3, .int a2)] := hl
  have hgl := GL.rf T
  have had : ∀ n, n < T.1 → ad n = ad n := fun _ _ => rfl
  have hT1 := s_X11_setVelocity h
  have hcs := cs_ok hgl hT1
  refine w_cast (Nat.sub_self T.1).symm (Nat.sub_self (sg T)).symm ?_
  have cp0 := cpr0 hrc
  unfold g_X11_setVelocity at h
  refine lv_aload_n hx hb dX11_setVelocity_0 rfl (lv_at hl 0 rfl) ?_
  obtain ⟨g2, h⟩ := oif_some h
  obtain ⟨r5, T3, eT3, h⟩ := othr_n h
  refine q_cvv (As := []) (rest := []) E G hA hX hN hml (u_X11_needCamera l hst D cI cJ cZ cMic cSrc cSt cAI cAJ ad T o eT3) (cwV 0 hts (gaV qA_728 qA_729 qA_730 qA_131 qA_731) rfl rfl rfl (by decide +kernel) ⟨Nat.le_of_ble_eq_true rfl, Nat.le_of_ble_eq_true rfl⟩) (oO_k g2).1 (cc_o11 (oO_k g2).2) rfl rfl hl.1 rfl (lv_room (Nat.le_of_ble_eq_true rfl)) dX11_setVelocity_1 hcs (fun T4 H locs hq G => ?_)
  rw [hq] at G
  clear hq
  have cp1 := cpr_sp cp0 (s_X11_needCamera eT3)
  refine lv_aload_n hx hb dX11_setVelocity_4 rfl (lv_at hl 0 rfl) ?_
  refine lv_iload_n hx hb dX11_setVelocity_5 rfl (lv_at hl 1 rfl) ?_
  obtain ⟨g7, h⟩ := oif_some h
  obtain ⟨r10, T8, eT8, h⟩ := othr_n h
  refine q_cvv (As := [.int a0]) (rest := []) E G hA hX hN hml (u_X11_needSource l hst D cI cJ cZ cMic cSrc cSt cAI cAJ ad T3 o a0 eT8) (cwV 1 hts (gaV qA_766 qA_767 qA_768 qA_131 qA_769) rfl rfl rfl (by decide +kernel) ⟨Nat.le_of_ble_eq_true rfl, Nat.le_of_ble_eq_true rfl⟩) (oO_k g7).1 (cc_o11 (oO_k g7).2) rfl rfl hl.1 rfl (lv_room (Nat.le_of_ble_eq_true rfl)) dX11_setVelocity_6 hcs (fun T9 H locs hq G => ?_)
  rw [hq] at G
  clear hq
  have cp2 := cpr_sp cp1 (s_X11_needSource eT8)
  refine lv_iload_n hx hb dX11_setVelocity_9 rfl (lv_at hl 2 rfl) ?_
  refine lv_sipush (v := (-999)) hx hb dX11_setVelocity_10 (by decide) ?_
  refine lv_sipush (v := 999) hx hb dX11_setVelocity_13 (by decide) ?_
  obtain ⟨r14, T12, eT12, h⟩ := othr_n h
  refine q_csv (As := [.int a1, .int (-999), .int 999]) (rest := []) E G hA hX hN hml (u_X11_needRange l hst D cI cJ cZ cMic cSrc cSt cAI cAJ ad T8 a1 ((-999) : Int32) (999 : Int32) eT12) (cwS 3 hts (gaS qA_741 qA_742 qA_131 qA_743) rfl rfl rfl (by decide +kernel) ⟨Nat.le_of_ble_eq_true rfl, Nat.le_of_ble_eq_true rfl⟩) rfl hl.1 rfl (lv_room (Nat.le_of_ble_eq_true rfl)) dX11_setVelocity_16 hcs (fun T13 H locs hq G => ?_)
  rw [hq] at G
  clear hq
  have cp3 := cpr_sp cp2 (s_X11_needRange eT12)
  refine lv_iload_n hx hb dX11_setVelocity_19 rfl (lv_at hl 3 rfl) ?_
  refine lv_sipush (v := (-999)) hx hb dX11_setVelocity_20 (by decide) ?_
  refine lv_sipush (v := 999) hx hb dX11_setVelocity_23 (by decide) ?_
  obtain ⟨r18, T16, eT16, h⟩ := othr_n h
  refine q_csv (As := [.int a2, .int (-999), .int 999]) (rest := []) E G hA hX hN hml (u_X11_needRange l hst D cI cJ cZ cMic cSrc cSt cAI cAJ ad T12 a2 ((-999) : Int32) (999 : Int32) eT16) (cwS 3 hts (gaS qA_741 qA_742 qA_131 qA_743) rfl rfl rfl (by decide +kernel) ⟨Nat.le_of_ble_eq_true rfl, Nat.le_of_ble_eq_true rfl⟩) rfl hl.1 rfl (lv_room (Nat.le_of_ble_eq_true rfl)) dX11_setVelocity_26 hcs (fun T17 H locs hq G => ?_)
  rw [hq] at G
  clear hq
  have cp4 := cpr_sp cp3 (s_X11_needRange eT16)
  refine lv_aload_n hx hb dX11_setVelocity_29 rfl (lv_at hl 0 rfl) ?_
  obtain ⟨g20, h⟩ := oif_some h
  obtain ⟨T21, eT21, h⟩ := obind_some h
  have hg2 := s_X11_keepForUndo eT21
  have hrc2 := hg2.2.2 cp4.2.2
  have hT2 := s_X11_setVelocity_b33 _ _ _ _ _ h
  refine q_avv (As := []) (rest := []) E G hA hX hN hml (a_X11_keepForUndo l hst D cI cJ cZ cMic cSrc cSt cAI cAJ ad T16 o eT21 cp4.2.2 (by rw [cp4.1]; exact h_o)) (cwV 0 hts (gaV qA_925 qA_926 qA_927 qA_131 qA_928) rfl rfl rfl (by decide +kernel) ⟨Nat.le_of_ble_eq_true rfl, Nat.le_of_ble_eq_true rfl⟩) (oO_k g20).1 (cc_o11 (oO_k g20).2) rfl rfl hl.1 rfl (lv_room (Nat.le_of_ble_eq_true rfl)) dX11_setVelocity_30 (cs_av hgl cp4 hg2 hT2) (fun ad2 H locs hga G => ?_)
  refine w_cast (c2 := T21.1 - T.1) (s2 := sg T21 - sg T) (cs_f1 hgl cp4 hg2) (cs_f2 hgl cp4 hg2) ?_
  have hl := lv_sub hl [0, 1, 2, 3] rfl
  rw [show ad o = ad2 o from (hga o (by rw [cp4.1]; exact h_o)).symm] at hl
  exact a_X11_setVelocity_b33 E hA hX hN hml hst (fun ad H locs ls had G => W.iret (v := r1) hx hb hr (fun t ht hW => ⟨⟨r1, (T1, ad), rfl, ⟨rfl, rfl, had⟩, ⟨by rw [ht]; exact G.1, va_K.moved hW.alike hK, G.2.1⟩⟩, G.2.2.F ht⟩) G.2.2.2.2 dX11_setVelocity_75) _ _ _ _ _ _ _ _ _ h (GL.tr (gl_cpr hgl cp4) hg2) hrc2 (fun n hn => (hga n (by rw [cp4.1]; exact Nat.lt_of_lt_of_le hn hgl.1)).trans (had n hn)) (Nat.lt_of_lt_of_le (by rw [cp4.1]; exact h_o) hg2.1) G hl
set_option maxHeartbeats 4000000 in
set_option maxRecDepth 100000 in
theorem b_X11_setVelocity_b72 {p : Program} {l : Launch} {e : Env} {s : State} {m : MethodId} {args : Array Value} {below : List Frame} {meth : Method} {c : Code} {Qc : Array Value → State → Outcome → State → Prop} {XC : String → State → State → Prop} {D : va_G} {A : Nat → Prop} {cI cJ cZ cMic cSrc cSt cAI cAJ : ClassId} {ad0 : Nat → Nat} {T0 : AT} {e1 : Nat} {r1 : Int32} {T1 : AT} (E : cE p c cX11_setVelocity s m args (Cond.code yX11_setVelocity cX11_setVelocity 4 (some .int) :: wsA) D RX11 (CT cI cJ cZ cMic cSrc cSt cAI cAJ)) (hA : ∀ q : Nat, s.heap.size ≤ q → A q) (hX : xT A s) (hN : nX s) (hml : c.maxLocals = 4) (hst : l.stackTraces = false) (htab : ∀ x ∈ c.exceptionTable.toList, False) (hlocks : meth.locks = false) (kx : ∀ (ad : Nat → Nat) (H : Heap) (locs : List Loc) (t : State), (∀ n, n < T0.1 → ad n = ad0 n) → gC cI cJ cZ cMic cSrc cSt cAI cAJ D ad A s.heap H locs T1 → s.vm.Alike t.vm → H.size ≤ t.heap.size → (∀ q, q < H.size → t.heap[q]? = H[q]?) → XC (exn e1) s t) : ∀ (T : AT) (ad : Nat → Nat) (H : Heap) (locs : List Loc) (ls : Array Slot) (s0 : Nat), g_X11_setVelocity_b72 T s0 = some (e1 + 1, r1, T1) → GL T0 T → RC T → (∀ n, n < T0.1 → ad n = ad0 n) → s0 < T.1 → gC cI cJ cZ cMic cSrc cSt cAI cAJ D ad A s.heap H locs T → lv_has ls 4 [] → W p l e { frames := 8, cells := T1.1 - T0.1 + 1, slots := sg T1 - sg T0 + 6, locals := 149 } s m args below meth c H locs (T.1 - T0.1) (sg T - sg T0) (vx_MQ below Qc XC args s (T1.1 - T0.1 + 1) (sg T1 - sg T0 + 6) A) (F0 m 72 ls [.ref (ad s0)]) := by
  have hx := E.1
  have hb := E.2.1
  have hts := E.2.2.1
  have hown := E.2.2.2.1
  have hK := E.2.2.2.2
  intro T ad H locs ls s0 h hgl hrc had h_s0 G hl
  have hT1 := s_X11_setVelocity_b72 _ _ h
  have hcs := cs_okx hgl hT1
  have hcx := cs_okx1 hgl hT1
  have cp0 := cpr0 hrc
  unfold g_X11_setVelocity_b72 at h
  obtain ⟨g2, h⟩ := oif_some h
  refine c_get E G s0 2 (oO_k g2).1 (cc_o4 (oO_k g2).2) rfl (fun w h => .tail _ (iA_21 h)) (by decide) (.tail _ qA_812) rfl rfl dX11_setVelocity_72 ?_
  refine lv_topi (fun v3 ev3 => ?_)
  have h := elet_at ev3 h
  clear ev3
  exact (Nat.succ_ne_zero _ (congrArg Prod.fst (Option.some.inj h)).symm).elim
set_option maxHeartbeats 4000000 in
set_option maxRecDepth 100000 in
theorem b_X11_setVelocity_b68 {p : Program} {l : Launch} {e : Env} {s : State} {m : MethodId} {args : Array Value} {below : List Frame} {meth : Method} {c : Code} {Qc : Array Value → State → Outcome → State → Prop} {XC : String → State → State → Prop} {D : va_G} {A : Nat → Prop} {cI cJ cZ cMic cSrc cSt cAI cAJ : ClassId} {ad0 : Nat → Nat} {T0 : AT} {e1 : Nat} {r1 : Int32} {T1 : AT} (E : cE p c cX11_setVelocity s m args (Cond.code yX11_setVelocity cX11_setVelocity 4 (some .int) :: wsA) D RX11 (CT cI cJ cZ cMic cSrc cSt cAI cAJ)) (hA : ∀ q : Nat, s.heap.size ≤ q → A q) (hX : xT A s) (hN : nX s) (hml : c.maxLocals = 4) (hst : l.stackTraces = false) (htab : ∀ x ∈ c.exceptionTable.toList, False) (hlocks : meth.locks = false) (kx : ∀ (ad : Nat → Nat) (H : Heap) (locs : List Loc) (t : State), (∀ n, n < T0.1 → ad n = ad0 n) → gC cI cJ cZ cMic cSrc cSt cAI cAJ D ad A s.heap H locs T1 → s.vm.Alike t.vm → H.size ≤ t.heap.size → (∀ q, q < H.size → t.heap[q]? = H[q]?) → XC (exn e1) s t) : ∀ (T : AT) (ad : Nat → Nat) (H : Heap) (locs : List Loc) (ls : Array Slot) (l0 : Nat), g_X11_setVelocity_b68 T l0 = some (e1 + 1, r1, T1) → GL T0 T → RC T → (∀ n, n < T0.1 → ad n = ad0 n) → l0 < T.1 → gC cI cJ cZ cMic cSrc cSt cAI cAJ D ad A s.heap H locs T → lv_has ls 4 [(0, .ref (ad l0))] → W p l e { frames := 8, cells := T1.1 - T0.1 + 1, slots := sg T1 - sg T0 + 6, locals := 149 } s m args below meth c H locs (T.1 - T0.1) (sg T - sg T0) (vx_MQ below Qc XC args s (T1.1 - T0.1 + 1) (sg T1 - sg T0 + 6) A) (F0 m 68 ls []) := by
  have hx := E.1
  have hb := E.2.1
  have hts := E.2.2.1
  have hown := E.2.2.2.1
  have hK := E.2.2.2.2
  intro T ad H locs ls l0 h hgl hrc had h_l0 G hl
  have hT1 := s_X11_setVelocity_b68 _ _ h
  have hcs := cs_okx hgl hT1
  have hcx := cs_okx1 hgl hT1
  have cp0 := cpr0 hrc
  unfold g_X11_setVelocity_b68 at h
  refine lv_aload_n hx hb dX11_setVelocity_68 rfl (lv_at hl 0 rfl) ?_
  obtain ⟨g2, h⟩ := oif_some h
  obtain ⟨r4, T3, eT3, h⟩ := obind2_some h
  obtain ⟨g5, h⟩ := oif_some h
  have hg2 := s_X11_powersNow eT3
  have hrc2 := hg2.2.2 cp0.2.2
  have hT2 := s_X11_setVelocity_b72 _ _ h
  refine q_avr (As := []) (rest := []) E G hA hX hN hml (a_X11_powersNow l hst D cI cJ cZ cMic cSrc cSt cAI cAJ ad T l0 eT3 cp0.2.2 (by rw [cp0.1]; exact h_l0)) (cwV 0 hts (gaV qA_799 qA_800 qA_801 qA_131 qA_802) rfl rfl rfl (by decide +kernel) ⟨Nat.le_of_ble_eq_true rfl, Nat.le_of_ble_eq_true rfl⟩) (oO_k g2).1 (cc_o11 (oO_k g2).2) rfl rfl hl.1 rfl (lv_room (Nat.le_of_ble_eq_true rfl)) dX11_setVelocity_69 (cs_avx hgl cp0 hg2 hT2) (fun ad2 H locs hga G => ?_)
  refine w_cast (c2 := T3.1 - T0.1) (s2 := sg T3 - sg T0) (cs_f1 hgl cp0 hg2) (cs_f2 hgl cp0 hg2) ?_
  have h_new : r4 < T3.1 := Nat.le_of_ble_eq_true g5
  have hl := lv_sub hl [] rfl
  exact b_X11_setVelocity_b72 E hA hX hN hml hst htab hlocks kx _ _ _ _ _ _ h (GL.tr (gl_cpr hgl cp0) hg2) hrc2 (fun n hn => (hga n (by rw [cp0.1]; exact Nat.lt_of_lt_of_le hn hgl.1)).trans (had n hn)) h_new G hl
set_option maxHeartbeats 4000000 in
set_option maxRecDepth 100000 in
theorem b_X11_setVelocity_b33 {p : Program} {l : Launch} {e : Env} {s : State} {m : MethodId} {args : Array Value} {below : List Frame} {meth : Method} {c : Code} {Qc : Array Value → State → Outcome → State → Prop} {XC : String → State → State → Prop} {D : va_G} {A : Nat → Prop} {cI cJ cZ cMic cSrc cSt cAI cAJ : ClassId} {ad0 : Nat → Nat} {T0 : AT} {e1 : Nat} {r1 : Int32} {T1 : AT} (E : cE p c cX11_setVelocity s m args (Cond.code yX11_setVelocity cX11_setVelocity 4 (some .int) :: wsA) D RX11 (CT cI cJ cZ cMic cSrc cSt cAI cAJ)) (hA : ∀ q : Nat, s.heap.size ≤ q → A q) (hX : xT A s) (hN : nX s) (hml : c.maxLocals = 4) (hst : l.stackTraces = false) (htab : ∀ x ∈ c.exceptionTable.toList, False) (hlocks : meth.locks = false) (kx : ∀ (ad : Nat → Nat) (H : Heap) (locs : List Loc) (t : State), (∀ n, n < T0.1 → ad n = ad0 n) → gC cI cJ cZ cMic cSrc cSt cAI cAJ D ad A s.heap H locs T1 → s.vm.Alike t.vm → H.size ≤ t.heap.size → (∀ q, q < H.size → t.heap[q]? = H[q]?) → XC (exn e1) s t) : ∀ (T : AT) (ad : Nat → Nat) (H : Heap) (locs : List Loc) (ls : Array Slot) (l0 : Nat) (l1 : Int32) (l2 : Int32) (l3 : Int32), g_X11_setVelocity_b33 T l0 l1 l2 l3 = some (e1 + 1, r1, T1) → GL T0 T → RC T → (∀ n, n < T0.1 → ad n = ad0 n) → l0 < T.1 → gC cI cJ cZ cMic cSrc cSt cAI cAJ D ad A s.heap H locs T → lv_has ls 4 [(0, .ref (ad l0)), (1, .int l1), (2, .int l2), (3, .int l3)] → W p l e { frames := 8, cells := T1.1 - T0.1 + 1, slots := sg T1 - sg T0 + 6, locals := 149 } s m args below meth c H locs (T.1 - T0.1) (sg T - sg T0) (vx_MQ below Qc XC args s (T1.1 - T0.1 + 1) (sg T1 - sg T0 + 6) A) (F0 m 33 ls []) := by
  have hx := E.1
  have hb := E.2.1
  have hts := E.2.2.1
  have hown := E.2.2.2.1
  have hK := E.2.2.2.2
  intro T ad H locs ls l0 l1 l2 l3 h hgl hrc had h_l0 G hl
  have hT1 := s_X11_setVelocity_b33 _ _ _ _ _ h
  have hcs := cs_okx hgl hT1
  have hcx := cs_okx1 hgl hT1
  have cp0 := cpr0 hrc
  unfold g_X11_setVelocity_b33 at h
  refine lv_aload_n hx hb dX11_setVelocity_33 rfl (lv_at hl 0 rfl) ?_
  obtain ⟨g2, h⟩ := oif_some h
  obtain ⟨n3, en3, h⟩ := obind_some h
  have h_n3 : n3 < T.1 := by rw [← cp0.1]; exact cp0.2.2 _ _ _ en3
  refine c_get E G l0 6 (v := .ref (ad n3)) (oO_k g2).1 (cc_o11 (oO_k g2).2) rfl (fun w h => .tail _ (iA_23 h)) (by decide) (.tail _ qA_664) rfl (by rw [en3]; rfl) dX11_setVelocity_34 ?_
  clear en3
  obtain ⟨g4, h⟩ := oif_some h
  obtain ⟨n5, en5, h⟩ := obind_some h
  have h_n5 : n5 < T.1 := by rw [← cp0.1]; exact cp0.2.2 _ _ _ en5
  refine c_get E G n3 8 (v := .ref (ad n5)) (oO_k g4).1 (cc_o8 (oO_k g4).2) rfl (fun w h => .tail _ (iA_16 h)) (by decide) (.tail _ qA_763) rfl (by rw [en5]; rfl) dX11_setVelocity_37 ?_
  clear en5
  refine lv_iload_n hx hb dX11_setVelocity_40 rfl (lv_at hl 1 rfl) ?_
  refine lv_iload_n hx hb dX11_setVelocity_41 rfl (lv_at hl 2 rfl) ?_
  obtain ⟨g6, h⟩ := oif_some h
  obtain ⟨g7, h⟩ := oif_some h
  refine c_iast E G n5 0 (k := l1.toNatClampNeg) (v := l2) (aA_k g6).1 (cc_a100 (aA_k g6).2.1) rfl (inb_k g7).1 (inb_k g7).2 (aA_k g6).2.2 dX11_setVelocity_42 (fun H locs G => ?_)
  have G := gC_up_i (f := upd (T.2.2.1 n5) l1.toNatClampNeg l2) (ccv_100 (aA_k g6).2.1) G
  obtain ⟨T8, eT8, h⟩ := elet_some h
  have G : gC cI cJ cZ cMic cSrc cSt cAI cAJ D ad A s.heap H locs T8 := by rw [eT8]; exact G
  have cp1 := show CPR T T8 from by rw [eT8]; exact cpr_sp cp0 sp_uI
  clear eT8
  refine lv_aload_n hx hb dX11_setVelocity_43 rfl (lv_at hl 0 rfl) ?_
  obtain ⟨g9, h⟩ := oif_some h
  obtain ⟨n10, en10, h⟩ := obind_some h
  have h_n10 : n10 < T.1 := by rw [← cp1.1]; exact cp1.2.2 _ _ _ en10
  refine c_get E G l0 6 (v := .ref (ad n10)) (oO_k g9).1 (cc_o11 (oO_k g9).2) rfl (fun w h => .tail _ (iA_23 h)) (by decide) (.tail _ qA_664) rfl (by rw [en10]; rfl) dX11_setVelocity_44 ?_
  clear en10
  obtain ⟨g11, h⟩ := oif_some h
  obtain ⟨n12, en12, h⟩ := obind_some h
  have h_n12 : n12 < T.1 := by rw [← cp1.1]; exact cp1.2.2 _ _ _ en12
  refine c_get E G n10 9 (v := .ref (ad n12)) (oO_k g11).1 (cc_o8 (oO_k g11).2) rfl (fun w h => .tail _ (iA_16 h)) (by decide) (.tail _ qA_765) rfl (by rw [en12]; rfl) dX11_setVelocity_47 ?_
  clear en12
  refine lv_iload_n hx hb dX11_setVelocity_50 rfl (lv_at hl 1 rfl) ?_
  refine lv_iload_n hx hb dX11_setVelocity_51 rfl (lv_at hl 3 rfl) ?_
  obtain ⟨g13, h⟩ := oif_some h
  obtain ⟨g14, h⟩ := oif_some h
  refine c_iast E G n12 0 (k := l1.toNatClampNeg) (v := l3) (aA_k g13).1 (cc_a100 (aA_k g13).2.1) rfl (inb_k g14).1 (inb_k g14).2 (aA_k g13).2.2 dX11_setVelocity_52 (fun H locs G => ?_)
  have G := gC_up_i (f := upd (T8.2.2.1 n12) l1.toNatClampNeg l3) (ccv_100 (aA_k g13).2.1) G
  obtain ⟨T15, eT15, h⟩ := elet_some h
  have G : gC cI cJ cZ cMic cSrc cSt cAI cAJ D ad A s.heap H locs T15 := by rw [eT15]; exact G
  have cp2 := show CPR T T15 from by rw [eT15]; exact cpr_sp cp1 sp_uI
  clear eT15
  refine lv_aload_n hx hb dX11_setVelocity_53 rfl (lv_at hl 0 rfl) ?_
  obtain ⟨g16, h⟩ := oif_some h
  obtain ⟨n17, en17, h⟩ := obind_some h
  have h_n17 : n17 < T.1 := by rw [← cp2.1]; exact cp2.2.2 _ _ _ en17
  refine c_get E G l0 2 (v := .ref (ad n17)) (oO_k g16).1 (cc_o11 (oO_k g16).2) rfl (fun w h => .tail _ (iA_23 h)) (by decide) (.tail _ qA_654) rfl (by rw [en17]; rfl) dX11_setVelocity_54 ?_
  clear en17
  refine lv_aload_n hx hb dX11_setVelocity_57 rfl (lv_at hl 0 rfl) ?_
  obtain ⟨g18, h⟩ := oif_some h
  obtain ⟨n19, en19, h⟩ := obind_some h
  have h_n19 : n19 < T.1 := by rw [← cp2.1]; exact cp2.2.2 _ _ _ en19
  refine c_get E G l0 14 (v := .ref (ad n19)) (oO_k g18).1 (cc_o11 (oO_k g18).2) rfl (fun w h => .tail _ (iA_23 h)) (by decide) (.tail _ qA_675) rfl (by rw [en19]; rfl) dX11_setVelocity_58 ?_
  clear en19
  refine lv_aload_n hx hb dX11_setVelocity_61 rfl (lv_at hl 0 rfl) ?_
  obtain ⟨g20, h⟩ := oif_some h
  obtain ⟨n21, en21, h⟩ := obind_some h
  have h_n21 : n21 < T.1 := by rw [← cp2.1]; exact cp2.2.2 _ _ _ en21
  refine c_get E G l0 6 (v := .ref (ad n21)) (oO_k g20).1 (cc_o11 (oO_k g20).2) rfl (fun w h => .tail _ (iA_23 h)) (by decide) (.tail _ qA_664) rfl (by rw [en21]; rfl) dX11_setVelocity_62 ?_
  clear en21
  obtain ⟨g22, h⟩ := oif_some h
  obtain ⟨T23, eT23, h⟩ := obind_some h
  have hg2 := s_X5_record eT23
  have hrc2 := hg2.2.2 cp2.2.2
  have hT2 := s_X11_setVelocity_b68 _ _ h
  refine q_avv (As := [.ref (ad n19), .ref (ad n21)]) (rest := []) E G hA hX hN hml (a_X5_record l hst D cI cJ cZ cMic cSrc cSt cAI cAJ ad T15 n17 n19 n21 eT23 cp2.2.2 (by rw [cp2.1]; exact h_n17) (by rw [cp2.1]; exact h_n19) (by rw [cp2.1]; exact h_n21)) (cwV 2 hts (gaV qA_711 qA_712 qA_713 qA_475 qA_463) rfl rfl rfl (by decide +kernel) ⟨Nat.le_of_ble_eq_true rfl, Nat.le_of_ble_eq_true rfl⟩) (oO_k g22).1 (cc_o5 (oO_k g22).2) rfl rfl hl.1 rfl (lv_room (Nat.le_of_ble_eq_true rfl)) dX11_setVelocity_65 (cs_avx hgl cp2 hg2 hT2) (fun ad2 H locs hga G => ?_)
  refine w_cast (c2 := T23.1 - T0.1) (s2 := sg T23 - sg T0) (cs_f1 hgl cp2 hg2) (cs_f2 hgl cp2 hg2) ?_
  have hl := lv_sub hl [0] rfl
  rw [show ad l0 = ad2 l0 from (hga l0 (by rw [cp2.1]; exact h_l0)).symm] at hl
  exact b_X11_setVelocity_b68 E hA hX hN hml hst htab hlocks kx _ _ _ _ _ _ h (GL.tr (gl_cpr hgl cp2) hg2) hrc2 (fun n hn => (hga n (by rw [cp2.1]; exact Nat.lt_of_lt_of_le hn hgl.1)).trans (had n hn)) (Nat.lt_of_lt_of_le (by rw [cp2.1]; exact h_l0) hg2.1) G hl
set_option maxHeartbeats 4000000 in
set_option maxRecDepth 100000 in
theorem b_X11_setVelocity (l : Launch) (hst : l.stackTraces = false) (D : va_G) (cI cJ cZ cMic cSrc cSt cAI cAJ : ClassId) (ad : Nat → Nat) (T : AT) (o : Nat) (a0 : Int32) (a1 : Int32) (a2 : Int32) {e1 : Nat} {r1 : Int32} {T1 : AT} (h : g_X11_setVelocity T o a0 a1 a2 = some (e1 + 1, r1, T1)) (hrc : RC T) (h_o : o < T.1) : kAXi l yX11_setVelocity (Cond.code yX11_setVelocity cX11_setVelocity 4 (some .int) :: wsA) 8 149 cI cJ cZ cMic cSrc cSt cAI cAJ D ad T [.ref (ad o), .int a0, .int a1, .int a2] e1 T1 := by
  intro sz
  refine pro_inX (cc := cX11_setVelocity) (maxL := 4) (ret := (some .int)) (by exact pn_RX11) rfl (by exact Nat.le_of_ble_eq_true rfl) (fun p e s m below meth c ls hx hb hr hts hown hlocks htab hml hv hl => ?_)
  obtain ⟨hsz, hP, hK, hD0, hX, hN⟩ := hv
  subst hsz
  have hD := hD0.self (sz := s.heap.size)
  generalize hAe : va_A (cW ad T.1 (cc cI cJ cZ cMic cSrc cSt cAI cAJ ad T)) s.heap.size = A at hD hX ⊢
  have hA : ∀ q : Nat, s.heap.size ≤ q → A q := fun q h => by rw [← hAe]; exact Or.inr h
  have G : gC cI cJ cZ cMic cSrc cSt cAI cAJ D ad A s.heap s.heap [] T := ⟨hP, hD, va_S.rf⟩
  have E : cE p c cX11_setVelocity s m ([.ref (ad o), .int a0, .int a1, .int a2] : List Value).toArray (Cond.code yX11_setVelocity cX11_setVelocity 4 (some .int) :: wsA) D RX11 (CT cI cJ cZ cMic cSrc cSt cAI cAJ) := ⟨hx, hb, hts, hown, hK⟩
  have htab : ∀ x ∈ c.exceptionTable.toList, False := fun x hx => htab x hx
  have hl : lv_has ls 4 [(0, .ref (ad o)), (1, .int a0), (2, .int a1), (3, .int a2)] := hl
  have hgl := GL.rf T
  have had : ∀ n, n < T.1 → ad n = ad n := fun _ _ => rfl
  have hT1 := s_X11_setVelocity h
  have hcs := cs_okx hgl hT1
  have hcx := cs_okx1 hgl hT1
  refine w_cast (Nat.sub_self T.1).symm (Nat.sub_self (sg T)).symm ?_
  have cp0 := cpr0 hrc
  unfold g_X11_setVelocity at h
  refine lv_aload_n hx hb dX11_setVelocity_0 rfl (lv_at hl 0 rfl) ?_
  obtain ⟨g2, h⟩ := oif_some h
  rcases othr_t h with ⟨r0, eT3⟩ | ⟨r5, T3, eT3, h⟩
  · refine q_xvv (As := []) (rest := []) E G hA hX hN hml (x_X11_needCamera l hst D cI cJ cZ cMic cSrc cSt cAI cAJ ad T o eT3) (cwV 0 hts (gaV qA_728 qA_729 qA_730 qA_131 qA_731) rfl rfl rfl (by decide +kernel) ⟨Nat.le_of_ble_eq_true rfl, Nat.le_of_ble_eq_true rfl⟩) (oO_k g2).1 (cc_o11 (oO_k g2).2) rfl rfl hl.1 rfl (lv_room (Nat.le_of_ble_eq_true rfl)) dX11_setVelocity_1 hcx (fun E9 ce q9 T9 H locs hp G hce hcv hcl => ?_)
    obtain ⟨hE, hT⟩ := hp
    subst hE
    rw [hT] at G
    exact vx_out (fun x hx => (htab x hx).elim) hlocks hce hcv hcl (fun t ht hvm => ⟨(T1, ad), trivial, ⟨⟨rfl, rfl, had⟩, by rw [ht]; exact G.1, va_K.moved hvm hK, G.2.1⟩, G.2.2.F ht⟩) G.2.2.2.2 hcx.1 hcx.2
  refine q_cvv (As := []) (rest := []) E G hA hX hN hml (u_X11_needCamera l hst D cI cJ cZ cMic cSrc cSt cAI cAJ ad T o eT3) (cwV 0 hts (gaV qA_728 qA_729 qA_730 qA_131 qA_731) rfl rfl rfl (by decide +kernel) ⟨Nat.le_of_ble_eq_true rfl, Nat.le_of_ble_eq_true rfl⟩) (oO_k g2).1 (cc_o11 (oO_k g2).2) rfl rfl hl.1 rfl (lv_room (Nat.le_of_ble_eq_true rfl)) dX11_setVelocity_1 hcs (fun T4 H locs hq G => ?_)
  rw [hq] at G
  clear hq
  have cp1 := cpr_sp cp0 (s_X11_needCamera eT3)
  refine lv_aload_n hx hb dX11_setVelocity_4 rfl (lv_at hl 0 rfl) ?_
  refine lv_iload_n hx hb dX11_setVelocity_5 rfl (lv_at hl 1 rfl) ?_
  obtain ⟨g7, h⟩ := oif_some h
  rcases othr_t h with ⟨r0, eT8⟩ | ⟨r10, T8, eT8, h⟩
  · refine q_xvv (As := [.int a0]) (rest := []) E G hA hX hN hml (x_X11_needSource l hst D cI cJ cZ cMic cSrc cSt cAI cAJ ad T3 o a0 eT8) (cwV 1 hts (gaV qA_766 qA_767 qA_768 qA_131 qA_769) rfl rfl rfl (by decide +kernel) ⟨Nat.le_of_ble_eq_true rfl, Nat.le_of_ble_eq_true rfl⟩) (oO_k g7).1 (cc_o11 (oO_k g7).2) rfl rfl hl.1 rfl (lv_room (Nat.le_of_ble_eq_true rfl)) dX11_setVelocity_6 hcx (fun E9 ce q9 T9 H locs hp G hce hcv hcl => ?_)
    obtain ⟨hE, hT⟩ := hp
    subst hE
    rw [hT] at G
    exact vx_out (fun x hx => (htab x hx).elim) hlocks hce hcv hcl (fun t ht hvm => ⟨(T1, ad), trivial, ⟨⟨rfl, rfl, had⟩, by rw [ht]; exact G.1, va_K.moved hvm hK, G.2.1⟩, G.2.2.F ht⟩) G.2.2.2.2 hcx.1 hcx.2
  refine q_cvv (As := [.int a0]) (rest := []) E G hA hX hN hml (u_X11_needSource l hst D cI cJ cZ cMic cSrc cSt cAI cAJ ad T3 o a0 eT8) (cwV 1 hts (gaV qA_766 qA_767 qA_768 qA_131 qA_769) rfl rfl rfl (by decide +kernel) ⟨Nat.le_of_ble_eq_true rfl, Nat.le_of_ble_eq_true rfl⟩) (oO_k g7).1 (cc_o11 (oO_k g7).2) rfl rfl hl.1 rfl (lv_room (Nat.le_of_ble_eq_true rfl)) dX11_setVelocity_6 hcs (fun T9 H locs hq G => ?_)
  rw [hq] at G
  clear hq
  have cp2 := cpr_sp cp1 (s_X11_needSource eT8)
  refine lv_iload_n hx hb dX11_setVelocity_9 rfl (lv_at hl 2 rfl) ?_
  refine lv_sipush (v := (-999)) hx hb dX11_setVelocity_10 (by decide) ?_
  refine lv_sipush (v := 999) hx hb dX11_setVelocity_13 (by decide) ?_
  rcases othr_t h with ⟨r0, eT12⟩ | ⟨r14, T12, eT12, h⟩
  · refine q_xsv (As := [.int a1, .int (-999), .int 999]) (rest := []) E G hA hX hN hml (x_X11_needRange l hst D cI cJ cZ cMic cSrc cSt cAI cAJ ad T8 a1 ((-999) : Int32) (999 : Int32) eT12) (cwS 3 hts (gaS qA_741 qA_742 qA_131 qA_743) rfl rfl rfl (by decide +kernel) ⟨Nat.le_of_ble_eq_true rfl, Nat.le_of_ble_eq_true rfl⟩) rfl hl.1 rfl (lv_room (Nat.le_of_ble_eq_true rfl)) dX11_setVelocity_16 hcx (fun E9 ce q9 T9 H locs hp G hce hcv hcl => ?_)
    obtain ⟨hE, hT⟩ := hp
    subst hE
    rw [hT] at G
    exact vx_out (fun x hx => (htab x hx).elim) hlocks hce hcv hcl (fun t ht hvm => ⟨(T1, ad), trivial, ⟨⟨rfl, rfl, had⟩, by rw [ht]; exact G.1, va_K.moved hvm hK, G.2.1⟩, G.2.2.F ht⟩) G.2.2.2.2 hcx.1 hcx.2
  refine q_csv (As := [.int a1, .int (-999), .int 999]) (rest := []) E G hA hX hN hml (u_X11_needRange l hst D cI cJ cZ cMic cSrc cSt cAI cAJ ad T8 a1 ((-999) : Int32) (999 : Int32) eT12) (cwS 3 hts (gaS qA_741 qA_742 qA_131 qA_743) rfl rfl rfl (by decide +kernel) ⟨Nat.le_of_ble_eq_true rfl, Nat.le_of_ble_eq_true rfl⟩) rfl hl.1 rfl (lv_room (Nat.le_of_ble_eq_true rfl)) dX11_setVelocity_16 hcs (fun T13 H locs hq G => ?_)
  rw [hq] at G
  clear hq
  have cp3 := cpr_sp cp2 (s_X11_needRange eT12)
  refine lv_iload_n hx hb dX11_setVelocity_19 rfl (lv_at hl 3 rfl) ?_
  refine lv_sipush (v := (-999)) hx hb dX11_setVelocity_20 (by decide) ?_
  refine lv_sipush (v := 999) hx hb dX11_setVelocity_23 (by decide) ?_
  rcases othr_t h with ⟨r0, eT16⟩ | ⟨r18, T16, eT16, h⟩
  · refine q_xsv (As := [.int a2, .int (-999), .int 999]) (rest := []) E G hA hX hN hml (x_X11_needRange l hst D cI cJ cZ cMic cSrc cSt cAI cAJ ad T12 a2 ((-999) : Int32) (999 : Int32) eT16) (cwS 3 hts (gaS qA_741 qA_742 qA_131 qA_743) rfl rfl rfl (by decide +kernel) ⟨Nat.le_of_ble_eq_true rfl, Nat.le_of_ble_eq_true rfl⟩) rfl hl.1 rfl (lv_room (Nat.le_of_ble_eq_true rfl)) dX11_setVelocity_26 hcx (fun E9 ce q9 T9 H locs hp G hce hcv hcl => ?_)
    obtain ⟨hE, hT⟩ := hp
    subst hE
    rw [hT] at G
    exact vx_out (fun x hx => (htab x hx).elim) hlocks hce hcv hcl (fun t ht hvm => ⟨(T1, ad), trivial, ⟨⟨rfl, rfl, had⟩, by rw [ht]; exact G.1, va_K.moved hvm hK, G.2.1⟩, G.2.2.F ht⟩) G.2.2.2.2 hcx.1 hcx.2
  refine q_csv (As := [.int a2, .int (-999), .int 999]) (rest := []) E G hA hX hN hml (u_X11_needRange l hst D cI cJ cZ cMic cSrc cSt cAI cAJ ad T12 a2 ((-999) : Int32) (999 : Int32) eT16) (cwS 3 hts (gaS qA_741 qA_742 qA_131 qA_743) rfl rfl rfl (by decide +kernel) ⟨Nat.le_of_ble_eq_true rfl, Nat.le_of_ble_eq_true rfl⟩) rfl hl.1 rfl (lv_room (Nat.le_of_ble_eq_true rfl)) dX11_setVelocity_26 hcs (fun T17 H locs hq G => ?_)
  rw [hq] at G
  clear hq
  have cp4 := cpr_sp cp3 (s_X11_needRange eT16)
  refine lv_aload_n hx hb dX11_setVelocity_29 rfl (lv_at hl 0 rfl) ?_
  obtain ⟨g20, h⟩ := oif_some h
  obtain ⟨T21, eT21, h⟩ := obind_some h
  have hg2 := s_X11_keepForUndo eT21
  have hrc2 := hg2.2.2 cp4.2.2
  have hT2 := s_X11_setVelocity_b33 _ _ _ _ _ h
  refine q_avv (As := []) (rest := []) E G hA hX hN hml (a_X11_keepForUndo l hst D cI cJ cZ cMic cSrc cSt cAI cAJ ad T16 o eT21 cp4.2.2 (by rw [cp4.1]; exact h_o)) (cwV 0 hts (gaV qA_925 qA_926 qA_927 qA_131 qA_928) rfl rfl rfl (by decide +kernel) ⟨Nat.le_of_ble_eq_true rfl, Nat.le_of_ble_eq_true rfl⟩) (oO_k g20).1 (cc_o11 (oO_k g20).2) rfl rfl hl.1 rfl (lv_room (Nat.le_of_ble_eq_true rfl)) dX11_setVelocity_30 (cs_avx hgl cp4 hg2 hT2) (fun ad2 H locs hga G => ?_)
  refine w_cast (c2 := T21.1 - T.1) (s2 := sg T21 - sg T) (cs_f1 hgl cp4 hg2) (cs_f2 hgl cp4 hg2) ?_
  have hl := lv_sub hl [0, 1, 2, 3] rfl
  rw [show ad o = ad2 o from (hga o (by rw [cp4.1]; exact h_o)).symm] at hl
  exact b_X11_setVelocity_b33 E hA hX hN hml hst htab hlocks (fun ad H locs t had G hvm h1 h2 => ⟨(T1, ad), trivial, ⟨⟨rfl, rfl, had⟩, (c_thrown G hK hvm h1 h2).1⟩, (c_thrown G hK hvm h1 h2).2⟩) _ _ _ _ _ _ _ _ _ h (GL.tr (gl_cpr hgl cp4) hg2) hrc2 (fun n hn => (hga n (by rw [cp4.1]; exact Nat.lt_of_lt_of_le hn hgl.1)).trans (had n hn)) (Nat.lt_of_lt_of_le (by rw [cp4.1]; exact h_o) hg2.1) G hl
def g_X11_clean_b58  (T : AT) (l2 : Int32) : Option (Nat × Int32 × AT) := some (0, l2, T)
def g_X11_clean_b41  (T : AT) (l0 : Nat) (l1 : Int32) (l2 : Int32) : Option (Nat × Int32 × AT) := oif (oO T l0 11 = true) <| obind (T.2.2.2.2 l0 6) fun n3 => oif (oO T l0 11 = true) <| obind (T.2.2.2.2 l0 14) fun n5 => oif (oO T n5 6 = true) <| obind (T.2.2.2.2 n5 17) fun n7 => oif (aA T n7 106 = true) <| oif (inb l2 (T.2.1 n7).2 = true) <| obind (T.2.2.2.2 n7 l2.toNatClampNeg) fun n10 => oif (oO T n3 8 = true) <| obind (g_X8_subtractBeam T n3 n10 l1) fun T12 => g_X11_clean_b58 T12 l2
def g_X11_clean_b33  (T : AT) (s0 : Nat) (l0 : Nat) (l1 : Int32) : Option (Nat × Int32 × AT) := oif (oO T s0 4 = true) <| elet (T.2.2.1 s0 2) fun v3 => oif (oO T l0 11 = true) <| obind (g_X11_keepForUndo T l0) fun T5 => g_X11_clean_b41 T5 l0 l1 v3
def g_X11_clean (T : AT) (o : Nat) (a0 : Int32) : Option (Nat × Int32 × AT) := oif (oO T o 11 = true) <| othr (g_X11_needCamera T o) 0 fun r5 T3 => oif (oO T3 o 11 = true) <| obind (T3.2.2.2.2 o 6) fun n8 => oif (oO T3 n8 8 = true) <| obind2 (g_X8_activeWeight T3 n8) fun r12 T10 => if r12 = 0 then (some (1, 0, T10)) else (othr (g_X11_needRange T10 a0 (1 : Int32) (100 : Int32)) 0 fun r17 T15 => oif (oO T15 o 11 = true) <| obind2 (g_X11_powersNow T15 o) fun r21 T20 => oif (Nat.blt r21 T20.1 = true) <| g_X11_clean_b33 T20 r21 o a0)
set_option maxHeartbeats 4000000 in
set_option maxRecDepth 100000 in
theorem s_X11_clean_b58 {e1 : Nat} {r1 : Int32} {T1 : AT} : ∀ (T : AT) (l2 : Int32), g_X11_clean_b58 T l2 = some (e1, r1, T1) → GL T T1 := by
  intro T l2 h
  have p0 := GL.rf T
  unfold g_X11_clean_b58 at h
  rw [← (osome3 h).2.2]
  exact p0
set_option maxHeartbeats 4000000 in
set_option maxRecDepth 100000 in
theorem s_X11_clean_b41 {e1 : Nat} {r1 : Int32} {T1 : AT} : ∀ (T : AT) (l0 : Nat) (l1 : Int32) (l2 : Int32), g_X11_clean_b41 T l0 l1 l2 = some (e1, r1, T1) → GL T T1 := by
  intro T l0 l1 l2 h
  have p0 := GL.rf T
  unfold g_X11_clean_b41 at h
  obtain ⟨g2, h⟩ := oif_some h
  obtain ⟨n3, en3, h⟩ := obind_some h
  obtain ⟨g4, h⟩ := oif_some h
  obtain ⟨n5, en5, h⟩ := obind_some h
  obtain ⟨g6, h⟩ := oif_some h
  obtain ⟨n7, en7, h⟩ := obind_some h
  obtain ⟨g8, h⟩ := oif_some h
  obtain ⟨g9, h⟩ := oif_some h
  obtain ⟨n10, en10, h⟩ := obind_some h
  obtain ⟨g11, h⟩ := oif_some h
  obtain ⟨T12, eT12, h⟩ := obind_some h
  have p1 : GL T T12 := GL.tr p0 (s_X8_subtractBeam eT12)
  exact GL.tr p1 (s_X11_clean_b58 _ _ h)
set_option maxHeartbeats 4000000 in
set_option maxRecDepth 100000 in
theorem s_X11_clean_b33 {e1 : Nat} {r1 : Int32} {T1 : AT} : ∀ (T : AT) (s0 : Nat) (l0 : Nat) (l1 : Int32), g_X11_clean_b33 T s0 l0 l1 = some (e1, r1, T1) → GL T T1 := by
  intro T s0 l0 l1 h
  have p0 := GL.rf T
  unfold g_X11_clean_b33 at h
  obtain ⟨g2, h⟩ := oif_some h
  obtain ⟨v3, -, h⟩ := elet_some h
  obtain ⟨g4, h⟩ := oif_some h
  obtain ⟨T5, eT5, h⟩ := obind_some h
  have p1 : GL T T5 := GL.tr p0 (s_X11_keepForUndo eT5)
  exact GL.tr p1 (s_X11_clean_b41 _ _ _ _ h)
set_option maxHeartbeats 4000000 in
set_option maxRecDepth 100000 in
theorem s_X11_clean {T : AT} {o : Nat} {a0 : Int32} {e1 : Nat} {r1 : Int32} {T1 : AT} (h : g_X11_clean T o a0 = some (e1, r1, T1)) : GL T T1 := by
  have p0 := GL.rf T
  unfold g_X11_clean at h
  obtain ⟨g2, h⟩ := oif_some h
  rcases othr_s h with ⟨k9, r9, e9, -⟩ | ⟨r4, T3, eT3, h⟩
  · exact GL.tr p0 (gl_sp (s_X11_needCamera e9))
  have p1 : GL T T3 := GL.tr p0 (gl_sp (s_X11_needCamera eT3))
  obtain ⟨g5, h⟩ := oif_some h
  obtain ⟨n6, en6, h⟩ := obind_some h
  obtain ⟨g7, h⟩ := oif_some h
  obtain ⟨r9, T8, eT8, h⟩ := obind2_some h
  have p2 : GL T T8 := GL.tr p1 (gl_sp (s_X8_activeWeight eT8))
  rcases oif_or h with ⟨c10, h⟩ | ⟨c10, h⟩
  · have h := h
    rw [← (osome3 h).2.2]
    exact p2
  · have h := h
    rcases othr_s h with ⟨k9, r9, e9, -⟩ | ⟨r12, T11, eT11, h⟩
    · exact GL.tr p2 (gl_sp (s_X11_needRange e9))
    have p3 : GL T T11 := GL.tr p2 (gl_sp (s_X11_needRange eT11))
    obtain ⟨g13, h⟩ := oif_some h
    obtain ⟨r15, T14, eT14, h⟩ := obind2_some h
    obtain ⟨g16, h⟩ := oif_some h
    have p4 : GL T T14 := GL.tr p3 (s_X11_powersNow eT14)
    exact GL.tr p4 (s_X11_clean_b33 _ _ _ _ h)
set_option maxHeartbeats 4000000 in
set_option maxRecDepth 100000 in
theorem a_X11_clean_b58 {p : Program} {l : Launch} {e : Env} {s : State} {m : MethodId} {args : Array Value} {below : List Frame} {meth : Method} {c : Code} {Q : State → Prop} {D : va_G} {A : Nat → Prop} {cI cJ cZ cMic cSrc cSt cAI cAJ : ClassId} {ad0 : Nat → Nat} {T0 : AT} {r1 : Int32} {T1 : AT} (E : cE p c cX11_clean s m args (Cond.code yX11_clean cX11_clean 3 (some .int) :: wsA) D RX11 (CT cI cJ cZ cMic cSrc cSt cAI cAJ)) (hA : ∀ q : Nat, s.heap.size ≤ q → A q) (hX : xT A s) (hN : nX s) (hml : c.maxLocals = 3) (hst : l.stackTraces = false) (kr59 : ∀ (ad : Nat → Nat) (H : Heap) (locs : List Loc) (ls : Array Slot), (∀ n, n < T0.1 → ad n = ad0 n) → gC cI cJ cZ cMic cSrc cSt cAI cAJ D ad A s.heap H locs T1 → W p l e { frames := 7, cells := T1.1 - T0.1, slots := sg T1 - sg T0, locals := 149 } s m args below meth c H locs (T1.1 - T0.1) (sg T1 - sg T0) Q (F0 m 59 ls [.int r1])) : ∀ (T : AT) (ad : Nat → Nat) (H : Heap) (locs : List Loc) (ls : Array Slot) (l2 : Int32), g_X11_clean_b58 T l2 = some (0, r1, T1) → GL T0 T → RC T → (∀ n, n < T0.1 → ad n = ad0 n) → gC cI cJ cZ cMic cSrc cSt cAI cAJ D ad A s.heap H locs T → lv_has ls 3 [(2, .int l2)] → W p l e { frames := 7, cells := T1.1 - T0.1, slots := sg T1 - sg T0, locals := 149 } s m args below meth c H locs (T.1 - T0.1) (sg T - sg T0) Q (F0 m 58 ls []) := by
  have hx := E.1
  have hb := E.2.1
  have hts := E.2.2.1
  have hown := E.2.2.2.1
  have hK := E.2.2.2.2
  intro T ad H locs ls l2 h hgl hrc had G hl
  have hT1 := s_X11_clean_b58 _ _ h
  have hcs := cs_ok hgl hT1
  have cp0 := cpr0 hrc
  unfold g_X11_clean_b58 at h
  refine lv_iload_n hx hb dX11_clean_58 rfl (lv_at hl 0 rfl) ?_
  rw [(osome3 h).2.2] at G
  refine w_cast (c2 := T1.1 - T0.1) (s2 := sg T1 - sg T0) (by rw [← (osome3 h).2.2, cp0.1] <;> rfl) (by rw [← (osome3 h).2.2, sg_cpr cp0] <;> rfl) ?_
  refine lv_to ((osome3 h).2.1) ?_
  exact kr59 ad _ _ _ had G
set_option maxHeartbeats 4000000 in
set_option maxRecDepth 100000 in
theorem a_X11_clean_b41 {p : Program} {l : Launch} {e : Env} {s : State} {m : MethodId} {args : Array Value} {below : List Frame} {meth : Method} {c : Code} {Q : State → Prop} {D : va_G} {A : Nat → Prop} {cI cJ cZ cMic cSrc cSt cAI cAJ : ClassId} {ad0 : Nat → Nat} {T0 : AT} {r1 : Int32} {T1 : AT} (E : cE p c cX11_clean s m args (Cond.code yX11_clean cX11_clean 3 (some .int) :: wsA) D RX11 (CT cI cJ cZ cMic cSrc cSt cAI cAJ)) (hA : ∀ q : Nat, s.heap.size ≤ q → A q) (hX : xT A s) (hN : nX s) (hml : c.maxLocals = 3) (hst : l.stackTraces = false) (kr59 : ∀ (ad : Nat → Nat) (H : Heap) (locs : List Loc) (ls : Array Slot), (∀ n, n < T0.1 → ad n = ad0 n) → gC cI cJ cZ cMic cSrc cSt cAI cAJ D ad A s.heap H locs T1 → W p l e { frames := 7, cells := T1.1 - T0.1, slots := sg T1 - sg T0, locals := 149 } s m args below meth c H locs (T1.1 - T0.1) (sg T1 - sg T0) Q (F0 m 59 ls [.int r1])) : ∀ (T : AT) (ad : Nat → Nat) (H : Heap) (locs : List Loc) (ls : Array Slot) (l0 : Nat) (l1 : Int32) (l2 : Int32), g_X11_clean_b41 T l0 l1 l2 = some (0, r1, T1) → GL T0 T → RC T → (∀ n, n < T0.1 → ad n = ad0 n) → l0 < T.1 → gC cI cJ cZ cMic cSrc cSt cAI cAJ D ad A s.heap H locs T → lv_has ls 3 [(0, .ref (ad l0)), (1, .int l1), (2, .int l2)] → W p l e { frames := 7, cells := T1.1 - T0.1, slots := sg T1 - sg T0, locals := 149 } s m args below meth c H locs (T.1 - T0.1) (sg T - sg T0) Q (F0 m 41 ls []) := by
  have hx := E.1
  have hb := E.2.1
  have hts := E.2.2.1
  have hown := E.2.2.2.1
  have hK := E.2.2.2.2
  intro T ad H locs ls l0 l1 l2 h hgl hrc had h_l0 G hl
  have hT1 := s_X11_clean_b41 _ _ _ _ h
  have hcs := cs_ok hgl hT1
  have cp0 := cpr0 hrc
  unfold g_X11_clean_b41 at h
  refine lv_aload_n hx hb dX11_clean_41 rfl (lv_at hl 0 rfl) ?_
  obtain ⟨g2, h⟩ := oif_some h
  obtain ⟨n3, en3, h⟩ := obind_some h
  have h_n3 : n3 < T.1 := by rw [← cp0.1]; exact cp0.2.2 _ _ _ en3
  refine c_get E G l0 6 (v := .ref (ad n3)) (oO_k g2).1 (cc_o11 (oO_k g2).2) rfl (fun w h => .tail _ (iA_23 h)) (by decide) (.tail _ qA_664) rfl (by rw [en3]; rfl) dX11_clean_42 ?_
  clear en3
  refine lv_aload_n hx hb dX11_clean_45 rfl (lv_at hl 0 rfl) ?_
  obtain ⟨g4, h⟩ := oif_some h
  obtain ⟨n5, en5, h⟩ := obind_some h
  have h_n5 : n5 < T.1 := by rw [← cp0.1]; exact cp0.2.2 _ _ _ en5
  refine c_get E G l0 14 (v := .ref (ad n5)) (oO_k g4).1 (cc_o11 (oO_k g4).2) rfl (fun w h => .tail _ (iA_23 h)) (by decide) (.tail _ qA_675) rfl (by rw [en5]; rfl) dX11_clean_46 ?_
  clear en5
  obtain ⟨g6, h⟩ := oif_some h
  obtain ⟨n7, en7, h⟩ := obind_some h
  have h_n7 : n7 < T.1 := by rw [← cp0.1]; exact cp0.2.2 _ _ _ en7
  refine c_get E G n5 17 (v := .ref (ad n7)) (oO_k g6).1 (cc_o6 (oO_k g6).2) rfl (fun w h => .tail _ (iA_14 h)) (by decide) (.tail _ qA_778) rfl (by rw [en7]; rfl) dX11_clean_49 ?_
  clear en7
  refine lv_iload_n hx hb dX11_clean_52 rfl (lv_at hl 2 rfl) ?_
  obtain ⟨g8, h⟩ := oif_some h
  obtain ⟨g9, h⟩ := oif_some h
  obtain ⟨n10, en10, h⟩ := obind_some h
  have h_n10 : n10 < T.1 := by rw [← cp0.1]; exact cp0.2.2 _ _ _ en10
  refine c_alda E G n7 6 (k := l2.toNatClampNeg) (v := .ref (ad n10)) (aA_k g8).1 (cc_a106 (aA_k g8).2.1) rfl (inb_k g9).1 (inb_k g9).2 (aA_k g8).2.2 (by show va_rf ((T.2.2.2.2 n7 l2.toNatClampNeg).map ad) = _; rw [en10]; rfl) dX11_clean_53 ?_
  clear en10
  refine lv_iload_n hx hb dX11_clean_54 rfl (lv_at hl 1 rfl) ?_
  obtain ⟨g11, h⟩ := oif_some h
  obtain ⟨T12, eT12, h⟩ := obind_some h
  have hg2 := s_X8_subtractBeam eT12
  have hrc2 := hg2.2.2 cp0.2.2
  have hT2 := s_X11_clean_b58 _ _ h
  refine q_avv (As := [.ref (ad n10), .int l1]) (rest := []) E G hA hX hN hml (a_X8_subtractBeam l hst D cI cJ cZ cMic cSrc cSt cAI cAJ ad T n3 n10 l1 eT12 cp0.2.2 (by rw [cp0.1]; exact h_n3) (by rw [cp0.1]; exact h_n10)) (cwV 2 hts (gaV qA_936 qA_937 qA_938 qA_47 qA_620) rfl rfl rfl (by decide +kernel) ⟨Nat.le_of_ble_eq_true rfl, Nat.le_of_ble_eq_true rfl⟩) (oO_k g11).1 (cc_o8 (oO_k g11).2) rfl rfl hl.1 rfl (lv_room (Nat.le_of_ble_eq_true rfl)) dX11_clean_55 (cs_av hgl cp0 hg2 hT2) (fun ad2 H locs hga G => ?_)
  refine w_cast (c2 := T12.1 - T0.1) (s2 := sg T12 - sg T0) (cs_f1 hgl cp0 hg2) (cs_f2 hgl cp0 hg2) ?_
  have hl := lv_sub hl [2] rfl
  exact a_X11_clean_b58 E hA hX hN hml hst kr59 _ _ _ _ _ _ h (GL.tr (gl_cpr hgl cp0) hg2) hrc2 (fun n hn => (hga n (by rw [cp0.1]; exact Nat.lt_of_lt_of_le hn hgl.1)).trans (had n hn)) G hl
set_option maxHeartbeats 4000000 in
set_option maxRecDepth 100000 in
theorem a_X11_clean_b33 {p : Program} {l : Launch} {e : Env} {s : State} {m : MethodId} {args : Array Value} {below : List Frame} {meth : Method} {c : Code} {Q : State → Prop} {D : va_G} {A : Nat → Prop} {cI cJ cZ cMic cSrc cSt cAI cAJ : ClassId} {ad0 : Nat → Nat} {T0 : AT} {r1 : Int32} {T1 : AT} (E : cE p c cX11_clean s m args (Cond.code yX11_clean cX11_clean 3 (some .int) :: wsA) D RX11 (CT cI cJ cZ cMic cSrc cSt cAI cAJ)) (hA : ∀ q : Nat, s.heap.size ≤ q → A q) (hX : xT A s) (hN : nX s) (hml : c.maxLocals = 3) (hst : l.stackTraces = false) (kr59 : ∀ (ad : Nat → Nat) (H : Heap) (locs : List Loc) (ls : Array Slot), (∀ n, n < T0.1 → ad n = ad0 n) → gC cI cJ cZ cMic cSrc cSt cAI cAJ D ad A s.heap H locs T1 → W p l e { frames := 7, cells := T1.1 - T0.1, slots := sg T1 - sg T0, locals := 149 } s m args below meth c H locs (T1.1 - T0.1) (sg T1 - sg T0) Q (F0 m 59 ls [.int r1])) : ∀ (T : AT) (ad : Nat → Nat) (H : Heap) (locs : List Loc) (ls : Array Slot) (s0 : Nat) (l0 : Nat) (l1 : Int32), g_X11_clean_b33 T s0 l0 l1 = some (0, r1, T1) → GL T0 T → RC T → (∀ n, n < T0.1 → ad n = ad0 n) → s0 < T.1 → l0 < T.1 → gC cI cJ cZ cMic cSrc cSt cAI cAJ D ad A s.heap H locs T → lv_has ls 3 [(0, .ref (ad l0)), (1, .int l1)] → W p l e { frames := 7, cells := T1.1 - T0.1, slots := sg T1 - sg T0, locals := 149 } s m args below meth c H locs (T.1 - T0.1) (sg T - sg T0) Q (F0 m 33 ls [.ref (ad s0)]) := by
  have hx := E.1
  have hb := E.2.1
  have hts := E.2.2.1
  have hown := E.2.2.2.1
  have hK := E.2.2.2.2
  intro T ad H locs ls s0 l0 l1 h hgl hrc had h_s0 h_l0 G hl
  have hT1 := s_X11_clean_b33 _ _ _ _ h
  have hcs := cs_ok hgl hT1
  have cp0 := cpr0 hrc
  unfold g_X11_clean_b33 at h
  obtain ⟨g2, h⟩ := oif_some h
  refine c_get E G s0 2 (oO_k g2).1 (cc_o4 (oO_k g2).2) rfl (fun w h => .tail _ (iA_21 h)) (by decide) (.tail _ qA_812) rfl rfl dX11_clean_33 ?_
  refine lv_topi (fun v3 ev3 => ?_)
  have h := elet_at ev3 h
  clear ev3
  refine lv_istore_n (lv' := [(2, .int v3), (0, .ref (ad l0)), (1, .int l1)]) hx hb dX11_clean_36 rfl hl (by decide) rfl (fun ls hl => ?_)
  refine lv_aload_n hx hb dX11_clean_37 rfl (lv_at hl 1 rfl) ?_
  obtain ⟨g4, h⟩ := oif_some h
  obtain ⟨T5, eT5, h⟩ := obind_some h
  have hg2 := s_X11_keepForUndo eT5
  have hrc2 := hg2.2.2 cp0.2.2
  have hT2 := s_X11_clean_b41 _ _ _ _ h
  refine q_avv (As := []) (rest := []) E G hA hX hN hml (a_X11_keepForUndo l hst D cI cJ cZ cMic cSrc cSt cAI cAJ ad T l0 eT5 cp0.2.2 (by rw [cp0.1]; exact h_l0)) (cwV 0 hts (gaV qA_925 qA_926 qA_927 qA_131 qA_928) rfl rfl rfl (by decide +kernel) ⟨Nat.le_of_ble_eq_true rfl, Nat.le_of_ble_eq_true rfl⟩) (oO_k g4).1 (cc_o11 (oO_k g4).2) rfl rfl hl.1 rfl (lv_room (Nat.le_of_ble_eq_true rfl)) dX11_clean_38 (cs_av hgl cp0 hg2 hT2) (fun ad2 H locs hga G => ?_)
  refine w_cast (c2 := T5.1 - T0.1) (s2 := sg T5 - sg T0) (cs_f1 hgl cp0 hg2) (cs_f2 hgl cp0 hg2) ?_
  have hl := lv_sub hl [1, 2, 0] rfl
  rw [show ad l0 = ad2 l0 from (hga l0 (by rw [cp0.1]; exact h_l0)).symm] at hl
  exact a_X11_clean_b41 E hA hX hN hml hst kr59 _ _ _ _ _ _ _ _ h (GL.tr (gl_cpr hgl cp0) hg2) hrc2 (fun n hn => (hga n (by rw [cp0.1]; exact Nat.lt_of_lt_of_le hn hgl.1)).trans (had n hn)) (Nat.lt_of_lt_of_le (by rw [cp0.1]; exact h_l0) hg2.1) G hl
set_option maxHeartbeats 4000000 in
set_option maxRecDepth 100000 in
theorem a_X11_clean (l : Launch) (hst : l.stackTraces = false) (D : va_G) (cI cJ cZ cMic cSrc cSt cAI cAJ : ClassId) (ad : Nat → Nat) (T : AT) (o : Nat) (a0 : Int32) {r1 : Int32} {T1 : AT} (h : g_X11_clean T o a0 = some (0, r1, T1)) (hrc : RC T) (h_o : o < T.1) : kAi l yX11_clean (Cond.code yX11_clean cX11_clean 3 (some .int) :: wsA) 7 149 cI cJ cZ cMic cSrc cSt cAI cAJ D ad T [.ref (ad o), .int a0] r1 T1 := by
  intro sz
  refine pro_in (cc := cX11_clean) (maxL := 3) (ret := (some .int)) (by exact pn_RX11) rfl (by exact Nat.le_of_ble_eq_true rfl) (fun p e s m below meth c ls hx hb hr hts hown hlocks hml hv hl => ?_)
  obtain ⟨hsz, hP, hK, hD0, hX, hN⟩ := hv
  subst hsz
  have hD := hD0.self (sz := s.heap.size)
  generalize hAe : va_A (cW ad T.1 (cc cI cJ cZ cMic cSrc cSt cAI cAJ ad T)) s.heap.size = A at hD hX ⊢
  have hA : ∀ q : Nat, s.heap.size ≤ q → A q := fun q h => by rw [← hAe]; exact Or.inr h
  have G : gC cI cJ cZ cMic cSrc cSt cAI cAJ D ad A s.heap s.heap [] T := ⟨hP, hD, va_S.rf⟩
  have E : cE p c cX11_clean s m ([.ref (ad o), .int a0] : List Value).toArray (Cond.code yX11_clean cX11_clean 3 (some .int) :: wsA) D RX11 (CT cI cJ cZ cMic cSrc cSt cAI cAJ) := ⟨hx, hb, hts, hown, hK⟩
  have hl : lv_has ls 3 [(0, .ref (ad o)), (1, .int a0)] := hl
  have hgl := GL.rf T
  have had : ∀ n, n < T.1 → ad n = ad n := fun _ _ => rfl
  have hT1 := s_X11_clean h
  have hcs := cs_ok hgl hT1
  refine w_cast (Nat.sub_self T.1).symm (Nat.sub_self (sg T)).symm ?_
  have cp0 := cpr0 hrc
  unfold g_X11_clean at h
  refine lv_aload_n hx hb dX11_clean_0 rfl (lv_at hl 0 rfl) ?_
  obtain ⟨g2, h⟩ := oif_some h
  obtain ⟨r5, T3, eT3, h⟩ := othr_n h
  refine q_cvv (As := []) (rest := []) E G hA hX hN hml (u_X11_needCamera l hst D cI cJ cZ cMic cSrc cSt cAI cAJ ad T o eT3) (cwV 0 hts (gaV qA_728 qA_729 qA_730 qA_131 qA_731) rfl rfl rfl (by decide +kernel) ⟨Nat.le_of_ble_eq_true rfl, Nat.le_of_ble_eq_true rfl⟩) (oO_k g2).1 (cc_o11 (oO_k g2).2) rfl rfl hl.1 rfl (lv_room (Nat.le_of_ble_eq_true rfl)) dX11_clean_1 hcs (fun T4 H locs hq G => ?_)
  rw [hq] at G
  clear hq
  have cp1 := cpr_sp cp0 (s_X11_needCamera eT3)
  refine lv_aload_n hx hb dX11_clean_4 rfl (lv_at hl 0 rfl) ?_
  obtain ⟨g7, h⟩ := oif_some h
  obtain ⟨n8, en8, h⟩ := obind_some h
  have h_n8 : n8 < T.1 := by rw [← cp1.1]; exact cp1.2.2 _ _ _ en8
  refine c_get E G o 6 (v := .ref (ad n8)) (oO_k g7).1 (cc_o11 (oO_k g7).2) rfl (fun w h => .tail _ (iA_23 h)) (by decide) (.tail _ qA_664) rfl (by rw [en8]; rfl) dX11_clean_5 ?_
  clear en8
  obtain ⟨g9, h⟩ := oif_some h
  obtain ⟨r12, T10, eT10, h⟩ := obind2_some h
  refine q_cvi (As := []) (rest := []) E G hA hX hN hml (u_X8_activeWeight l hst D cI cJ cZ cMic cSrc cSt cAI cAJ ad T3 n8 eT10) (cwV 0 hts (gaV qA_935 qA_622 qA_623 qA_47 qA_615) rfl rfl rfl (by decide +kernel) ⟨Nat.le_of_ble_eq_true rfl, Nat.le_of_ble_eq_true rfl⟩) (oO_k g9).1 (cc_o8 (oO_k g9).2) rfl rfl hl.1 rfl (lv_room (Nat.le_of_ble_eq_true rfl)) dX11_clean_8 hcs (fun q13 T11 H locs hq G => ?_)
  obtain ⟨hq1, hq2⟩ := hq
  rw [hq2] at G
  refine lv_to hq1 ?_
  clear hq1 hq2
  have cp2 := cpr_sp cp1 (s_X8_activeWeight eT10)
  refine lv_if_ne (tgt := 22) hx hb dX11_clean_11 (by decide) (fun c14 => ?_) (fun c14 => ?_)
  · have h := oif_neg c14 h
    refine lv_iload_n hx hb dX11_clean_22 rfl (lv_at hl 1 rfl) ?_
    refine lv_iconst (v := 1) hx hb dX11_clean_23 (by decide) ?_
    refine lv_bipush (v := 100) hx hb dX11_clean_24 (by decide) ?_
    obtain ⟨r17, T15, eT15, h⟩ := othr_n h
    refine q_csv (As := [.int a0, .int 1, .int 100]) (rest := []) E G hA hX hN hml (u_X11_needRange l hst D cI cJ cZ cMic cSrc cSt cAI cAJ ad T10 a0 (1 : Int32) (100 : Int32) eT15) (cwS 3 hts (gaS qA_741 qA_742 qA_131 qA_743) rfl rfl rfl (by decide +kernel) ⟨Nat.le_of_ble_eq_true rfl, Nat.le_of_ble_eq_true rfl⟩) rfl hl.1 rfl (lv_room (Nat.le_of_ble_eq_true rfl)) dX11_clean_26 hcs (fun T16 H locs hq G => ?_)
    rw [hq] at G
    clear hq
    have cp3 := cpr_sp cp2 (s_X11_needRange eT15)
    refine lv_aload_n hx hb dX11_clean_29 rfl (lv_at hl 0 rfl) ?_
    obtain ⟨g19, h⟩ := oif_some h
    obtain ⟨r21, T20, eT20, h⟩ := obind2_some h
    obtain ⟨g22, h⟩ := oif_some h
    have hg2 := s_X11_powersNow eT20
    have hrc2 := hg2.2.2 cp3.2.2
    have hT2 := s_X11_clean_b33 _ _ _ _ h
    refine q_avr (As := []) (rest := []) E G hA hX hN hml (a_X11_powersNow l hst D cI cJ cZ cMic cSrc cSt cAI cAJ ad T15 o eT20 cp3.2.2 (by rw [cp3.1]; exact h_o)) (cwV 0 hts (gaV qA_799 qA_800 qA_801 qA_131 qA_802) rfl rfl rfl (by decide +kernel) ⟨Nat.le_of_ble_eq_true rfl, Nat.le_of_ble_eq_true rfl⟩) (oO_k g19).1 (cc_o11 (oO_k g19).2) rfl rfl hl.1 rfl (lv_room (Nat.le_of_ble_eq_true rfl)) dX11_clean_30 (cs_av hgl cp3 hg2 hT2) (fun ad2 H locs hga G => ?_)
    refine w_cast (c2 := T20.1 - T.1) (s2 := sg T20 - sg T) (cs_f1 hgl cp3 hg2) (cs_f2 hgl cp3 hg2) ?_
    have h_new : r21 < T20.1 := Nat.le_of_ble_eq_true g22
    have hl := lv_sub hl [0, 1] rfl
    rw [show ad o = ad2 o from (hga o (by rw [cp3.1]; exact h_o)).symm] at hl
    exact a_X11_clean_b33 E hA hX hN hml hst (fun ad H locs ls had G => W.iret (v := r1) hx hb hr (fun t ht hW => ⟨⟨r1, (T1, ad), rfl, ⟨rfl, rfl, had⟩, ⟨by rw [ht]; exact G.1, va_K.moved hW.alike hK, G.2.1⟩⟩, G.2.2.F ht⟩) G.2.2.2.2 dX11_clean_59) _ _ _ _ _ _ _ _ h (GL.tr (gl_cpr hgl cp3) hg2) hrc2 (fun n hn => (hga n (by rw [cp3.1]; exact Nat.lt_of_lt_of_le hn hgl.1)).trans (had n hn)) h_new (Nat.lt_of_lt_of_le (by rw [cp3.1]; exact h_o) hg2.1) G hl
  · have h := oif_pos c14 h
    exact absurd (osome3 h).1 (by decide)
set_option maxHeartbeats 4000000 in
set_option maxRecDepth 100000 in
theorem b_X11_clean_b58 {p : Program} {l : Launch} {e : Env} {s : State} {m : MethodId} {args : Array Value} {below : List Frame} {meth : Method} {c : Code} {Qc : Array Value → State → Outcome → State → Prop} {XC : String → State → State → Prop} {D : va_G} {A : Nat → Prop} {cI cJ cZ cMic cSrc cSt cAI cAJ : ClassId} {ad0 : Nat → Nat} {T0 : AT} {e1 : Nat} {r1 : Int32} {T1 : AT} (E : cE p c cX11_clean s m args (Cond.code yX11_clean cX11_clean 3 (some .int) :: wsA) D RX11 (CT cI cJ cZ cMic cSrc cSt cAI cAJ)) (hA : ∀ q : Nat, s.heap.size ≤ q → A q) (hX : xT A s) (hN : nX s) (hml : c.maxLocals = 3) (hst : l.stackTraces = false) (htab : ∀ x ∈ c.exceptionTable.toList, False) (hlocks : meth.locks = false) (kx : ∀ (ad : Nat → Nat) (H : Heap) (locs : List Loc) (t : State), (∀ n, n < T0.1 → ad n = ad0 n) → gC cI cJ cZ cMic cSrc cSt cAI cAJ D ad A s.heap H locs T1 → s.vm.Alike t.vm → H.size ≤ t.heap.size → (∀ q, q < H.size → t.heap[q]? = H[q]?) → XC (exn e1) s t) : ∀ (T : AT) (ad : Nat → Nat) (H : Heap) (locs : List Loc) (ls : Array Slot) (l2 : Int32), g_X11_clean_b58 T l2 = some (e1 + 1, r1, T1) → GL T0 T → RC T → (∀ n, n < T0.1 → ad n = ad0 n) → gC cI cJ cZ cMic cSrc cSt cAI cAJ D ad A s.heap H locs T → lv_has ls 3 [(2, .int l2)] → W p l e { frames := 7, cells := T1.1 - T0.1 + 1, slots := sg T1 - sg T0 + 6, locals := 149 } s m args below meth c H locs (T.1 - T0.1) (sg T - sg T0) (vx_MQ below Qc XC args s (T1.1 - T0.1 + 1) (sg T1 - sg T0 + 6) A) (F0 m 58 ls []) := by
  have hx := E.1
  have hb := E.2.1
  have hts := E.2.2.1
  have hown := E.2.2.2.1
  have hK := E.2.2.2.2
  intro T ad H locs ls l2 h hgl hrc had G hl
  have hT1 := s_X11_clean_b58 _ _ h
  have hcs := cs_okx hgl hT1
  have hcx := cs_okx1 hgl hT1
  have cp0 := cpr0 hrc
  unfold g_X11_clean_b58 at h
  refine lv_iload_n hx hb dX11_clean_58 rfl (lv_at hl 0 rfl) ?_
  exact (Nat.succ_ne_zero _ (congrArg Prod.fst (Option.some.inj h)).symm).elim
set_option maxHeartbeats 4000000 in
set_option maxRecDepth 100000 in
theorem b_X11_clean_b41 {p : Program} {l : Launch} {e : Env} {s : State} {m : MethodId} {args : Array Value} {below : List Frame} {meth : Method} {c : Code} {Qc : Array Value → State → Outcome → State → Prop} {XC : String → State → State → Prop} {D : va_G} {A : Nat → Prop} {cI cJ cZ cMic cSrc cSt cAI cAJ : ClassId} {ad0 : Nat → Nat} {T0 : AT} {e1 : Nat} {r1 : Int32} {T1 : AT} (E : cE p c cX11_clean s m args (Cond.code yX11_clean cX11_clean 3 (some .int) :: wsA) D RX11 (CT cI cJ cZ cMic cSrc cSt cAI cAJ)) (hA : ∀ q : Nat, s.heap.size ≤ q → A q) (hX : xT A s) (hN : nX s) (hml : c.maxLocals = 3) (hst : l.stackTraces = false) (htab : ∀ x ∈ c.exceptionTable.toList, False) (hlocks : meth.locks = false) (kx : ∀ (ad : Nat → Nat) (H : Heap) (locs : List Loc) (t : State), (∀ n, n < T0.1 → ad n = ad0 n) → gC cI cJ cZ cMic cSrc cSt cAI cAJ D ad A s.heap H locs T1 → s.vm.Alike t.vm → H.size ≤ t.heap.size → (∀ q, q < H.size → t.heap[q]? = H[q]?) → XC (exn e1) s t) : ∀ (T : AT) (ad : Nat → Nat) (H : Heap) (locs : List Loc) (ls : Array Slot) (l0 : Nat) (l1 : Int32) (l2 : Int32), g_X11_clean_b41 T l0 l1 l2 = some (e1 + 1, r1, T1) → GL T0 T → RC T → (∀ n, n < T0.1 → ad n = ad0 n) → l0 < T.1 → gC cI cJ cZ cMic cSrc cSt cAI cAJ D ad A s.heap H locs T → lv_has ls 3 [(0, .ref (ad l0)), (1, .int l1), (2, .int l2)] → W p l e { frames := 7, cells := T1.1 - T0.1 + 1, slots := sg T1 - sg T0 + 6, locals := 149 } s m args below meth c H locs (T.1 - T0.1) (sg T - sg T0) (vx_MQ below Qc XC args s (T1.1 - T0.1 + 1) (sg T1 - sg T0 + 6) A) (F0 m 41 ls []) := by
  have hx := E.1
  have hb := E.2.1
  have hts := E.2.2.1
  have hown := E.2.2.2.1
  have hK := E.2.2.2.2
  intro T ad H locs ls l0 l1 l2 h hgl hrc had h_l0 G hl
  have hT1 := s_X11_clean_b41 _ _ _ _ h
  have hcs := cs_okx hgl hT1
  have hcx := cs_okx1 hgl hT1
  have cp0 := cpr0 hrc
  unfold g_X11_clean_b41 at h
  refine lv_aload_n hx hb dX11_clean_41 rfl (lv_at hl 0 rfl) ?_
  obtain ⟨g2, h⟩ := oif_some h
  obtain ⟨n3, en3, h⟩ := obind_some h
  have h_n3 : n3 < T.1 := by rw [← cp0.1]; exact cp0.2.2 _ _ _ en3
  refine c_get E G l0 6 (v := .ref (ad n3)) (oO_k g2).1 (cc_o11 (oO_k g2).2) rfl (fun w h => .tail _ (iA_23 h)) (by decide) (.tail _ qA_664) rfl (by rw [en3]; rfl) dX11_clean_42 ?_
  clear en3
  refine lv_aload_n hx hb dX11_clean_45 rfl (lv_at hl 0 rfl) ?_
  obtain ⟨g4, h⟩ := oif_some h
  obtain ⟨n5, en5, h⟩ := obind_some h
  have h_n5 : n5 < T.1 := by rw [← cp0.1]; exact cp0.2.2 _ _ _ en5
  refine c_get E G l0 14 (v := .ref (ad n5)) (oO_k g4).1 (cc_o11 (oO_k g4).2) rfl (fun w h => .tail _ (iA_23 h)) (by decide) (.tail _ qA_675) rfl (by rw [en5]; rfl) dX11_clean_46 ?_
  clear en5
  obtain ⟨g6, h⟩ := oif_some h
  obtain ⟨n7, en7, h⟩ := obind_some h
  have h_n7 : n7 < T.1 := by rw [← cp0.1]; exact cp0.2.2 _ _ _ en7
  refine c_get E G n5 17 (v := .ref (ad n7)) (oO_k g6).1 (cc_o6 (oO_k g6).2) rfl (fun w h => .tail _ (iA_14 h)) (by decide) (.tail _ qA_778) rfl (by rw [en7]; rfl) dX11_clean_49 ?_
  clear en7
  refine lv_iload_n hx hb dX11_clean_52 rfl (lv_at hl 2 rfl) ?_
  obtain ⟨g8, h⟩ := oif_some h
  obtain ⟨g9, h⟩ := oif_some h
  obtain ⟨n10, en10, h⟩ := obind_some h
  have h_n10 : n10 < T.1 := by rw [← cp0.1]; exact cp0.2.2 _ _ _ en10
  refine c_alda E G n7 6 (k := l2.toNatClampNeg) (v := .ref (ad n10)) (aA_k g8).1 (cc_a106 (aA_k g8).2.1) rfl (inb_k g9).1 (inb_k g9).2 (aA_k g8).2.2 (by show va_rf ((T.2.2.2.2 n7 l2.toNatClampNeg).map ad) = _; rw [en10]; rfl) dX11_clean_53 ?_
  clear en10
  refine lv_iload_n hx hb dX11_clean_54 rfl (lv_at hl 1 rfl) ?_
  obtain ⟨g11, h⟩ := oif_some h
  obtain ⟨T12, eT12, h⟩ := obind_some h
  have hg2 := s_X8_subtractBeam eT12
  have hrc2 := hg2.2.2 cp0.2.2
  have hT2 := s_X11_clean_b58 _ _ h
  refine q_avv (As := [.ref (ad n10), .int l1]) (rest := []) E G hA hX hN hml (a_X8_subtractBeam l hst D cI cJ cZ cMic cSrc cSt cAI cAJ ad T n3 n10 l1 eT12 cp0.2.2 (by rw [cp0.1]; exact h_n3) (by rw [cp0.1]; exact h_n10)) (cwV 2 hts (gaV qA_936 qA_937 qA_938 qA_47 qA_620) rfl rfl rfl (by decide +kernel) ⟨Nat.le_of_ble_eq_true rfl, Nat.le_of_ble_eq_true rfl⟩) (oO_k g11).1 (cc_o8 (oO_k g11).2) rfl rfl hl.1 rfl (lv_room (Nat.le_of_ble_eq_true rfl)) dX11_clean_55 (cs_avx hgl cp0 hg2 hT2) (fun ad2 H locs hga G => ?_)
  refine w_cast (c2 := T12.1 - T0.1) (s2 := sg T12 - sg T0) (cs_f1 hgl cp0 hg2) (cs_f2 hgl cp0 hg2) ?_
  have hl := lv_sub hl [2] rfl
  exact b_X11_clean_b58 E hA hX hN hml hst htab hlocks kx _ _ _ _ _ _ h (GL.tr (gl_cpr hgl cp0) hg2) hrc2 (fun n hn => (hga n (by rw [cp0.1]; exact Nat.lt_of_lt_of_le hn hgl.1)).trans (had n hn)) G hl
set_option maxHeartbeats 4000000 in
set_option maxRecDepth 100000 in
theorem b_X11_clean_b33 {p : Program} {l : Launch} {e : Env} {s : State} {m : MethodId} {args : Array Value} {below : List Frame} {meth : Method} {c : Code} {Qc : Array Value → State → Outcome → State → Prop} {XC : String → State → State → Prop} {D : va_G} {A : Nat → Prop} {cI cJ cZ cMic cSrc cSt cAI cAJ : ClassId} {ad0 : Nat → Nat} {T0 : AT} {e1 : Nat} {r1 : Int32} {T1 : AT} (E : cE p c cX11_clean s m args (Cond.code yX11_clean cX11_clean 3 (some .int) :: wsA) D RX11 (CT cI cJ cZ cMic cSrc cSt cAI cAJ)) (hA : ∀ q : Nat, s.heap.size ≤ q → A q) (hX : xT A s) (hN : nX s) (hml : c.maxLocals = 3) (hst : l.stackTraces = false) (htab : ∀ x ∈ c.exceptionTable.toList, False) (hlocks : meth.locks = false) (kx : ∀ (ad : Nat → Nat) (H : Heap) (locs : List Loc) (t : State), (∀ n, n < T0.1 → ad n = ad0 n) → gC cI cJ cZ cMic cSrc cSt cAI cAJ D ad A s.heap H locs T1 → s.vm.Alike t.vm → H.size ≤ t.heap.size → (∀ q, q < H.size → t.heap[q]? = H[q]?) → XC (exn e1) s t) : ∀ (T : AT) (ad : Nat → Nat) (H : Heap) (locs : List Loc) (ls : Array Slot) (s0 : Nat) (l0 : Nat) (l1 : Int32), g_X11_clean_b33 T s0 l0 l1 = some (e1 + 1, r1, T1) → GL T0 T → RC T → (∀ n, n < T0.1 → ad n = ad0 n) → s0 < T.1 → l0 < T.1 → gC cI cJ cZ cMic cSrc cSt cAI cAJ D ad A s.heap H locs T → lv_has ls 3 [(0, .ref (ad l0)), (1, .int l1)] → W p l e { frames := 7, cells := T1.1 - T0.1 + 1, slots := sg T1 - sg T0 + 6, locals := 149 } s m args below meth c H locs (T.1 - T0.1) (sg T - sg T0) (vx_MQ below Qc XC args s (T1.1 - T0.1 + 1) (sg T1 - sg T0 + 6) A) (F0 m 33 ls [.ref (ad s0)]) := by
  have hx := E.1
  have hb := E.2.1
  have hts := E.2.2.1
  have hown := E.2.2.2.1
  have hK := E.2.2.2.2
  intro T ad H locs ls s0 l0 l1 h hgl hrc had h_s0 h_l0 G hl
  have hT1 := s_X11_clean_b33 _ _ _ _ h
  have hcs := cs_okx hgl hT1
  have hcx := cs_okx1 hgl hT1
  have cp0 := cpr0 hrc
  unfold g_X11_clean_b33 at h
  obtain ⟨g2, h⟩ := oif_some h
  refine c_get E G s0 2 (oO_k g2).1 (cc_o4 (oO_k g2).2) rfl (fun w h => .tail _ (iA_21 h)) (by decide) (.tail _ qA_812) rfl rfl dX11_clean_33 ?_
  refine lv_topi (fun v3 ev3 => ?_)
  have h := elet_at ev3 h
  clear ev3
  refine lv_istore_n (lv' := [(2, .int v3), (0, .ref (ad l0)), (1, .int l1)]) hx hb dX11_clean_36 rfl hl (by decide) rfl (fun ls hl => ?_)
  refine lv_aload_n hx hb dX11_clean_37 rfl (lv_at hl 1 rfl) ?_
  obtain ⟨g4, h⟩ := oif_some h
  obtain ⟨T5, eT5, h⟩ := obind_some h
  have hg2 := s_X11_keepForUndo eT5
  have hrc2 := hg2.2.2 cp0.2.2
  have hT2 := s_X11_clean_b41 _ _ _ _ h
  refine q_avv (As := []) (rest := []) E G hA hX hN hml (a_X11_keepForUndo l hst D cI cJ cZ cMic cSrc cSt cAI cAJ ad T l0 eT5 cp0.2.2 (by rw [cp0.1]; exact h_l0)) (cwV 0 hts (gaV qA_925 qA_926 qA_927 qA_131 qA_928) rfl rfl rfl (by decide +kernel) ⟨Nat.le_of_ble_eq_true rfl, Nat.le_of_ble_eq_true rfl⟩) (oO_k g4).1 (cc_o11 (oO_k g4).2) rfl rfl hl.1 rfl (lv_room (Nat.le_of_ble_eq_true rfl)) dX11_clean_38 (cs_avx hgl cp0 hg2 hT2) (fun ad2 H locs hga G => ?_)
  refine w_cast (c2 := T5.1 - T0.1) (s2 := sg T5 - sg T0) (cs_f1 hgl cp0 hg2) (cs_f2 hgl cp0 hg2) ?_
  have hl := lv_sub hl [1, 2, 0] rfl
  rw [show ad l0 = ad2 l0 from (hga l0 (by rw [cp0.1]; exact h_l0)).symm] at hl
  exact b_X11_clean_b41 E hA hX hN hml hst htab hlocks kx _ _ _ _ _ _ _ _ h (GL.tr (gl_cpr hgl cp0) hg2) hrc2 (fun n hn => (hga n (by rw [cp0.1]; exact Nat.lt_of_lt_of_le hn hgl.1)).trans (had n hn)) (Nat.lt_of_lt_of_le (by rw [cp0.1]; exact h_l0) hg2.1) G hl
set_option maxHeartbeats 4000000 in
set_option maxRecDepth 100000 in
theorem b_X11_clean (l : Launch) (hst : l.stackTraces = false) (D : va_G) (cI cJ cZ cMic cSrc cSt cAI cAJ : ClassId) (ad : Nat → Nat) (T : AT) (o : Nat) (a0 : Int32) {e1 : Nat} {r1 : Int32} {T1 : AT} (h : g_X11_clean T o a0 = some (e1 + 1, r1, T1)) (hrc : RC T) (h_o : o < T.1) : kAXi l yX11_clean (Cond.code yX11_clean cX11_clean 3 (some .int) :: wsA) 7 149 cI cJ cZ cMic cSrc cSt cAI cAJ D ad T [.ref (ad o), .int a0] e1 T1 := by
  intro sz
  refine vx_ofW (cc := cX11_clean) (maxL := 3) (ret := (some .int)) (by decide) rfl ?_
  intro p e s m args below meth c s₁ B hml htab hv
  obtain ⟨rfl, hsz, hP, hK, hD0, hX, hN⟩ := hv
  have hx := B.exec
  have hb := B.bytes
  have hr := B.returns
  have hts := atoms_spec (ws := (Cond.code yX11_clean cX11_clean 3 (some .int) :: wsA)) B.pre
  have hown : s.vm.findClass RX11 = some m.cls := findClass_of_methodNamed B.named
  have hlocks := B.notSynchronized
  subst hsz
  have hD := hD0.self (sz := s.heap.size)
  generalize hAe : va_A (cW ad T.1 (cc cI cJ cZ cMic cSrc cSt cAI cAJ ad T)) s.heap.size = A at hD hX ⊢
  have hA : ∀ q : Nat, s.heap.size ≤ q → A q := fun q h => by rw [← hAe]; exact Or.inr h
  have G : gC cI cJ cZ cMic cSrc cSt cAI cAJ D ad A s.heap s.heap [] T := ⟨hP, hD, va_S.rf⟩
  have E : cE p c cX11_clean s m ([.ref (ad o), .int a0] : List Value).toArray (Cond.code yX11_clean cX11_clean 3 (some .int) :: wsA) D RX11 (CT cI cJ cZ cMic cSrc cSt cAI cAJ) := ⟨hx, hb, hts, hown, hK⟩
  have htab : ∀ x ∈ c.exceptionTable.toList, False := fun x hx => htab x hx
  have hl := lv_entry ([.ref (ad o), .int a0]) (n := 3) (Nat.le_of_ble_eq_true rfl)
  rw [lg_entry_eq]
  generalize (lg_sl ([.ref (ad o), .int a0]) ++ List.replicate (3 - (lg_sl ([.ref (ad o), .int a0])).length) Slot.unset).toArray = ls at hl ⊢
  have hl : lv_has ls 3 [(0, .ref (ad o)), (1, .int a0)] := hl
  have hgl := GL.rf T
  have had : ∀ n, n < T.1 → ad n = ad n := fun _ _ => rfl
  have hT1 := s_X11_clean h
  have hcs := cs_okx hgl hT1
  have hcx := cs_okx1 hgl hT1
  refine w_cast (Nat.sub_self T.1).symm (Nat.sub_self (sg T)).symm ?_
  have cp0 := cpr0 hrc
  unfold g_X11_clean at h
  refine lv_aload_n hx hb dX11_clean_0 rfl (lv_at hl 0 rfl) ?_
  obtain ⟨g2, h⟩ := oif_some h
  rcases othr_t h with ⟨r0, eT3⟩ | ⟨r5, T3, eT3, h⟩
  · refine q_xvv (As := []) (rest := []) E G hA hX hN hml (x_X11_needCamera l hst D cI cJ cZ cMic cSrc cSt cAI cAJ ad T o eT3) (cwV 0 hts (gaV qA_728 qA_729 qA_730 qA_131 qA_731) rfl rfl rfl (by decide +kernel) ⟨Nat.le_of_ble_eq_true rfl, Nat.le_of_ble_eq_true rfl⟩) (oO_k g2).1 (cc_o11 (oO_k g2).2) rfl rfl hl.1 rfl (lv_room (Nat.le_of_ble_eq_true rfl)) dX11_clean_1 hcx (fun E9 ce q9 T9 H locs hp G hce hcv hcl => ?_)
    obtain ⟨hE, hT⟩ := hp
    subst hE
    rw [hT] at G
    exact vx_out (fun x hx => (htab x hx).elim) hlocks hce hcv hcl (fun t ht hvm => ⟨(T1, ad), trivial, ⟨⟨rfl, rfl, had⟩, by rw [ht]; exact G.1, va_K.moved hvm hK, G.2.1⟩, G.2.2.F ht⟩) G.2.2.2.2 hcx.1 hcx.2
  refine q_cvv (As := []) (rest := []) E G hA hX hN hml (u_X11_needCamera l hst D cI cJ cZ cMic cSrc cSt cAI cAJ ad T o eT3) (cwV 0 hts (gaV qA_728 qA_729 qA_730 qA_131 qA_731) rfl rfl rfl (by decide +kernel) ⟨Nat.le_of_ble_eq_true rfl, Nat.le_of_ble_eq_true rfl⟩) (oO_k g2).1 (cc_o11 (oO_k g2).2) rfl rfl hl.1 rfl (lv_room (Nat.le_of_ble_eq_true rfl)) dX11_clean_1 hcs (fun T4 H locs hq G => ?_)
  rw [hq] at G
  clear hq
  have cp1 := cpr_sp cp0 (s_X11_needCamera eT3)
  refine lv_aload_n hx hb dX11_clean_4 rfl (lv_at hl 0 rfl) ?_
  obtain ⟨g7, h⟩ := oif_some h
  obtain ⟨n8, en8, h⟩ := obind_some h
  have h_n8 : n8 < T.1 := by rw [← cp1.1]; exact cp1.2.2 _ _ _ en8
  refine c_get E G o 6 (v := .ref (ad n8)) (oO_k g7).1 (cc_o11 (oO_k g7).2) rfl (fun w h => .tail _ (iA_23 h)) (by decide) (.tail _ qA_664) rfl (by rw [en8]; rfl) dX11_clean_5 ?_
  clear en8
  obtain ⟨g9, h⟩ := oif_some h
  obtain ⟨r12, T10, eT10, h⟩ := obind2_some h
  refine q_cvi (As := []) (rest := []) E G hA hX hN hml (u_X8_activeWeight l hst D cI cJ cZ cMic cSrc cSt cAI cAJ ad T3 n8 eT10) (cwV 0 hts (gaV qA_935 qA_622 qA_623 qA_47 qA_615) rfl rfl rfl (by decide +kernel) ⟨Nat.le_of_ble_eq_true rfl, Nat.le_of_ble_eq_true rfl⟩) (oO_k g9).1 (cc_o8 (oO_k g9).2) rfl rfl hl.1 rfl (lv_room (Nat.le_of_ble_eq_true rfl)) dX11_clean_8 hcs (fun q13 T11 H locs hq G => ?_)
  obtain ⟨hq1, hq2⟩ := hq
  rw [hq2] at G
  refine lv_to hq1 ?_
  clear hq1 hq2
  have cp2 := cpr_sp cp1 (s_X8_activeWeight eT10)
  refine lv_if_ne (tgt := 22) hx hb dX11_clean_11 (by decide) (fun c14 => ?_) (fun c14 => ?_)
  · have h := oif_neg c14 h
    refine lv_iload_n hx hb dX11_clean_22 rfl (lv_at hl 1 rfl) ?_
    refine lv_iconst (v := 1) hx hb dX11_clean_23 (by decide) ?_
    refine lv_bipush (v := 100) hx hb dX11_clean_24 (by decide) ?_
    rcases othr_t h with ⟨r0, eT15⟩ | ⟨r17, T15, eT15, h⟩
    · refine q_xsv (As := [.int a0, .int 1, .int 100]) (rest := []) E G hA hX hN hml (x_X11_needRange l hst D cI cJ cZ cMic cSrc cSt cAI cAJ ad T10 a0 (1 : Int32) (100 : Int32) eT15) (cwS 3 hts (gaS qA_741 qA_742 qA_131 qA_743) rfl rfl rfl (by decide +kernel) ⟨Nat.le_of_ble_eq_true rfl, Nat.le_of_ble_eq_true rfl⟩) rfl hl.1 rfl (lv_room (Nat.le_of_ble_eq_true rfl)) dX11_clean_26 hcx (fun E9 ce q9 T9 H locs hp G hce hcv hcl => ?_)
      obtain ⟨hE, hT⟩ := hp
      subst hE
      rw [hT] at G
      exact vx_out (fun x hx => (htab x hx).elim) hlocks hce hcv hcl (fun t ht hvm => ⟨(T1, ad), trivial, ⟨⟨rfl, rfl, had⟩, by rw [ht]; exact G.1, va_K.moved hvm hK, G.2.1⟩, G.2.2.F ht⟩) G.2.2.2.2 hcx.1 hcx.2
    refine q_csv (As := [.int a0, .int 1, .int 100]) (rest := []) E G hA hX hN hml (u_X11_needRange l hst D cI cJ cZ cMic cSrc cSt cAI cAJ ad T10 a0 (1 : Int32) (100 : Int32) eT15) (cwS 3 hts (gaS qA_741 qA_742 qA_131 qA_743) rfl rfl rfl (by decide +kernel) ⟨Nat.le_of_ble_eq_true rfl, Nat.le_of_ble_eq_true rfl⟩) rfl hl.1 rfl (lv_room (Nat.le_of_ble_eq_true rfl)) dX11_clean_26 hcs (fun T16 H locs hq G => ?_)
    rw [hq] at G
    clear hq
    have cp3 := cpr_sp cp2 (s_X11_needRange eT15)
    refine lv_aload_n hx hb dX11_clean_29 rfl (lv_at hl 0 rfl) ?_
    obtain ⟨g19, h⟩ := oif_some h
    obtain ⟨r21, T20, eT20, h⟩ := obind2_some h
    obtain ⟨g22, h⟩ := oif_some h
    have hg2 := s_X11_powersNow eT20
    have hrc2 := hg2.2.2 cp3.2.2
    have hT2 := s_X11_clean_b33 _ _ _ _ h
    refine q_avr (As := []) (rest := []) E G hA hX hN hml (a_X11_powersNow l hst D cI cJ cZ cMic cSrc cSt cAI cAJ ad T15 o eT20 cp3.2.2 (by rw [cp3.1]; exact h_o)) (cwV 0 hts (gaV qA_799 qA_800 qA_801 qA_131 qA_802) rfl rfl rfl (by decide +kernel) ⟨Nat.le_of_ble_eq_true rfl, Nat.le_of_ble_eq_true rfl⟩) (oO_k g19).1 (cc_o11 (oO_k g19).2) rfl rfl hl.1 rfl (lv_room (Nat.le_of_ble_eq_true rfl)) dX11_clean_30 (cs_avx hgl cp3 hg2 hT2) (fun ad2 H locs hga G => ?_)
    refine w_cast (c2 := T20.1 - T.1) (s2 := sg T20 - sg T) (cs_f1 hgl cp3 hg2) (cs_f2 hgl cp3 hg2) ?_
    have h_new : r21 < T20.1 := Nat.le_of_ble_eq_true g22
    have hl := lv_sub hl [0, 1] rfl
    rw [show ad o = ad2 o from (hga o (by rw [cp3.1]; exact h_o)).symm] at hl
    exact b_X11_clean_b33 E hA hX hN hml hst htab hlocks (fun ad H locs t had G hvm h1 h2 => ⟨(T1, ad), trivial, ⟨⟨rfl, rfl, had⟩, (c_thrown G hK hvm h1 h2).1⟩, (c_thrown G hK hvm h1 h2).2⟩) _ _ _ _ _ _ _ _ h (GL.tr (gl_cpr hgl cp3) hg2) hrc2 (fun n hn => (hga n (by rw [cp3.1]; exact Nat.lt_of_lt_of_le hn hgl.1)).trans (had n hn)) h_new (Nat.lt_of_lt_of_le (by rw [cp3.1]; exact h_o) hg2.1) G hl
  · have h := oif_pos c14 h
    have hz : exn e1 = xISE := by rw [show e1 = 0 by have := (osome3 h).1; omega]; rfl
    rw [(osome3 h).2.2] at G
    refine w_cast (c2 := T1.1 - T.1) (s2 := sg T1 - sg T) (by rw [← (osome3 h).2.2, cp2.1] <;> rfl) (by rw [← (osome3 h).2.2, sg_cpr cp2] <;> rfl) ?_
    refine vx_throw0 (own := RX11) (cls := xISE) (names := ["java/lang/RuntimeException", "java/lang/Exception"]) (ik := 397) (ic := 399) (A := A) hx hb hst hown (by decide +kernel) (by decide +kernel) (hts _ (.tail _ qA_732)) (hts _ (.tail _ qA_733)) (vx_hat (B := xB) (fun w h => hts w (.tail _ (iA_26 h))) (by decide +kernel) hX.use) (by decide +kernel) hX.1 hX.2.1 G.2.2 (hl.1.trans hml.symm) dX11_clean_14 dX11_clean_17 dX11_clean_18 dX11_clean_21 (fun x hx => (htab x hx).elim) (Nat.le_of_ble_eq_true rfl) (Nat.le_of_ble_eq_true rfl) (Nat.le_refl _) (Nat.le_refl _) hlocks (fun t hvm h1 h2 => ?_) G.2.2.2.2 (Nat.le_refl _) (Nat.le_refl _)
    exact ⟨(T1, ad), trivial, ⟨⟨hz.symm, rfl, had⟩, (c_thrown G hK hvm h1 h2).1⟩, (c_thrown G hK hvm h1 h2).2⟩
end
section
/-! 11ks.cd18.lean.txt -/
def g_X11_cleaned (T : AT) (o : Nat) : Option (Nat × Int32 × AT) := oif (oO T o 11 = true) <| othr (g_X11_needCamera T o) 0 fun r5 T3 => oif (oO T3 o 11 = true) <| obind (T3.2.2.2.2 o 6) fun n8 => oif (oO T3 n8 8 = true) <| elet (T3.2.2.1 n8 2) fun v10 => some (0, v10, T3)
set_option maxHeartbeats 4000000 in
set_option maxRecDepth 100000 in
theorem u_X11_cleaned (l : Launch) (hst : l.stackTraces = false) (D : va_G) (cI cJ cZ cMic cSrc cSt cAI cAJ : ClassId) (ad : Nat → Nat) (T : AT) (o : Nat) {r1 : Int32} {T1 : AT} (h : g_X11_cleaned T o = some (0, r1, T1)) : kCi l yX11_cleaned (Cond.code yX11_cleaned cX11_cleaned 1 (some .int) :: wsA) 7 101 cI cJ cZ cMic cSrc cSt cAI cAJ D ad T [.ref (ad o)] (fun r T9 => r = r1 ∧ T9 = T1) := by
  intro sz
  refine pro_in (cc := cX11_cleaned) (maxL := 1) (ret := (some .int)) (by exact pn_RX11) rfl (by exact Nat.le_of_ble_eq_true rfl) (fun p e s m below meth c ls hx hb hr hts hown hlocks hml hv hl => ?_)
  obtain ⟨hsz, hP, hK, hD0, hX, hN⟩ := hv
  subst hsz
  have hD := hD0.self (sz := s.heap.size)
  generalize hAe : va_A (cW ad T.1 (cc cI cJ cZ cMic cSrc cSt cAI cAJ ad T)) s.heap.size = A at hD hX ⊢
  have hA : ∀ q : Nat, s.heap.size ≤ q → A q := fun q h => by rw [← hAe]; exact Or.inr h
  have G : gC cI cJ cZ cMic cSrc cSt cAI cAJ D ad A s.heap s.heap [] T := ⟨hP, hD, va_S.rf⟩
  have E : cE p c cX11_cleaned s m ([.ref (ad o)] : List Value).toArray (Cond.code yX11_cleaned cX11_cleaned 1 (some .int) :: wsA) D RX11 (CT cI cJ cZ cMic cSrc cSt cAI cAJ) := ⟨hx, hb, hts, hown, hK⟩
  have hl : lv_has ls 1 [(0, .ref (ad o))] := hl
  unfold g_X11_cleaned at h
  refine lv_aload_n hx hb dX11_cleaned_0 rfl (lv_at hl 0 rfl) ?_
  obtain ⟨g2, h⟩ := oif_some h
  obtain ⟨r5, T3, eT3, h⟩ := othr_n h
  refine q_cvv (As := []) (rest := []) E G hA hX hN hml (u_X11_needCamera l hst D cI cJ cZ cMic cSrc cSt cAI cAJ ad T o eT3) (cwV 0 hts (gaV qA_728 qA_729 qA_730 qA_131 qA_731) rfl rfl rfl (by decide +kernel) ⟨Nat.le_of_ble_eq_true rfl, Nat.le_of_ble_eq_true rfl⟩) (oO_k g2).1 (cc_o11 (oO_k g2).2) rfl rfl hl.1 rfl (lv_room (Nat.le_of_ble_eq_true rfl)) dX11_cleaned_1 ⟨Nat.zero_le _, Nat.zero_le _⟩ (fun T4 H locs hq G => ?_)
  rw [hq] at G
  clear hq eT3
  refine lv_aload_n hx hb dX11_cleaned_4 rfl (lv_at hl 0 rfl) ?_
  obtain ⟨g7, h⟩ := oif_some h
  obtain ⟨n8, en8, h⟩ := obind_some h
  refine c_get E G o 6 (v := .ref (ad n8)) (oO_k g7).1 (cc_o11 (oO_k g7).2) rfl (fun w h => .tail _ (iA_23 h)) (by decide) (.tail _ qA_664) rfl (by rw [en8]; rfl) dX11_cleaned_5 ?_
  clear en8
  obtain ⟨g9, h⟩ := oif_some h
  refine c_get E G n8 2 (oO_k g9).1 (cc_o8 (oO_k g9).2) rfl (fun w h => .tail _ (iA_16 h)) (by decide) (.tail _ qA_940) rfl rfl dX11_cleaned_8 ?_
  refine lv_topi (fun v10 ev10 => ?_)
  have h := elet_at ev10 h
  clear ev10
  exact W.iret (v := v10) hx hb hr (fun t ht hW => ⟨⟨v10, T3, rfl, (osome3 h).2, ⟨by rw [ht]; exact G.1, va_K.moved hW.alike hK, G.2.1⟩⟩, G.2.2.F ht⟩) G.2.2.2.2 dX11_cleaned_11
set_option maxHeartbeats 4000000 in
set_option maxRecDepth 100000 in
theorem s_X11_cleaned {T : AT} {o : Nat} {e1 : Nat} {r1 : Int32} {T1 : AT} (h : g_X11_cleaned T o = some (e1, r1, T1)) : SP T T1 := by
  have p0 := SP.rf T
  unfold g_X11_cleaned at h
  obtain ⟨g2, h⟩ := oif_some h
  rcases othr_s h with ⟨k9, r9, e9, -⟩ | ⟨r4, T3, eT3, h⟩
  · exact SP.tr p0 (s_X11_needCamera e9)
  have p1 : SP T T3 := SP.tr p0 (s_X11_needCamera eT3)
  obtain ⟨g5, h⟩ := oif_some h
  obtain ⟨n6, en6, h⟩ := obind_some h
  obtain ⟨g7, h⟩ := oif_some h
  obtain ⟨v8, -, h⟩ := elet_some h
  rw [← (osome3 h).2.2]
  exact p1
set_option maxHeartbeats 4000000 in
set_option maxRecDepth 100000 in
theorem x_X11_cleaned (l : Launch) (hst : l.stackTraces = false) (D : va_G) (cI cJ cZ cMic cSrc cSt cAI cAJ : ClassId) (ad : Nat → Nat) (T : AT) (o : Nat) {e1 : Nat} {r1 : Int32} {T1 : AT} (h : g_X11_cleaned T o = some (e1 + 1, r1, T1)) : kXi l yX11_cleaned (Cond.code yX11_cleaned cX11_cleaned 1 (some .int) :: wsA) 7 101 cI cJ cZ cMic cSrc cSt cAI cAJ D ad T [.ref (ad o)] e1 T1 := by
  intro sz
  refine pro_inX (cc := cX11_cleaned) (maxL := 1) (ret := (some .int)) (by exact pn_RX11) rfl (by exact Nat.le_of_ble_eq_true rfl) (fun p e s m below meth c ls hx hb hr hts hown hlocks htab hml hv hl => ?_)
  obtain ⟨hsz, hP, hK, hD0, hX, hN⟩ := hv
  subst hsz
  have hD := hD0.self (sz := s.heap.size)
  generalize hAe : va_A (cW ad T.1 (cc cI cJ cZ cMic cSrc cSt cAI cAJ ad T)) s.heap.size = A at hD hX ⊢
  have hA : ∀ q : Nat, s.heap.size ≤ q → A q := fun q h => by rw [← hAe]; exact Or.inr h
  have G : gC cI cJ cZ cMic cSrc cSt cAI cAJ D ad A s.heap s.heap [] T := ⟨hP, hD, va_S.rf⟩
  have E : cE p c cX11_cleaned s m ([.ref (ad o)] : List Value).toArray (Cond.code yX11_cleaned cX11_cleaned 1 (some .int) :: wsA) D RX11 (CT cI cJ cZ cMic cSrc cSt cAI cAJ) := ⟨hx, hb, hts, hown, hK⟩
  have htab : ∀ x ∈ c.exceptionTable.toList, False := fun x hx => htab x hx
  have hl : lv_has ls 1 [(0, .ref (ad o))] := hl
  unfold g_X11_cleaned at h
  refine lv_aload_n hx hb dX11_cleaned_0 rfl (lv_at hl 0 rfl) ?_
  obtain ⟨g2, h⟩ := oif_some h
  rcases othr_t h with ⟨r0, eT3⟩ | ⟨r5, T3, eT3, h⟩
  · refine q_xvv (As := []) (rest := []) E G hA hX hN hml (x_X11_needCamera l hst D cI cJ cZ cMic cSrc cSt cAI cAJ ad T o eT3) (cwV 0 hts (gaV qA_728 qA_729 qA_730 qA_131 qA_731) rfl rfl rfl (by decide +kernel) ⟨Nat.le_of_ble_eq_true rfl, Nat.le_of_ble_eq_true rfl⟩) (oO_k g2).1 (cc_o11 (oO_k g2).2) rfl rfl hl.1 rfl (lv_room (Nat.le_of_ble_eq_true rfl)) dX11_cleaned_1 ⟨Nat.le_of_ble_eq_true rfl, Nat.le_of_ble_eq_true rfl⟩ (fun E9 ce q9 T9 H locs hp G hce hcv hcl => ?_)
    obtain ⟨hE, hT⟩ := hp
    subst hE
    rw [hT] at G
    exact vx_out (fun x hx => (htab x hx).elim) hlocks hce hcv hcl (fun t ht hvm => ⟨T1, trivial, ⟨⟨rfl, rfl⟩, by rw [ht]; exact G.1, va_K.moved hvm hK, G.2.1⟩, G.2.2.F ht⟩) G.2.2.2.2 (Nat.le_refl _) (Nat.le_refl _)
  refine q_cvv (As := []) (rest := []) E G hA hX hN hml (u_X11_needCamera l hst D cI cJ cZ cMic cSrc cSt cAI cAJ ad T o eT3) (cwV 0 hts (gaV qA_728 qA_729 qA_730 qA_131 qA_731) rfl rfl rfl (by decide +kernel) ⟨Nat.le_of_ble_eq_true rfl, Nat.le_of_ble_eq_true rfl⟩) (oO_k g2).1 (cc_o11 (oO_k g2).2) rfl rfl hl.1 rfl (lv_room (Nat.le_of_ble_eq_true rfl)) dX11_cleaned_1 ⟨Nat.zero_le _, Nat.zero_le _⟩ (fun T4 H locs hq G => ?_)
  rw [hq] at G
  clear hq eT3
  refine lv_aload_n hx hb dX11_cleaned_4 rfl (lv_at hl 0 rfl) ?_
  obtain ⟨g7, h⟩ := oif_some h
  obtain ⟨n8, en8, h⟩ := obind_some h
  refine c_get E G o 6 (v := .ref (ad n8)) (oO_k g7).1 (cc_o11 (oO_k g7).2) rfl (fun w h => .tail _ (iA_23 h)) (by decide) (.tail _ qA_664) rfl (by rw [en8]; rfl) dX11_cleaned_5 ?_
  clear en8
  obtain ⟨g9, h⟩ := oif_some h
  refine c_get E G n8 2 (oO_k g9).1 (cc_o8 (oO_k g9).2) rfl (fun w h => .tail _ (iA_16 h)) (by decide) (.tail _ qA_940) rfl rfl dX11_cleaned_8 ?_
  refine lv_topi (fun v10 ev10 => ?_)
  have h := elet_at ev10 h
  clear ev10
  exact (Nat.succ_ne_zero _ (congrArg Prod.fst (Option.some.inj h)).symm).elim
def g_X11_undo_b31  (T : AT) (l0 : Nat) : Option (Nat × Int32 × AT) := oif (oO T l0 11 = true) <| elet (T.2.2.1 l0 17) fun v3 => elet (v3 + 6) fun v4 => elet (v4 - 1) fun v5 => elet (v5 - v5 / 6 * 6) fun v6 => oif (oO T l0 11 = true) <| elet (uI T l0 17 v6) fun T8 => oif (oO T8 l0 11 = true) <| elet (T8.2.2.1 l0 16) fun v10 => elet (v10 - 1) fun v11 => oif (oO T8 l0 11 = true) <| elet (uI T8 l0 16 v11) fun T13 => oif (oO T13 l0 11 = true) <| obind (T13.2.2.2.2 l0 4) fun n15 => oif (oO T13 n15 4 = true) <| elet (uI T13 n15 0 0) fun T17 => oif (oO T17 l0 11 = true) <| elet (T17.2.2.1 l0 16) fun v19 => some (0, v19, T17)
def g_X11_undo (T : AT) (o : Nat) : Option (Nat × Int32 × AT) := oif (oO T o 11 = true) <| elet (T.2.2.1 o 16) fun v3 => if v3 = 0 then (some (1, 0, T)) else (oif (oO T o 11 = true) <| obind (T.2.2.2.2 o 6) fun n6 => oif (oO T o 11 = true) <| obind (T.2.2.2.2 o 8) fun n8 => oif (oO T o 11 = true) <| elet (T.2.2.1 o 17) fun v10 => oif (aA T n8 105 = true) <| oif (inb v10 (T.2.1 n8).2 = true) <| obind (T.2.2.2.2 n8 v10.toNatClampNeg) fun n13 => oif (oO T n6 8 = true) <| obind (g_X8_copyFrom T n6 n13) fun T15 => g_X11_undo_b31 T15 o)
set_option maxHeartbeats 4000000 in
set_option maxRecDepth 100000 in
theorem s_X11_undo_b31 {e1 : Nat} {r1 : Int32} {T1 : AT} : ∀ (T : AT) (l0 : Nat), g_X11_undo_b31 T l0 = some (e1, r1, T1) → GL T T1 := by
  intro T l0 h
  have p0 := GL.rf T
  unfold g_X11_undo_b31 at h
  obtain ⟨g2, h⟩ := oif_some h
  obtain ⟨v3, -, h⟩ := elet_some h
  obtain ⟨v4, -, h⟩ := elet_some h
  obtain ⟨v5, -, h⟩ := elet_some h
  obtain ⟨v6, -, h⟩ := elet_some h
  obtain ⟨g7, h⟩ := oif_some h
  obtain ⟨T8, eT8, h⟩ := elet_some h
  have p1 : GL T T8 := GL.tr p0 (by rw [eT8]; exact gl_sp sp_uI)
  obtain ⟨g9, h⟩ := oif_some h
  obtain ⟨v10, -, h⟩ := elet_some h
  obtain ⟨v11, -, h⟩ := elet_some h
  obtain ⟨g12, h⟩ := oif_some h
  obtain ⟨T13, eT13, h⟩ := elet_some h
  have p2 : GL T T13 := GL.tr p1 (by rw [eT13]; exact gl_sp sp_uI)
  obtain ⟨g14, h⟩ := oif_some h
  obtain ⟨n15, en15, h⟩ := obind_some h
  obtain ⟨g16, h⟩ := oif_some h
  obtain ⟨T17, eT17, h⟩ := elet_some h
  have p3 : GL T T17 := GL.tr p2 (by rw [eT17]; exact gl_sp sp_uI)
  obtain ⟨g18, h⟩ := oif_some h
  obtain ⟨v19, -, h⟩ := elet_some h
  rw [← (osome3 h).2.2]
  exact p3
set_option maxHeartbeats 4000000 in
set_option maxRecDepth 100000 in
theorem s_X11_undo {T : AT} {o : Nat} {e1 : Nat} {r1 : Int32} {T1 : AT} (h : g_X11_undo T o = some (e1, r1, T1)) : GL T T1 := by
  have p0 := GL.rf T
  unfold g_X11_undo at h
  obtain ⟨g2, h⟩ := oif_some h
  obtain ⟨v3, -, h⟩ := elet_some h
  rcases oif_or h with ⟨c4, h⟩ | ⟨c4, h⟩
  · have h := h
    rw [← (osome3 h).2.2]
    exact p0
  · have h := h
    obtain ⟨g5, h⟩ := oif_some h
    obtain ⟨n6, en6, h⟩ := obind_some h
    obtain ⟨g7, h⟩ := oif_some h
    obtain ⟨n8, en8, h⟩ := obind_some h
    obtain ⟨g9, h⟩ := oif_some h
    obtain ⟨v10, -, h⟩ := elet_some h
    obtain ⟨g11, h⟩ := oif_some h
    obtain ⟨g12, h⟩ := oif_some h
    obtain ⟨n13, en13, h⟩ := obind_some h
    obtain ⟨g14, h⟩ := oif_some h
    obtain ⟨T15, eT15, h⟩ := obind_some h
    have p1 : GL T T15 := GL.tr p0 (s_X8_copyFrom eT15)
    exact GL.tr p1 (s_X11_undo_b31 _ _ h)
set_option maxHeartbeats 4000000 in
set_option maxRecDepth 100000 in
theorem a_X11_undo_b31 {p : Program} {l : Launch} {e : Env} {s : State} {m : MethodId} {args : Array Value} {below : List Frame} {meth : Method} {c : Code} {Q : State → Prop} {D : va_G} {A : Nat → Prop} {cI cJ cZ cMic cSrc cSt cAI cAJ : ClassId} {ad0 : Nat → Nat} {T0 : AT} {r1 : Int32} {T1 : AT} (E : cE p c cX11_undo s m args (Cond.code yX11_undo cX11_undo 1 (some .int) :: wsA) D RX11 (CT cI cJ cZ cMic cSrc cSt cAI cAJ)) (hA : ∀ q : Nat, s.heap.size ≤ q → A q) (hX : xT A s) (hN : nX s) (hml : c.maxLocals = 1) (hst : l.stackTraces = false) (kr69 : ∀ (ad : Nat → Nat) (H : Heap) (locs : List Loc) (ls : Array Slot), (∀ n, n < T0.1 → ad n = ad0 n) → gC cI cJ cZ cMic cSrc cSt cAI cAJ D ad A s.heap H locs T1 → W p l e { frames := 6, cells := T1.1 - T0.1, slots := sg T1 - sg T0, locals := 84 } s m args below meth c H locs (T1.1 - T0.1) (sg T1 - sg T0) Q (F0 m 69 ls [.int r1])) : ∀ (T : AT) (ad : Nat → Nat) (H : Heap) (locs : List Loc) (ls : Array Slot) (l0 : Nat), g_X11_undo_b31 T l0 = some (0, r1, T1) → GL T0 T → RC T → (∀ n, n < T0.1 → ad n = ad0 n) → l0 < T.1 → gC cI cJ cZ cMic cSrc cSt cAI cAJ D ad A s.heap H locs T → lv_has ls 1 [(0, .ref (ad l0))] → W p l e { frames := 6, cells := T1.1 - T0.1, slots := sg T1 - sg T0, locals := 84 } s m args below meth c H locs (T.1 - T0.1) (sg T - sg T0) Q (F0 m 31 ls []) := by
  have hx := E.1
  have hb := E.2.1
  have hts := E.2.2.1
  have hown := E.2.2.2.1
  have hK := E.2.2.2.2
  intro T ad H locs ls l0 h hgl hrc had h_l0 G hl
  have hT1 := s_X11_undo_b31 _ _ h
  have hcs := cs_ok hgl hT1
  have cp0 := cpr0 hrc
  unfold g_X11_undo_b31 at h
  refine lv_aload_n hx hb dX11_undo_31 rfl (lv_at hl 0 rfl) ?_
  refine lv_aload_n hx hb dX11_undo_32 rfl (lv_at hl 0 rfl) ?_
  obtain ⟨g2, h⟩ := oif_some h
  refine c_get E G l0 17 (oO_k g2).1 (cc_o11 (oO_k g2).2) rfl (fun w h => .tail _ (iA_23 h)) (by decide) (.tail _ qA_929) rfl rfl dX11_undo_33 ?_
  refine lv_topi (fun v3 ev3 => ?_)
  have h := elet_at ev3 h
  clear ev3
  refine lv_bipush (v := 6) hx hb dX11_undo_36 (by decide) ?_
  refine lv_iadd hx hb dX11_undo_38 ?_
  refine lv_topi (fun v4 ev4 => ?_)
  have h := elet_at ev4 h
  clear ev4
  refine lv_iconst (v := 1) hx hb dX11_undo_39 (by decide) ?_
  refine lv_isub hx hb dX11_undo_40 ?_
  refine lv_topi (fun v5 ev5 => ?_)
  have h := elet_at ev5 h
  clear ev5
  refine lv_bipush (v := 6) hx hb dX11_undo_41 (by decide) ?_
  refine lv_irem hx hb dX11_undo_43 (by decide) ?_
  refine lv_topi (fun v6 ev6 => ?_)
  have h := elet_at ev6 h
  clear ev6
  obtain ⟨g7, h⟩ := oif_some h
  refine c_put E G l0 17 (v := .int v6) (oO_k g7).1 (cc_o11 (oO_k g7).2) rfl (fun w h => .tail _ (iA_23 h)) tyX11 tyX11_ok nmX11 (by decide) (.tail _ qA_929) ⟨rfl, rfl, rfl⟩ rfl rfl (Nat.le_of_ble_eq_true rfl) dX11_undo_44 (fun H locs G => ?_)
  have G := gC_up_i (f := upd (T.2.2.1 l0) 17 v6) (by rw [(oO_k g7).2]; rfl) G
  obtain ⟨T8, eT8, h⟩ := elet_some h
  have G : gC cI cJ cZ cMic cSrc cSt cAI cAJ D ad A s.heap H locs T8 := by rw [eT8]; exact G
  have cp1 := show CPR T T8 from by rw [eT8]; exact cpr_sp cp0 sp_uI
  clear eT8
  refine lv_aload_n hx hb dX11_undo_47 rfl (lv_at hl 0 rfl) ?_
  refine lv_dup hx hb dX11_undo_48 rfl ?_
  obtain ⟨g9, h⟩ := oif_some h
  refine c_get E G l0 16 (oO_k g9).1 (cc_o11 (oO_k g9).2) rfl (fun w h => .tail _ (iA_23 h)) (by decide) (.tail _ qA_703) rfl rfl dX11_undo_49 ?_
  refine lv_topi (fun v10 ev10 => ?_)
  have h := elet_at ev10 h
  clear ev10
  refine lv_iconst (v := 1) hx hb dX11_undo_52 (by decide) ?_
  refine lv_isub hx hb dX11_undo_53 ?_
  refine lv_topi (fun v11 ev11 => ?_)
  have h := elet_at ev11 h
  clear ev11
  obtain ⟨g12, h⟩ := oif_some h
  refine c_put E G l0 16 (v := .int v11) (oO_k g12).1 (cc_o11 (oO_k g12).2) rfl (fun w h => .tail _ (iA_23 h)) tyX11 tyX11_ok nmX11 (by decide) (.tail _ qA_703) ⟨rfl, rfl, rfl⟩ rfl rfl (Nat.le_of_ble_eq_true rfl) dX11_undo_54 (fun H locs G => ?_)
  have G := gC_up_i (f := upd (T8.2.2.1 l0) 16 v11) (by rw [(oO_k g12).2]; rfl) G
  obtain ⟨T13, eT13, h⟩ := elet_some h
  have G : gC cI cJ cZ cMic cSrc cSt cAI cAJ D ad A s.heap H locs T13 := by rw [eT13]; exact G
  have cp2 := show CPR T T13 from by rw [eT13]; exact cpr_sp cp1 sp_uI
  clear eT13
  refine lv_aload_n hx hb dX11_undo_57 rfl (lv_at hl 0 rfl) ?_
  obtain ⟨g14, h⟩ := oif_some h
  obtain ⟨n15, en15, h⟩ := obind_some h
  have h_n15 : n15 < T.1 := by rw [← cp2.1]; exact cp2.2.2 _ _ _ en15
  refine c_get E G l0 4 (v := .ref (ad n15)) (oO_k g14).1 (cc_o11 (oO_k g14).2) rfl (fun w h => .tail _ (iA_23 h)) (by decide) (.tail _ qA_660) rfl (by rw [en15]; rfl) dX11_undo_58 ?_
  clear en15
  refine lv_iconst (v := 0) hx hb dX11_undo_61 (by decide) ?_
  obtain ⟨g16, h⟩ := oif_some h
  refine c_put E G n15 0 (v := .int 0) (oO_k g16).1 (cc_o4 (oO_k g16).2) rfl (fun w h => .tail _ (iA_21 h)) tyX4 tyX4_ok nmX4 (by decide) (.tail _ qA_704) ⟨rfl, rfl, rfl⟩ rfl rfl (Nat.le_of_ble_eq_true rfl) dX11_undo_62 (fun H locs G => ?_)
  have G := gC_up_i (f := upd (T13.2.2.1 n15) 0 0) (by rw [(oO_k g16).2]; rfl) G
  obtain ⟨T17, eT17, h⟩ := elet_some h
  have G : gC cI cJ cZ cMic cSrc cSt cAI cAJ D ad A s.heap H locs T17 := by rw [eT17]; exact G
  have cp3 := show CPR T T17 from by rw [eT17]; exact cpr_sp cp2 sp_uI
  clear eT17
  refine lv_aload_n hx hb dX11_undo_65 rfl (lv_at hl 0 rfl) ?_
  obtain ⟨g18, h⟩ := oif_some h
  refine c_get E G l0 16 (oO_k g18).1 (cc_o11 (oO_k g18).2) rfl (fun w h => .tail _ (iA_23 h)) (by decide) (.tail _ qA_703) rfl rfl dX11_undo_66 ?_
  refine lv_topi (fun v19 ev19 => ?_)
  have h := elet_at ev19 h
  clear ev19
  rw [(osome3 h).2.2] at G
  refine w_cast (c2 := T1.1 - T0.1) (s2 := sg T1 - sg T0) (by rw [← (osome3 h).2.2, cp3.1] <;> rfl) (by rw [← (osome3 h).2.2, sg_cpr cp3] <;> rfl) ?_
  refine lv_to ((osome3 h).2.1) ?_
  exact kr69 ad _ _ _ had G
set_option maxHeartbeats 4000000 in
set_option maxRecDepth 100000 in
theorem a_X11_undo (l : Launch) (hst : l.stackTraces = false) (D : va_G) (cI cJ cZ cMic cSrc cSt cAI cAJ : ClassId) (ad : Nat → Nat) (T : AT) (o : Nat) {r1 : Int32} {T1 : AT} (h : g_X11_undo T o = some (0, r1, T1)) (hrc : RC T) (h_o : o < T.1) : kAi l yX11_undo (Cond.code yX11_undo cX11_undo 1 (some .int) :: wsA) 6 84 cI cJ cZ cMic cSrc cSt cAI cAJ D ad T [.ref (ad o)] r1 T1 := by
  intro sz
  refine pro_in (cc := cX11_undo) (maxL := 1) (ret := (some .int)) (by exact pn_RX11) rfl (by exact Nat.le_of_ble_eq_true rfl) (fun p e s m below meth c ls hx hb hr hts hown hlocks hml hv hl => ?_)
  obtain ⟨hsz, hP, hK, hD0, hX, hN⟩ := hv
  subst hsz
  have hD := hD0.self (sz := s.heap.size)
  generalize hAe : va_A (cW ad T.1 (cc cI cJ cZ cMic cSrc cSt cAI cAJ ad T)) s.heap.size = A at hD hX ⊢
  have hA : ∀ q : Nat, s.heap.size ≤ q → A q := fun q h => by rw [← hAe]; exact Or.inr h
  have G : gC cI cJ cZ cMic cSrc cSt cAI cAJ D ad A s.heap s.heap [] T := ⟨hP, hD, va_S.rf⟩
  have E : cE p c cX11_undo s m ([.ref (ad o)] : List Value).toArray (Cond.code yX11_undo cX11_undo 1 (some .int) :: wsA) D RX11 (CT cI cJ cZ cMic cSrc cSt cAI cAJ) := ⟨hx, hb, hts, hown, hK⟩
  have hl : lv_has ls 1 [(0, .ref (ad o))] := hl
  have hgl := GL.rf T
  have had : ∀ n, n < T.1 → ad n = ad n := fun _ _ => rfl
  have hT1 := s_X11_undo h
  have hcs := cs_ok hgl hT1
  refine w_cast (Nat.sub_self T.1).symm (Nat.sub_self (sg T)).symm ?_
  have cp0 := cpr0 hrc
  unfold g_X11_undo at h
  refine lv_aload_n hx hb dX11_undo_0 rfl (lv_at hl 0 rfl) ?_
  obtain ⟨g2, h⟩ := oif_some h
  refine c_get E G o 16 (oO_k g2).1 (cc_o11 (oO_k g2).2) rfl (fun w h => .tail _ (iA_23 h)) (by decide) (.tail _ qA_703) rfl rfl dX11_undo_1 ?_
  refine lv_topi (fun v3 ev3 => ?_)
  have h := elet_at ev3 h
  clear ev3
  refine lv_if_ne (tgt := 15) hx hb dX11_undo_4 (by decide) (fun c4 => ?_) (fun c4 => ?_)
  · have h := oif_neg c4 h
    refine lv_aload_n hx hb dX11_undo_15 rfl (lv_at hl 0 rfl) ?_
    obtain ⟨g5, h⟩ := oif_some h
    obtain ⟨n6, en6, h⟩ := obind_some h
    have h_n6 : n6 < T.1 := by rw [← cp0.1]; exact cp0.2.2 _ _ _ en6
    refine c_get E G o 6 (v := .ref (ad n6)) (oO_k g5).1 (cc_o11 (oO_k g5).2) rfl (fun w h => .tail _ (iA_23 h)) (by decide) (.tail _ qA_664) rfl (by rw [en6]; rfl) dX11_undo_16 ?_
    clear en6
    refine lv_aload_n hx hb dX11_undo_19 rfl (lv_at hl 0 rfl) ?_
    obtain ⟨g7, h⟩ := oif_some h
    obtain ⟨n8, en8, h⟩ := obind_some h
    have h_n8 : n8 < T.1 := by rw [← cp0.1]; exact cp0.2.2 _ _ _ en8
    refine c_get E G o 8 (v := .ref (ad n8)) (oO_k g7).1 (cc_o11 (oO_k g7).2) rfl (fun w h => .tail _ (iA_23 h)) (by decide) (.tail _ qA_666) rfl (by rw [en8]; rfl) dX11_undo_20 ?_
    clear en8
    refine lv_aload_n hx hb dX11_undo_23 rfl (lv_at hl 0 rfl) ?_
    obtain ⟨g9, h⟩ := oif_some h
    refine c_get E G o 17 (oO_k g9).1 (cc_o11 (oO_k g9).2) rfl (fun w h => .tail _ (iA_23 h)) (by decide) (.tail _ qA_929) rfl rfl dX11_undo_24 ?_
    refine lv_topi (fun v10 ev10 => ?_)
    have h := elet_at ev10 h
    clear ev10
    obtain ⟨g11, h⟩ := oif_some h
    obtain ⟨g12, h⟩ := oif_some h
    obtain ⟨n13, en13, h⟩ := obind_some h
    have h_n13 : n13 < T.1 := by rw [← cp0.1]; exact cp0.2.2 _ _ _ en13
    refine c_aldq E G n8 5 (k := v10.toNatClampNeg) (v := .ref (ad n13)) (aA_k g11).1 (cc_a105 (aA_k g11).2.1) rfl (inb_k g12).1 (inb_k g12).2 (aA_k g11).2.2 (by show va_rf ((T.2.2.2.2 n8 v10.toNatClampNeg).map ad) = _; rw [en13]; rfl) dX11_undo_27 ?_
    clear en13
    obtain ⟨g14, h⟩ := oif_some h
    obtain ⟨T15, eT15, h⟩ := obind_some h
    have hg2 := s_X8_copyFrom eT15
    have hrc2 := hg2.2.2 cp0.2.2
    have hT2 := s_X11_undo_b31 _ _ h
    refine q_avv (As := [.ref (ad n13)]) (rest := []) E G hA hX hN hml (a_X8_copyFrom l hst D cI cJ cZ cMic cSrc cSt cAI cAJ ad T n6 n13 eT15 cp0.2.2 (by rw [cp0.1]; exact h_n6) (by rw [cp0.1]; exact h_n13)) (cwV 1 hts (gaV qA_911 qA_912 qA_913 qA_47 qA_603) rfl rfl rfl (by decide +kernel) ⟨Nat.le_of_ble_eq_true rfl, Nat.le_of_ble_eq_true rfl⟩) (oO_k g14).1 (cc_o8 (oO_k g14).2) rfl rfl hl.1 rfl (lv_room (Nat.le_of_ble_eq_true rfl)) dX11_undo_28 (cs_av hgl cp0 hg2 hT2) (fun ad2 H locs hga G => ?_)
    refine w_cast (c2 := T15.1 - T.1) (s2 := sg T15 - sg T) (cs_f1 hgl cp0 hg2) (cs_f2 hgl cp0 hg2) ?_
    have hl := lv_sub hl [0] rfl
    rw [show ad o = ad2 o from (hga o (by rw [cp0.1]; exact h_o)).symm] at hl
    exact a_X11_undo_b31 E hA hX hN hml hst (fun ad H locs ls had G => W.iret (v := r1) hx hb hr (fun t ht hW => ⟨⟨r1, (T1, ad), rfl, ⟨rfl, rfl, had⟩, ⟨by rw [ht]; exact G.1, va_K.moved hW.alike hK, G.2.1⟩⟩, G.2.2.F ht⟩) G.2.2.2.2 dX11_undo_69) _ _ _ _ _ _ h (GL.tr (gl_cpr hgl cp0) hg2) hrc2 (fun n hn => (hga n (by rw [cp0.1]; exact Nat.lt_of_lt_of_le hn hgl.1)).trans (had n hn)) (Nat.lt_of_lt_of_le (by rw [cp0.1]; exact h_o) hg2.1) G hl
  · have h := oif_pos c4 h
    exact absurd (osome3 h).1 (by decide)
set_option maxHeartbeats 4000000 in
set_option maxRecDepth 100000 in
theorem b_X11_undo_b31 {p : Program} {l : Launch} {e : Env} {s : State} {m : MethodId} {args : Array Value} {below : List Frame} {meth : Method} {c : Code} {Qc : Array Value → State → Outcome → State → Prop} {XC : String → State → State → Prop} {D : va_G} {A : Nat → Prop} {cI cJ cZ cMic cSrc cSt cAI cAJ : ClassId} {ad0 : Nat → Nat} {T0 : AT} {e1 : Nat} {r1 : Int32} {T1 : AT} (E : cE p c cX11_undo s m args (Cond.code yX11_undo cX11_undo 1 (some .int) :: wsA) D RX11 (CT cI cJ cZ cMic cSrc cSt cAI cAJ)) (hA : ∀ q : Nat, s.heap.size ≤ q → A q) (hX : xT A s) (hN : nX s) (hml : c.maxLocals = 1) (hst : l.stackTraces = false) (htab : ∀ x ∈ c.exceptionTable.toList, False) (hlocks : meth.locks = false) (kx : ∀ (ad : Nat → Nat) (H : Heap) (locs : List Loc) (t : State), (∀ n, n < T0.1 → ad n = ad0 n) → gC cI cJ cZ cMic cSrc cSt cAI cAJ D ad A s.heap H locs T1 → s.vm.Alike t.vm → H.size ≤ t.heap.size → (∀ q, q < H.size → t.heap[q]? = H[q]?) → XC (exn e1) s t) : ∀ (T : AT) (ad : Nat → Nat) (H : Heap) (locs : List Loc) (ls : Array Slot) (l0 : Nat), g_X11_undo_b31 T l0 = some (e1 + 1, r1, T1) → GL T0 T → RC T → (∀ n, n < T0.1 → ad n = ad0 n) → l0 < T.1 → gC cI cJ cZ cMic cSrc cSt cAI cAJ D ad A s.heap H locs T → lv_has ls 1 [(0, .ref (ad l0))] → W p l e { frames := 6, cells := T1.1 - T0.1 + 1, slots := sg T1 - sg T0 + 6, locals := 84 } s m args below meth c H locs (T.1 - T0.1) (sg T - sg T0) (vx_MQ below Qc XC args s (T1.1 - T0.1 + 1) (sg T1 - sg T0 + 6) A) (F0 m 31 ls []) := by
  have hx := E.1
  have hb := E.2.1
  have hts := E.2.2.1
  have hown := E.2.2.2.1
  have hK := E.2.2.2.2
  intro T ad H locs ls l0 h hgl hrc had h_l0 G hl
  have hT1 := s_X11_undo_b31 _ _ h
  have hcs := cs_okx hgl hT1
  have hcx := cs_okx1 hgl hT1
  have cp0 := cpr0 hrc
  unfold g_X11_undo_b31 at h
  refine lv_aload_n hx hb dX11_undo_31 rfl (lv_at hl 0 rfl) ?_
  refine lv_aload_n hx hb dX11_undo_32 rfl (lv_at hl 0 rfl) ?_
  obtain ⟨g2, h⟩ := oif_some h
  refine c_get E G l0 17 (oO_k g2).1 (cc_o11 (oO_k g2).2) rfl (fun w h => .tail _ (iA_23 h)) (by decide) (.tail _ qA_929) rfl rfl dX11_undo_33 ?_
  refine lv_topi (fun v3 ev3 => ?_)
  have h := elet_at ev3 h
  clear ev3
  refine lv_bipush (v := 6) hx hb dX11_undo_36 (by decide) ?_
  refine lv_iadd hx hb dX11_undo_38 ?_
  refine lv_topi (fun v4 ev4 => ?_)
  have h := elet_at ev4 h
  clear ev4
  refine lv_iconst (v := 1) hx hb dX11_undo_39 (by decide) ?_
  refine lv_isub hx hb dX11_undo_40 ?_
  refine lv_topi (fun v5 ev5 => ?_)
  have h := elet_at ev5 h
  clear ev5
  refine lv_bipush (v := 6) hx hb dX11_undo_41 (by decide) ?_
  refine lv_irem hx hb dX11_undo_43 (by decide) ?_
  refine lv_topi (fun v6 ev6 => ?_)
  have h := elet_at ev6 h
  clear ev6
  obtain ⟨g7, h⟩ := oif_some h
  refine c_put E G l0 17 (v := .int v6) (oO_k g7).1 (cc_o11 (oO_k g7).2) rfl (fun w h => .tail _ (iA_23 h)) tyX11 tyX11_ok nmX11 (by decide) (.tail _ qA_929) ⟨rfl, rfl, rfl⟩ rfl rfl (Nat.le_of_ble_eq_true rfl) dX11_undo_44 (fun H locs G => ?_)
  have G := gC_up_i (f := upd (T.2.2.1 l0) 17 v6) (by rw [(oO_k g7).2]; rfl) G
  obtain ⟨T8, eT8, h⟩ := elet_some h
  have G : gC cI cJ cZ cMic cSrc cSt cAI cAJ D ad A s.heap H locs T8 := by rw [eT8]; exact G
  have cp1 := show CPR T T8 from by rw [eT8]; exact cpr_sp cp0 sp_uI
  clear eT8
  refine lv_aload_n hx hb dX11_undo_47 rfl (lv_at hl 0 rfl) ?_
  refine lv_dup hx hb dX11_undo_48 rfl ?_
  obtain ⟨g9, h⟩ := oif_some h
  refine c_get E G l0 16 (oO_k g9).1 (cc_o11 (oO_k g9).2) rfl (fun w h => .tail _ (iA_23 h)) (by decide) (.tail _ qA_703) rfl rfl dX11_undo_49 ?_
  refine lv_topi (fun v10 ev10 => ?_)
  have h := elet_at ev10 h
  clear ev10
  refine lv_iconst (v := 1) hx hb dX11_undo_52 (by decide) ?_
  refine lv_isub hx hb dX11_undo_53 ?_
  refine lv_topi (fun v11 ev11 => ?_)
  have h := elet_at ev11 h
  clear ev11
  obtain ⟨g12, h⟩ := oif_some h
  refine c_put E G l0 16 (v := .int v11) (oO_k g12).1 (cc_o11 (oO_k g12).2) rfl (fun w h => .tail _ (iA_23 h)) tyX11 tyX11_ok nmX11 (by decide) (.tail _ qA_703) ⟨rfl, rfl, rfl⟩ rfl rfl (Nat.le_of_ble_eq_true rfl) dX11_undo_54 (fun H locs G => ?_)
  have G := gC_up_i (f := upd (T8.2.2.1 l0) 16 v11) (by rw [(oO_k g12).2]; rfl) G
  obtain ⟨T13, eT13, h⟩ := elet_some h
  have G : gC cI cJ cZ cMic cSrc cSt cAI cAJ D ad A s.heap H locs T13 := by rw [eT13]; exact G
  have cp2 := show CPR T T13 from by rw [eT13]; exact cpr_sp cp1 sp_uI
  clear eT13
  refine lv_aload_n hx hb dX11_undo_57 rfl (lv_at hl 0 rfl) ?_
  obtain ⟨g14, h⟩ := oif_some h
  obtain ⟨n15, en15, h⟩ := obind_some h
  have h_n15 : n15 < T.1 := by rw [← cp2.1]; exact cp2.2.2 _ _ _ en15
  refine c_get E G l0 4 (v := .ref (ad n15)) (oO_k g14).1 (cc_o11 (oO_k g14).2) rfl (fun w h => .tail _ (iA_23 h)) (by decide) (.tail _ qA_660) rfl (by rw [en15]; rfl) dX11_undo_58 ?_
  clear en15
  refine lv_iconst (v := 0) hx hb dX11_undo_61 (by decide) ?_
  obtain ⟨g16, h⟩ := oif_some h
  refine c_put E G n15 0 (v := .int 0) (oO_k g16).1 (cc_o4 (oO_k g16).2) rfl (fun w h => .tail _ (iA_21 h)) tyX4 tyX4_ok nmX4 (by decide) (.tail _ qA_704) ⟨rfl, rfl, rfl⟩ rfl rfl (Nat.le_of_ble_eq_true rfl) dX11_undo_62 (fun H locs G => ?_)
  have G := gC_up_i (f := upd (T13.2.2.1 n15) 0 0) (by rw [(oO_k g16).2]; rfl) G
  obtain ⟨T17, eT17, h⟩ := elet_some h
  have G : gC cI cJ cZ cMic cSrc cSt cAI cAJ D ad A s.heap H locs T17 := by rw [eT17]; exact G
  have cp3 := show CPR T T17 from by rw [eT17]; exact cpr_sp cp2 sp_uI
  clear eT17
  refine lv_aload_n hx hb dX11_undo_65 rfl (lv_at hl 0 rfl) ?_
  obtain ⟨g18, h⟩ := oif_some h
  refine c_get E G l0 16 (oO_k g18).1 (cc_o11 (oO_k g18).2) rfl (fun w h => .tail _ (iA_23 h)) (by decide) (.tail _ qA_703) rfl rfl dX11_undo_66 ?_
  refine lv_topi (fun v19 ev19 => ?_)
  have h := elet_at ev19 h
  clear ev19
  exact (Nat.succ_ne_zero _ (congrArg Prod.fst (Option.some.inj h)).symm).elim
set_option maxHeartbeats 4000000 in
set_option maxRecDepth 100000 in
theorem b_X11_undo (l : Launch) (hst : l.stackTraces = false) (D : va_G) (cI cJ cZ cMic cSrc cSt cAI cAJ : ClassId) (ad : Nat → Nat) (T : AT) (o : Nat) {e1 : Nat} {r1 : Int32} {T1 : AT} (h : g_X11_undo T o = some (e1 + 1, r1, T1)) (hrc : RC T) (h_o : o < T.1) : kAXi l yX11_undo (Cond.code yX11_undo cX11_undo 1 (some .int) :: wsA) 6 84 cI cJ cZ cMic cSrc cSt cAI cAJ D ad T [.ref (ad o)] e1 T1 := by
  intro sz
  refine vx_ofW (cc := cX11_undo) (maxL := 1) (ret := (some .int)) (by decide) rfl ?_
  intro p e s m args below meth c s₁ B hml htab hv
  obtain ⟨rfl, hsz, hP, hK, hD0, hX, hN⟩ := hv
  have hx := B.exec
  have hb := B.bytes
  have hr := B.returns
  have hts := atoms_spec (ws := (Cond.code yX11_undo cX11_undo 1 (some .int) :: wsA)) B.pre
  have hown : s.vm.findClass RX11 = some m.cls := findClass_of_methodNamed B.named
  have hlocks := B.notSynchronized
  subst hsz
  have hD := hD0.self (sz := s.heap.size)
  generalize hAe : va_A (cW ad T.1 (cc cI cJ cZ cMic cSrc cSt cAI cAJ ad T)) s.heap.size = A at hD hX ⊢
  have hA : ∀ q : Nat, s.heap.size ≤ q → A q := fun q h => by rw [← hAe]; exact Or.inr h
  have G : gC cI cJ cZ cMic cSrc cSt cAI cAJ D ad A s.heap s.heap [] T := ⟨hP, hD, va_S.rf⟩
  have E : cE p c cX11_undo s m ([.ref (ad o)] : List Value).toArray (Cond.code yX11_undo cX11_undo 1 (some .int) :: wsA) D RX11 (CT cI cJ cZ cMic cSrc cSt cAI cAJ) := ⟨hx, hb, hts, hown, hK⟩
  have htab : ∀ x ∈ c.exceptionTable.toList, False := fun x hx => htab x hx
  have hl := lv_entry ([.ref (ad o)]) (n := 1) (Nat.le_of_ble_eq_true rfl)
  rw [lg_entry_eq]
  generalize (lg_sl ([.ref (ad o)]) ++ List.replicate (1 - (lg_sl ([.ref (ad o)])).length) Slot.unset).toArray = ls at hl ⊢
  have hl : lv_has ls 1 [(0, .ref (ad o))] := hl
  have hgl := GL.rf T
  have had : ∀ n, n < T.1 → ad n = ad n := fun _ _ => rfl
  have hT1 := s_X11_undo h
  have hcs := cs_okx hgl hT1
  have hcx := cs_okx1 hgl hT1
  refine w_cast (Nat.sub_self T.1).symm (Nat.sub_self (sg T)).symm ?_
  have cp0 := cpr0 hrc
  unfold g_X11_undo at h
  refine lv_aload_n hx hb dX11_undo_0 rfl (lv_at hl 0 rfl) ?_
  obtain ⟨g2, h⟩ := oif_some h
  refine c_get E G o 16 (oO_k g2).1 (cc_o11 (oO_k g2).2) rfl (fun w h => .tail _ (iA_23 h)) (by decide) (.tail _ qA_703) rfl rfl dX11_undo_1 ?_
  refine lv_topi (fun v3 ev3 => ?_)
  have h := elet_at ev3 h
  clear ev3
  refine lv_if_ne (tgt := 15) hx hb dX11_undo_4 (by decide) (fun c4 => ?_) (fun c4 => ?_)
  · have h := oif_neg c4 h
    refine lv_aload_n hx hb dX11_undo_15 rfl (lv_at hl 0 rfl) ?_
    obtain ⟨g5, h⟩ := oif_some h
    obtain ⟨n6, en6, h⟩ := obind_some h
    have h_n6 : n6 < T.1 := by rw [← cp0.1]; exact cp0.2.2 _ _ _ en6
    refine c_get E G o 6 (v := .ref (ad n6)) (oO_k g5).1 (cc_o11 (oO_k g5).2) rfl (fun w h => .tail _ (iA_23 h)) (by decide) (.tail _ qA_664) rfl (by rw [en6]; rfl) dX11_undo_16 ?_
    clear en6
    refine lv_aload_n hx hb dX11_undo_19 rfl (lv_at hl 0 rfl) ?_
    obtain ⟨g7, h⟩ := oif_some h
    obtain ⟨n8, en8, h⟩ := obind_some h
    have h_n8 : n8 < T.1 := by rw [← cp0.1]; exact cp0.2.2 _ _ _ en8
    refine c_get E G o 8 (v := .ref (ad n8)) (oO_k g7).1 (cc_o11 (oO_k g7).2) rfl (fun w h => .tail _ (iA_23 h)) (by decide) (.tail _ qA_666) rfl (by rw [en8]; rfl) dX11_undo_20 ?_
    clear en8
    refine lv_aload_n hx hb dX11_undo_23 rfl (lv_at hl 0 rfl) ?_
    obtain ⟨g9, h⟩ := oif_some h
    refine c_get E G o 17 (oO_k g9).1 (cc_o11 (oO_k g9).2) rfl (fun w h => .tail _ (iA_23 h)) (by decide) (.tail _ qA_929) rfl rfl dX11_undo_24 ?_
    refine lv_topi (fun v10 ev10 => ?_)
    have h := elet_at ev10 h
    clear ev10
    obtain ⟨g11, h⟩ := oif_some h
    obtain ⟨g12, h⟩ := oif_some h
    obtain ⟨n13, en13, h⟩ := obind_some h
    have h_n13 : n13 < T.1 := by rw [← cp0.1]; exact cp0.2.2 _ _ _ en13
    refine c_aldq E G n8 5 (k := v10.toNatClampNeg) (v := .ref (ad n13)) (aA_k g11).1 (cc_a105 (aA_k g11).2.1) rfl (inb_k g12).1 (inb_k g12).2 (aA_k g11).2.2 (by show va_rf ((T.2.2.2.2 n8 v10.toNatClampNeg).map ad) = _; rw [en13]; rfl) dX11_undo_27 ?_
    clear en13
    obtain ⟨g14, h⟩ := oif_some h
    obtain ⟨T15, eT15, h⟩ := obind_some h
    have hg2 := s_X8_copyFrom eT15
    have hrc2 := hg2.2.2 cp0.2.2
    have hT2 := s_X11_undo_b31 _ _ h
    refine q_avv (As := [.ref (ad n13)]) (rest := []) E G hA hX hN hml (a_X8_copyFrom l hst D cI cJ cZ cMic cSrc cSt cAI cAJ ad T n6 n13 eT15 cp0.2.2 (by rw [cp0.1]; exact h_n6) (by rw [cp0.1]; exact h_n13)) (cwV 1 hts (gaV qA_911 qA_912 qA_913 qA_47 qA_603) rfl rfl rfl (by decide +kernel) ⟨Nat.le_of_ble_eq_true rfl, Nat.le_of_ble_eq_true rfl⟩) (oO_k g14).1 (cc_o8 (oO_k g14).2) rfl rfl hl.1 rfl (lv_room (Nat.le_of_ble_eq_true rfl)) dX11_undo_28 (cs_avx hgl cp0 hg2 hT2) (fun ad2 H locs hga G => ?_)
    refine w_cast (c2 := T15.1 - T.1) (s2 := sg T15 - sg T) (cs_f1 hgl cp0 hg2) (cs_f2 hgl cp0 hg2) ?_
    have hl := lv_sub hl [0] rfl
    rw [show ad o = ad2 o from (hga o (by rw [cp0.1]; exact h_o)).symm] at hl
    exact b_X11_undo_b31 E hA hX hN hml hst htab hlocks (fun ad H locs t had G hvm h1 h2 => ⟨(T1, ad), trivial, ⟨⟨rfl, rfl, had⟩, (c_thrown G hK hvm h1 h2).1⟩, (c_thrown G hK hvm h1 h2).2⟩) _ _ _ _ _ _ h (GL.tr (gl_cpr hgl cp0) hg2) hrc2 (fun n hn => (hga n (by rw [cp0.1]; exact Nat.lt_of_lt_of_le hn hgl.1)).trans (had n hn)) (Nat.lt_of_lt_of_le (by rw [cp0.1]; exact h_o) hg2.1) G hl
  · have h := oif_pos c4 h
    have hz : exn e1 = xISE := by rw [show e1 = 0 by have := (osome3 h).1; omega]; rfl
    rw [(osome3 h).2.2] at G
    refine w_cast (c2 := T1.1 - T.1) (s2 := sg T1 - sg T) (by rw [← (osome3 h).2.2, cp0.1] <;> rfl) (by rw [← (osome3 h).2.2, sg_cpr cp0] <;> rfl) ?_
    refine vx_throw0 (own := RX11) (cls := xISE) (names := ["java/lang/RuntimeException", "java/lang/Exception"]) (ik := 397) (ic := 399) (A := A) hx hb hst hown (by decide +kernel) (by decide +kernel) (hts _ (.tail _ qA_732)) (hts _ (.tail _ qA_733)) (vx_hat (B := xB) (fun w h => hts w (.tail _ (iA_26 h))) (by decide +kernel) hX.use) (by decide +kernel) hX.1 hX.2.1 G.2.2 (hl.1.trans hml.symm) dX11_undo_7 dX11_undo_10 dX11_undo_11 dX11_undo_14 (fun x hx => (htab x hx).elim) (Nat.le_of_ble_eq_true rfl) (Nat.le_of_ble_eq_true rfl) (Nat.le_refl _) (Nat.le_refl _) hlocks (fun t hvm h1 h2 => ?_) G.2.2.2.2 (Nat.le_refl _) (Nat.le_refl _)
    exact ⟨(T1, ad), trivial, ⟨⟨hz.symm, rfl, had⟩, (c_thrown G hK hvm h1 h2).1⟩, (c_thrown G hK hvm h1 h2).2⟩
def g_X11_undoable (T : AT) (o : Nat) : Option (Int32 × AT) := oif (oO T o 11 = true) <| elet (T.2.2.1 o 16) fun v3 => some (v3, T)
set_option maxHeartbeats 4000000 in
set_option maxRecDepth 100000 in
theorem u_X11_undoable (l : Launch) (hst : l.stackTraces = false) (D : va_G) (cI cJ cZ cMic cSrc cSt cAI cAJ : ClassId) (ad : Nat → Nat) (T : AT) (o : Nat) {r1 : Int32} {T1 : AT} (h : g_X11_undoable T o = some (r1, T1)) : kCi l yX11_undoable (Cond.code yX11_undoable cX11_undoable 1 (some .int) :: wsA) 1 0 cI cJ cZ cMic cSrc cSt cAI cAJ D ad T [.ref (ad o)] (fun r T9 => r = r1 ∧ T9 = T1) := by
  intro sz
  refine pro_in (cc := cX11_undoable) (maxL := 1) (ret := (some .int)) (by exact pn_RX11) rfl (by exact Nat.le_of_ble_eq_true rfl) (fun p e s m below meth c ls hx hb hr hts hown hlocks hml hv hl => ?_)
  obtain ⟨hsz, hP, hK, hD0, hX, hN⟩ := hv
  subst hsz
  have hD := hD0.self (sz := s.heap.size)
  generalize hAe : va_A (cW ad T.1 (cc cI cJ cZ cMic cSrc cSt cAI cAJ ad T)) s.heap.size = A at hD hX ⊢
  have hA : ∀ q : Nat, s.heap.size ≤ q → A q := fun q h => by rw [← hAe]; exact Or.inr h
  have G : gC cI cJ cZ cMic cSrc cSt cAI cAJ D ad A s.heap s.heap [] T := ⟨hP, hD, va_S.rf⟩
  have E : cE p c cX11_undoable s m ([.ref (ad o)] : List Value).toArray (Cond.code yX11_undoable cX11_undoable 1 (some .int) :: wsA) D RX11 (CT cI cJ cZ cMic cSrc cSt cAI cAJ) := ⟨hx, hb, hts, hown, hK⟩
  have hl : lv_has ls 1 [(0, .ref (ad o))] := hl
  unfold g_X11_undoable at h
  refine lv_aload_n hx hb dX11_undoable_0 rfl (lv_at hl 0 rfl) ?_
  obtain ⟨g2, h⟩ := oif_some h
  refine c_get E G o 16 (oO_k g2).1 (cc_o11 (oO_k g2).2) rfl (fun w h => .tail _ (iA_23 h)) (by decide) (.tail _ qA_703) rfl rfl dX11_undoable_1 ?_
  refine lv_topi (fun v3 ev3 => ?_)
  have h := elet_at ev3 h
  clear ev3
  exact W.iret (v := v3) hx hb hr (fun t ht hW => ⟨⟨v3, T, rfl, osome2 h, ⟨by rw [ht]; exact G.1, va_K.moved hW.alike hK, G.2.1⟩⟩, G.2.2.F ht⟩) G.2.2.2.2 dX11_undoable_4
set_option maxHeartbeats 4000000 in
set_option maxRecDepth 100000 in
theorem s_X11_undoable {T : AT} {o : Nat} {r1 : Int32} {T1 : AT} (h : g_X11_undoable T o = some (r1, T1)) : SP T T1 := by
  have p0 := SP.rf T
  unfold g_X11_undoable at h
  obtain ⟨g2, h⟩ := oif_some h
  obtain ⟨v3, -, h⟩ := elet_some h
  rw [← (osome2 h).2]
  exact p0
def g_X11_save_b33  (T : AT) (s0 : Nat) : Option (Nat × Int32 × AT) := oif (oO T s0 4 = true) <| elet (T.2.2.1 s0 2) fun v3 => some (0, v3, T)
def g_X11_save_b22  (T : AT) (l0 : Nat) (l1 : Int32) : Option (Nat × Int32 × AT) := oif (oO T l0 11 = true) <| obind (T.2.2.2.2 l0 10) fun n3 => oif (aA T n3 102 = true) <| oif (inb l1 (T.2.1 n3).2 = true) <| elet (uI T n3 l1.toNatClampNeg 1) fun T6 => oif (oO T6 l0 11 = true) <| obind2 (g_X11_powersNow T6 l0) fun r9 T8 => oif (Nat.blt r9 T8.1 = true) <| g_X11_save_b33 T8 r9
def g_X11_save (T : AT) (o : Nat) (a0 : Int32) : Option (Nat × Int32 × AT) := oif (oO T o 11 = true) <| othr (g_X11_needCamera T o) 0 fun r5 T3 => othr (g_X11_needIndex T3 a0 (2 : Int32)) 0 fun r9 T7 => oif (oO T7 o 11 = true) <| obind (T7.2.2.2.2 o 9) fun n12 => oif (aA T7 n12 105 = true) <| oif (inb a0 (T7.2.1 n12).2 = true) <| obind (T7.2.2.2.2 n12 a0.toNatClampNeg) fun n15 => oif (oO T7 o 11 = true) <| obind (T7.2.2.2.2 o 6) fun n17 => oif (oO T7 n15 8 = true) <| obind (g_X8_copyFrom T7 n15 n17) fun T19 => g_X11_save_b22 T19 o a0
set_option maxHeartbeats 4000000 in
set_option maxRecDepth 100000 in
theorem s_X11_save_b33 {e1 : Nat} {r1 : Int32} {T1 : AT} : ∀ (T : AT) (s0 : Nat), g_X11_save_b33 T s0 = some (e1, r1, T1) → GL T T1 := by
  intro T s0 h
  have p0 := GL.rf T
  unfold g_X11_save_b33 at h
  obtain ⟨g2, h⟩ := oif_some h
  obtain ⟨v3, -, h⟩ := elet_some h
  rw [← (osome3 h).2.2]
  exact p0
set_option maxHeartbeats 4000000 in
set_option maxRecDepth 100000 in
theorem s_X11_save_b22 {e1 : Nat} {r1 : Int32} {T1 : AT} : ∀ (T : AT) (l0 : Nat) (l1 : Int32), g_X11_save_b22 T l0 l1 = some (e1, r1, T1) → GL T T1 := by
  intro T l0 l1 h
  have p0 := GL.rf T
  unfold g_X11_save_b22 at h
  obtain ⟨g2, h⟩ := oif_some h
  obtain ⟨n3, en3, h⟩ := obind_some h
  obtain ⟨g4, h⟩ := oif_some h
  obtain ⟨g5, h⟩ := oif_some h
  obtain ⟨T6, eT6, h⟩ := elet_some h
  have p1 : GL T T6 := GL.tr p0 (by rw [eT6]; exact gl_sp sp_uI)
  obtain ⟨g7, h⟩ := oif_some h
  obtain ⟨r9, T8, eT8, h⟩ := obind2_some h
  obtain ⟨g10, h⟩ := oif_some h
  have p2 : GL T T8 := GL.tr p1 (s_X11_powersNow eT8)
  exact GL.tr p2 (s_X11_save_b33 _ _ h)
set_option maxHeartbeats 4000000 in
set_option maxRecDepth 100000 in
theorem s_X11_save {T : AT} {o : Nat} {a0 : Int32} {e1 : Nat} {r1 : Int32} {T1 : AT} (h : g_X11_save T o a0 = some (e1, r1, T1)) : GL T T1 := by
  have p0 := GL.rf T
  unfold g_X11_save at h
  obtain ⟨g2, h⟩ := oif_some h
  rcases othr_s h with ⟨k9, r9, e9, -⟩ | ⟨r4, T3, eT3, h⟩
  · exact GL.tr p0 (gl_sp (s_X11_needCamera e9))
  have p1 : GL T T3 := GL.tr p0 (gl_sp (s_X11_needCamera eT3))
  rcases othr_s h with ⟨k9, r9, e9, -⟩ | ⟨r6, T5, eT5, h⟩
  · exact GL.tr p1 (gl_sp (s_X11_needIndex e9))
  have p2 : GL T T5 := GL.tr p1 (gl_sp (s_X11_needIndex eT5))
  obtain ⟨g7, h⟩ := oif_some h
  obtain ⟨n8, en8, h⟩ := obind_some h
  obtain ⟨g9, h⟩ := oif_some h
  obtain ⟨g10, h⟩ := oif_some h
  obtain ⟨n11, en11, h⟩ := obind_some h
  obtain ⟨g12, h⟩ := oif_some h
  obtain ⟨n13, en13, h⟩ := obind_some h
  obtain ⟨g14, h⟩ := oif_some h
  obtain ⟨T15, eT15, h⟩ := obind_some h
  have p3 : GL T T15 := GL.tr p2 (s_X8_copyFrom eT15)
  exact GL.tr p3 (s_X11_save_b22 _ _ _ h)
set_option maxHeartbeats 4000000 in
set_option maxRecDepth 100000 in
theorem a_X11_save_b33 {p : Program} {l : Launch} {e : Env} {s : State} {m : MethodId} {args : Array Value} {below : List Frame} {meth : Method} {c : Code} {Q : State → Prop} {D : va_G} {A : Nat → Prop} {cI cJ cZ cMic cSrc cSt cAI cAJ : ClassId} {ad0 : Nat → Nat} {T0 : AT} {r1 : Int32} {T1 : AT} (E : cE p c cX11_save s m args (Cond.code yX11_save cX11_save 2 (some .int) :: wsA) D RX11 (CT cI cJ cZ cMic cSrc cSt cAI cAJ)) (hA : ∀ q : Nat, s.heap.size ≤ q → A q) (hX : xT A s) (hN : nX s) (hml : c.maxLocals = 2) (hst : l.stackTraces = false) (kr36 : ∀ (ad : Nat → Nat) (H : Heap) (locs : List Loc) (ls : Array Slot), (∀ n, n < T0.1 → ad n = ad0 n) → gC cI cJ cZ cMic cSrc cSt cAI cAJ D ad A s.heap H locs T1 → W p l e { frames := 7, cells := T1.1 - T0.1, slots := sg T1 - sg T0, locals := 149 } s m args below meth c H locs (T1.1 - T0.1) (sg T1 - sg T0) Q (F0 m 36 ls [.int r1])) : ∀ (T : AT) (ad : Nat → Nat) (H : Heap) (locs : List Loc) (ls : Array Slot) (s0 : Nat), g_X11_save_b33 T s0 = some (0, r1, T1) → GL T0 T → RC T → (∀ n, n < T0.1 → ad n = ad0 n) → s0 < T.1 → gC cI cJ cZ cMic cSrc cSt cAI cAJ D ad A s.heap H locs T → lv_has ls 2 [] → W p l e { frames := 7, cells := T1.1 - T0.1, slots := sg T1 - sg T0, locals := 149 } s m args below meth c H locs (T.1 - T0.1) (sg T - sg T0) Q (F0 m 33 ls [.ref (ad s0)]) := by
  have hx := E.1
  have hb := E.2.1
  have hts := E.2.2.1
  have hown := E.2.2.2.1
  have hK := E.2.2.2.2
  intro T ad H locs ls s0 h hgl hrc had h_s0 G hl
  have hT1 := s_X11_save_b33 _ _ h
  have hcs := cs_ok hgl hT1
  have cp0 := cpr0 hrc
  unfold g_X11_save_b33 at h
  obtain ⟨g2, h⟩ := oif_some h
  refine c_get E G s0 2 (oO_k g2).1 (cc_o4 (oO_k g2).2) rfl (fun w h => .tail _ (iA_21 h)) (by decide) (.tail _ qA_812) rfl rfl dX11_save_33 ?_
  refine lv_topi (fun v3 ev3 => ?_)
  have h := elet_at ev3 h
  clear ev3
  rw [(osome3 h).2.2] at G
  refine w_cast (c2 := T1.1 - T0.1) (s2 := sg T1 - sg T0) (by rw [← (osome3 h).2.2, cp0.1] <;> rfl) (by rw [← (osome3 h).2.2, sg_cpr cp0] <;> rfl) ?_
  refine lv_to ((osome3 h).2.1) ?_
  exact kr36 ad _ _ _ had G
set_option maxHeartbeats 4000000 in
set_option maxRecDepth 100000 in
theorem a_X11_save_b22 {p : Program} {l : Launch} {e : Env} {s : State} {m : MethodId} {args : Array Value} {below : List Frame} {meth : Method} {c : Code} {Q : State → Prop} {D : va_G} {A : Nat → Prop} {cI cJ cZ cMic cSrc cSt cAI cAJ : ClassId} {ad0 : Nat → Nat} {T0 : AT} {r1 : Int32} {T1 : AT} (E : cE p c cX11_save s m args (Cond.code yX11_save cX11_save 2 (some .int) :: wsA) D RX11 (CT cI cJ cZ cMic cSrc cSt cAI cAJ)) (hA : ∀ q : Nat, s.heap.size ≤ q → A q) (hX : xT A s) (hN : nX s) (hml : c.maxLocals = 2) (hst : l.stackTraces = false) (kr36 : ∀ (ad : Nat → Nat) (H : Heap) (locs : List Loc) (ls : Array Slot), (∀ n, n < T0.1 → ad n = ad0 n) → gC cI cJ cZ cMic cSrc cSt cAI cAJ D ad A s.heap H locs T1 → W p l e { frames := 7, cells := T1.1 - T0.1, slots := sg T1 - sg T0, locals := 149 } s m args below meth c H locs (T1.1 - T0.1) (sg T1 - sg T0) Q (F0 m 36 ls [.int r1])) : ∀ (T : AT) (ad : Nat → Nat) (H : Heap) (locs : List Loc) (ls : Array Slot) (l0 : Nat) (l1 : Int32), g_X11_save_b22 T l0 l1 = some (0, r1, T1) → GL T0 T → RC T → (∀ n, n < T0.1 → ad n = ad0 n) → l0 < T.1 → gC cI cJ cZ cMic cSrc cSt cAI cAJ D ad A s.heap H locs T → lv_has ls 2 [(0, .ref (ad l0)), (1, .int l1)] → W p l e { frames := 7, cells := T1.1 - T0.1, slots := sg T1 - sg T0, locals := 149 } s m args below meth c H locs (T.1 - T0.1) (sg T - sg T0) Q (F0 m 22 ls []) := by
  have hx := E.1
  have hb := E.2.1
  have hts := E.2.2.1
  have hown := E.2.2.2.1
  have hK := E.2.2.2.2
  intro T ad H locs ls l0 l1 h hgl hrc had h_l0 G hl
  have hT1 := s_X11_save_b22 _ _ _ h
  have hcs := cs_ok hgl hT1
  have cp0 := cpr0 hrc
  unfold g_X11_save_b22 at h
  refine lv_aload_n hx hb dX11_save_22 rfl (lv_at hl 0 rfl) ?_
  obtain ⟨g2, h⟩ := oif_some h
  obtain ⟨n3, en3, h⟩ := obind_some h
  have h_n3 : n3 < T.1 := by rw [← cp0.1]; exact cp0.2.2 _ _ _ en3
  refine c_get E G l0 10 (v := .ref (ad n3)) (oO_k g2).1 (cc_o11 (oO_k g2).2) rfl (fun w h => .tail _ (iA_23 h)) (by decide) (.tail _ qA_668) rfl (by rw [en3]; rfl) dX11_save_23 ?_
  clear en3
  refine lv_iload_n hx hb dX11_save_26 rfl (lv_at hl 1 rfl) ?_
  refine lv_iconst (v := 1) hx hb dX11_save_27 (by decide) ?_
  obtain ⟨g4, h⟩ := oif_some h
  obtain ⟨g5, h⟩ := oif_some h
  refine c_zast E G n3 2 (k := l1.toNatClampNeg) (v := 1) (aA_k g4).1 (cc_a102 (aA_k g4).2.1) rfl (inb_k g5).1 (inb_k g5).2 (aA_k g4).2.2 rfl dX11_save_28 (fun H locs G => ?_)
  have G := gC_up_i (f := upd (T.2.2.1 n3) l1.toNatClampNeg 1) (ccv_102 (aA_k g4).2.1) G
  obtain ⟨T6, eT6, h⟩ := elet_some h
  have G : gC cI cJ cZ cMic cSrc cSt cAI cAJ D ad A s.heap H locs T6 := by rw [eT6]; exact G
  have cp1 := show CPR T T6 from by rw [eT6]; exact cpr_sp cp0 sp_uI
  clear eT6
  refine lv_aload_n hx hb dX11_save_29 rfl (lv_at hl 0 rfl) ?_
  obtain ⟨g7, h⟩ := oif_some h
  obtain ⟨r9, T8, eT8, h⟩ := obind2_some h
  obtain ⟨g10, h⟩ := oif_some h
  have hg2 := s_X11_powersNow eT8
  have hrc2 := hg2.2.2 cp1.2.2
  have hT2 := s_X11_save_b33 _ _ h
  refine q_avr (As := []) (rest := []) E G hA hX hN hml (a_X11_powersNow l hst D cI cJ cZ cMic cSrc cSt cAI cAJ ad T6 l0 eT8 cp1.2.2 (by rw [cp1.1]; exact h_l0)) (cwV 0 hts (gaV qA_799 qA_800 qA_801 qA_131 qA_802) rfl rfl rfl (by decide +kernel) ⟨Nat.le_of_ble_eq_true rfl, Nat.le_of_ble_eq_true rfl⟩) (oO_k g7).1 (cc_o11 (oO_k g7).2) rfl rfl hl.1 rfl (lv_room (Nat.le_of_ble_eq_true rfl)) dX11_save_30 (cs_av hgl cp1 hg2 hT2) (fun ad2 H locs hga G => ?_)
  refine w_cast (c2 := T8.1 - T0.1) (s2 := sg T8 - sg T0) (cs_f1 hgl cp1 hg2) (cs_f2 hgl cp1 hg2) ?_
  have h_new : r9 < T8.1 := Nat.le_of_ble_eq_true g10
  have hl := lv_sub hl [] rfl
  exact a_X11_save_b33 E hA hX hN hml hst kr36 _ _ _ _ _ _ h (GL.tr (gl_cpr hgl cp1) hg2) hrc2 (fun n hn => (hga n (by rw [cp1.1]; exact Nat.lt_of_lt_of_le hn hgl.1)).trans (had n hn)) h_new G hl
set_option maxHeartbeats 4000000 in
set_option maxRecDepth 100000 in
theorem a_X11_save (l : Launch) (hst : l.stackTraces = false) (D : va_G) (cI cJ cZ cMic cSrc cSt cAI cAJ : ClassId) (ad : Nat → Nat) (T : AT) (o : Nat) (a0 : Int32) {r1 : Int32} {T1 : AT} (h : g_X11_save T o a0 = some (0, r1, T1)) (hrc : RC T) (h_o : o < T.1) : kAi l yX11_save (Cond.code yX11_save cX11_save 2 (some .int) :: wsA) 7 149 cI cJ cZ cMic cSrc cSt cAI cAJ D ad T [.ref (ad o), .int a0] r1 T1 := by
  intro sz
  refine pro_in (cc := cX11_save) (maxL := 2) (ret := (some .int)) (by exact pn_RX11) rfl (by exact Nat.le_of_ble_eq_true rfl) (fun p e s m below meth c ls hx hb hr hts hown hlocks hml hv hl => ?_)
  obtain ⟨hsz, hP, hK, hD0, hX, hN⟩ := hv
  subst hsz
  have hD := hD0.self (sz := s.heap.size)
  generalize hAe : va_A (cW ad T.1 (cc cI cJ cZ cMic cSrc cSt cAI cAJ ad T)) s.heap.size = A at hD hX ⊢
  have hA : ∀ q : Nat, s.heap.size ≤ q → A q := fun q h => by rw [← hAe]; exact Or.inr h
  have G : gC cI cJ cZ cMic cSrc cSt cAI cAJ D ad A s.heap s.heap [] T := ⟨hP, hD, va_S.rf⟩
  have E : cE p c cX11_save s m ([.ref (ad o), .int a0] : List Value).toArray (Cond.code yX11_save cX11_save 2 (some .int) :: wsA) D RX11 (CT cI cJ cZ cMic cSrc cSt cAI cAJ) := ⟨hx, hb, hts, hown, hK⟩
  have hl : lv_has ls 2 [(0, .ref (ad o)), (1, .int a0)] := hl
  have hgl := GL.rf T
  have had : ∀ n, n < T.1 → ad n = ad n := fun _ _ => rfl
  have hT1 := s_X11_save h
  have hcs := cs_ok hgl hT1
  refine w_cast (Nat.sub_self T.1).symm (Nat.sub_self (sg T)).symm ?_
  have cp0 := cpr0 hrc
  unfold g_X11_save at h
  refine lv_aload_n hx hb dX11_save_0 rfl (lv_at hl 0 rfl) ?_
  obtain ⟨g2, h⟩ := oif_some h
  obtain ⟨r5, T3, eT3, h⟩ := othr_n h
  refine q_cvv (As := []) (rest := []) E G hA hX hN hml (u_X11_needCamera l hst D cI cJ cZ cMic cSrc cSt cAI cAJ ad T o eT3) (cwV 0 hts (gaV qA_728 qA_729 qA_730 qA_131 qA_731) rfl rfl rfl (by decide +kernel) ⟨Nat.le_of_ble_eq_true rfl, Nat.le_of_ble_eq_true rfl⟩) (oO_k g2).1 (cc_o11 (oO_k g2).2) rfl rfl hl.1 rfl (lv_room (Nat.le_of_ble_eq_true rfl)) dX11_save_1 hcs (fun T4 H locs hq G => ?_)
  rw [hq] at G
  clear hq
  have cp1 := cpr_sp cp0 (s_X11_needCamera eT3)
  refine lv_iload_n hx hb dX11_save_4 rfl (lv_at hl 1 rfl) ?_
  refine lv_iconst (v := 2) hx hb dX11_save_5 (by decide) ?_
  obtain ⟨r9, T7, eT7, h⟩ := othr_n h
  refine q_csv (As := [.int a0, .int 2]) (rest := []) E G hA hX hN hml (u_X11_needIndex l hst D cI cJ cZ cMic cSrc cSt cAI cAJ ad T3 a0 (2 : Int32) eT7) (cwS 2 hts (gaS qA_738 qA_739 qA_131 qA_740) rfl rfl rfl (by decide +kernel) ⟨Nat.le_of_ble_eq_true rfl, Nat.le_of_ble_eq_true rfl⟩) rfl hl.1 rfl (lv_room (Nat.le_of_ble_eq_true rfl)) dX11_save_6 hcs (fun T8 H locs hq G => ?_)
  rw [hq] at G
  clear hq
  have cp2 := cpr_sp cp1 (s_X11_needIndex eT7)
  refine lv_aload_n hx hb dX11_save_9 rfl (lv_at hl 0 rfl) ?_
  obtain ⟨g11, h⟩ := oif_some h
  obtain ⟨n12, en12, h⟩ := obind_some h
  have h_n12 : n12 < T.1 := by rw [← cp2.1]; exact cp2.2.2 _ _ _ en12
  refine c_get E G o 9 (v := .ref (ad n12)) (oO_k g11).1 (cc_o11 (oO_k g11).2) rfl (fun w h => .tail _ (iA_23 h)) (by decide) (.tail _ qA_667) rfl (by rw [en12]; rfl) dX11_save_10 ?_
  clear en12
  refine lv_iload_n hx hb dX11_save_13 rfl (lv_at hl 1 rfl) ?_
  obtain ⟨g13, h⟩ := oif_some h
  obtain ⟨g14, h⟩ := oif_some h
  obtain ⟨n15, en15, h⟩ := obind_some h
  have h_n15 : n15 < T.1 := by rw [← cp2.1]; exact cp2.2.2 _ _ _ en15
  refine c_aldq E G n12 5 (k := a0.toNatClampNeg) (v := .ref (ad n15)) (aA_k g13).1 (cc_a105 (aA_k g13).2.1) rfl (inb_k g14).1 (inb_k g14).2 (aA_k g13).2.2 (by show va_rf ((T7.2.2.2.2 n12 a0.toNatClampNeg).map ad) = _; rw [en15]; rfl) dX11_save_14 ?_
  clear en15
  refine lv_aload_n hx hb dX11_save_15 rfl (lv_at hl 0 rfl) ?_
  obtain ⟨g16, h⟩ := oif_some h
  obtain ⟨n17, en17, h⟩ := obind_some h
  have h_n17 : n17 < T.1 := by rw [← cp2.1]; exact cp2.2.2 _ _ _ en17
  refine c_get E G o 6 (v := .ref (ad n17)) (oO_k g16).1 (cc_o11 (oO_k g16).2) rfl (fun w h => .tail _ (iA_23 h)) (by decide) (.tail _ qA_664) rfl (by rw [en17]; rfl) dX11_save_16 ?_
  clear en17
  obtain ⟨g18, h⟩ := oif_some h
  obtain ⟨T19, eT19, h⟩ := obind_some h
  have hg2 := s_X8_copyFrom eT19
  have hrc2 := hg2.2.2 cp2.2.2
  have hT2 := s_X11_save_b22 _ _ _ h
  refine q_avv (As := [.ref (ad n17)]) (rest := []) E G hA hX hN hml (a_X8_copyFrom l hst D cI cJ cZ cMic cSrc cSt cAI cAJ ad T7 n15 n17 eT19 cp2.2.2 (by rw [cp2.1]; exact h_n15) (by rw [cp2.1]; exact h_n17)) (cwV 1 hts (gaV qA_911 qA_912 qA_913 qA_47 qA_603) rfl rfl rfl (by decide +kernel) ⟨Nat.le_of_ble_eq_true rfl, Nat.le_of_ble_eq_true rfl⟩) (oO_k g18).1 (cc_o8 (oO_k g18).2) rfl rfl hl.1 rfl (lv_room (Nat.le_of_ble_eq_true rfl)) dX11_save_19 (cs_av hgl cp2 hg2 hT2) (fun ad2 H locs hga G => ?_)
  refine w_cast (c2 := T19.1 - T.1) (s2 := sg T19 - sg T) (cs_f1 hgl cp2 hg2) (cs_f2 hgl cp2 hg2) ?_
  have hl := lv_sub hl [0, 1] rfl
  rw [show ad o = ad2 o from (hga o (by rw [cp2.1]; exact h_o)).symm] at hl
  exact a_X11_save_b22 E hA hX hN hml hst (fun ad H locs ls had G => W.iret (v := r1) hx hb hr (fun t ht hW => ⟨⟨r1, (T1, ad), rfl, ⟨rfl, rfl, had⟩, ⟨by rw [ht]; exact G.1, va_K.moved hW.alike hK, G.2.1⟩⟩, G.2.2.F ht⟩) G.2.2.2.2 dX11_save_36) _ _ _ _ _ _ _ h (GL.tr (gl_cpr hgl cp2) hg2) hrc2 (fun n hn => (hga n (by rw [cp2.1]; exact Nat.lt_of_lt_of_le hn hgl.1)).trans (had n hn)) (Nat.lt_of_lt_of_le (by rw [cp2.1]; exact h_o) hg2.1) G hl
set_option maxHeartbeats 4000000 in
set_option maxRecDepth 100000 in
theorem b_X11_save_b33 {p : Program} {l : Launch} {e : Env} {s : State} {m : MethodId} {args : Array Value} {below : List Frame} {meth : Method} {c : Code} {Qc : Array Value → State → Outcome → State → Prop} {XC : String → State → State → Prop} {D : va_G} {A : Nat → Prop} {cI cJ cZ cMic cSrc cSt cAI cAJ : ClassId} {ad0 : Nat → Nat} {T0 : AT} {e1 : Nat} {r1 : Int32} {T1 : AT} (E : cE p c cX11_save s m args (Cond.code yX11_save cX11_save 2 (some .int) :: wsA) D RX11 (CT cI cJ cZ cMic cSrc cSt cAI cAJ)) (hA : ∀ q : Nat, s.heap.size ≤ q → A q) (hX : xT A s) (hN : nX s) (hml : c.maxLocals = 2) (hst : l.stackTraces = false) (htab : ∀ x ∈ c.exceptionTable.toList, False) (hlocks : meth.locks = false) (kx : ∀ (ad : Nat → Nat) (H : Heap) (locs : List Loc) (t : State), (∀ n, n < T0.1 → ad n = ad0 n) → gC cI cJ cZ cMic cSrc cSt cAI cAJ D ad A s.heap H locs T1 → s.vm.Alike t.vm → H.size ≤ t.heap.size → (∀ q, q < H.size → t.heap[q]? = H[q]?) → XC (exn e1) s t) : ∀ (T : AT) (ad : Nat → Nat) (H : Heap) (locs : List Loc) (ls : Array Slot) (s0 : Nat), g_X11_save_b33 T s0 = some (e1 + 1, r1, T1) → GL T0 T → RC T → (∀ n, n < T0.1 → ad n = ad0 n) → s0 < T.1 → gC cI cJ cZ cMic cSrc cSt cAI cAJ D ad A s.heap H locs T → lv_has ls 2 [] → W p l e { frames := 7, cells := T1.1 - T0.1 + 1, slots := sg T1 - sg T0 + 6, locals := 149 } s m args below meth c H locs (T.1 - T0.1) (sg T - sg T0) (vx_MQ below Qc XC args s (T1.1 - T0.1 + 1) (sg T1 - sg T0 + 6) A) (F0 m 33 ls [.ref (ad s0)]) := by
  have hx := E.1
  have hb := E.2.1
  have hts := E.2.2.1
  have hown := E.2.2.2.1
  have hK := E.2.2.2.2
  intro T ad H locs ls s0 h hgl hrc had h_s0 G hl
  have hT1 := s_X11_save_b33 _ _ h
  have hcs := cs_okx hgl hT1
  have hcx := cs_okx1 hgl hT1
  have cp0 := cpr0 hrc
  unfold g_X11_save_b33 at h
  obtain ⟨g2, h⟩ := oif_some h
  refine c_get E G s0 2 (oO_k g2).1 (cc_o4 (oO_k g2).2) rfl (fun w h => .tail _ (iA_21 h)) (by decide) (.tail _ qA_812) rfl rfl dX11_save_33 ?_
  refine lv_topi (fun v3 ev3 => ?_)
  have h := elet_at ev3 h
  clear ev3
  exact (Nat.succ_ne_zero _ (congrArg Prod.fst (Option.some.inj h)).symm).elim
set_option maxHeartbeats 4000000 in
set_option maxRecDepth 100000 in
theorem b_X11_save_b22 {p : Program} {l : Launch} {e : Env} {s : State} {m : MethodId} {args : Array Value} {below : List Frame} {meth : Method} {c : Code} {Qc : Array Value → State → Outcome → State → Prop} {XC : String → State → State → Prop} {D : va_G} {A : Nat → Prop} {cI cJ cZ cMic cSrc cSt cAI cAJ : ClassId} {ad0 : Nat → Nat} {T0 : AT} {e1 : Nat} {r1 : Int32} {T1 : AT} (E : cE p c cX11_save s m args (Cond.code yX11_save cX11_save 2 (some .int) :: wsA) D RX11 (CT cI cJ cZ cMic cSrc cSt cAI cAJ)) (hA : ∀ q : Nat, s.heap.size ≤ q → A q) (hX : xT A s) (hN : nX s) (hml : c.maxLocals = 2) (hst : l.stackTraces = false) (htab : ∀ x ∈ c.exceptionTable.toList, False) (hlocks : meth.locks = false) (kx : ∀ (ad : Nat → Nat) (H : Heap) (locs : List Loc) (t : State), (∀ n, n < T0.1 → ad n = ad0 n) → gC cI cJ cZ cMic cSrc cSt cAI cAJ D ad A s.heap H locs T1 → s.vm.Alike t.vm → H.size ≤ t.heap.size → (∀ q, q < H.size → t.heap[q]? = H[q]?) → XC (exn e1) s t) : ∀ (T : AT) (ad : Nat → Nat) (H : Heap) (locs : List Loc) (ls : Array Slot) (l0 : Nat) (l1 : Int32), g_X11_save_b22 T l0 l1 = some (e1 + 1, r1, T1) → GL T0 T → RC T → (∀ n, n < T0.1 → ad n = ad0 n) → l0 < T.1 → gC cI cJ cZ cMic cSrc cSt cAI cAJ D ad A s.heap H locs T → lv_has ls 2 [(0, .ref (ad l0)), (1, .int l1)] → W p l e { frames := 7, cells := T1.1 - T0.1 + 1, slots := sg T1 - sg T0 + 6, locals := 149 } s m args below meth c H locs (T.1 - T0.1) (sg T - sg T0) (vx_MQ below Qc XC args s (T1.1 - T0.1 + 1) (sg T1 - sg T0 + 6) A) (F0 m 22 ls []) := by
  have hx := E.1
  have hb := E.2.1
  have hts := E.2.2.1
  have hown := E.2.2.2.1
  have hK := E.2.2.2.2
  intro T ad H locs ls l0 l1 h hgl hrc had h_l0 G hl
  have hT1 := s_X11_save_b22 _ _ _ h
  have hcs := cs_okx hgl hT1
  have hcx := cs_okx1 hgl hT1
  have cp0 := cpr0 hrc
  unfold g_X11_save_b22 at h
  refine lv_aload_n hx hb dX11_save_22 rfl (lv_at hl 0 rfl) ?_
  obtain ⟨g2, h⟩ := oif_some h
  obtain ⟨n3, en3, h⟩ := obind_some h
  have h_n3 : n3 < T.1 := by rw [← cp0.1]; exact cp0.2.2 _ _ _ en3
  refine c_get E G l0 10 (v := .ref (ad n3)) (oO_k g2).1 (cc_o11 (oO_k g2).2) rfl (fun w h => .tail _ (iA_23 h)) (by decide) (.tail _ qA_668) rfl (by rw [en3]; rfl) dX11_save_23 ?_
  clear en3
  refine lv_iload_n hx hb dX11_save_26 rfl (lv_at hl 1 rfl) ?_
  refine lv_iconst (v := 1) hx hb dX11_save_27 (by decide) ?_
  obtain ⟨g4, h⟩ := oif_some h
  obtain ⟨g5, h⟩ := oif_some h
  refine c_zast E G n3 2 (k := l1.toNatClampNeg) (v := 1) (aA_k g4).1 (cc_a102 (aA_k g4).2.1) rfl (inb_k g5).1 (inb_k g5).2 (aA_k g4).2.2 rfl dX11_save_28 (fun H locs G => ?_)
  have G := gC_up_i (f := upd (T.2.2.1 n3) l1.toNatClampNeg 1) (ccv_102 (aA_k g4).2.1) G
  obtain ⟨T6, eT6, h⟩ := elet_some h
  have G : gC cI cJ cZ cMic cSrc cSt cAI cAJ D ad A s.heap H locs T6 := by rw [eT6]; exact G
  have cp1 := show CPR T T6 from by rw [eT6]; exact cpr_sp cp0 sp_uI
  clear eT6
  refine lv_aload_n hx hb dX11_save_29 rfl (lv_at hl 0 rfl) ?_
  obtain ⟨g7, h⟩ := oif_some h
  obtain ⟨r9, T8, eT8, h⟩ := obind2_some h
  obtain ⟨g10, h⟩ := oif_some h
  have hg2 := s_X11_powersNow eT8
  have hrc2 := hg2.2.2 cp1.2.2
  have hT2 := s_X11_save_b33 _ _ h
  refine q_avr (As := []) (rest := []) E G hA hX hN hml (a_X11_powersNow l hst D cI cJ cZ cMic cSrc cSt cAI cAJ ad T6 l0 eT8 cp1.2.2 (by rw [cp1.1]; exact h_l0)) (cwV 0 hts (gaV qA_799 qA_800 qA_801 qA_131 qA_802) rfl rfl rfl (by decide +kernel) ⟨Nat.le_of_ble_eq_true rfl, Nat.le_of_ble_eq_true rfl⟩) (oO_k g7).1 (cc_o11 (oO_k g7).2) rfl rfl hl.1 rfl (lv_room (Nat.le_of_ble_eq_true rfl)) dX11_save_30 (cs_avx hgl cp1 hg2 hT2) (fun ad2 H locs hga G => ?_)
  refine w_cast (c2 := T8.1 - T0.1) (s2 := sg T8 - sg T0) (cs_f1 hgl cp1 hg2) (cs_f2 hgl cp1 hg2) ?_
  have h_new : r9 < T8.1 := Nat.le_of_ble_eq_true g10
  have hl := lv_sub hl [] rfl
  exact b_X11_save_b33 E hA hX hN hml hst htab hlocks kx _ _ _ _ _ _ h (GL.tr (gl_cpr hgl cp1) hg2) hrc2 (fun n hn => (hga n (by rw [cp1.1]; exact Nat.lt_of_lt_of_le hn hgl.1)).trans (had n hn)) h_new G hl
set_option maxHeartbeats 4000000 in
set_option maxRecDepth 100000 in
theorem b_X11_save (l : Launch) (hst : l.stackTraces = false) (D : va_G) (cI cJ cZ cMic cSrc cSt cAI cAJ : ClassId) (ad : Nat → Nat) (T : AT) (o : Nat) (a0 : Int32) {e1 : Nat} {r1 : Int32} {T1 : AT} (h : g_X11_save T o a0 = some (e1 + 1, r1, T1)) (hrc : RC T) (h_o : o < T.1) : kAXi l yX11_save (Cond.code yX11_save cX11_save 2 (some .int) :: wsA) 7 149 cI cJ cZ cMic cSrc cSt cAI cAJ D ad T [.ref (ad o), .int a0] e1 T1 := by
  intro sz
  refine pro_inX (cc := cX11_save) (maxL := 2) (ret := (some .int)) (by exact pn_RX11) rfl (by exact Nat.le_of_ble_eq_true rfl) (fun p e s m below meth c ls hx hb hr hts hown hlocks htab hml hv hl => ?_)
  obtain ⟨hsz, hP, hK, hD0, hX, hN⟩ := hv
  subst hsz
  have hD := hD0.self (sz := s.heap.size)
  generalize hAe : va_A (cW ad T.1 (cc cI cJ cZ cMic cSrc cSt cAI cAJ ad T)) s.heap.size = A at hD hX ⊢
  have hA : ∀ q : Nat, s.heap.size ≤ q → A q := fun q h => by rw [← hAe]; exact Or.inr h
  have G : gC cI cJ cZ cMic cSrc cSt cAI cAJ D ad A s.heap s.heap [] T := ⟨hP, hD, va_S.rf⟩
  have E : cE p c cX11_save s m ([.ref (ad o), .int a0] : List Value).toArray (Cond.code yX11_save cX11_save 2 (some .int) :: wsA) D RX11 (CT cI cJ cZ cMic cSrc cSt cAI cAJ) := ⟨hx, hb, hts, hown, hK⟩
  have htab : ∀ x ∈ c.exceptionTable.toList, False := fun x hx => htab x hx
  have hl : lv_has ls 2 [(0, .ref (ad o)), (1, .int a0)] := hl
  have hgl := GL.rf T
  have had : ∀ n, n < T.1 → ad n = ad n := fun _ _ => rfl
  have hT1 := s_X11_save h
  have hcs := cs_okx hgl hT1
  have hcx := cs_okx1 hgl hT1
  refine w_cast (Nat.sub_self T.1).symm (Nat.sub_self (sg T)).symm ?_
  have cp0 := cpr0 hrc
  unfold g_X11_save at h
  refine lv_aload_n hx hb dX11_save_0 rfl (lv_at hl 0 rfl) ?_
  obtain ⟨g2, h⟩ := oif_some h
  rcases othr_t h with ⟨r0, eT3⟩ | ⟨r5, T3, eT3, h⟩
  · refine q_xvv (As := []) (rest := []) E G hA hX hN hml (x_X11_needCamera l hst D cI cJ cZ cMic cSrc cSt cAI cAJ ad T o eT3) (cwV 0 hts (gaV qA_728 qA_729 qA_730 qA_131 qA_731) rfl rfl rfl (by decide +kernel) ⟨Nat.le_of_ble_eq_true rfl, Nat.le_of_ble_eq_true rfl⟩) (oO_k g2).1 (cc_o11 (oO_k g2).2) rfl rfl hl.1 rfl (lv_room (Nat.le_of_ble_eq_true rfl)) dX11_save_1 hcx (fun E9 ce q9 T9 H locs hp G hce hcv hcl => ?_)
    obtain ⟨hE, hT⟩ := hp
    subst hE
    rw [hT] at G
    exact vx_out (fun x hx => (htab x hx).elim) hlocks hce hcv hcl (fun t ht hvm => ⟨(T1, ad), trivial, ⟨⟨rfl, rfl, had⟩, by rw [ht]; exact G.1, va_K.moved hvm hK, G.2.1⟩, G.2.2.F ht⟩) G.2.2.2.2 hcx.1 hcx.2
  refine q_cvv (As := []) (rest := []) E G hA hX hN hml (u_X11_needCamera l hst D cI cJ cZ cMic cSrc cSt cAI cAJ ad T o eT3) (cwV 0 hts (gaV qA_728 qA_729 qA_730 qA_131 qA_731) rfl rfl rfl (by decide +kernel) ⟨Nat.le_of_ble_eq_true rfl, Nat.le_of_ble_eq_true rfl⟩) (oO_k g2).1 (cc_o11 (oO_k g2).2) rfl rfl hl.1 rfl (lv_room (Nat.le_of_ble_eq_true rfl)) dX11_save_1 hcs (fun T4 H locs hq G => ?_)
  rw [hq] at G
  clear hq
  have cp1 := cpr_sp cp0 (s_X11_needCamera eT3)
  refine lv_iload_n hx hb dX11_save_4 rfl (lv_at hl 1 rfl) ?_
  refine lv_iconst (v := 2) hx hb dX11_save_5 (by decide) ?_
  rcases othr_t h with ⟨r0, eT7⟩ | ⟨r9, T7, eT7, h⟩
  · refine q_xsv (As := [.int a0, .int 2]) (rest := []) E G hA hX hN hml (x_X11_needIndex l hst D cI cJ cZ cMic cSrc cSt cAI cAJ ad T3 a0 (2 : Int32) eT7) (cwS 2 hts (gaS qA_738 qA_739 qA_131 qA_740) rfl rfl rfl (by decide +kernel) ⟨Nat.le_of_ble_eq_true rfl, Nat.le_of_ble_eq_true rfl⟩) rfl hl.1 rfl (lv_room (Nat.le_of_ble_eq_true rfl)) dX11_save_6 hcx (fun E9 ce q9 T9 H locs hp G hce hcv hcl => ?_)
    obtain ⟨hE, hT⟩ := hp
    subst hE
    rw [hT] at G
    exact vx_out (fun x hx => (htab x hx).elim) hlocks hce hcv hcl (fun t ht hvm => ⟨(T1, ad), trivial, ⟨⟨rfl, rfl, had⟩, by rw [ht]; exact G.1, va_K.moved hvm hK, G.2.1⟩, G.2.2.F ht⟩) G.2.2.2.2 hcx.1 hcx.2
  refine q_csv (As := [.int a0, .int 2]) (rest := []) E G hA hX hN hml (u_X11_needIndex l hst D cI cJ cZ cMic cSrc cSt cAI cAJ ad T3 a0 (2 : Int32) eT7) (cwS 2 hts (gaS qA_738 qA_739 qA_131 qA_740) rfl rfl rfl (by decide +kernel) ⟨Nat.le_of_ble_eq_true rfl, Nat.le_of_ble_eq_true rfl⟩) rfl hl.1 rfl (lv_room (Nat.le_of_ble_eq_true rfl)) dX11_save_6 hcs (fun T8 H locs hq G => ?_)
  rw [hq] at G
  clear hq
  have cp2 := cpr_sp cp1 (s_X11_needIndex eT7)
  refine lv_aload_n hx hb dX11_save_9 rfl (lv_at hl 0 rfl) ?_
  obtain ⟨g11, h⟩ := oif_some h
  obtain ⟨n12, en12, h⟩ := obind_some h
  have h_n12 : n12 < T.1 := by rw [← cp2.1]; exact cp2.2.2 _ _ _ en12
  refine c_get E G o 9 (v := .ref (ad n12)) (oO_k g11).1 (cc_o11 (oO_k g11).2) rfl (fun w h => .tail _ (iA_23 h)) (by decide) (.tail _ qA_667) rfl (by rw [en12]; rfl) dX11_save_10 ?_
  clear en12
  refine lv_iload_n hx hb dX11_save_13 rfl (lv_at hl 1 rfl) ?_
  obtain ⟨g13, h⟩ := oif_some h
  obtain ⟨g14, h⟩ := oif_some h
  obtain ⟨n15, en15, h⟩ := obind_some h
  have h_n15 : n15 < T.1 := by rw [← cp2.1]; exact cp2.2.2 _ _ _ en15
  refine c_aldq E G n12 5 (k := a0.toNatClampNeg) (v := .ref (ad n15)) (aA_k g13).1 (cc_a105 (aA_k g13).2.1) rfl (inb_k g14).1 (inb_k g14).2 (aA_k g13).2.2 (by show va_rf ((T7.2.2.2.2 n12 a0.toNatClampNeg).map ad) = _; rw [en15]; rfl) dX11_save_14 ?_
  clear en15
  refine lv_aload_n hx hb dX11_save_15 rfl (lv_at hl 0 rfl) ?_
  obtain ⟨g16, h⟩ := oif_some h
  obtain ⟨n17, en17, h⟩ := obind_some h
  have h_n17 : n17 < T.1 := by rw [← cp2.1]; exact cp2.2.2 _ _ _ en17
  refine c_get E G o 6 (v := .ref (ad n17)) (oO_k g16).1 (cc_o11 (oO_k g16).2) rfl (fun w h => .tail _ (iA_23 h)) (by decide) (.tail _ qA_664) rfl (by rw [en17]; rfl) dX11_save_16 ?_
  clear en17
  obtain ⟨g18, h⟩ := oif_some h
  obtain ⟨T19, eT19, h⟩ := obind_some h
  have hg2 := s_X8_copyFrom eT19
  have hrc2 := hg2.2.2 cp2.2.2
  have hT2 := s_X11_save_b22 _ _ _ h
  refine q_avv (As := [.ref (ad n17)]) (rest := []) E G hA hX hN hml (a_X8_copyFrom l hst D cI cJ cZ cMic cSrc cSt cAI cAJ ad T7 n15 n17 eT19 cp2.2.2 (by rw [cp2.1]; exact h_n15) (by rw [cp2.1]; exact h_n17)) (cwV 1 hts (gaV qA_911 qA_912 qA_913 qA_47 qA_603) rfl rfl rfl (by decide +kernel) ⟨Nat.le_of_ble_eq_true rfl, Nat.le_of_ble_eq_true rfl⟩) (oO_k g18).1 (cc_o8 (oO_k g18).2) rfl rfl hl.1 rfl (lv_room (Nat.le_of_ble_eq_true rfl)) dX11_save_19 (cs_avx hgl cp2 hg2 hT2) (fun ad2 H locs hga G => ?_)
  refine w_cast (c2 := T19.1 - T.1) (s2 := sg T19 - sg T) (cs_f1 hgl cp2 hg2) (cs_f2 hgl cp2 hg2) ?_
  have hl := lv_sub hl [0, 1] rfl
  rw [show ad o = ad2 o from (hga o (by rw [cp2.1]; exact h_o)).symm] at hl
  exact b_X11_save_b22 E hA hX hN hml hst htab hlocks (fun ad H locs t had G hvm h1 h2 => ⟨(T1, ad), trivial, ⟨⟨rfl, rfl, had⟩, (c_thrown G hK hvm h1 h2).1⟩, (c_thrown G hK hvm h1 h2).2⟩) _ _ _ _ _ _ _ h (GL.tr (gl_cpr hgl cp2) hg2) hrc2 (fun n hn => (hga n (by rw [cp2.1]; exact Nat.lt_of_lt_of_le hn hgl.1)).trans (had n hn)) (Nat.lt_of_lt_of_le (by rw [cp2.1]; exact h_o) hg2.1) G hl
def g_X11_restore_b52  (T : AT) (s0 : Nat) : Option (Nat × Int32 × AT) := oif (oO T s0 4 = true) <| elet (T.2.2.1 s0 2) fun v3 => some (0, v3, T)
def g_X11_restore_b35  (T : AT) (l0 : Nat) : Option (Nat × Int32 × AT) := oif (oO T l0 11 = true) <| elet (uI T l0 16 0) fun T3 => oif (oO T3 l0 11 = true) <| obind (T3.2.2.2.2 l0 4) fun n5 => oif (oO T3 n5 4 = true) <| elet (uI T3 n5 0 0) fun T7 => oif (oO T7 l0 11 = true) <| obind2 (g_X11_powersNow T7 l0) fun r10 T9 => oif (Nat.blt r10 T9.1 = true) <| g_X11_restore_b52 T9 r10
def g_X11_restore (T : AT) (o : Nat) (a0 : Int32) : Option (Nat × Int32 × AT) := othr (g_X11_needIndex T a0 (2 : Int32)) 0 fun r4 T2 => oif (oO T2 o 11 = true) <| obind (T2.2.2.2.2 o 10) fun n7 => oif (aA T2 n7 102 = true) <| oif (inb a0 (T2.2.1 n7).2 = true) <| elet (T2.2.2.1 n7 a0.toNatClampNeg) fun v10 => if v10 = 0 then (some (1, 0, T2)) else (oif (oO T2 o 11 = true) <| obind (T2.2.2.2.2 o 6) fun n13 => oif (oO T2 o 11 = true) <| obind (T2.2.2.2.2 o 9) fun n15 => oif (aA T2 n15 105 = true) <| oif (inb a0 (T2.2.1 n15).2 = true) <| obind (T2.2.2.2.2 n15 a0.toNatClampNeg) fun n18 => oif (oO T2 n13 8 = true) <| obind (g_X8_copyFrom T2 n13 n18) fun T20 => g_X11_restore_b35 T20 o)
set_option maxHeartbeats 4000000 in
set_option maxRecDepth 100000 in
theorem s_X11_restore_b52 {e1 : Nat} {r1 : Int32} {T1 : AT} : ∀ (T : AT) (s0 : Nat), g_X11_restore_b52 T s0 = some (e1, r1, T1) → GL T T1 := by
  intro T s0 h
  have p0 := GL.rf T
  unfold g_X11_restore_b52 at h
  obtain ⟨g2, h⟩ := oif_some h
  obtain ⟨v3, -, h⟩ := elet_some h
  rw [← (osome3 h).2.2]
  exact p0
set_option maxHeartbeats 4000000 in
set_option maxRecDepth 100000 in
theorem s_X11_restore_b35 {e1 : Nat} {r1 : Int32} {T1 : AT} : ∀ (T : AT) (l0 : Nat), g_X11_restore_b35 T l0 = some (e1, r1, T1) → GL T T1 := by
  intro T l0 h
  have p0 := GL.rf T
  unfold g_X11_restore_b35 at h
  obtain ⟨g2, h⟩ := oif_some h
  obtain ⟨T3, eT3, h⟩ := elet_some h
  have p1 : GL T T3 := GL.tr p0 (by rw [eT3]; exact gl_sp sp_uI)
  obtain ⟨g4, h⟩ := oif_some h
  obtain ⟨n5, en5, h⟩ := obind_some h
  obtain ⟨g6, h⟩ := oif_some h
  obtain ⟨T7, eT7, h⟩ := elet_some h
  have p2 : GL T T7 := GL.tr p1 (by rw [eT7]; exact gl_sp sp_uI)
  obtain ⟨g8, h⟩ := oif_some h
  obtain ⟨r10, T9, eT9, h⟩ := obind2_some h
  obtain ⟨g11, h⟩ := oif_some h
  have p3 : GL T T9 := GL.tr p2 (s_X11_powersNow eT9)
  exact GL.tr p3 (s_X11_restore_b52 _ _ h)
set_option maxHeartbeats 4000000 in
set_option maxRecDepth 100000 in
theorem s_X11_restore {T : AT} {o : Nat} {a0 : Int32} {e1 : Nat} {r1 : Int32} {T1 : AT} (h : g_X11_restore T o a0 = some (e1, r1, T1)) : GL T T1 := by
  have p0 := GL.rf T
  unfold g_X11_restore at h
  rcases othr_s h with ⟨k9, r9, e9, -⟩ | ⟨r3, T2, eT2, h⟩
  · exact GL.tr p0 (gl_sp (s_X11_needIndex e9))
  have p1 : GL T T2 := GL.tr p0 (gl_sp (s_X11_needIndex eT2))
  obtain ⟨g4, h⟩ := oif_some h
  obtain ⟨n5, en5, h⟩ := obind_some h
  obtain ⟨g6, h⟩ := oif_some h
  obtain ⟨g7, h⟩ := oif_some h
  obtain ⟨v8, -, h⟩ := elet_some h
  rcases oif_or h with ⟨c9, h⟩ | ⟨c9, h⟩
  · have h := h
    rw [← (osome3 h).2.2]
    exact p1
  · have h := h
    obtain ⟨g10, h⟩ := oif_some h
    obtain ⟨n11, en11, h⟩ := obind_some h
    obtain ⟨g12, h⟩ := oif_some h
    obtain ⟨n13, en13, h⟩ := obind_some h
    obtain ⟨g14, h⟩ := oif_some h
    obtain ⟨g15, h⟩ := oif_some h
    obtain ⟨n16, en16, h⟩ := obind_some h
    obtain ⟨g17, h⟩ := oif_some h
    obtain ⟨T18, eT18, h⟩ := obind_some h
    have p2 : GL T T18 := GL.tr p1 (s_X8_copyFrom eT18)
    exact GL.tr p2 (s_X11_restore_b35 _ _ h)
set_option maxHeartbeats 4000000 in
set_option maxRecDepth 100000 in
theorem a_X11_restore_b52 {p : Program} {l : Launch} {e : Env} {s : State} {m : MethodId} {args : Array Value} {below : List Frame} {meth : Method} {c : Code} {Q : State → Prop} {D : va_G} {A : Nat → Prop} {cI cJ cZ cMic cSrc cSt cAI cAJ : ClassId} {ad0 : Nat → Nat} {T0 : AT} {r1 : Int32} {T1 : AT} (E : cE p c cX11_restore s m args (Cond.code yX11_restore cX11_restore 2 (some .int) :: wsA) D RX11 (CT cI cJ cZ cMic cSrc cSt cAI cAJ)) (hA : ∀ q : Nat, s.heap.size ≤ q → A q) (hX : xT A s) (hN : nX s) (hml : c.maxLocals = 2) (hst : l.stackTraces = false) (kr55 : ∀ (ad : Nat → Nat) (H : Heap) (locs : List Loc) (ls : Array Slot), (∀ n, n < T0.1 → ad n = ad0 n) → gC cI cJ cZ cMic cSrc cSt cAI cAJ D ad A s.heap H locs T1 → W p l e { frames := 7, cells := T1.1 - T0.1, slots := sg T1 - sg T0, locals := 149 } s m args below meth c H locs (T1.1 - T0.1) (sg T1 - sg T0) Q (F0 m 55 ls [.int r1])) : ∀ (T : AT) (ad : Nat → Nat) (H : Heap) (locs : List Loc) (ls : Array Slot) (s0 : Nat), g_X11_restore_b52 T s0 = some (0, r1, T1) → GL T0 T → RC T → (∀ n, n < T0.1 → ad n = ad0 n) → s0 < T.1 → gC cI cJ cZ cMic cSrc cSt cAI cAJ D ad A s.heap H locs T → lv_has ls 2 [] → W p l e { frames := 7, cells := T1.1 - T0.1, slots := sg T1 - sg T0, locals := 149 } s m args below meth c H locs (T.1 - T0.1) (sg T - sg T0) Q (F0 m 52 ls [.ref (ad s0)]) := by
  have hx := E.1
  have hb := E.2.1
  have hts := E.2.2.1
  have hown := E.2.2.2.1
  have hK := E.2.2.2.2
  intro T ad H locs ls s0 h hgl hrc had h_s0 G hl
  have hT1 := s_X11_restore_b52 _ _ h
  have hcs := cs_ok hgl hT1
  have cp0 := cpr0 hrc
  unfold g_X11_restore_b52 at h
  obtain ⟨g2, h⟩ := oif_some h
  refine c_get E G s0 2 (oO_k g2).1 (cc_o4 (oO_k g2).2) rfl (fun w h => .tail _ (iA_21 h)) (by decide) (.tail _ qA_812) rfl rfl dX11_restore_52 ?_
  refine lv_topi (fun v3 ev3 => ?_)
  have h := elet_at ev3 h
  clear ev3
  rw [(osome3 h).2.2] at G
  refine w_cast (c2 := T1.1 - T0.1) (s2 := sg T1 - sg T0) (by rw [← (osome3 h).2.2, cp0.1] <;> rfl) (by rw [← (osome3 h).2.2, sg_cpr cp0] <;> rfl) ?_
  refine lv_to ((osome3 h).2.1) ?_
  exact kr55 ad _ _ _ had G
set_option maxHeartbeats 4000000 in
set_option maxRecDepth 100000 in
theorem a_X11_restore_b35 {p : Program} {l : Launch} {e : Env} {s : State} {m : MethodId} {args : Array Value} {below : List Frame} {meth : Method} {c : Code} {Q : State → Prop} {D : va_G} {A : Nat → Prop} {cI cJ cZ cMic cSrc cSt cAI cAJ : ClassId} {ad0 : Nat → Nat} {T0 : AT} {r1 : Int32} {T1 : AT} (E : cE p c cX11_restore s m args (Cond.code yX11_restore cX11_restore 2 (some .int) :: wsA) D RX11 (CT cI cJ cZ cMic cSrc cSt cAI cAJ)) (hA : ∀ q : Nat, s.heap.size ≤ q → A q) (hX : xT A s) (hN : nX s) (hml : c.maxLocals = 2) (hst : l.stackTraces = false) (kr55 : ∀ (ad : Nat → Nat) (H : Heap) (locs : List Loc) (ls : Array Slot), (∀ n, n < T0.1 → ad n = ad0 n) → gC cI cJ cZ cMic cSrc cSt cAI cAJ D ad A s.heap H locs T1 → W p l e { frames := 7, cells := T1.1 - T0.1, slots := sg T1 - sg T0, locals := 149 } s m args below meth c H locs (T1.1 - T0.1) (sg T1 - sg T0) Q (F0 m 55 ls [.int r1])) : ∀ (T : AT) (ad : Nat → Nat) (H : Heap) (locs : List Loc) (ls : Array Slot) (l0 : Nat), g_X11_restore_b35 T l0 = some (0, r1, T1) → GL T0 T → RC T → (∀ n, n < T0.1 → ad n = ad0 n) → l0 < T.1 → gC cI cJ cZ cMic cSrc cSt cAI cAJ D ad A s.heap H locs T → lv_has ls 2 [(0, .ref (ad l0))] → W p l e { frames := 7, cells := T1.1 - T0.1, slots := sg T1 - sg T0, locals := 149 } s m args below meth c H locs (T.1 - T0.1) (sg T - sg T0) Q (F0 m 35 ls []) := by
  have hx := E.1
  have hb := E.2.1
  have hts := E.2.2.1
  have hown := E.2.2.2.1
  have hK := E.2.2.2.2
  intro T ad H locs ls l0 h hgl hrc had h_l0 G hl
  have hT1 := s_X11_restore_b35 _ _ h
  have hcs := cs_ok hgl hT1
  have cp0 := cpr0 hrc
  unfold g_X11_restore_b35 at h
  refine lv_aload_n hx hb dX11_restore_35 rfl (lv_at hl 0 rfl) ?_
  refine lv_iconst (v := 0) hx hb dX11_restore_36 (by decide) ?_
  obtain ⟨g2, h⟩ := oif_some h
  refine c_put E G l0 16 (v := .int 0) (oO_k g2).1 (cc_o11 (oO_k g2).2) rfl (fun w h => .tail _ (iA_23 h)) tyX11 tyX11_ok nmX11 (by decide) (.tail _ qA_703) ⟨rfl, rfl, rfl⟩ rfl rfl (Nat.le_of_ble_eq_true rfl) dX11_restore_37 (fun H locs G => ?_)
  have G := gC_up_i (f := upd (T.2.2.1 l0) 16 0) (by rw [(oO_k g2).2]; rfl) G
  obtain ⟨T3, eT3, h⟩ := elet_some h
  have G : gC cI cJ cZ cMic cSrc cSt cAI cAJ D ad A s.heap H locs T3 := by rw [eT3]; exact G
  have cp1 := show CPR T T3 from by rw [eT3]; exact cpr_sp cp0 sp_uI
  clear eT3
  refine lv_aload_n hx hb dX11_restore_40 rfl (lv_at hl 0 rfl) ?_
  obtain ⟨g4, h⟩ := oif_some h
  obtain ⟨n5, en5, h⟩ := obind_some h
  have h_n5 : n5 < T.1 := by rw [← cp1.1]; exact cp1.2.2 _ _ _ en5
  refine c_get E G l0 4 (v := .ref (ad n5)) (oO_k g4).1 (cc_o11 (oO_k g4).2) rfl (fun w h => .tail _ (iA_23 h)) (by decide) (.tail _ qA_660) rfl (by rw [en5]; rfl) dX11_restore_41 ?_
  clear en5
  refine lv_iconst (v := 0) hx hb dX11_restore_44 (by decide) ?_
  obtain ⟨g6, h⟩ := oif_some h
  refine c_put E G n5 0 (v := .int 0) (oO_k g6).1 (cc_o4 (oO_k g6).2) rfl (fun w h => .tail _ (iA_21 h)) tyX4 tyX4_ok nmX4 (by decide) (.tail _ qA_704) ⟨rfl, rfl, rfl⟩ rfl rfl (Nat.le_of_ble_eq_true rfl) dX11_restore_45 (fun H locs G => ?_)
  have G := gC_up_i (f := upd (T3.2.2.1 n5) 0 0) (by rw [(oO_k g6).2]; rfl) G
  obtain ⟨T7, eT7, h⟩ := elet_some h
  have G : gC cI cJ cZ cMic cSrc cSt cAI cAJ D ad A s.heap H locs T7 := by rw [eT7]; exact G
  have cp2 := show CPR T T7 from by rw [eT7]; exact cpr_sp cp1 sp_uI
  clear eT7
  refine lv_aload_n hx hb dX11_restore_48 rfl (lv_at hl 0 rfl) ?_
  obtain ⟨g8, h⟩ := oif_some h
  obtain ⟨r10, T9, eT9, h⟩ := obind2_some h
  obtain ⟨g11, h⟩ := oif_some h
  have hg2 := s_X11_powersNow eT9
  have hrc2 := hg2.2.2 cp2.2.2
  have hT2 := s_X11_restore_b52 _ _ h
  refine q_avr (As := []) (rest := []) E G hA hX hN hml (a_X11_powersNow l hst D cI cJ cZ cMic cSrc cSt cAI cAJ ad T7 l0 eT9 cp2.2.2 (by rw [cp2.1]; exact h_l0)) (cwV 0 hts (gaV qA_799 qA_800 qA_801 qA_131 qA_802) rfl rfl rfl (by decide +kernel) ⟨Nat.le_of_ble_eq_true rfl, Nat.le_of_ble_eq_true rfl⟩) (oO_k g8).1 (cc_o11 (oO_k g8).2) rfl rfl hl.1 rfl (lv_room (Nat.le_of_ble_eq_true rfl)) dX11_restore_49 (cs_av hgl cp2 hg2 hT2) (fun ad2 H locs hga G => ?_)
  refine w_cast (c2 := T9.1 - T0.1) (s2 := sg T9 - sg T0) (cs_f1 hgl cp2 hg2) (cs_f2 hgl cp2 hg2) ?_
  have h_new : r10 < T9.1 := Nat.le_of_ble_eq_true g11
  have hl := lv_sub hl [] rfl
  exact a_X11_restore_b52 E hA hX hN hml hst kr55 _ _ _ _ _ _ h (GL.tr (gl_cpr hgl cp2) hg2) hrc2 (fun n hn => (hga n (by rw [cp2.1]; exact Nat.lt_of_lt_of_le hn hgl.1)).trans (had n hn)) h_new G hl
set_option maxHeartbeats 4000000 in
set_option maxRecDepth 100000 in
theorem a_X11_restore (l : Launch) (hst : l.stackTraces = false) (D : va_G) (cI cJ cZ cMic cSrc cSt cAI cAJ : ClassId) (ad : Nat → Nat) (T : AT) (o : Nat) (a0 : Int32) {r1 : Int32} {T1 : AT} (h : g_X11_restore T o a0 = some (0, r1, T1)) (hrc : RC T) (h_o : o < T.1) : kAi l yX11_restore (Cond.code yX11_restore cX11_restore 2 (some .int) :: wsA) 7 149 cI cJ cZ cMic cSrc cSt cAI cAJ D ad T [.ref (ad o), .int a0] r1 T1 := by
  intro sz
  refine pro_in (cc := cX11_restore) (maxL := 2) (ret := (some .int)) (by exact pn_RX11) rfl (by exact Nat.le_of_ble_eq_true rfl) (fun p e s m below meth c ls hx hb hr hts hown hlocks hml hv hl => ?_)
  obtain ⟨hsz, hP, hK, hD0, hX, hN⟩ := hv
  subst hsz
  have hD := hD0.self (sz := s.heap.size)
  generalize hAe : va_A (cW ad T.1 (cc cI cJ cZ cMic cSrc cSt cAI cAJ ad T)) s.heap.size = A at hD hX ⊢
  have hA : ∀ q : Nat, s.heap.size ≤ q → A q := fun q h => by rw [← hAe]; exact Or.inr h
  have G : gC cI cJ cZ cMic cSrc cSt cAI cAJ D ad A s.heap s.heap [] T := ⟨hP, hD, va_S.rf⟩
  have E : cE p c cX11_restore s m ([.ref (ad o), .int a0] : List Value).toArray (Cond.code yX11_restore cX11_restore 2 (some .int) :: wsA) D RX11 (CT cI cJ cZ cMic cSrc cSt cAI cAJ) := ⟨hx, hb, hts, hown, hK⟩
  have hl : lv_has ls 2 [(0, .ref (ad o)), (1, .int a0)] := hl
  have hgl := GL.rf T
  have had : ∀ n, n < T.1 → ad n = ad n := fun _ _ => rfl
  have hT1 := s_X11_restore h
  have hcs := cs_ok hgl hT1
  refine w_cast (Nat.sub_self T.1).symm (Nat.sub_self (sg T)).symm ?_
  have cp0 := cpr0 hrc
  unfold g_X11_restore at h
  refine lv_iload_n hx hb dX11_restore_0 rfl (lv_at hl 1 rfl) ?_
  refine lv_iconst (v := 2) hx hb dX11_restore_1 (by decide) ?_
  obtain ⟨r4, T2, eT2, h⟩ := othr_n h
  refine q_csv (As := [.int a0, .int 2]) (rest := []) E G hA hX hN hml (u_X11_needIndex l hst D cI cJ cZ cMic cSrc cSt cAI cAJ ad T a0 (2 : Int32) eT2) (cwS 2 hts (gaS qA_738 qA_739 qA_131 qA_740) rfl rfl rfl (by decide +kernel) ⟨Nat.le_of_ble_eq_true rfl, Nat.le_of_ble_eq_true rfl⟩) rfl hl.1 rfl (lv_room (Nat.le_of_ble_eq_true rfl)) dX11_restore_2 hcs (fun T3 H locs hq G => ?_)
  rw [hq] at G
  clear hq
  have cp1 := cpr_sp cp0 (s_X11_needIndex eT2)
  refine lv_aload_n hx hb dX11_restore_5 rfl (lv_at hl 0 rfl) ?_
  obtain ⟨g6, h⟩ := oif_some h
  obtain ⟨n7, en7, h⟩ := obind_some h
  have h_n7 : n7 < T.1 := by rw [← cp1.1]; exact cp1.2.2 _ _ _ en7
  refine c_get E G o 10 (v := .ref (ad n7)) (oO_k g6).1 (cc_o11 (oO_k g6).2) rfl (fun w h => .tail _ (iA_23 h)) (by decide) (.tail _ qA_668) rfl (by rw [en7]; rfl) dX11_restore_6 ?_
  clear en7
  refine lv_iload_n hx hb dX11_restore_9 rfl (lv_at hl 1 rfl) ?_
  obtain ⟨g8, h⟩ := oif_some h
  obtain ⟨g9, h⟩ := oif_some h
  refine c_zald E G n7 2 (k := a0.toNatClampNeg) (aA_k g8).1 (cc_a102 (aA_k g8).2.1) rfl (inb_k g9).1 (inb_k g9).2 (aA_k g8).2.2 dX11_restore_10 ?_
  refine lv_topi (fun v10 ev10 => ?_)
  have h := elet_at ev10 h
  clear ev10
  refine lv_if_ne (tgt := 22) hx hb dX11_restore_11 (by decide) (fun c11 => ?_) (fun c11 => ?_)
  · have h := oif_neg c11 h
    refine lv_aload_n hx hb dX11_restore_22 rfl (lv_at hl 0 rfl) ?_
    obtain ⟨g12, h⟩ := oif_some h
    obtain ⟨n13, en13, h⟩ := obind_some h
    have h_n13 : n13 < T.1 := by rw [← cp1.1]; exact cp1.2.2 _ _ _ en13
    refine c_get E G o 6 (v := .ref (ad n13)) (oO_k g12).1 (cc_o11 (oO_k g12).2) rfl (fun w h => .tail _ (iA_23 h)) (by decide) (.tail _ qA_664) rfl (by rw [en13]; rfl) dX11_restore_23 ?_
    clear en13
    refine lv_aload_n hx hb dX11_restore_26 rfl (lv_at hl 0 rfl) ?_
    obtain ⟨g14, h⟩ := oif_some h
    obtain ⟨n15, en15, h⟩ := obind_some h
    have h_n15 : n15 < T.1 := by rw [← cp1.1]; exact cp1.2.2 _ _ _ en15
    refine c_get E G o 9 (v := .ref (ad n15)) (oO_k g14).1 (cc_o11 (oO_k g14).2) rfl (fun w h => .tail _ (iA_23 h)) (by decide) (.tail _ qA_667) rfl (by rw [en15]; rfl) dX11_restore_27 ?_
    clear en15
    refine lv_iload_n hx hb dX11_restore_30 rfl (lv_at hl 1 rfl) ?_
    obtain ⟨g16, h⟩ := oif_some h
    obtain ⟨g17, h⟩ := oif_some h
    obtain ⟨n18, en18, h⟩ := obind_some h
    have h_n18 : n18 < T.1 := by rw [← cp1.1]; exact cp1.2.2 _ _ _ en18
    refine c_aldq E G n15 5 (k := a0.toNatClampNeg) (v := .ref (ad n18)) (aA_k g16).1 (cc_a105 (aA_k g16).2.1) rfl (inb_k g17).1 (inb_k g17).2 (aA_k g16).2.2 (by show va_rf ((T2.2.2.2.2 n15 a0.toNatClampNeg).map ad) = _; rw [en18]; rfl) dX11_restore_31 ?_
    clear en18
    obtain ⟨g19, h⟩ := oif_some h
    obtain ⟨T20, eT20, h⟩ := obind_some h
    have hg2 := s_X8_copyFrom eT20
    have hrc2 := hg2.2.2 cp1.2.2
    have hT2 := s_X11_restore_b35 _ _ h
    refine q_avv (As := [.ref (ad n18)]) (rest := []) E G hA hX hN hml (a_X8_copyFrom l hst D cI cJ cZ cMic cSrc cSt cAI cAJ ad T2 n13 n18 eT20 cp1.2.2 (by rw [cp1.1]; exact h_n13) (by rw [cp1.1]; exact h_n18)) (cwV 1 hts (gaV qA_911 qA_912 qA_913 qA_47 qA_603) rfl rfl rfl (by decide +kernel) ⟨Nat.le_of_ble_eq_true rfl, Nat.le_of_ble_eq_true rfl⟩) (oO_k g19).1 (cc_o8 (oO_k g19).2) rfl rfl hl.1 rfl (lv_room (Nat.le_of_ble_eq_true rfl)) dX11_restore_32 (cs_av hgl cp1 hg2 hT2) (fun ad2 H locs hga G => ?_)
    refine w_cast (c2 := T20.1 - T.1) (s2 := sg T20 - sg T) (cs_f1 hgl cp1 hg2) (cs_f2 hgl cp1 hg2) ?_
    have hl := lv_sub hl [0] rfl
    rw [show ad o = ad2 o from (hga o (by rw [cp1.1]; exact h_o)).symm] at hl
    exact a_X11_restore_b35 E hA hX hN hml hst (fun ad H locs ls had G => W.iret (v := r1) hx hb hr (fun t ht hW => ⟨⟨r1, (T1, ad), rfl, ⟨rfl, rfl, had⟩, ⟨by rw [ht]; exact G.1, va_K.moved hW.alike hK, G.2.1⟩⟩, G.2.2.F ht⟩) G.2.2.2.2 dX11_restore_55) _ _ _ _ _ _ h (GL.tr (gl_cpr hgl cp1) hg2) hrc2 (fun n hn => (hga n (by rw [cp1.1]; exact Nat.lt_of_lt_of_le hn hgl.1)).trans (had n hn)) (Nat.lt_of_lt_of_le (by rw [cp1.1]; exact h_o) hg2.1) G hl
  · have h := oif_pos c11 h
    exact absurd (osome3 h).1 (by decide)
set_option maxHeartbeats 4000000 in
set_option maxRecDepth 100000 in
theorem b_X11_restore_b52 {p : Program} {l : Launch} {e : Env} {s : State} {m : MethodId} {args : Array Value} {below : List Frame} {meth : Method} {c : Code} {Qc : Array Value → State → Outcome → State → Prop} {XC : String → State → State → Prop} {D : va_G} {A : Nat → Prop} {cI cJ cZ cMic cSrc cSt cAI cAJ : ClassId} {ad0 : Nat → Nat} {T0 : AT} {e1 : Nat} {r1 : Int32} {T1 : AT} (E : cE p c cX11_restore s m args (Cond.code yX11_restore cX11_restore 2 (some .int) :: wsA) D RX11 (CT cI cJ cZ cMic cSrc cSt cAI cAJ)) (hA : ∀ q : Nat, s.heap.size ≤ q → A q) (hX : xT A s) (hN : nX s) (hml : c.maxLocals = 2) (hst : l.stackTraces = false) (htab : ∀ x ∈ c.exceptionTable.toList, False) (hlocks : meth.locks = false) (kx : ∀ (ad : Nat → Nat) (H : Heap) (locs : List Loc) (t : State), (∀ n, n < T0.1 → ad n = ad0 n) → gC cI cJ cZ cMic cSrc cSt cAI cAJ D ad A s.heap H locs T1 → s.vm.Alike t.vm → H.size ≤ t.heap.size → (∀ q, q < H.size → t.heap[q]? = H[q]?) → XC (exn e1) s t) : ∀ (T : AT) (ad : Nat → Nat) (H : Heap) (locs : List Loc) (ls : Array Slot) (s0 : Nat), g_X11_restore_b52 T s0 = some (e1 + 1, r1, T1) → GL T0 T → RC T → (∀ n, n < T0.1 → ad n = ad0 n) → s0 < T.1 → gC cI cJ cZ cMic cSrc cSt cAI cAJ D ad A s.heap H locs T → lv_has ls 2 [] → W p l e { frames := 7, cells := T1.1 - T0.1 + 1, slots := sg T1 - sg T0 + 6, locals := 149 } s m args below meth c H locs (T.1 - T0.1) (sg T - sg T0) (vx_MQ below Qc XC args s (T1.1 - T0.1 + 1) (sg T1 - sg T0 + 6) A) (F0 m 52 ls [.ref (ad s0)]) := by
  have hx := E.1
  have hb := E.2.1
  have hts := E.2.2.1
  have hown := E.2.2.2.1
  have hK := E.2.2.2.2
  intro T ad H locs ls s0 h hgl hrc had h_s0 G hl
  have hT1 := s_X11_restore_b52 _ _ h
  have hcs := cs_okx hgl hT1
  have hcx := cs_okx1 hgl hT1
  have cp0 := cpr0 hrc
  unfold g_X11_restore_b52 at h
  obtain ⟨g2, h⟩ := oif_some h
  refine c_get E G s0 2 (oO_k g2).1 (cc_o4 (oO_k g2).2) rfl (fun w h => .tail _ (iA_21 h)) (by decide) (.tail _ qA_812) rfl rfl dX11_restore_52 ?_
  refine lv_topi (fun v3 ev3 => ?_)
  have h := elet_at ev3 h
  clear ev3
  exact (Nat.succ_ne_zero _ (congrArg Prod.fst (Option.some.inj h)).symm).elim
set_option maxHeartbeats 4000000 in
set_option maxRecDepth 100000 in
theorem b_X11_restore_b35 {p : Program} {l : Launch} {e : Env} {s : State} {m : MethodId} {args : Array Value} {below : List Frame} {meth : Method} {c : Code} {Qc : Array Value → State → Outcome → State → Prop} {XC : String → State → State → Prop} {D : va_G} {A : Nat → Prop} {cI cJ cZ cMic cSrc cSt cAI cAJ : ClassId} {ad0 : Nat → Nat} {T0 : AT} {e1 : Nat} {r1 : Int32} {T1 : AT} (E : cE p c cX11_restore s m args (Cond.code yX11_restore cX11_restore 2 (some .int) :: wsA) D RX11 (CT cI cJ cZ cMic cSrc cSt cAI cAJ)) (hA : ∀ q : Nat, s.heap.size ≤ q → A q) (hX : xT A s) (hN : nX s) (hml : c.maxLocals = 2) (hst : l.stackTraces = false) (htab : ∀ x ∈ c.exceptionTable.toList, False) (hlocks : meth.locks = false) (kx : ∀ (ad : Nat → Nat) (H : Heap) (locs : List Loc) (t : State), (∀ n, n < T0.1 → ad n = ad0 n) → gC cI cJ cZ cMic cSrc cSt cAI cAJ D ad A s.heap H locs T1 → s.vm.Alike t.vm → H.size ≤ t.heap.size → (∀ q, q < H.size → t.heap[q]? = H[q]?) → XC (exn e1) s t) : ∀ (T : AT) (ad : Nat → Nat) (H : Heap) (locs : List Loc) (ls : Array Slot) (l0 : Nat), g_X11_restore_b35 T l0 = some (e1 + 1, r1, T1) → GL T0 T → RC T → (∀ n, n < T0.1 → ad n = ad0 n) → l0 < T.1 → gC cI cJ cZ cMic cSrc cSt cAI cAJ D ad A s.heap H locs T → lv_has ls 2 [(0, .ref (ad l0))] → W p l e { frames := 7, cells := T1.1 - T0.1 + 1, slots := sg T1 - sg T0 + 6, locals := 149 } s m args below meth c H locs (T.1 - T0.1) (sg T - sg T0) (vx_MQ below Qc XC args s (T1.1 - T0.1 + 1) (sg T1 - sg T0 + 6) A) (F0 m 35 ls []) := by
  have hx := E.1
  have hb := E.2.1
  have hts := E.2.2.1
  have hown := E.2.2.2.1
  have hK := E.2.2.2.2
  intro T ad H locs ls l0 h hgl hrc had h_l0 G hl
  have hT1 := s_X11_restore_b35 _ _ h
  have hcs := cs_okx hgl hT1
  have hcx := cs_okx1 hgl hT1
  have cp0 := cpr0 hrc
  unfold g_X11_restore_b35 at h
  refine lv_aload_n hx hb dX11_restore_35 rfl (lv_at hl 0 rfl) ?_
  refine lv_iconst (v := 0) hx hb dX11_restore_36 (by decide) ?_
  obtain ⟨g2, h⟩ := oif_some h
  refine c_put E G l0 16 (v := .int 0) (oO_k g2).1 (cc_o11 (oO_k g2).2) rfl (fun w h => .tail _ (iA_23 h)) tyX11 tyX11_ok nmX11 (by decide) (.tail _ qA_703) ⟨rfl, rfl, rfl⟩ rfl rfl (Nat.le_of_ble_eq_true rfl) dX11_restore_37 (fun H locs G => ?_)
  have G := gC_up_i (f := upd (T.2.2.1 l0) 16 0) (by rw [(oO_k g2).2]; rfl) G
  obtain ⟨T3, eT3, h⟩ := elet_some h
  have G : gC cI cJ cZ cMic cSrc cSt cAI cAJ D ad A s.heap H locs T3 := by rw [eT3]; exact G
  have cp1 := show CPR T T3 from by rw [eT3]; exact cpr_sp cp0 sp_uI
  clear eT3
  refine lv_aload_n hx hb dX11_restore_40 rfl (lv_at hl 0 rfl) ?_
  obtain ⟨g4, h⟩ := oif_some h
  obtain ⟨n5, en5, h⟩ := obind_some h
  have h_n5 : n5 < T.1 := by rw [← cp1.1]; exact cp1.2.2 _ _ _ en5
  refine c_get E G l0 4 (v := .ref (ad n5)) (oO_k g4).1 (cc_o11 (oO_k g4).2) rfl (fun w h => .tail _ (iA_23 h)) (by decide) (.tail _ qA_660) rfl (by rw [en5]; rfl) dX11_restore_41 ?_
  clear en5
  refine lv_iconst (v := 0) hx hb dX11_restore_44 (by decide) ?_
  obtain ⟨g6, h⟩ := oif_some h
  refine c_put E G n5 0 (v := .int 0) (oO_k g6).1 (cc_o4 (oO_k g6).2) rfl (fun w h => .tail _ (iA_21 h)) tyX4 tyX4_ok nmX4 (by decide) (.tail _ qA_704) ⟨rfl, rfl, rfl⟩ rfl rfl (Nat.le_of_ble_eq_true rfl) dX11_restore_45 (fun H locs G => ?_)
  have G := gC_up_i (f := upd (T3.2.2.1 n5) 0 0) (by rw [(oO_k g6).2]; rfl) G
  obtain ⟨T7, eT7, h⟩ := elet_some h
  have G : gC cI cJ cZ cMic cSrc cSt cAI cAJ D ad A s.heap H locs T7 := by rw [eT7]; exact G
  have cp2 := show CPR T T7 from by rw [eT7]; exact cpr_sp cp1 sp_uI
  clear eT7
  refine lv_aload_n hx hb dX11_restore_48 rfl (lv_at hl 0 rfl) ?_
  obtain ⟨g8, h⟩ := oif_some h
  obtain ⟨r10, T9, eT9, h⟩ := obind2_some h
  obtain ⟨g11, h⟩ := oif_some h
  have hg2 := s_X11_powersNow eT9
  have hrc2 := hg2.2.2 cp2.2.2
  have hT2 := s_X11_restore_b52 _ _ h
  refine q_avr (As := []) (rest := []) E G hA hX hN hml (a_X11_powersNow l hst D cI cJ cZ cMic cSrc cSt cAI cAJ ad T7 l0 eT9 cp2.2.2 (by rw [cp2.1]; exact h_l0)) (cwV 0 hts (gaV qA_799 qA_800 qA_801 qA_131 qA_802) rfl rfl rfl (by decide +kernel) ⟨Nat.le_of_ble_eq_true rfl, Nat.le_of_ble_eq_true rfl⟩) (oO_k g8).1 (cc_o11 (oO_k g8).2) rfl rfl hl.1 rfl (lv_room (Nat.le_of_ble_eq_true rfl)) dX11_restore_49 (cs_avx hgl cp2 hg2 hT2) (fun ad2 H locs hga G => ?_)
  refine w_cast (c2 := T9.1 - T0.1) (s2 := sg T9 - sg T0) (cs_f1 hgl cp2 hg2) (cs_f2 hgl cp2 hg2) ?_
  have h_new : r10 < T9.1 := Nat.le_of_ble_eq_true g11
  have hl := lv_sub hl [] rfl
  exact b_X11_restore_b52 E hA hX hN hml hst htab hlocks kx _ _ _ _ _ _ h (GL.tr (gl_cpr hgl cp2) hg2) hrc2 (fun n hn => (hga n (by rw [cp2.1]; exact Nat.lt_of_lt_of_le hn hgl.1)).trans (had n hn)) h_new G hl
set_option maxHeartbeats 4000000 in
set_option maxRecDepth 100000 in
theorem b_X11_restore (l : Launch) (hst : l.stackTraces = false) (D : va_G) (cI cJ cZ cMic cSrc cSt cAI cAJ : ClassId) (ad : Nat → Nat) (T : AT) (o : Nat) (a0 : Int32) {e1 : Nat} {r1 : Int32} {T1 : AT} (h : g_X11_restore T o a0 = some (e1 + 1, r1, T1)) (hrc : RC T) (h_o : o < T.1) : kAXi l yX11_restore (Cond.code yX11_restore cX11_restore 2 (some .int) :: wsA) 7 149 cI cJ cZ cMic cSrc cSt cAI cAJ D ad T [.ref (ad o), .int a0] e1 T1 := by
  intro sz
  refine vx_ofW (cc := cX11_restore) (maxL := 2) (ret := (some .int)) (by decide) rfl ?_
  intro p e s m args below meth c s₁ B hml htab hv
  obtain ⟨rfl, hsz, hP, hK, hD0, hX, hN⟩ := hv
  have hx := B.exec
  have hb := B.bytes
  have hr := B.returns
  have hts := atoms_spec (ws := (Cond.code yX11_restore cX11_restore 2 (some .int) :: wsA)) B.pre
  have hown : s.vm.findClass RX11 = some m.cls := findClass_of_methodNamed B.named
  have hlocks := B.notSynchronized
  subst hsz
  have hD := hD0.self (sz := s.heap.size)
  generalize hAe : va_A (cW ad T.1 (cc cI cJ cZ cMic cSrc cSt cAI cAJ ad T)) s.heap.size = A at hD hX ⊢
  have hA : ∀ q : Nat, s.heap.size ≤ q → A q := fun q h => by rw [← hAe]; exact Or.inr h
  have G : gC cI cJ cZ cMic cSrc cSt cAI cAJ D ad A s.heap s.heap [] T := ⟨hP, hD, va_S.rf⟩
  have E : cE p c cX11_restore s m ([.ref (ad o), .int a0] : List Value).toArray (Cond.code yX11_restore cX11_restore 2 (some .int) :: wsA) D RX11 (CT cI cJ cZ cMic cSrc cSt cAI cAJ) := ⟨hx, hb, hts, hown, hK⟩
  have htab : ∀ x ∈ c.exceptionTable.toList, False := fun x hx => htab x hx
  have hl := lv_entry ([.ref (ad o), .int a0]) (n := 2) (Nat.le_of_ble_eq_true rfl)
  rw [lg_entry_eq]
  generalize (lg_sl ([.ref (ad o), .int a0]) ++ List.replicate (2 - (lg_sl ([.ref (ad o), .int a0])).length) Slot.unset).toArray = ls at hl ⊢
  have hl : lv_has ls 2 [(0, .ref (ad o)), (1, .int a0)] := hl
  have hgl := GL.rf T
  have had : ∀ n, n < T.1 → ad n = ad n := fun _ _ => rfl
  have hT1 := s_X11_restore h
  have hcs := cs_okx hgl hT1
  have hcx := cs_okx1 hgl hT1
  refine w_cast (Nat.sub_self T.1).symm (Nat.sub_self (sg T)).symm ?_
  have cp0 := cpr0 hrc
  unfold g_X11_restore at h
  refine lv_iload_n hx hb dX11_restore_0 rfl (lv_at hl 1 rfl) ?_
  refine lv_iconst (v := 2) hx hb dX11_restore_1 (by decide) ?_
  rcases othr_t h with ⟨r0, eT2⟩ | ⟨r4, T2, eT2, h⟩
  · refine q_xsv (As := [.int a0, .int 2]) (rest := []) E G hA hX hN hml (x_X11_needIndex l hst D cI cJ cZ cMic cSrc cSt cAI cAJ ad T a0 (2 : Int32) eT2) (cwS 2 hts (gaS qA_738 qA_739 qA_131 qA_740) rfl rfl rfl (by decide +kernel) ⟨Nat.le_of_ble_eq_true rfl, Nat.le_of_ble_eq_true rfl⟩) rfl hl.1 rfl (lv_room (Nat.le_of_ble_eq_true rfl)) dX11_restore_2 hcx (fun E9 ce q9 T9 H locs hp G hce hcv hcl => ?_)
    obtain ⟨hE, hT⟩ := hp
    subst hE
    rw [hT] at G
    exact vx_out (fun x hx => (htab x hx).elim) hlocks hce hcv hcl (fun t ht hvm => ⟨(T1, ad), trivial, ⟨⟨rfl, rfl, had⟩, by rw [ht]; exact G.1, va_K.moved hvm hK, G.2.1⟩, G.2.2.F ht⟩) G.2.2.2.2 hcx.1 hcx.2
  refine q_csv (As := [.int a0, .int 2]) (rest := []) E G hA hX hN hml (u_X11_needIndex l hst D cI cJ cZ cMic cSrc cSt cAI cAJ ad T a0 (2 : Int32) eT2) (cwS 2 hts (gaS qA_738 qA_739 qA_131 qA_740) rfl rfl rfl (by decide +kernel) ⟨Nat.le_of_ble_eq_true rfl, Nat.le_of_ble_eq_true rfl⟩) rfl hl.1 rfl (lv_room (Nat.le_of_ble_eq_true rfl)) dX11_restore_2 hcs (fun T3 H locs hq G => ?_)
  rw [hq] at G
  clear hq
  have cp1 := cpr_sp cp0 (s_X11_needIndex eT2)
  refine lv_aload_n hx hb dX11_restore_5 rfl (lv_at hl 0 rfl) ?_
  obtain ⟨g6, h⟩ := oif_some h
  obtain ⟨n7, en7, h⟩ := obind_some h
  have h_n7 : n7 < T.1 := by rw [← cp1.1]; exact cp1.2.2 _ _ _ en7
  refine c_get E G o 10 (v := .ref (ad n7)) (oO_k g6).1 (cc_o11 (oO_k g6).2) rfl (fun w h => .tail _ (iA_23 h)) (by decide) (.tail _ qA_668) rfl (by rw [en7]; rfl) dX11_restore_6 ?_
  clear en7
  refine lv_iload_n hx hb dX11_restore_9 rfl (lv_at hl 1 rfl) ?_
  obtain ⟨g8, h⟩ := oif_some h
  obtain ⟨g9, h⟩ := oif_some h
  refine c_zald E G n7 2 (k := a0.toNatClampNeg) (aA_k g8).1 (cc_a102 (aA_k g8).2.1) rfl (inb_k g9).1 (inb_k g9).2 (aA_k g8).2.2 dX11_restore_10 ?_
  refine lv_topi (fun v10 ev10 => ?_)
  have h := elet_at ev10 h
  clear ev10
  refine lv_if_ne (tgt := 22) hx hb dX11_restore_11 (by decide) (fun c11 => ?_) (fun c11 => ?_)
  · have h := oif_neg c11 h
    refine lv_aload_n hx hb dX11_restore_22 rfl (lv_at hl 0 rfl) ?_
    obtain ⟨g12, h⟩ := oif_some h
    obtain ⟨n13, en13, h⟩ := obind_some h
    have h_n13 : n13 < T.1 := by rw [← cp1.1]; exact cp1.2.2 _ _ _ en13
    refine c_get E G o 6 (v := .ref (ad n13)) (oO_k g12).1 (cc_o11 (oO_k g12).2) rfl (fun w h => .tail _ (iA_23 h)) (by decide) (.tail _ qA_664) rfl (by rw [en13]; rfl) dX11_restore_23 ?_
    clear en13
    refine lv_aload_n hx hb dX11_restore_26 rfl (lv_at hl 0 rfl) ?_
    obtain ⟨g14, h⟩ := oif_some h
    obtain ⟨n15, en15, h⟩ := obind_some h
    have h_n15 : n15 < T.1 := by rw [← cp1.1]; exact cp1.2.2 _ _ _ en15
    refine c_get E G o 9 (v := .ref (ad n15)) (oO_k g14).1 (cc_o11 (oO_k g14).2) rfl (fun w h => .tail _ (iA_23 h)) (by decide) (.tail _ qA_667) rfl (by rw [en15]; rfl) dX11_restore_27 ?_
    clear en15
    refine lv_iload_n hx hb dX11_restore_30 rfl (lv_at hl 1 rfl) ?_
    obtain ⟨g16, h⟩ := oif_some h
    obtain ⟨g17, h⟩ := oif_some h
    obtain ⟨n18, en18, h⟩ := obind_some h
    have h_n18 : n18 < T.1 := by rw [← cp1.1]; exact cp1.2.2 _ _ _ en18
    refine c_aldq E G n15 5 (k := a0.toNatClampNeg) (v := .ref (ad n18)) (aA_k g16).1 (cc_a105 (aA_k g16).2.1) rfl (inb_k g17).1 (inb_k g17).2 (aA_k g16).2.2 (by show va_rf ((T2.2.2.2.2 n15 a0.toNatClampNeg).map ad) = _; rw [en18]; rfl) dX11_restore_31 ?_
    clear en18
    obtain ⟨g19, h⟩ := oif_some h
    obtain ⟨T20, eT20, h⟩ := obind_some h
    have hg2 := s_X8_copyFrom eT20
    have hrc2 := hg2.2.2 cp1.2.2
    have hT2 := s_X11_restore_b35 _ _ h
    refine q_avv (As := [.ref (ad n18)]) (rest := []) E G hA hX hN hml (a_X8_copyFrom l hst D cI cJ cZ cMic cSrc cSt cAI cAJ ad T2 n13 n18 eT20 cp1.2.2 (by rw [cp1.1]; exact h_n13) (by rw [cp1.1]; exact h_n18)) (cwV 1 hts (gaV qA_911 qA_912 qA_913 qA_47 qA_603) rfl rfl rfl (by decide +kernel) ⟨Nat.le_of_ble_eq_true rfl, Nat.le_of_ble_eq_true rfl⟩) (oO_k g19).1 (cc_o8 (oO_k g19).2) rfl rfl hl.1 rfl (lv_room (Nat.le_of_ble_eq_true rfl)) dX11_restore_32 (cs_avx hgl cp1 hg2 hT2) (fun ad2 H locs hga G => ?_)
    refine w_cast (c2 := T20.1 - T.1) (s2 := sg T20 - sg T) (cs_f1 hgl cp1 hg2) (cs_f2 hgl cp1 hg2) ?_
    have hl := lv_sub hl [0] rfl
    rw [show ad o = ad2 o from (hga o (by rw [cp1.1]; exact h_o)).symm] at hl
    exact b_X11_restore_b35 E hA hX hN hml hst htab hlocks (fun ad H locs t had G hvm h1 h2 => ⟨(T1, ad), trivial, ⟨⟨rfl, rfl, had⟩, (c_thrown G hK hvm h1 h2).1⟩, (c_thrown G hK hvm h1 h2).2⟩) _ _ _ _ _ _ h (GL.tr (gl_cpr hgl cp1) hg2) hrc2 (fun n hn => (hga n (by rw [cp1.1]; exact Nat.lt_of_lt_of_le hn hgl.1)).trans (had n hn)) (Nat.lt_of_lt_of_le (by rw [cp1.1]; exact h_o) hg2.1) G hl
  · have h := oif_pos c11 h
    have hz : exn e1 = xISE := by rw [show e1 = 0 by have := (osome3 h).1; omega]; rfl
    rw [(osome3 h).2.2] at G
    refine w_cast (c2 := T1.1 - T.1) (s2 := sg T1 - sg T) (by rw [← (osome3 h).2.2, cp1.1] <;> rfl) (by rw [← (osome3 h).2.2, sg_cpr cp1] <;> rfl) ?_
    refine vx_throw0 (own := RX11) (cls := xISE) (names := ["java/lang/RuntimeException", "java/lang/Exception"]) (ik := 397) (ic := 399) (A := A) hx hb hst hown (by decide +kernel) (by decide +kernel) (hts _ (.tail _ qA_732)) (hts _ (.tail _ qA_733)) (vx_hat (B := xB) (fun w h => hts w (.tail _ (iA_26 h))) (by decide +kernel) hX.use) (by decide +kernel) hX.1 hX.2.1 G.2.2 (hl.1.trans hml.symm) dX11_restore_14 dX11_restore_17 dX11_restore_18 dX11_restore_21 (fun x hx => (htab x hx).elim) (Nat.le_of_ble_eq_true rfl) (Nat.le_of_ble_eq_true rfl) (Nat.le_refl _) (Nat.le_refl _) hlocks (fun t hvm h1 h2 => ?_) G.2.2.2.2 (Nat.le_refl _) (Nat.le_refl _)
    exact ⟨(T1, ad), trivial, ⟨⟨hz.symm, rfl, had⟩, (c_thrown G hK hvm h1 h2).1⟩, (c_thrown G hK hvm h1 h2).2⟩
end
section
/-! 11u.tot.lean.txt -/
/-! Safety: a function gives an answer (Tot), and what is known of it: ranges of ints (rg), tables of ranges for the reference's state (RT) -/
def Tot {α : Type} (x : Option α) (P : α → Prop) : Prop := ∃ a, x = some a ∧ P a
theorem tot_some {α : Type} {a : α} {P : α → Prop} (h : P a) : Tot (some a) P := ⟨a, rfl, h⟩
theorem tot_w {α : Type} {x : Option α} {P Q : α → Prop} (h : Tot x P) (k : ∀ a, P a → Q a) : Tot x Q := h.elim fun a q => ⟨a, q.1, k a q.2⟩
theorem tot_let {α β : Type} {x : α} {f : α → Option β} {P : β → Prop} (h : ∀ v, v = x → Tot (f v) P) : Tot (elet x f) P := h x rfl
theorem tot_oif {β : Type} {c : Prop} [Decidable c] {x : Option β} {P : β → Prop} (hc : c) (h : Tot x P) : Tot (oif c x) P := by
  unfold oif
  rw [if_pos hc]
  exact h
theorem tot_bind {α β : Type} {x : Option α} {f : α → Option β} {Q : α → Prop} {P : β → Prop} (hx : Tot x Q) (h : ∀ a, Q a → Tot (f a) P) : Tot (obind x f) P := by
  obtain ⟨a, e, q⟩ := hx
  rw [e]
  exact h a q
theorem tot_bind2 {α β γ : Type} {x : Option (α × β)} {f : α → β → Option γ} {Q : α × β → Prop} {P : γ → Prop} (hx : Tot x Q) (h : ∀ a b, Q (a, b) → Tot (f a b) P) : Tot (obind2 x f) P := by
  obtain ⟨⟨a, b⟩, e, q⟩ := hx
  rw [e]
  exact h a b q
theorem tot_if {β : Type} {c : Prop} [Decidable c] {x y : Option β} {P : β → Prop} (h1 : c → Tot x P) (h2 : ¬ c → Tot y P) : Tot (if c then x else y) P := by
  by_cases hc : c
  · rw [if_pos hc]; exact h1 hc
  · rw [if_neg hc]; exact h2 hc
/-- an int lies between -/
def rg (v : Int32) (a b : Int) : Prop := a ≤ v.toInt ∧ v.toInt ≤ b
theorem bm32 {x : Int} (h1 : -2147483648 ≤ x) (h2 : x ≤ 2147483647) : x.bmod (2 ^ 32) = x := by
  rw [Int.bmod_def]
  omega
theorem rg_to {v x : Int32} {a b : Int} (e : v = x) (h : rg x a b) : rg v a b := by rw [e]; exact h
theorem imul_nn {x y b d : Int} (x1 : 0 ≤ x) (x2 : x ≤ b) (y1 : 0 ≤ y) (y2 : y ≤ d) : 0 ≤ x * y ∧ x * y ≤ b * d := ⟨Int.mul_nonneg x1 y1, Int.mul_le_mul x2 y2 y1 (Int.le_trans x1 x2)⟩
/-- both not negative -/
theorem rg_mul {x y : Int32} {a b c d : Int} (hx : rg x a b) (hy : rg y c d) (h0 : 0 ≤ a) (h1 : 0 ≤ c) (h2 : b * d ≤ 2147483647) : rg (x * y) (a * c) (b * d) := by
  obtain ⟨x1, x2⟩ := hx
  obtain ⟨y1, y2⟩ := hy
  have q := imul_nn (Int.le_trans h0 x1) x2 (Int.le_trans h1 y1) y2
  have r : a * c ≤ x.toInt * y.toInt := Int.mul_le_mul x1 y1 h1 (Int.le_trans h0 x1)
  unfold rg
  rw [Int32.toInt_mul, bm32 (by omega) (by omega)]
  exact ⟨r, q.2⟩
theorem imul_abs {x y b d : Int} (x1 : -b ≤ x) (x2 : x ≤ b) (y1 : -d ≤ y) (y2 : y ≤ d) : -(b * d) ≤ x * y ∧ x * y ≤ b * d := by
  have hb : 0 ≤ b := by omega
  rcases Int.le_total 0 x with hx | hx
  · rcases Int.le_total 0 y with hy | hy
    · have q := imul_nn hx x2 hy y2
      omega
    · have q := imul_nn hx x2 (y := -y) (d := d) (by omega) (by omega)
      rw [Int.mul_neg] at q
      omega
  · rcases Int.le_total 0 y with hy | hy
    · have q := imul_nn (x := -x) (b := b) (by omega) (by omega) hy y2
      rw [Int.neg_mul] at q
      omega
    · have q := imul_nn (x := -x) (b := b) (y := -y) (d := d) (by omega) (by omega) (by omega) (by omega)
      rw [Int.neg_mul_neg] at q
      omega
/-- of any sign: -b .. b by -d .. d -/
theorem rg_muls {x y : Int32} {b d : Int} (hx : rg x (-b) b) (hy : rg y (-d) d) (h2 : b * d ≤ 2147483647) : rg (x * y) (-(b * d)) (b * d) := by
  have q := imul_abs hx.1 hx.2 hy.1 hy.2
  unfold rg
  rw [Int32.toInt_mul, bm32 (by omega) (by omega)]
  exact q
theorem tdiv_nn {x y : Int} (hx : 0 ≤ x) (hy : 1 ≤ y) : 0 ≤ x.tdiv y ∧ x.tdiv y ≤ x := by
  rw [Int.tdiv_eq_ediv_of_nonneg hx]
  exact ⟨Int.ediv_nonneg hx (by omega), Int.ediv_le_self y hx⟩
theorem rg_divs {x y : Int32} {b c d : Int} (hx : rg x (-b) b) (hy : rg y c d) (h0 : 1 ≤ c) (hb : b ≤ 2147483647) : rg (x / y) (-b) b := by
  have hy1 := Int.le_trans h0 hy.1
  obtain ⟨x1, x2⟩ := hx
  have q : -b ≤ x.toInt.tdiv y.toInt ∧ x.toInt.tdiv y.toInt ≤ b := by
    rcases Int.le_total 0 x.toInt with h | h
    · have q := tdiv_nn h hy1
      omega
    · have q := tdiv_nn (x := -x.toInt) (by omega) hy1
      rw [Int.neg_tdiv] at q
      omega
  unfold rg
  rw [Int32.toInt_div, bm32 (by omega) (by omega)]
  exact q
theorem tmod_nn {x y : Int} (hx : 0 ≤ x) (hy : 1 ≤ y) : 0 ≤ x - x.tdiv y * y ∧ x - x.tdiv y * y < y := by
  rw [Int.tdiv_eq_ediv_of_nonneg hx]
  have h1 := Int.emod_nonneg x (b := y) (by omega)
  have h2 := Int.emod_lt_of_pos x (b := y) (by omega)
  have h3 := Int.emod_add_mul_ediv x y
  rw [Int.mul_comm] at h3
  omega
/-- what is left -/
theorem rg_rem {x y : Int32} {b c d : Int} (hx : rg x 0 b) (hy : rg y c d) (h0 : 1 ≤ c) : rg (x - x / y * y) 0 (d - 1) := by
  have hy1 := Int.le_trans h0 hy.1
  have q := tdiv_nn hx.1 hy1
  have r := tmod_nn hx.1 hy1
  have h2 := Int32.toInt_lt x
  have h3 := Int32.toInt_lt y
  have m0 : 0 ≤ x.toInt.tdiv y.toInt * y.toInt := Int.mul_nonneg q.1 (by omega)
  unfold rg
  rw [Int32.toInt_sub, Int32.toInt_mul, Int32.toInt_div, bm32 (x := x.toInt.tdiv y.toInt) (by omega) (by omega), bm32 (x := x.toInt.tdiv y.toInt * y.toInt) (by omega) (by omega), bm32 (by omega) (by omega)]
  have h4 := hy.2
  omega
theorem rg_rems {x y : Int32} {b c d : Int} (hx : rg x (-b) b) (hy : rg y c d) (h0 : 1 ≤ c) (hb : b ≤ 2147483647) : rg (x - x / y * y) (1 - d) (d - 1) := by
  have hy1 := Int.le_trans h0 hy.1
  obtain ⟨x1, x2⟩ := hx
  have h3 := Int32.toInt_lt y
  have h4 := hy.2
  have q : 1 - y.toInt ≤ x.toInt - x.toInt.tdiv y.toInt * y.toInt ∧ x.toInt - x.toInt.tdiv y.toInt * y.toInt ≤ y.toInt - 1 := by
    rcases Int.le_total 0 x.toInt with h | h
    · have r := tmod_nn h hy1
      omega
    · have r := tmod_nn (x := -x.toInt) (by omega) hy1
      rw [Int.neg_tdiv, Int.neg_mul] at r
      omega
  have t : -b ≤ x.toInt.tdiv y.toInt ∧ x.toInt.tdiv y.toInt ≤ b := by
    rcases Int.le_total 0 x.toInt with h | h
    · have q := tdiv_nn h hy1
      omega
    · have q := tdiv_nn (x := -x.toInt) (by omega) hy1
      rw [Int.neg_tdiv] at q
      omega
  have u : -b ≤ x.toInt.tdiv y.toInt * y.toInt ∧ x.toInt.tdiv y.toInt * y.toInt ≤ b := by
    rcases Int.le_total 0 x.toInt with h | h
    · have r := tmod_nn h hy1
      have m0 : 0 ≤ x.toInt.tdiv y.toInt * y.toInt := Int.mul_nonneg (tdiv_nn h hy1).1 (by omega)
      omega
    · have r := tmod_nn (x := -x.toInt) (by omega) hy1
      have m0 : 0 ≤ (-x.toInt).tdiv y.toInt * y.toInt := Int.mul_nonneg (tdiv_nn (x := -x.toInt) (by omega) hy1).1 (by omega)
      rw [Int.neg_tdiv, Int.neg_mul] at r m0
      omega
  unfold rg
  rw [Int32.toInt_sub, Int32.toInt_mul, Int32.toInt_div, bm32 (x := x.toInt.tdiv y.toInt) (by omega) (by omega), bm32 (x := x.toInt.tdiv y.toInt * y.toInt) (by omega) (by omega), bm32 (by omega) (by omega)]
  omega
theorem rg_b01 {x : Int32} (hx : rg x 0 1) : x = 0 ∨ x = 1 := by
  obtain ⟨h1, h2⟩ := hx
  have h0 : (0 : Int32).toInt = 0 := by decide
  have h9 : (1 : Int32).toInt = 1 := by decide
  rcases (by omega : x.toInt = 0 ∨ x.toInt = 1) with h | h
  · exact .inl (Int32.toInt_inj.mp (by rw [h, h0]))
  · exact .inr (Int32.toInt_inj.mp (by rw [h, h9]))
theorem rg_clamp {x : Int32} {a b : Int} (hx : rg x a b) (h0 : 0 ≤ a) : (x.toNatClampNeg : Int) = x.toInt := by
  have h1 := hx.1
  show ((x.toInt.toNat : Nat) : Int) = x.toInt
  omega
theorem rg_inb {x : Int32} {a b : Int} {n : Nat} (hx : rg x a b) (h0 : 0 ≤ a) (hn : b < n) : inb x n = true := by
  have h1 := rg_clamp hx h0
  have h2 := hx.1
  have h3 := hx.2
  unfold inb
  have h9 : (0 : Int32).toInt = 0 := by decide
  have h4 : (0 : Int32) ≤ x := Int32.le_iff_toInt_le.mpr (by omega)
  have h5 : Nat.blt x.toNatClampNeg n = true := Nat.ble_eq_true_of_le (by omega)
  rw [h5, decide_eq_true h4]
  rfl
def cA (u u2 : List (Nat × Nat × Nat × Int × Int)) : Bool := u2.all fun x => u.any fun y => y.1 == x.1 && decide (y.2.1 ≤ x.2.1) && decide (x.2.2.1 ≤ y.2.2.1) && decide (x.2.2.2.1 ≤ y.2.2.2.1) && decide (y.2.2.2.2 ≤ x.2.2.2.2)
theorem band {a b : Bool} (h : (a && b) = true) : a = true ∧ b = true := (Bool.and_eq_true _ _).mp h
theorem mf_at {S : MS} {a : Nat} {f : Nat → Int32} : (mf S a f).2.1 a = f := by
  show (bif Nat.beq a a then f else S.2.1 a) = f
  rw [show Nat.beq a a = true from Nat.beq_refl a]
  rfl
theorem mf_ne {S : MS} {a b : Nat} {f : Nat → Int32} (h : b ≠ a) : (mf S a f).2.1 b = S.2.1 b := by
  show (bif Nat.beq b a then f else S.2.1 b) = S.2.1 b
  rw [show Nat.beq b a = false from by cases e : Nat.beq b a with
    | false => rfl
    | true => exact absurd (Nat.eq_of_beq_eq_true e) h]
  rfl
end
section
/-! 11v.fr.lean.txt -/
def FK (K A : List Nat) (S S1 : MS) : Prop := (∀ k, K.contains k = false → S1.1 k = S.1 k) ∧ ∀ a, A.contains a = false → S1.2.1 a = S.2.1 a
theorem FK.rf {K A : List Nat} {S : MS} : FK K A S S := ⟨fun _ _ => rfl, fun _ _ => rfl⟩
theorem FK.tr {K A : List Nat} {S S1 S2 : MS} (h : FK K A S S1) (k : FK K A S1 S2) : FK K A S S2 := ⟨fun j q => (k.1 j q).trans (h.1 j q), fun j q => (k.2 j q).trans (h.2 j q)⟩
theorem con_w {K K2 : List Nat} (c : K.all (fun x => K2.contains x) = true) {k : Nat} (h : K2.contains k = false) : K.contains k = false := by
  cases e : K.contains k with
  | false => rfl
  | true =>
    have h1 := List.all_eq_true.mp c k (List.contains_iff_mem.mp e)
    rw [h] at h1
    cases h1
theorem FK.w {K A K2 A2 : List Nat} {S S1 : MS} (h : FK K A S S1) (c : (K.all (fun x => K2.contains x) && A.all (fun x => A2.contains x)) = true) : FK K2 A2 S S1 := ⟨fun j q => h.1 j (con_w (band c).1 q), fun j q => h.2 j (con_w (band c).2 q)⟩
theorem fw_mi {K A : List Nat} {S : MS} {k : Nat} {v : Int32} (c : K.contains k = true) : FK K A S (mi S k v) := by
  refine ⟨fun j q => ?_, fun _ _ => rfl⟩
  show (bif Nat.beq j k then v else S.1 j) = S.1 j
  rw [show Nat.beq j k = false from by cases e : Nat.beq j k with
    | false => rfl
    | true => rw [Nat.eq_of_beq_eq_true e, c] at q; cases q]
  rfl
theorem fw_mf {K A : List Nat} {S : MS} {a : Nat} {f : Nat → Int32} (c : A.contains a = true) : FK K A S (mf S a f) := by
  refine ⟨fun _ _ => rfl, fun j q => mf_ne (fun e => ?_)⟩
  rw [e, c] at q
  cases q
set_option maxHeartbeats 1000000 in
theorem w_fr_throwsAt {a0 : Int32} {S : MS} {r1 : Int32} {S1 : MS} (h : fr_throwsAt S a0 = some (r1, S1)) : FK [0] [] S S1 := by
  have p0 : FK [0] [] S S := FK.rf
  unfold fr_throwsAt at h
  obtain ⟨S2, eS2, h⟩ := elet_some h
  have p1 : FK [0] [] S S2 := p0.tr (by rw [eS2]; exact fw_mi (by decide))
  rw [← (osome2 h).2]
  exact p1
set_option maxHeartbeats 1000000 in
theorem w_fr_four_b3 {S1 : MS} : ∀ n : Nat, ∀ (S : MS) (y1 : Int32) (y2 : Int32), fr_four_b3 n S y1 y2 = some S1 → FK [2] [1] S S1 := by
  intro n
  induction n with
  | zero =>
    intro S y1 y2 h
    have h : (none : Option (MS)) = some S1 := h
    cases h
  | succ n ih =>
    intro S l1 l2 h
    have p0 : FK [2] [1] S S := FK.rf
    unfold fr_four_b3 at h
    rcases oif_or h with ⟨-, h⟩ | ⟨-, h⟩
    · have h := h
      rw [← osome1 h]
      exact p0
    · have h := h
      obtain ⟨v3, ev3, h⟩ := elet_some h
      obtain ⟨v4, ev4, h⟩ := elet_some h
      obtain ⟨v5, ev5, h⟩ := elet_some h
      have h := (oif_some h).2
      obtain ⟨S7, eS7, h⟩ := elet_some h
      have p1 : FK [2] [1] S S7 := p0.tr (by rw [eS7]; exact fw_mf (by decide))
      obtain ⟨v8, ev8, h⟩ := elet_some h
      obtain ⟨v9, ev9, h⟩ := elet_some h
      obtain ⟨S10, eS10, h⟩ := elet_some h
      have p2 : FK [2] [1] S S10 := p1.tr (by rw [eS10]; exact fw_mi (by decide))
      obtain ⟨v11, ev11, h⟩ := elet_some h
      exact p2.tr (ih _ _ _ h)
set_option maxHeartbeats 1000000 in
theorem w_fr_four {a0 : Int32} {S : MS} {S1 : MS} (h : fr_four S a0 = some S1) : FK [2] [1] S S1 := by
  have p0 : FK [2] [1] S S := FK.rf
  unfold fr_four at h
  exact p0.tr (w_fr_four_b3  _ _ _ _ h)
set_option maxHeartbeats 1000000 in
theorem w_fr_append {a0 : Int32} {a1 : Int32} {a2 : Int32} {a3 : Int32} {a4 : Int32} {S : MS} {r1 : Int32} {S1 : MS} (h : fr_append S a0 a1 a2 a3 a4 = some (r1, S1)) : FK [0, 2] [1] S S1 := by
  have p0 : FK [0, 2] [1] S S := FK.rf
  unfold fr_append at h
  obtain ⟨S2, eS2, h⟩ := elet_some h
  have p1 : FK [0, 2] [1] S S2 := p0.tr (by rw [eS2]; exact fw_mi (by decide))
  obtain ⟨v3, ev3, h⟩ := elet_some h
  obtain ⟨v4, ev4, h⟩ := elet_some h
  rcases oif_or h with ⟨-, h⟩ | ⟨-, h⟩
  · have h := h
    obtain ⟨S6, eS6, h⟩ := obind_some h
    have p2 : FK [0, 2] [1] S S6 := p1.tr ((w_fr_four eS6).w (by decide))
    obtain ⟨S9, eS9, h⟩ := obind_some h
    have p3 : FK [0, 2] [1] S S9 := p2.tr ((w_fr_four eS9).w (by decide))
    obtain ⟨S12, eS12, h⟩ := obind_some h
    have p4 : FK [0, 2] [1] S S12 := p3.tr ((w_fr_four eS12).w (by decide))
    obtain ⟨S15, eS15, h⟩ := obind_some h
    have p5 : FK [0, 2] [1] S S15 := p4.tr ((w_fr_four eS15).w (by decide))
    obtain ⟨S18, eS18, h⟩ := obind_some h
    have p6 : FK [0, 2] [1] S S18 := p5.tr ((w_fr_four eS18).w (by decide))
    obtain ⟨v21, ev21, h⟩ := elet_some h
    rw [← (osome2 h).2]
    exact p6
  · have h := h
    rw [← (osome2 h).2]
    exact p1
set_option maxHeartbeats 1000000 in
theorem w_fr_buffered {S : MS} {r1 : Int32} {S1 : MS} (h : fr_buffered S = some (r1, S1)) : FK [0] [] S S1 := by
  have p0 : FK [0] [] S S := FK.rf
  unfold fr_buffered at h
  obtain ⟨S2, eS2, h⟩ := elet_some h
  have p1 : FK [0] [] S S2 := p0.tr (by rw [eS2]; exact fw_mi (by decide))
  obtain ⟨v3, ev3, h⟩ := elet_some h
  rw [← (osome2 h).2]
  exact p1
set_option maxHeartbeats 1000000 in
theorem w_fr_parseError {S : MS} {r1 : Int32} {S1 : MS} (h : fr_parseError S = some (r1, S1)) : FK [0] [] S S1 := by
  have p0 : FK [0] [] S S := FK.rf
  unfold fr_parseError at h
  obtain ⟨S2, eS2, h⟩ := elet_some h
  have p1 : FK [0] [] S S2 := p0.tr (by rw [eS2]; exact fw_mi (by decide))
  obtain ⟨v3, ev3, h⟩ := elet_some h
  rw [← (osome2 h).2]
  exact p1
set_option maxHeartbeats 1000000 in
theorem w_fr_errorPosition {S : MS} {r1 : Int32} {S1 : MS} (h : fr_errorPosition S = some (r1, S1)) : FK [0] [] S S1 := by
  have p0 : FK [0] [] S S := FK.rf
  unfold fr_errorPosition at h
  obtain ⟨S2, eS2, h⟩ := elet_some h
  have p1 : FK [0] [] S S2 := p0.tr (by rw [eS2]; exact fw_mi (by decide))
  obtain ⟨v3, ev3, h⟩ := elet_some h
  rw [← (osome2 h).2]
  exact p1
set_option maxHeartbeats 1000000 in
theorem w_fr_byteAt_b18 {s0 : Int32} {S : MS} {r1 : Int32} {S1 : MS} (h : fr_byteAt_b18 S s0 = some (r1, S1)) : FK [] [] S S1 := by
  have p0 : FK [] [] S S := FK.rf
  unfold fr_byteAt_b18 at h
  rw [← (osome2 h).2]
  exact p0
set_option maxHeartbeats 1000000 in
theorem w_fr_byteAt {a0 : Int32} {S : MS} {r1 : Int32} {S1 : MS} (h : fr_byteAt S a0 = some (r1, S1)) : FK [] [] S S1 := by
  have p0 : FK [] [] S S := FK.rf
  unfold fr_byteAt at h
  obtain ⟨v2, ev2, h⟩ := elet_some h
  rcases oif_or h with ⟨-, h⟩ | ⟨-, h⟩
  · have h := h
    exact p0.tr (w_fr_byteAt_b18  h)
  · have h := h
    have h := (oif_some h).2
    obtain ⟨v5, ev5, h⟩ := elet_some h
    exact p0.tr (w_fr_byteAt_b18  h)
set_option maxHeartbeats 1000000 in
theorem w_fr_faults {a0 : Int32} {S : MS} {S1 : MS} (h : fr_faults S a0 = some S1) : FK [5, 6] [] S S1 := by
  have p0 : FK [5, 6] [] S S := FK.rf
  unfold fr_faults at h
  obtain ⟨v2, ev2, h⟩ := elet_some h
  rcases oif_or h with ⟨-, h⟩ | ⟨-, h⟩
  · have h := h
    obtain ⟨S4, eS4, h⟩ := elet_some h
    have p1 : FK [5, 6] [] S S4 := p0.tr (by rw [eS4]; exact fw_mi (by decide))
    obtain ⟨v5, ev5, h⟩ := elet_some h
    obtain ⟨S6, eS6, h⟩ := elet_some h
    have p2 : FK [5, 6] [] S S6 := p1.tr (by rw [eS6]; exact fw_mi (by decide))
    rw [← osome1 h]
    exact p2
  · have h := h
    rw [← osome1 h]
    exact p0
set_option maxHeartbeats 1000000 in
theorem w_fr_nextToken_b292 {S : MS} {S1 : MS} (h : fr_nextToken_b292 S = some S1) : FK [4, 7, 8, 9] [] S S1 := by
  have p0 : FK [4, 7, 8, 9] [] S S := FK.rf
  unfold fr_nextToken_b292 at h
  rw [← osome1 h]
  exact p0
set_option maxHeartbeats 1000000 in
theorem w_fr_nextToken_b279 {s0 : Int32} {S : MS} {S1 : MS} (h : fr_nextToken_b279 S s0 = some S1) : FK [4, 7, 8, 9] [] S S1 := by
  have p0 : FK [4, 7, 8, 9] [] S S := FK.rf
  unfold fr_nextToken_b279 at h
  obtain ⟨S2, eS2, h⟩ := elet_some h
  have p1 : FK [4, 7, 8, 9] [] S S2 := p0.tr (by rw [eS2]; exact fw_mi (by decide))
  obtain ⟨v3, ev3, h⟩ := elet_some h
  obtain ⟨v4, ev4, h⟩ := elet_some h
  obtain ⟨S5, eS5, h⟩ := elet_some h
  have p2 : FK [4, 7, 8, 9] [] S S5 := p1.tr (by rw [eS5]; exact fw_mi (by decide))
  exact p2.tr (w_fr_nextToken_b292  h)
set_option maxHeartbeats 1000000 in
theorem w_fr_nextToken_b245 {s0 : Int32} {S : MS} {S1 : MS} (h : fr_nextToken_b245 S s0 = some S1) : FK [4, 7, 8, 9] [] S S1 := by
  have p0 : FK [4, 7, 8, 9] [] S S := FK.rf
  unfold fr_nextToken_b245 at h
  obtain ⟨S2, eS2, h⟩ := elet_some h
  have p1 : FK [4, 7, 8, 9] [] S S2 := p0.tr (by rw [eS2]; exact fw_mi (by decide))
  exact p1.tr (w_fr_nextToken_b292  h)
set_option maxHeartbeats 1000000 in
theorem w_fr_nextToken_b213 {k159 : MS → Option (MS)} {S : MS} {S1 : MS} (hk159 : ∀ (x0 : MS), k159 x0 = some S1 → FK [4, 7, 8, 9] [] x0 S1) (h : fr_nextToken_b213 k159 S = some S1) : FK [4, 7, 8, 9] [] S S1 := by
  have p0 : FK [4, 7, 8, 9] [] S S := FK.rf
  unfold fr_nextToken_b213 at h
  obtain ⟨v2, ev2, h⟩ := elet_some h
  obtain ⟨v3, ev3, h⟩ := elet_some h
  obtain ⟨S4, eS4, h⟩ := elet_some h
  have p1 : FK [4, 7, 8, 9] [] S S4 := p0.tr (by rw [eS4]; exact fw_mi (by decide))
  exact p1.tr (hk159 _ h)
set_option maxHeartbeats 1000000 in
theorem w_fr_nextToken_b159 {S1 : MS} : ∀ n : Nat, ∀ (S : MS), fr_nextToken_b159 n S = some S1 → FK [4, 7, 8, 9] [] S S1 := by
  intro n
  induction n with
  | zero =>
    intro S h
    have h : (none : Option (MS)) = some S1 := h
    cases h
  | succ n ih =>
    intro S h
    have p0 : FK [4, 7, 8, 9] [] S S := FK.rf
    unfold fr_nextToken_b159 at h
    obtain ⟨v2, ev2, h⟩ := elet_some h
    obtain ⟨r6, S3, eS3, h⟩ := obind2_some h
    have p1 : FK [4, 7, 8, 9] [] S S3 := p0.tr ((w_fr_byteAt eS3).w (by decide))
    obtain ⟨r7, -, h⟩ := obind_some h
    rcases oif_or h with ⟨-, h⟩ | ⟨-, h⟩
    · have h := h
      obtain ⟨v10, ev10, h⟩ := elet_some h
      obtain ⟨v11, ev11, h⟩ := elet_some h
      obtain ⟨v12, ev12, h⟩ := elet_some h
      rcases oif_or h with ⟨-, h⟩ | ⟨-, h⟩
      · have h := h
        exact p1.tr (w_fr_nextToken_b245  h)
      · have h := h
        exact p1.tr (w_fr_nextToken_b245  h)
    · have h := h
      obtain ⟨v14, ev14, h⟩ := elet_some h
      obtain ⟨v15, ev15, h⟩ := elet_some h
      obtain ⟨v16, ev16, h⟩ := elet_some h
      rcases oif_or h with ⟨-, h⟩ | ⟨-, h⟩
      · have h := h
        exact p1.tr (w_fr_nextToken_b213 ih h)
      · have h := h
        obtain ⟨v18, ev18, h⟩ := elet_some h
        obtain ⟨v19, ev19, h⟩ := elet_some h
        obtain ⟨v20, ev20, h⟩ := elet_some h
        obtain ⟨r24, S21, eS21, h⟩ := obind2_some h
        have p2 : FK [4, 7, 8, 9] [] S S21 := p1.tr ((w_fr_byteAt eS21).w (by decide))
        obtain ⟨v25, ev25, h⟩ := elet_some h
        obtain ⟨v26, ev26, h⟩ := elet_some h
        obtain ⟨S27, eS27, h⟩ := elet_some h
        have p3 : FK [4, 7, 8, 9] [] S S27 := p2.tr (by rw [eS27]; exact fw_mi (by decide))
        exact p3.tr (w_fr_nextToken_b213 ih h)
set_option maxHeartbeats 1000000 in
theorem w_fr_nextToken_b130 {s0 : Int32} {S : MS} {S1 : MS} (h : fr_nextToken_b130 S s0 = some S1) : FK [4, 7, 8, 9] [] S S1 := by
  have p0 : FK [4, 7, 8, 9] [] S S := FK.rf
  unfold fr_nextToken_b130 at h
  obtain ⟨S2, eS2, h⟩ := elet_some h
  have p1 : FK [4, 7, 8, 9] [] S S2 := p0.tr (by rw [eS2]; exact fw_mi (by decide))
  exact p1.tr (w_fr_nextToken_b292  h)
set_option maxHeartbeats 1000000 in
theorem w_fr_nextToken_b79 {S1 : MS} : ∀ n : Nat, ∀ (S : MS), fr_nextToken_b79 n S = some S1 → FK [4, 7, 8, 9] [] S S1 := by
  intro n
  induction n with
  | zero =>
    intro S h
    have h : (none : Option (MS)) = some S1 := h
    cases h
  | succ n ih =>
    intro S h
    have p0 : FK [4, 7, 8, 9] [] S S := FK.rf
    unfold fr_nextToken_b79 at h
    obtain ⟨v2, ev2, h⟩ := elet_some h
    obtain ⟨r6, S3, eS3, h⟩ := obind2_some h
    have p1 : FK [4, 7, 8, 9] [] S S3 := p0.tr ((w_fr_byteAt eS3).w (by decide))
    obtain ⟨r7, -, h⟩ := obind_some h
    rcases oif_or h with ⟨-, h⟩ | ⟨-, h⟩
    · have h := h
      obtain ⟨v10, ev10, h⟩ := elet_some h
      obtain ⟨v11, ev11, h⟩ := elet_some h
      obtain ⟨v12, ev12, h⟩ := elet_some h
      rcases oif_or h with ⟨-, h⟩ | ⟨-, h⟩
      · have h := h
        exact p1.tr (w_fr_nextToken_b130  h)
      · have h := h
        exact p1.tr (w_fr_nextToken_b130  h)
    · have h := h
      obtain ⟨v14, ev14, h⟩ := elet_some h
      obtain ⟨v15, ev15, h⟩ := elet_some h
      obtain ⟨S16, eS16, h⟩ := elet_some h
      have p2 : FK [4, 7, 8, 9] [] S S16 := p1.tr (by rw [eS16]; exact fw_mi (by decide))
      exact p2.tr (ih _ h)
set_option maxHeartbeats 1000000 in
theorem w_fr_nextToken_b8 {S1 : MS} : ∀ n : Nat, ∀ (S : MS), fr_nextToken_b8 n S = some S1 → FK [4, 7, 8, 9] [] S S1 := by
  intro n
  induction n with
  | zero =>
    intro S h
    have h : (none : Option (MS)) = some S1 := h
    cases h
  | succ n ih =>
    intro S h
    have p0 : FK [4, 7, 8, 9] [] S S := FK.rf
    unfold fr_nextToken_b8 at h
    obtain ⟨v2, ev2, h⟩ := elet_some h
    obtain ⟨r6, S3, eS3, h⟩ := obind2_some h
    have p1 : FK [4, 7, 8, 9] [] S S3 := p0.tr ((w_fr_byteAt eS3).w (by decide))
    rcases oif_or h with ⟨-, h⟩ | ⟨-, h⟩
    · have h := h
      obtain ⟨v8, ev8, h⟩ := elet_some h
      obtain ⟨v9, ev9, h⟩ := elet_some h
      obtain ⟨S10, eS10, h⟩ := elet_some h
      have p2 : FK [4, 7, 8, 9] [] S S10 := p1.tr (by rw [eS10]; exact fw_mi (by decide))
      exact p2.tr (ih _ h)
    · have h := h
      obtain ⟨v11, ev11, h⟩ := elet_some h
      obtain ⟨S12, eS12, h⟩ := elet_some h
      have p3 : FK [4, 7, 8, 9] [] S S12 := p1.tr (by rw [eS12]; exact fw_mi (by decide))
      obtain ⟨v13, ev13, h⟩ := elet_some h
      obtain ⟨v14, ev14, h⟩ := elet_some h
      rcases oif_or h with ⟨-, h⟩ | ⟨-, h⟩
      · have h := h
        obtain ⟨S16, eS16, h⟩ := elet_some h
        have p4 : FK [4, 7, 8, 9] [] S S16 := p3.tr (by rw [eS16]; exact fw_mi (by decide))
        exact p4.tr (w_fr_nextToken_b292  h)
      · have h := h
        obtain ⟨v17, ev17, h⟩ := elet_some h
        obtain ⟨r21, S18, eS18, h⟩ := obind2_some h
        have p5 : FK [4, 7, 8, 9] [] S S18 := p3.tr ((w_fr_byteAt eS18).w (by decide))
        obtain ⟨r22, -, h⟩ := obind_some h
        rcases oif_or h with ⟨-, h⟩ | ⟨-, h⟩
        · have h := h
          obtain ⟨v25, ev25, h⟩ := elet_some h
          obtain ⟨r29, S26, eS26, h⟩ := obind2_some h
          have p6 : FK [4, 7, 8, 9] [] S S26 := p5.tr ((w_fr_byteAt eS26).w (by decide))
          obtain ⟨r30, -, h⟩ := obind_some h
          rcases oif_or h with ⟨-, h⟩ | ⟨-, h⟩
          · have h := h
            obtain ⟨v33, ev33, h⟩ := elet_some h
            obtain ⟨r37, S34, eS34, h⟩ := obind2_some h
            have p7 : FK [4, 7, 8, 9] [] S S34 := p6.tr ((w_fr_byteAt eS34).w (by decide))
            obtain ⟨S38, eS38, h⟩ := elet_some h
            have p8 : FK [4, 7, 8, 9] [] S S38 := p7.tr (by rw [eS38]; exact fw_mi (by decide))
            obtain ⟨v39, ev39, h⟩ := elet_some h
            obtain ⟨r40, -, h⟩ := obind_some h
            rcases oif_or h with ⟨-, h⟩ | ⟨-, h⟩
            · have h := h
              exact p8.tr (w_fr_nextToken_b279  h)
            · have h := h
              exact p8.tr (w_fr_nextToken_b279  h)
          · have h := h
            obtain ⟨S43, eS43, h⟩ := elet_some h
            have p9 : FK [4, 7, 8, 9] [] S S43 := p6.tr (by rw [eS43]; exact fw_mi (by decide))
            exact p9.tr (w_fr_nextToken_b159  _ _ h)
        · have h := h
          exact p5.tr (w_fr_nextToken_b79  _ _ h)
set_option maxHeartbeats 1000000 in
theorem w_fr_nextToken {S : MS} {S1 : MS} (h : fr_nextToken S = some S1) : FK [4, 7, 8, 9] [] S S1 := by
  have p0 : FK [4, 7, 8, 9] [] S S := FK.rf
  unfold fr_nextToken at h
  obtain ⟨v2, ev2, h⟩ := elet_some h
  rcases oif_or h with ⟨-, h⟩ | ⟨-, h⟩
  · have h := h
    exact p0.tr (w_fr_nextToken_b8  _ _ h)
  · have h := h
    rw [← osome1 h]
    exact p0
set_option maxHeartbeats 1000000 in
theorem w_fr_isSignHere_b28 {s0 : Int32} {S : MS} {r1 : Int32} {S1 : MS} (h : fr_isSignHere_b28 S s0 = some (r1, S1)) : FK [] [] S S1 := by
  have p0 : FK [] [] S S := FK.rf
  unfold fr_isSignHere_b28 at h
  have h := (oif_some h).2
  rw [← (osome2 h).2]
  exact p0
set_option maxHeartbeats 1000000 in
theorem w_fr_isSignHere_b27 {S : MS} {r1 : Int32} {S1 : MS} (h : fr_isSignHere_b27 S = some (r1, S1)) : FK [] [] S S1 := by
  have p0 : FK [] [] S S := FK.rf
  unfold fr_isSignHere_b27 at h
  exact p0.tr (w_fr_isSignHere_b28  h)
set_option maxHeartbeats 1000000 in
theorem w_fr_isSignHere {a0 : Int32} {S : MS} {r1 : Int32} {S1 : MS} (h : fr_isSignHere S a0 = some (r1, S1)) : FK [] [] S S1 := by
  have p0 : FK [] [] S S := FK.rf
  unfold fr_isSignHere at h
  obtain ⟨v2, ev2, h⟩ := elet_some h
  rcases oif_or h with ⟨-, h⟩ | ⟨-, h⟩
  · have h := h
    obtain ⟨v4, ev4, h⟩ := elet_some h
    rcases oif_or h with ⟨-, h⟩ | ⟨-, h⟩
    · have h := h
      obtain ⟨v6, ev6, h⟩ := elet_some h
      rcases oif_or h with ⟨-, h⟩ | ⟨-, h⟩
      · have h := h
        exact p0.tr (w_fr_isSignHere_b28  h)
      · have h := h
        exact p0.tr (w_fr_isSignHere_b27  h)
    · have h := h
      exact p0.tr (w_fr_isSignHere_b27  h)
  · have h := h
    exact p0.tr (w_fr_isSignHere_b27  h)
set_option maxHeartbeats 1000000 in
theorem w_fr_isWord_b31 {tx : Nat × (Nat → Int32)} {S : MS} {r1 : Int32} {S1 : MS} (h : fr_isWord_b31 tx S = some (r1, S1)) : FK [] [] S S1 := by
  have p0 : FK [] [] S S := FK.rf
  unfold fr_isWord_b31 at h
  rw [← (osome2 h).2]
  exact p0
set_option maxHeartbeats 1000000 in
theorem w_fr_isWord_b35 {tx : Nat × (Nat → Int32)} {r1 : Int32} {S1 : MS} : ∀ n : Nat, ∀ (S : MS) (y1 : Int32), fr_isWord_b35 tx n S y1 = some (r1, S1) → FK [] [] S S1 := by
  intro n
  induction n with
  | zero =>
    intro S y1 h
    have h : (none : Option (Int32 × MS)) = some (r1, S1) := h
    cases h
  | succ n ih =>
    intro S l2 h
    have p0 : FK [] [] S S := FK.rf
    unfold fr_isWord_b35 at h
    obtain ⟨v3, ev3, h⟩ := elet_some h
    rcases oif_or h with ⟨-, h⟩ | ⟨-, h⟩
    · have h := h
      rw [← (osome2 h).2]
      exact p0
    · have h := h
      obtain ⟨v5, ev5, h⟩ := elet_some h
      obtain ⟨v6, ev6, h⟩ := elet_some h
      have h := (oif_some h).2
      obtain ⟨v8, ev8, h⟩ := elet_some h
      have h := (oif_some h).2
      obtain ⟨v11, ev11, h⟩ := elet_some h
      rcases oif_or h with ⟨-, h⟩ | ⟨-, h⟩
      · have h := h
        obtain ⟨v13, ev13, h⟩ := elet_some h
        exact p0.tr (ih _ _ h)
      · have h := h
        rw [← (osome2 h).2]
        exact p0
set_option maxHeartbeats 1000000 in
theorem w_fr_isWord {tx : Nat × (Nat → Int32)} {S : MS} {r1 : Int32} {S1 : MS} (h : fr_isWord S tx = some (r1, S1)) : FK [] [] S S1 := by
  have p0 : FK [] [] S S := FK.rf
  unfold fr_isWord at h
  obtain ⟨v2, ev2, h⟩ := elet_some h
  rcases oif_or h with ⟨-, h⟩ | ⟨-, h⟩
  · have h := h
    exact p0.tr (w_fr_isWord_b31  h)
  · have h := h
    obtain ⟨v4, ev4, h⟩ := elet_some h
    rcases oif_or h with ⟨-, h⟩ | ⟨-, h⟩
    · have h := h
      obtain ⟨v6, ev6, h⟩ := elet_some h
      obtain ⟨v7, ev7, h⟩ := elet_some h
      obtain ⟨v8, ev8, h⟩ := elet_some h
      obtain ⟨v10, ev10, h⟩ := elet_some h
      rcases oif_or h with ⟨-, h⟩ | ⟨-, h⟩
      · have h := h
        exact p0.tr (w_fr_isWord_b35  _ _ _ h)
      · have h := h
        exact p0.tr (w_fr_isWord_b31  h)
    · have h := h
      exact p0.tr (w_fr_isWord_b31  h)
set_option maxHeartbeats 1000000 in
theorem w_fr_takes_b14 {tx : Nat × (Nat → Int32)} {l2 : Int32} {S : MS} {r1 : Int32} {S1 : MS} (h : fr_takes_b14 tx S l2 = some (r1, S1)) : FK [4, 7, 8, 9] [] S S1 := by
  have p0 : FK [4, 7, 8, 9] [] S S := FK.rf
  unfold fr_takes_b14 at h
  have h := (oif_some h).2
  rw [← (osome2 h).2]
  exact p0
set_option maxHeartbeats 1000000 in
theorem w_fr_takes {tx : Nat × (Nat → Int32)} {S : MS} {r1 : Int32} {S1 : MS} (h : fr_takes S tx = some (r1, S1)) : FK [4, 7, 8, 9] [] S S1 := by
  have p0 : FK [4, 7, 8, 9] [] S S := FK.rf
  unfold fr_takes at h
  obtain ⟨r5, S2, eS2, h⟩ := obind2_some h
  have p1 : FK [4, 7, 8, 9] [] S S2 := p0.tr ((w_fr_isWord eS2).w (by decide))
  rcases oif_or h with ⟨-, h⟩ | ⟨-, h⟩
  · have h := h
    exact p1.tr (w_fr_takes_b14  h)
  · have h := h
    obtain ⟨S7, eS7, h⟩ := obind_some h
    have p2 : FK [4, 7, 8, 9] [] S S7 := p1.tr ((w_fr_nextToken eS7).w (by decide))
    exact p2.tr (w_fr_takes_b14  h)
set_option maxHeartbeats 1000000 in
theorem w_fr_keyword_b13 {tx : Nat × (Nat → Int32)} {S : MS} {S1 : MS} (h : fr_keyword_b13 tx S = some S1) : FK [4, 5, 6, 7, 8, 9] [] S S1 := by
  have p0 : FK [4, 5, 6, 7, 8, 9] [] S S := FK.rf
  unfold fr_keyword_b13 at h
  rw [← osome1 h]
  exact p0
set_option maxHeartbeats 1000000 in
theorem w_fr_keyword {tx : Nat × (Nat → Int32)} {S : MS} {S1 : MS} (h : fr_keyword S tx = some S1) : FK [4, 5, 6, 7, 8, 9] [] S S1 := by
  have p0 : FK [4, 5, 6, 7, 8, 9] [] S S := FK.rf
  unfold fr_keyword at h
  obtain ⟨r5, S2, eS2, h⟩ := obind2_some h
  have p1 : FK [4, 5, 6, 7, 8, 9] [] S S2 := p0.tr ((w_fr_takes eS2).w (by decide))
  rcases oif_or h with ⟨-, h⟩ | ⟨-, h⟩
  · have h := h
    obtain ⟨S7, eS7, h⟩ := obind_some h
    have p2 : FK [4, 5, 6, 7, 8, 9] [] S S7 := p1.tr ((w_fr_faults eS7).w (by decide))
    exact p2.tr (w_fr_keyword_b13  h)
  · have h := h
    exact p1.tr (w_fr_keyword_b13  h)
set_option maxHeartbeats 1000000 in
theorem w_fr_look_b57 {s0 : Int32} {S : MS} {r1 : Int32} {S1 : MS} (h : fr_look_b57 S s0 = some (r1, S1)) : FK [5, 6] [] S S1 := by
  have p0 : FK [5, 6] [] S S := FK.rf
  unfold fr_look_b57 at h
  rw [← (osome2 h).2]
  exact p0
set_option maxHeartbeats 1000000 in
theorem w_fr_look_b42 {l1 : Int32} {S : MS} {r1 : Int32} {S1 : MS} (h : fr_look_b42 S l1 = some (r1, S1)) : FK [5, 6] [] S S1 := by
  have p0 : FK [5, 6] [] S S := FK.rf
  unfold fr_look_b42 at h
  obtain ⟨v2, ev2, h⟩ := elet_some h
  rcases oif_or h with ⟨-, h⟩ | ⟨-, h⟩
  · have h := h
    obtain ⟨v4, ev4, h⟩ := elet_some h
    exact p0.tr (w_fr_look_b57  h)
  · have h := h
    exact p0.tr (w_fr_look_b57  h)
set_option maxHeartbeats 1000000 in
theorem w_fr_look {a0 : Int32} {a1 : Int32} {S : MS} {r1 : Int32} {S1 : MS} (h : fr_look S a0 a1 = some (r1, S1)) : FK [5, 6] [] S S1 := by
  have p0 : FK [5, 6] [] S S := FK.rf
  unfold fr_look at h
  obtain ⟨v2, ev2, h⟩ := elet_some h
  rcases oif_or h with ⟨-, h⟩ | ⟨-, h⟩
  · have h := h
    obtain ⟨v4, ev4, h⟩ := elet_some h
    rcases oif_or h with ⟨-, h⟩ | ⟨-, h⟩
    · have h := h
      obtain ⟨v6, ev6, h⟩ := elet_some h
      obtain ⟨r7, -, h⟩ := obind_some h
      rcases oif_or h with ⟨-, h⟩ | ⟨-, h⟩
      · have h := h
        obtain ⟨S10, eS10, h⟩ := obind_some h
        have p1 : FK [5, 6] [] S S10 := p0.tr ((w_fr_faults eS10).w (by decide))
        exact p1.tr (w_fr_look_b42  h)
      · have h := h
        exact p0.tr (w_fr_look_b42  h)
    · have h := h
      obtain ⟨S13, eS13, h⟩ := obind_some h
      have p2 : FK [5, 6] [] S S13 := p0.tr ((w_fr_faults eS13).w (by decide))
      exact p2.tr (w_fr_look_b42  h)
  · have h := h
    rw [← (osome2 h).2]
    exact p0
set_option maxHeartbeats 1000000 in
theorem w_fr_number {a0 : Int32} {a1 : Int32} {S : MS} {r1 : Int32} {S1 : MS} (h : fr_number S a0 a1 = some (r1, S1)) : FK [4, 5, 6, 7, 8, 9] [] S S1 := by
  have p0 : FK [4, 5, 6, 7, 8, 9] [] S S := FK.rf
  unfold fr_number at h
  obtain ⟨r5, S2, eS2, h⟩ := obind2_some h
  have p1 : FK [4, 5, 6, 7, 8, 9] [] S S2 := p0.tr ((w_fr_look eS2).w (by decide))
  obtain ⟨S6, eS6, h⟩ := obind_some h
  have p2 : FK [4, 5, 6, 7, 8, 9] [] S S6 := p1.tr ((w_fr_nextToken eS6).w (by decide))
  rw [← (osome2 h).2]
  exact p2
set_option maxHeartbeats 1000000 in
theorem w_fr_gauge {tx : Nat × (Nat → Int32)} {a1 : Int32} {a2 : Int32} {S : MS} {r1 : Int32} {S1 : MS} (h : fr_gauge S tx a1 a2 = some (r1, S1)) : FK [4, 5, 6, 7, 8, 9] [] S S1 := by
  have p0 : FK [4, 5, 6, 7, 8, 9] [] S S := FK.rf
  unfold fr_gauge at h
  obtain ⟨S2, eS2, h⟩ := obind_some h
  have p1 : FK [4, 5, 6, 7, 8, 9] [] S S2 := p0.tr ((w_fr_keyword eS2).w (by decide))
  obtain ⟨r8, S5, eS5, h⟩ := obind2_some h
  have p2 : FK [4, 5, 6, 7, 8, 9] [] S S5 := p1.tr ((w_fr_number eS5).w (by decide))
  rw [← (osome2 h).2]
  exact p2
set_option maxHeartbeats 1000000 in
theorem w_fr_signed_b37 {s0 : Int32} {S : MS} {r1 : Int32} {S1 : MS} (h : fr_signed_b37 S s0 = some (r1, S1)) : FK [4, 5, 6, 7, 8, 9] [] S S1 := by
  have p0 : FK [4, 5, 6, 7, 8, 9] [] S S := FK.rf
  unfold fr_signed_b37 at h
  rw [← (osome2 h).2]
  exact p0
set_option maxHeartbeats 1000000 in
theorem w_fr_signed_b15 {l1 : Int32} {l2 : Int32} {l3 : Int32} {S : MS} {r1 : Int32} {S1 : MS} (h : fr_signed_b15 S l1 l2 l3 = some (r1, S1)) : FK [4, 5, 6, 7, 8, 9] [] S S1 := by
  have p0 : FK [4, 5, 6, 7, 8, 9] [] S S := FK.rf
  unfold fr_signed_b15 at h
  rcases oif_or h with ⟨-, h⟩ | ⟨-, h⟩
  · have h := h
    obtain ⟨r6, S3, eS3, h⟩ := obind2_some h
    have p1 : FK [4, 5, 6, 7, 8, 9] [] S S3 := p0.tr ((w_fr_number eS3).w (by decide))
    exact p1.tr (w_fr_signed_b37  h)
  · have h := h
    obtain ⟨v7, ev7, h⟩ := elet_some h
    obtain ⟨v8, ev8, h⟩ := elet_some h
    obtain ⟨r12, S9, eS9, h⟩ := obind2_some h
    have p2 : FK [4, 5, 6, 7, 8, 9] [] S S9 := p0.tr ((w_fr_number eS9).w (by decide))
    obtain ⟨v13, ev13, h⟩ := elet_some h
    exact p2.tr (w_fr_signed_b37  h)
set_option maxHeartbeats 1000000 in
theorem w_fr_signed {a0 : Int32} {a1 : Int32} {S : MS} {r1 : Int32} {S1 : MS} (h : fr_signed S a0 a1 = some (r1, S1)) : FK [4, 5, 6, 7, 8, 9] [] S S1 := by
  have p0 : FK [4, 5, 6, 7, 8, 9] [] S S := FK.rf
  unfold fr_signed at h
  obtain ⟨r5, S2, eS2, h⟩ := obind2_some h
  have p1 : FK [4, 5, 6, 7, 8, 9] [] S S2 := p0.tr ((w_fr_isSignHere eS2).w (by decide))
  rcases oif_or h with ⟨-, h⟩ | ⟨-, h⟩
  · have h := h
    exact p1.tr (w_fr_signed_b15  h)
  · have h := h
    obtain ⟨S7, eS7, h⟩ := obind_some h
    have p2 : FK [4, 5, 6, 7, 8, 9] [] S S7 := p1.tr ((w_fr_nextToken eS7).w (by decide))
    exact p2.tr (w_fr_signed_b15  h)
set_option maxHeartbeats 1000000 in
theorem w_fr_readFirst {S : MS} {S1 : MS} (h : fr_readFirst S = some S1) : FK [4, 5, 6, 7, 8, 9] [11] S S1 := by
  have p0 : FK [4, 5, 6, 7, 8, 9] [11] S S := FK.rf
  unfold fr_readFirst at h
  obtain ⟨S3, eS3, h⟩ := obind_some h
  have p1 : FK [4, 5, 6, 7, 8, 9] [11] S S3 := p0.tr ((w_fr_keyword eS3).w (by decide))
  obtain ⟨r10, S7, eS7, h⟩ := obind2_some h
  have p2 : FK [4, 5, 6, 7, 8, 9] [11] S S7 := p1.tr ((w_fr_gauge eS7).w (by decide))
  obtain ⟨S11, eS11, h⟩ := elet_some h
  have p3 : FK [4, 5, 6, 7, 8, 9] [11] S S11 := p2.tr (by rw [eS11]; exact fw_mf (by decide))
  obtain ⟨r16, S13, eS13, h⟩ := obind2_some h
  have p4 : FK [4, 5, 6, 7, 8, 9] [11] S S13 := p3.tr ((w_fr_gauge eS13).w (by decide))
  obtain ⟨S17, eS17, h⟩ := elet_some h
  have p5 : FK [4, 5, 6, 7, 8, 9] [11] S S17 := p4.tr (by rw [eS17]; exact fw_mf (by decide))
  obtain ⟨r22, S19, eS19, h⟩ := obind2_some h
  have p6 : FK [4, 5, 6, 7, 8, 9] [11] S S19 := p5.tr ((w_fr_gauge eS19).w (by decide))
  obtain ⟨S23, eS23, h⟩ := elet_some h
  have p7 : FK [4, 5, 6, 7, 8, 9] [11] S S23 := p6.tr (by rw [eS23]; exact fw_mf (by decide))
  obtain ⟨r28, S25, eS25, h⟩ := obind2_some h
  have p8 : FK [4, 5, 6, 7, 8, 9] [11] S S25 := p7.tr ((w_fr_gauge eS25).w (by decide))
  obtain ⟨S29, eS29, h⟩ := elet_some h
  have p9 : FK [4, 5, 6, 7, 8, 9] [11] S S29 := p8.tr (by rw [eS29]; exact fw_mf (by decide))
  rw [← osome1 h]
  exact p9
set_option maxHeartbeats 1000000 in
theorem w_fr_readMic_b18 {l1 : Int32} {S : MS} {S1 : MS} (h : fr_readMic_b18 S l1 = some S1) : FK [4, 5, 6, 7, 8, 9] [11] S S1 := by
  have p0 : FK [4, 5, 6, 7, 8, 9] [11] S S := FK.rf
  unfold fr_readMic_b18 at h
  obtain ⟨S2, eS2, h⟩ := obind_some h
  have p1 : FK [4, 5, 6, 7, 8, 9] [11] S S2 := p0.tr ((w_fr_nextToken eS2).w (by decide))
  obtain ⟨r8, S5, eS5, h⟩ := obind2_some h
  have p2 : FK [4, 5, 6, 7, 8, 9] [11] S S5 := p1.tr ((w_fr_signed eS5).w (by decide))
  obtain ⟨r12, S9, eS9, h⟩ := obind2_some h
  have p3 : FK [4, 5, 6, 7, 8, 9] [11] S S9 := p2.tr ((w_fr_signed eS9).w (by decide))
  obtain ⟨r16, S13, eS13, h⟩ := obind2_some h
  have p4 : FK [4, 5, 6, 7, 8, 9] [11] S S13 := p3.tr ((w_fr_number eS13).w (by decide))
  obtain ⟨v17, ev17, h⟩ := elet_some h
  rcases oif_or h with ⟨-, h⟩ | ⟨-, h⟩
  · have h := h
    obtain ⟨v19, ev19, h⟩ := elet_some h
    have h := (oif_some h).2
    obtain ⟨S21, eS21, h⟩ := elet_some h
    have p5 : FK [4, 5, 6, 7, 8, 9] [11] S S21 := p4.tr (by rw [eS21]; exact fw_mf (by decide))
    obtain ⟨v22, ev22, h⟩ := elet_some h
    have h := (oif_some h).2
    obtain ⟨S24, eS24, h⟩ := elet_some h
    have p6 : FK [4, 5, 6, 7, 8, 9] [11] S S24 := p5.tr (by rw [eS24]; exact fw_mf (by decide))
    obtain ⟨v25, ev25, h⟩ := elet_some h
    have h := (oif_some h).2
    obtain ⟨S27, eS27, h⟩ := elet_some h
    have p7 : FK [4, 5, 6, 7, 8, 9] [11] S S27 := p6.tr (by rw [eS27]; exact fw_mf (by decide))
    obtain ⟨v28, ev28, h⟩ := elet_some h
    obtain ⟨v29, ev29, h⟩ := elet_some h
    obtain ⟨S30, eS30, h⟩ := elet_some h
    have p8 : FK [4, 5, 6, 7, 8, 9] [11] S S30 := p7.tr (by rw [eS30]; exact fw_mf (by decide))
    rw [← osome1 h]
    exact p8
  · have h := h
    rw [← osome1 h]
    exact p4
set_option maxHeartbeats 1000000 in
theorem w_fr_readMic {S : MS} {S1 : MS} (h : fr_readMic S = some S1) : FK [4, 5, 6, 7, 8, 9] [11] S S1 := by
  have p0 : FK [4, 5, 6, 7, 8, 9] [11] S S := FK.rf
  unfold fr_readMic at h
  obtain ⟨v2, ev2, h⟩ := elet_some h
  rcases oif_or h with ⟨-, h⟩ | ⟨-, h⟩
  · have h := h
    obtain ⟨S4, eS4, h⟩ := obind_some h
    have p1 : FK [4, 5, 6, 7, 8, 9] [11] S S4 := p0.tr ((w_fr_faults eS4).w (by decide))
    exact p1.tr (w_fr_readMic_b18  h)
  · have h := h
    exact p0.tr (w_fr_readMic_b18  h)
set_option maxHeartbeats 1000000 in
theorem w_fr_readMap_b15 {S : MS} {S1 : MS} (h : fr_readMap_b15 S = some S1) : FK [4, 5, 6, 7, 8, 9] [11] S S1 := by
  have p0 : FK [4, 5, 6, 7, 8, 9] [11] S S := FK.rf
  unfold fr_readMap_b15 at h
  obtain ⟨S2, eS2, h⟩ := obind_some h
  have p1 : FK [4, 5, 6, 7, 8, 9] [11] S S2 := p0.tr ((w_fr_nextToken eS2).w (by decide))
  obtain ⟨r8, S5, eS5, h⟩ := obind2_some h
  have p2 : FK [4, 5, 6, 7, 8, 9] [11] S S5 := p1.tr ((w_fr_signed eS5).w (by decide))
  obtain ⟨r12, S9, eS9, h⟩ := obind2_some h
  have p3 : FK [4, 5, 6, 7, 8, 9] [11] S S9 := p2.tr ((w_fr_signed eS9).w (by decide))
  obtain ⟨r16, S13, eS13, h⟩ := obind2_some h
  have p4 : FK [4, 5, 6, 7, 8, 9] [11] S S13 := p3.tr ((w_fr_number eS13).w (by decide))
  obtain ⟨r20, S17, eS17, h⟩ := obind2_some h
  have p5 : FK [4, 5, 6, 7, 8, 9] [11] S S17 := p4.tr ((w_fr_number eS17).w (by decide))
  obtain ⟨r24, S21, eS21, h⟩ := obind2_some h
  have p6 : FK [4, 5, 6, 7, 8, 9] [11] S S21 := p5.tr ((w_fr_number eS21).w (by decide))
  obtain ⟨v25, ev25, h⟩ := elet_some h
  rcases oif_or h with ⟨-, h⟩ | ⟨-, h⟩
  · have h := h
    obtain ⟨S27, eS27, h⟩ := elet_some h
    have p7 : FK [4, 5, 6, 7, 8, 9] [11] S S27 := p6.tr (by rw [eS27]; exact fw_mf (by decide))
    obtain ⟨S28, eS28, h⟩ := elet_some h
    have p8 : FK [4, 5, 6, 7, 8, 9] [11] S S28 := p7.tr (by rw [eS28]; exact fw_mf (by decide))
    obtain ⟨S29, eS29, h⟩ := elet_some h
    have p9 : FK [4, 5, 6, 7, 8, 9] [11] S S29 := p8.tr (by rw [eS29]; exact fw_mf (by decide))
    obtain ⟨S30, eS30, h⟩ := elet_some h
    have p10 : FK [4, 5, 6, 7, 8, 9] [11] S S30 := p9.tr (by rw [eS30]; exact fw_mf (by decide))
    obtain ⟨S31, eS31, h⟩ := elet_some h
    have p11 : FK [4, 5, 6, 7, 8, 9] [11] S S31 := p10.tr (by rw [eS31]; exact fw_mf (by decide))
    rw [← osome1 h]
    exact p11
  · have h := h
    rw [← osome1 h]
    exact p6
set_option maxHeartbeats 1000000 in
theorem w_fr_readMap {S : MS} {S1 : MS} (h : fr_readMap S = some S1) : FK [4, 5, 6, 7, 8, 9] [11] S S1 := by
  have p0 : FK [4, 5, 6, 7, 8, 9] [11] S S := FK.rf
  unfold fr_readMap at h
  obtain ⟨v2, ev2, h⟩ := elet_some h
  rcases oif_or h with ⟨-, h⟩ | ⟨-, h⟩
  · have h := h
    exact p0.tr (w_fr_readMap_b15  h)
  · have h := h
    obtain ⟨S4, eS4, h⟩ := obind_some h
    have p1 : FK [4, 5, 6, 7, 8, 9] [11] S S4 := p0.tr ((w_fr_faults eS4).w (by decide))
    exact p1.tr (w_fr_readMap_b15  h)
set_option maxHeartbeats 1000000 in
theorem w_fr_readSource_b186 {s0 : Int32} {l1 : Int32} {l2 : Int32} {l3 : Int32} {l4 : Int32} {l5 : Int32} {l6 : Int32} {l7 : Int32} {l8 : Int32} {l9 : Int32} {S : MS} {S1 : MS} (h : fr_readSource_b186 S s0 l1 l2 l3 l4 l5 l6 l7 l8 l9 = some S1) : FK [4, 5, 6, 7, 8, 9] [11, 13] S S1 := by
  have p0 : FK [4, 5, 6, 7, 8, 9] [11, 13] S S := FK.rf
  unfold fr_readSource_b186 at h
  obtain ⟨v2, ev2, h⟩ := elet_some h
  rcases oif_or h with ⟨-, h⟩ | ⟨-, h⟩
  · have h := h
    obtain ⟨v4, ev4, h⟩ := elet_some h
    have h := (oif_some h).2
    obtain ⟨S6, eS6, h⟩ := elet_some h
    have p1 : FK [4, 5, 6, 7, 8, 9] [11, 13] S S6 := p0.tr (by rw [eS6]; exact fw_mf (by decide))
    obtain ⟨v7, ev7, h⟩ := elet_some h
    have h := (oif_some h).2
    obtain ⟨S9, eS9, h⟩ := elet_some h
    have p2 : FK [4, 5, 6, 7, 8, 9] [11, 13] S S9 := p1.tr (by rw [eS9]; exact fw_mf (by decide))
    obtain ⟨v10, ev10, h⟩ := elet_some h
    have h := (oif_some h).2
    obtain ⟨S12, eS12, h⟩ := elet_some h
    have p3 : FK [4, 5, 6, 7, 8, 9] [11, 13] S S12 := p2.tr (by rw [eS12]; exact fw_mf (by decide))
    obtain ⟨v13, ev13, h⟩ := elet_some h
    have h := (oif_some h).2
    obtain ⟨S15, eS15, h⟩ := elet_some h
    have p4 : FK [4, 5, 6, 7, 8, 9] [11, 13] S S15 := p3.tr (by rw [eS15]; exact fw_mf (by decide))
    obtain ⟨v16, ev16, h⟩ := elet_some h
    have h := (oif_some h).2
    obtain ⟨S18, eS18, h⟩ := elet_some h
    have p5 : FK [4, 5, 6, 7, 8, 9] [11, 13] S S18 := p4.tr (by rw [eS18]; exact fw_mf (by decide))
    obtain ⟨v19, ev19, h⟩ := elet_some h
    have h := (oif_some h).2
    obtain ⟨S21, eS21, h⟩ := elet_some h
    have p6 : FK [4, 5, 6, 7, 8, 9] [11, 13] S S21 := p5.tr (by rw [eS21]; exact fw_mf (by decide))
    obtain ⟨v22, ev22, h⟩ := elet_some h
    have h := (oif_some h).2
    obtain ⟨S24, eS24, h⟩ := elet_some h
    have p7 : FK [4, 5, 6, 7, 8, 9] [11, 13] S S24 := p6.tr (by rw [eS24]; exact fw_mf (by decide))
    obtain ⟨v25, ev25, h⟩ := elet_some h
    have h := (oif_some h).2
    obtain ⟨S27, eS27, h⟩ := elet_some h
    have p8 : FK [4, 5, 6, 7, 8, 9] [11, 13] S S27 := p7.tr (by rw [eS27]; exact fw_mf (by decide))
    obtain ⟨v28, ev28, h⟩ := elet_some h
    have h := (oif_some h).2
    obtain ⟨S30, eS30, h⟩ := elet_some h
    have p9 : FK [4, 5, 6, 7, 8, 9] [11, 13] S S30 := p8.tr (by rw [eS30]; exact fw_mf (by decide))
    obtain ⟨v31, ev31, h⟩ := elet_some h
    have h := (oif_some h).2
    obtain ⟨S33, eS33, h⟩ := elet_some h
    have p10 : FK [4, 5, 6, 7, 8, 9] [11, 13] S S33 := p9.tr (by rw [eS33]; exact fw_mf (by decide))
    obtain ⟨v34, ev34, h⟩ := elet_some h
    obtain ⟨v35, ev35, h⟩ := elet_some h
    obtain ⟨S36, eS36, h⟩ := elet_some h
    have p11 : FK [4, 5, 6, 7, 8, 9] [11, 13] S S36 := p10.tr (by rw [eS36]; exact fw_mf (by decide))
    rw [← osome1 h]
    exact p11
  · have h := h
    rw [← osome1 h]
    exact p0
set_option maxHeartbeats 1000000 in
theorem w_fr_readSource_b86 {l1 : Int32} {l2 : Int32} {S : MS} {S1 : MS} (h : fr_readSource_b86 S l1 l2 = some S1) : FK [4, 5, 6, 7, 8, 9] [11, 13] S S1 := by
  have p0 : FK [4, 5, 6, 7, 8, 9] [11, 13] S S := FK.rf
  unfold fr_readSource_b86 at h
  obtain ⟨S2, eS2, h⟩ := obind_some h
  have p1 : FK [4, 5, 6, 7, 8, 9] [11, 13] S S2 := p0.tr ((w_fr_nextToken eS2).w (by decide))
  obtain ⟨r8, S5, eS5, h⟩ := obind2_some h
  have p2 : FK [4, 5, 6, 7, 8, 9] [11, 13] S S5 := p1.tr ((w_fr_signed eS5).w (by decide))
  obtain ⟨r12, S9, eS9, h⟩ := obind2_some h
  have p3 : FK [4, 5, 6, 7, 8, 9] [11, 13] S S9 := p2.tr ((w_fr_signed eS9).w (by decide))
  obtain ⟨r16, S13, eS13, h⟩ := obind2_some h
  have p4 : FK [4, 5, 6, 7, 8, 9] [11, 13] S S13 := p3.tr ((w_fr_signed eS13).w (by decide))
  obtain ⟨r20, S17, eS17, h⟩ := obind2_some h
  have p5 : FK [4, 5, 6, 7, 8, 9] [11, 13] S S17 := p4.tr ((w_fr_signed eS17).w (by decide))
  obtain ⟨r24, S21, eS21, h⟩ := obind2_some h
  have p6 : FK [4, 5, 6, 7, 8, 9] [11, 13] S S21 := p5.tr ((w_fr_number eS21).w (by decide))
  obtain ⟨r28, S25, eS25, h⟩ := obind2_some h
  have p7 : FK [4, 5, 6, 7, 8, 9] [11, 13] S S25 := p6.tr ((w_fr_number eS25).w (by decide))
  obtain ⟨r32, S29, eS29, h⟩ := obind2_some h
  have p8 : FK [4, 5, 6, 7, 8, 9] [11, 13] S S29 := p7.tr ((w_fr_number eS29).w (by decide))
  obtain ⟨r37, S34, eS34, h⟩ := obind2_some h
  have p9 : FK [4, 5, 6, 7, 8, 9] [11, 13] S S34 := p8.tr ((w_fr_takes eS34).w (by decide))
  rcases oif_or h with ⟨-, h⟩ | ⟨-, h⟩
  · have h := h
    exact p9.tr (w_fr_readSource_b186  h)
  · have h := h
    obtain ⟨r42, S39, eS39, h⟩ := obind2_some h
    have p10 : FK [4, 5, 6, 7, 8, 9] [11, 13] S S39 := p9.tr ((w_fr_number eS39).w (by decide))
    exact p10.tr (w_fr_readSource_b186  h)
set_option maxHeartbeats 1000000 in
theorem w_fr_readSource_b75 {s0 : Int32} {l1 : Int32} {S : MS} {S1 : MS} (h : fr_readSource_b75 S s0 l1 = some S1) : FK [4, 5, 6, 7, 8, 9] [11, 13] S S1 := by
  have p0 : FK [4, 5, 6, 7, 8, 9] [11, 13] S S := FK.rf
  unfold fr_readSource_b75 at h
  rcases oif_or h with ⟨-, h⟩ | ⟨-, h⟩
  · have h := h
    obtain ⟨S3, eS3, h⟩ := obind_some h
    have p1 : FK [4, 5, 6, 7, 8, 9] [11, 13] S S3 := p0.tr ((w_fr_faults eS3).w (by decide))
    exact p1.tr (w_fr_readSource_b86  h)
  · have h := h
    exact p0.tr (w_fr_readSource_b86  h)
set_option maxHeartbeats 1000000 in
theorem w_fr_readSource_b18 {l1 : Int32} {S : MS} {S1 : MS} (h : fr_readSource_b18 S l1 = some S1) : FK [4, 5, 6, 7, 8, 9] [11, 13] S S1 := by
  have p0 : FK [4, 5, 6, 7, 8, 9] [11, 13] S S := FK.rf
  unfold fr_readSource_b18 at h
  obtain ⟨S2, eS2, h⟩ := obind_some h
  have p1 : FK [4, 5, 6, 7, 8, 9] [11, 13] S S2 := p0.tr ((w_fr_nextToken eS2).w (by decide))
  obtain ⟨r9, S6, eS6, h⟩ := obind2_some h
  have p2 : FK [4, 5, 6, 7, 8, 9] [11, 13] S S6 := p1.tr ((w_fr_isWord eS6).w (by decide))
  rcases oif_or h with ⟨-, h⟩ | ⟨-, h⟩
  · have h := h
    obtain ⟨r15, S12, eS12, h⟩ := obind2_some h
    have p3 : FK [4, 5, 6, 7, 8, 9] [11, 13] S S12 := p2.tr ((w_fr_isWord eS12).w (by decide))
    rcases oif_or h with ⟨-, h⟩ | ⟨-, h⟩
    · have h := h
      obtain ⟨r21, S18, eS18, h⟩ := obind2_some h
      have p4 : FK [4, 5, 6, 7, 8, 9] [11, 13] S S18 := p3.tr ((w_fr_isWord eS18).w (by decide))
      rcases oif_or h with ⟨-, h⟩ | ⟨-, h⟩
      · have h := h
        obtain ⟨r27, S24, eS24, h⟩ := obind2_some h
        have p5 : FK [4, 5, 6, 7, 8, 9] [11, 13] S S24 := p4.tr ((w_fr_isWord eS24).w (by decide))
        rcases oif_or h with ⟨-, h⟩ | ⟨-, h⟩
        · have h := h
          exact p5.tr (w_fr_readSource_b75  h)
        · have h := h
          exact p5.tr (w_fr_readSource_b75  h)
      · have h := h
        exact p4.tr (w_fr_readSource_b75  h)
    · have h := h
      exact p3.tr (w_fr_readSource_b75  h)
  · have h := h
    exact p2.tr (w_fr_readSource_b75  h)
set_option maxHeartbeats 1000000 in
theorem w_fr_readSource {S : MS} {S1 : MS} (h : fr_readSource S = some S1) : FK [4, 5, 6, 7, 8, 9] [11, 13] S S1 := by
  have p0 : FK [4, 5, 6, 7, 8, 9] [11, 13] S S := FK.rf
  unfold fr_readSource at h
  obtain ⟨v2, ev2, h⟩ := elet_some h
  rcases oif_or h with ⟨-, h⟩ | ⟨-, h⟩
  · have h := h
    obtain ⟨S4, eS4, h⟩ := obind_some h
    have p1 : FK [4, 5, 6, 7, 8, 9] [11, 13] S S4 := p0.tr ((w_fr_faults eS4).w (by decide))
    exact p1.tr (w_fr_readSource_b18  h)
  · have h := h
    exact p0.tr (w_fr_readSource_b18  h)
set_option maxHeartbeats 1000000 in
theorem w_fr_readWall_b18 {l1 : Int32} {S : MS} {S1 : MS} (h : fr_readWall_b18 S l1 = some S1) : FK [4, 5, 6, 7, 8, 9] [11] S S1 := by
  have p0 : FK [4, 5, 6, 7, 8, 9] [11] S S := FK.rf
  unfold fr_readWall_b18 at h
  obtain ⟨S2, eS2, h⟩ := obind_some h
  have p1 : FK [4, 5, 6, 7, 8, 9] [11] S S2 := p0.tr ((w_fr_nextToken eS2).w (by decide))
  obtain ⟨r8, S5, eS5, h⟩ := obind2_some h
  have p2 : FK [4, 5, 6, 7, 8, 9] [11] S S5 := p1.tr ((w_fr_signed eS5).w (by decide))
  obtain ⟨r12, S9, eS9, h⟩ := obind2_some h
  have p3 : FK [4, 5, 6, 7, 8, 9] [11] S S9 := p2.tr ((w_fr_number eS9).w (by decide))
  obtain ⟨v13, ev13, h⟩ := elet_some h
  rcases oif_or h with ⟨-, h⟩ | ⟨-, h⟩
  · have h := h
    obtain ⟨v15, ev15, h⟩ := elet_some h
    have h := (oif_some h).2
    obtain ⟨S17, eS17, h⟩ := elet_some h
    have p4 : FK [4, 5, 6, 7, 8, 9] [11] S S17 := p3.tr (by rw [eS17]; exact fw_mf (by decide))
    obtain ⟨v18, ev18, h⟩ := elet_some h
    have h := (oif_some h).2
    obtain ⟨S20, eS20, h⟩ := elet_some h
    have p5 : FK [4, 5, 6, 7, 8, 9] [11] S S20 := p4.tr (by rw [eS20]; exact fw_mf (by decide))
    obtain ⟨v21, ev21, h⟩ := elet_some h
    obtain ⟨v22, ev22, h⟩ := elet_some h
    obtain ⟨S23, eS23, h⟩ := elet_some h
    have p6 : FK [4, 5, 6, 7, 8, 9] [11] S S23 := p5.tr (by rw [eS23]; exact fw_mf (by decide))
    rw [← osome1 h]
    exact p6
  · have h := h
    rw [← osome1 h]
    exact p3
set_option maxHeartbeats 1000000 in
theorem w_fr_readWall {S : MS} {S1 : MS} (h : fr_readWall S = some S1) : FK [4, 5, 6, 7, 8, 9] [11] S S1 := by
  have p0 : FK [4, 5, 6, 7, 8, 9] [11] S S := FK.rf
  unfold fr_readWall at h
  obtain ⟨v2, ev2, h⟩ := elet_some h
  rcases oif_or h with ⟨-, h⟩ | ⟨-, h⟩
  · have h := h
    obtain ⟨S4, eS4, h⟩ := obind_some h
    have p1 : FK [4, 5, 6, 7, 8, 9] [11] S S4 := p0.tr ((w_fr_faults eS4).w (by decide))
    exact p1.tr (w_fr_readWall_b18  h)
  · have h := h
    exact p0.tr (w_fr_readWall_b18  h)
set_option maxHeartbeats 1000000 in
theorem w_fr_readFade_b43 {S : MS} {S1 : MS} (h : fr_readFade_b43 S = some S1) : FK [4, 5, 6, 7, 8, 9] [11] S S1 := by
  have p0 : FK [4, 5, 6, 7, 8, 9] [11] S S := FK.rf
  unfold fr_readFade_b43 at h
  rw [← osome1 h]
  exact p0
set_option maxHeartbeats 1000000 in
theorem w_fr_readFade_b15 {S : MS} {S1 : MS} (h : fr_readFade_b15 S = some S1) : FK [4, 5, 6, 7, 8, 9] [11] S S1 := by
  have p0 : FK [4, 5, 6, 7, 8, 9] [11] S S := FK.rf
  unfold fr_readFade_b15 at h
  obtain ⟨S2, eS2, h⟩ := obind_some h
  have p1 : FK [4, 5, 6, 7, 8, 9] [11] S S2 := p0.tr ((w_fr_nextToken eS2).w (by decide))
  obtain ⟨r8, S5, eS5, h⟩ := obind2_some h
  have p2 : FK [4, 5, 6, 7, 8, 9] [11] S S5 := p1.tr ((w_fr_number eS5).w (by decide))
  obtain ⟨v9, ev9, h⟩ := elet_some h
  rcases oif_or h with ⟨-, h⟩ | ⟨-, h⟩
  · have h := h
    obtain ⟨S11, eS11, h⟩ := elet_some h
    have p3 : FK [4, 5, 6, 7, 8, 9] [11] S S11 := p2.tr (by rw [eS11]; exact fw_mf (by decide))
    exact p3.tr (w_fr_readFade_b43  h)
  · have h := h
    exact p2.tr (w_fr_readFade_b43  h)
set_option maxHeartbeats 1000000 in
theorem w_fr_readFade {S : MS} {S1 : MS} (h : fr_readFade S = some S1) : FK [4, 5, 6, 7, 8, 9] [11] S S1 := by
  have p0 : FK [4, 5, 6, 7, 8, 9] [11] S S := FK.rf
  unfold fr_readFade at h
  obtain ⟨v2, ev2, h⟩ := elet_some h
  rcases oif_or h with ⟨-, h⟩ | ⟨-, h⟩
  · have h := h
    exact p0.tr (w_fr_readFade_b15  h)
  · have h := h
    obtain ⟨S4, eS4, h⟩ := obind_some h
    have p1 : FK [4, 5, 6, 7, 8, 9] [11] S S4 := p0.tr ((w_fr_faults eS4).w (by decide))
    exact p1.tr (w_fr_readFade_b15  h)
set_option maxHeartbeats 1000000 in
theorem w_fr_readFilter_b65 {k19 : MS → Option (MS)} {S : MS} {S1 : MS} (hk19 : ∀ (x0 : MS), k19 x0 = some S1 → FK [4, 5, 6, 7, 8, 9] [11] x0 S1) (h : fr_readFilter_b65 k19 S = some S1) : FK [4, 5, 6, 7, 8, 9] [11] S S1 := by
  have p0 : FK [4, 5, 6, 7, 8, 9] [11] S S := FK.rf
  unfold fr_readFilter_b65 at h
  obtain ⟨r5, S2, eS2, h⟩ := obind2_some h
  have p1 : FK [4, 5, 6, 7, 8, 9] [11] S S2 := p0.tr ((w_fr_signed eS2).w (by decide))
  obtain ⟨v6, ev6, h⟩ := elet_some h
  rcases oif_or h with ⟨-, h⟩ | ⟨-, h⟩
  · have h := h
    obtain ⟨v8, ev8, h⟩ := elet_some h
    obtain ⟨v9, ev9, h⟩ := elet_some h
    have h := (oif_some h).2
    obtain ⟨S11, eS11, h⟩ := elet_some h
    have p2 : FK [4, 5, 6, 7, 8, 9] [11] S S11 := p1.tr (by rw [eS11]; exact fw_mf (by decide))
    obtain ⟨v12, ev12, h⟩ := elet_some h
    obtain ⟨v13, ev13, h⟩ := elet_some h
    obtain ⟨S14, eS14, h⟩ := elet_some h
    have p3 : FK [4, 5, 6, 7, 8, 9] [11] S S14 := p2.tr (by rw [eS14]; exact fw_mf (by decide))
    obtain ⟨v15, ev15, h⟩ := elet_some h
    rcases oif_or h with ⟨-, h⟩ | ⟨-, h⟩
    · have h := h
      exact p3.tr (hk19 _ h)
    · have h := h
      obtain ⟨r20, S17, eS17, h⟩ := obind2_some h
      have p4 : FK [4, 5, 6, 7, 8, 9] [11] S S17 := p3.tr ((w_fr_isSignHere eS17).w (by decide))
      rcases oif_or h with ⟨-, h⟩ | ⟨-, h⟩
      · have h := h
        rw [← osome1 h]
        exact p4
      · have h := h
        exact p4.tr (hk19 _ h)
  · have h := h
    rw [← osome1 h]
    exact p1
set_option maxHeartbeats 1000000 in
theorem w_fr_readFilter_b56 {k19 : MS → Option (MS)} {l1 : Int32} {S : MS} {S1 : MS} (hk19 : ∀ (x0 : MS), k19 x0 = some S1 → FK [4, 5, 6, 7, 8, 9] [11] x0 S1) (h : fr_readFilter_b56 k19 S l1 = some S1) : FK [4, 5, 6, 7, 8, 9] [11] S S1 := by
  have p0 : FK [4, 5, 6, 7, 8, 9] [11] S S := FK.rf
  unfold fr_readFilter_b56 at h
  rcases oif_or h with ⟨-, h⟩ | ⟨-, h⟩
  · have h := h
    exact p0.tr (w_fr_readFilter_b65 hk19 h)
  · have h := h
    obtain ⟨S3, eS3, h⟩ := obind_some h
    have p1 : FK [4, 5, 6, 7, 8, 9] [11] S S3 := p0.tr ((w_fr_faults eS3).w (by decide))
    exact p1.tr (w_fr_readFilter_b65 hk19 h)
set_option maxHeartbeats 1000000 in
theorem w_fr_readFilter_b35 {k19 : MS → Option (MS)} {s0 : Int32} {S : MS} {S1 : MS} (hk19 : ∀ (x0 : MS), k19 x0 = some S1 → FK [4, 5, 6, 7, 8, 9] [11] x0 S1) (h : fr_readFilter_b35 k19 S s0 = some S1) : FK [4, 5, 6, 7, 8, 9] [11] S S1 := by
  have p0 : FK [4, 5, 6, 7, 8, 9] [11] S S := FK.rf
  unfold fr_readFilter_b35 at h
  rcases oif_or h with ⟨-, h⟩ | ⟨-, h⟩
  · have h := h
    exact p0.tr (w_fr_readFilter_b56 hk19 h)
  · have h := h
    obtain ⟨v3, ev3, h⟩ := elet_some h
    rcases oif_or h with ⟨-, h⟩ | ⟨-, h⟩
    · have h := h
      obtain ⟨r8, S5, eS5, h⟩ := obind2_some h
      have p1 : FK [4, 5, 6, 7, 8, 9] [11] S S5 := p0.tr ((w_fr_look eS5).w (by decide))
      exact p1.tr (w_fr_readFilter_b56 hk19 h)
    · have h := h
      exact p0.tr (w_fr_readFilter_b56 hk19 h)
set_option maxHeartbeats 1000000 in
theorem w_fr_readFilter_b19 {S1 : MS} : ∀ n : Nat, ∀ (S : MS), fr_readFilter_b19 n S = some S1 → FK [4, 5, 6, 7, 8, 9] [11] S S1 := by
  intro n
  induction n with
  | zero =>
    intro S h
    have h : (none : Option (MS)) = some S1 := h
    cases h
  | succ n ih =>
    intro S h
    have p0 : FK [4, 5, 6, 7, 8, 9] [11] S S := FK.rf
    unfold fr_readFilter_b19 at h
    obtain ⟨v2, ev2, h⟩ := elet_some h
    rcases oif_or h with ⟨-, h⟩ | ⟨-, h⟩
    · have h := h
      exact p0.tr (w_fr_readFilter_b35 ih h)
    · have h := h
      exact p0.tr (w_fr_readFilter_b35 ih h)
set_option maxHeartbeats 1000000 in
theorem w_fr_readFilter_b15 {S : MS} {S1 : MS} (h : fr_readFilter_b15 S = some S1) : FK [4, 5, 6, 7, 8, 9] [11] S S1 := by
  have p0 : FK [4, 5, 6, 7, 8, 9] [11] S S := FK.rf
  unfold fr_readFilter_b15 at h
  obtain ⟨S2, eS2, h⟩ := obind_some h
  have p1 : FK [4, 5, 6, 7, 8, 9] [11] S S2 := p0.tr ((w_fr_nextToken eS2).w (by decide))
  exact p1.tr (w_fr_readFilter_b19  _ _ h)
set_option maxHeartbeats 1000000 in
theorem w_fr_readFilter {S : MS} {S1 : MS} (h : fr_readFilter S = some S1) : FK [4, 5, 6, 7, 8, 9] [11] S S1 := by
  have p0 : FK [4, 5, 6, 7, 8, 9] [11] S S := FK.rf
  unfold fr_readFilter at h
  obtain ⟨v2, ev2, h⟩ := elet_some h
  rcases oif_or h with ⟨-, h⟩ | ⟨-, h⟩
  · have h := h
    exact p0.tr (w_fr_readFilter_b15  h)
  · have h := h
    obtain ⟨S4, eS4, h⟩ := obind_some h
    have p1 : FK [4, 5, 6, 7, 8, 9] [11] S S4 := p0.tr ((w_fr_faults eS4).w (by decide))
    exact p1.tr (w_fr_readFilter_b15  h)
set_option maxHeartbeats 1000000 in
theorem w_fr_readClock_b71 {S : MS} {S1 : MS} (h : fr_readClock_b71 S = some S1) : FK [4, 5, 6, 7, 8, 9] [11] S S1 := by
  have p0 : FK [4, 5, 6, 7, 8, 9] [11] S S := FK.rf
  unfold fr_readClock_b71 at h
  rw [← osome1 h]
  exact p0
set_option maxHeartbeats 1000000 in
theorem w_fr_readClock_b42 {l1 : Int32} {S : MS} {S1 : MS} (h : fr_readClock_b42 S l1 = some S1) : FK [4, 5, 6, 7, 8, 9] [11] S S1 := by
  have p0 : FK [4, 5, 6, 7, 8, 9] [11] S S := FK.rf
  unfold fr_readClock_b42 at h
  obtain ⟨S2, eS2, h⟩ := obind_some h
  have p1 : FK [4, 5, 6, 7, 8, 9] [11] S S2 := p0.tr ((w_fr_nextToken eS2).w (by decide))
  obtain ⟨r8, S5, eS5, h⟩ := obind2_some h
  have p2 : FK [4, 5, 6, 7, 8, 9] [11] S S5 := p1.tr ((w_fr_number eS5).w (by decide))
  obtain ⟨v9, ev9, h⟩ := elet_some h
  rcases oif_or h with ⟨-, h⟩ | ⟨-, h⟩
  · have h := h
    obtain ⟨v11, ev11, h⟩ := elet_some h
    have h := (oif_some h).2
    obtain ⟨S13, eS13, h⟩ := elet_some h
    have p3 : FK [4, 5, 6, 7, 8, 9] [11] S S13 := p2.tr (by rw [eS13]; exact fw_mf (by decide))
    exact p3.tr (w_fr_readClock_b71  h)
  · have h := h
    exact p2.tr (w_fr_readClock_b71  h)
set_option maxHeartbeats 1000000 in
theorem w_fr_readClock {S : MS} {S1 : MS} (h : fr_readClock S = some S1) : FK [4, 5, 6, 7, 8, 9] [11] S S1 := by
  have p0 : FK [4, 5, 6, 7, 8, 9] [11] S S := FK.rf
  unfold fr_readClock at h
  obtain ⟨S2, eS2, h⟩ := obind_some h
  have p1 : FK [4, 5, 6, 7, 8, 9] [11] S S2 := p0.tr ((w_fr_nextToken eS2).w (by decide))
  obtain ⟨v5, ev5, h⟩ := elet_some h
  obtain ⟨v6, ev6, h⟩ := elet_some h
  obtain ⟨r10, S7, eS7, h⟩ := obind2_some h
  have p2 : FK [4, 5, 6, 7, 8, 9] [11] S S7 := p1.tr ((w_fr_look eS7).w (by decide))
  obtain ⟨v11, ev11, h⟩ := elet_some h
  rcases oif_or h with ⟨-, h⟩ | ⟨-, h⟩
  · have h := h
    obtain ⟨v13, ev13, h⟩ := elet_some h
    have h := (oif_some h).2
    obtain ⟨v15, ev15, h⟩ := elet_some h
    rcases oif_or h with ⟨-, h⟩ | ⟨-, h⟩
    · have h := h
      exact p2.tr (w_fr_readClock_b42  h)
    · have h := h
      obtain ⟨S17, eS17, h⟩ := obind_some h
      have p3 : FK [4, 5, 6, 7, 8, 9] [11] S S17 := p2.tr ((w_fr_faults eS17).w (by decide))
      exact p3.tr (w_fr_readClock_b42  h)
  · have h := h
    exact p2.tr (w_fr_readClock_b42  h)
set_option maxHeartbeats 1000000 in
theorem w_fr_readShade_b44 {k19 : MS → Option (MS)} {l1 : Int32} {S : MS} {S1 : MS} (hk19 : ∀ (x0 : MS), k19 x0 = some S1 → FK [4, 5, 6, 7, 8, 9] [11] x0 S1) (h : fr_readShade_b44 k19 S l1 = some S1) : FK [4, 5, 6, 7, 8, 9] [11] S S1 := by
  have p0 : FK [4, 5, 6, 7, 8, 9] [11] S S := FK.rf
  unfold fr_readShade_b44 at h
  obtain ⟨S2, eS2, h⟩ := obind_some h
  have p1 : FK [4, 5, 6, 7, 8, 9] [11] S S2 := p0.tr ((w_fr_nextToken eS2).w (by decide))
  obtain ⟨v5, ev5, h⟩ := elet_some h
  rcases oif_or h with ⟨-, h⟩ | ⟨-, h⟩
  · have h := h
    obtain ⟨v7, ev7, h⟩ := elet_some h
    obtain ⟨v8, ev8, h⟩ := elet_some h
    have h := (oif_some h).2
    obtain ⟨S10, eS10, h⟩ := elet_some h
    have p2 : FK [4, 5, 6, 7, 8, 9] [11] S S10 := p1.tr (by rw [eS10]; exact fw_mf (by decide))
    obtain ⟨v11, ev11, h⟩ := elet_some h
    obtain ⟨v12, ev12, h⟩ := elet_some h
    obtain ⟨S13, eS13, h⟩ := elet_some h
    have p3 : FK [4, 5, 6, 7, 8, 9] [11] S S13 := p2.tr (by rw [eS13]; exact fw_mf (by decide))
    obtain ⟨v14, ev14, h⟩ := elet_some h
    rcases oif_or h with ⟨-, h⟩ | ⟨-, h⟩
    · have h := h
      exact p3.tr (hk19 _ h)
    · have h := h
      rw [← osome1 h]
      exact p3
  · have h := h
    rw [← osome1 h]
    exact p1
set_option maxHeartbeats 1000000 in
theorem w_fr_readShade_b19 {S1 : MS} : ∀ n : Nat, ∀ (S : MS), fr_readShade_b19 n S = some S1 → FK [4, 5, 6, 7, 8, 9] [11] S S1 := by
  intro n
  induction n with
  | zero =>
    intro S h
    have h : (none : Option (MS)) = some S1 := h
    cases h
  | succ n ih =>
    intro S h
    have p0 : FK [4, 5, 6, 7, 8, 9] [11] S S := FK.rf
    unfold fr_readShade_b19 at h
    obtain ⟨r5, S2, eS2, h⟩ := obind2_some h
    have p1 : FK [4, 5, 6, 7, 8, 9] [11] S S2 := p0.tr ((w_fr_look eS2).w (by decide))
    obtain ⟨v6, ev6, h⟩ := elet_some h
    rcases oif_or h with ⟨-, h⟩ | ⟨-, h⟩
    · have h := h
      obtain ⟨S8, eS8, h⟩ := obind_some h
      have p2 : FK [4, 5, 6, 7, 8, 9] [11] S S8 := p1.tr ((w_fr_faults eS8).w (by decide))
      exact p2.tr (w_fr_readShade_b44 ih h)
    · have h := h
      exact p1.tr (w_fr_readShade_b44 ih h)
set_option maxHeartbeats 1000000 in
theorem w_fr_readShade_b15 {S : MS} {S1 : MS} (h : fr_readShade_b15 S = some S1) : FK [4, 5, 6, 7, 8, 9] [11] S S1 := by
  have p0 : FK [4, 5, 6, 7, 8, 9] [11] S S := FK.rf
  unfold fr_readShade_b15 at h
  obtain ⟨S2, eS2, h⟩ := obind_some h
  have p1 : FK [4, 5, 6, 7, 8, 9] [11] S S2 := p0.tr ((w_fr_nextToken eS2).w (by decide))
  exact p1.tr (w_fr_readShade_b19  _ _ h)
set_option maxHeartbeats 1000000 in
theorem w_fr_readShade {S : MS} {S1 : MS} (h : fr_readShade S = some S1) : FK [4, 5, 6, 7, 8, 9] [11] S S1 := by
  have p0 : FK [4, 5, 6, 7, 8, 9] [11] S S := FK.rf
  unfold fr_readShade at h
  obtain ⟨v2, ev2, h⟩ := elet_some h
  rcases oif_or h with ⟨-, h⟩ | ⟨-, h⟩
  · have h := h
    exact p0.tr (w_fr_readShade_b15  h)
  · have h := h
    obtain ⟨S4, eS4, h⟩ := obind_some h
    have p1 : FK [4, 5, 6, 7, 8, 9] [11] S S4 := p0.tr ((w_fr_faults eS4).w (by decide))
    exact p1.tr (w_fr_readShade_b15  h)
set_option maxHeartbeats 1000000 in
theorem w_fr_readOff_b63 {S : MS} {S1 : MS} (h : fr_readOff_b63 S = some S1) : FK [4, 5, 6, 7, 8, 9] [13] S S1 := by
  have p0 : FK [4, 5, 6, 7, 8, 9] [13] S S := FK.rf
  unfold fr_readOff_b63 at h
  rw [← osome1 h]
  exact p0
set_option maxHeartbeats 1000000 in
theorem w_fr_readOff_b42 {l1 : Int32} {S : MS} {S1 : MS} (h : fr_readOff_b42 S l1 = some S1) : FK [4, 5, 6, 7, 8, 9] [13] S S1 := by
  have p0 : FK [4, 5, 6, 7, 8, 9] [13] S S := FK.rf
  unfold fr_readOff_b42 at h
  obtain ⟨S2, eS2, h⟩ := obind_some h
  have p1 : FK [4, 5, 6, 7, 8, 9] [13] S S2 := p0.tr ((w_fr_nextToken eS2).w (by decide))
  obtain ⟨v5, ev5, h⟩ := elet_some h
  rcases oif_or h with ⟨-, h⟩ | ⟨-, h⟩
  · have h := h
    obtain ⟨v7, ev7, h⟩ := elet_some h
    have h := (oif_some h).2
    obtain ⟨S9, eS9, h⟩ := elet_some h
    have p2 : FK [4, 5, 6, 7, 8, 9] [13] S S9 := p1.tr (by rw [eS9]; exact fw_mf (by decide))
    exact p2.tr (w_fr_readOff_b63  h)
  · have h := h
    exact p1.tr (w_fr_readOff_b63  h)
set_option maxHeartbeats 1000000 in
theorem w_fr_readOff {S : MS} {S1 : MS} (h : fr_readOff S = some S1) : FK [4, 5, 6, 7, 8, 9] [13] S S1 := by
  have p0 : FK [4, 5, 6, 7, 8, 9] [13] S S := FK.rf
  unfold fr_readOff at h
  obtain ⟨S2, eS2, h⟩ := obind_some h
  have p1 : FK [4, 5, 6, 7, 8, 9] [13] S S2 := p0.tr ((w_fr_nextToken eS2).w (by decide))
  obtain ⟨v5, ev5, h⟩ := elet_some h
  obtain ⟨v6, ev6, h⟩ := elet_some h
  obtain ⟨r10, S7, eS7, h⟩ := obind2_some h
  have p2 : FK [4, 5, 6, 7, 8, 9] [13] S S7 := p1.tr ((w_fr_look eS7).w (by decide))
  obtain ⟨v11, ev11, h⟩ := elet_some h
  rcases oif_or h with ⟨-, h⟩ | ⟨-, h⟩
  · have h := h
    obtain ⟨v13, ev13, h⟩ := elet_some h
    have h := (oif_some h).2
    obtain ⟨v15, ev15, h⟩ := elet_some h
    rcases oif_or h with ⟨-, h⟩ | ⟨-, h⟩
    · have h := h
      obtain ⟨S17, eS17, h⟩ := obind_some h
      have p3 : FK [4, 5, 6, 7, 8, 9] [13] S S17 := p2.tr ((w_fr_faults eS17).w (by decide))
      exact p3.tr (w_fr_readOff_b42  h)
    · have h := h
      exact p2.tr (w_fr_readOff_b42  h)
  · have h := h
    exact p2.tr (w_fr_readOff_b42  h)
set_option maxHeartbeats 1000000 in
theorem w_fr_readZone_b18 {l1 : Int32} {S : MS} {S1 : MS} (h : fr_readZone_b18 S l1 = some S1) : FK [4, 5, 6, 7, 8, 9] [11] S S1 := by
  have p0 : FK [4, 5, 6, 7, 8, 9] [11] S S := FK.rf
  unfold fr_readZone_b18 at h
  obtain ⟨S2, eS2, h⟩ := obind_some h
  have p1 : FK [4, 5, 6, 7, 8, 9] [11] S S2 := p0.tr ((w_fr_nextToken eS2).w (by decide))
  obtain ⟨v5, ev5, h⟩ := elet_some h
  obtain ⟨v6, ev6, h⟩ := elet_some h
  obtain ⟨r10, S7, eS7, h⟩ := obind2_some h
  have p2 : FK [4, 5, 6, 7, 8, 9] [11] S S7 := p1.tr ((w_fr_number eS7).w (by decide))
  obtain ⟨v11, ev11, h⟩ := elet_some h
  obtain ⟨v12, ev12, h⟩ := elet_some h
  obtain ⟨r16, S13, eS13, h⟩ := obind2_some h
  have p3 : FK [4, 5, 6, 7, 8, 9] [11] S S13 := p2.tr ((w_fr_number eS13).w (by decide))
  obtain ⟨v17, ev17, h⟩ := elet_some h
  obtain ⟨v18, ev18, h⟩ := elet_some h
  obtain ⟨r22, S19, eS19, h⟩ := obind2_some h
  have p4 : FK [4, 5, 6, 7, 8, 9] [11] S S19 := p3.tr ((w_fr_number eS19).w (by decide))
  obtain ⟨v23, ev23, h⟩ := elet_some h
  obtain ⟨v24, ev24, h⟩ := elet_some h
  obtain ⟨r28, S25, eS25, h⟩ := obind2_some h
  have p5 : FK [4, 5, 6, 7, 8, 9] [11] S S25 := p4.tr ((w_fr_number eS25).w (by decide))
  obtain ⟨v29, ev29, h⟩ := elet_some h
  rcases oif_or h with ⟨-, h⟩ | ⟨-, h⟩
  · have h := h
    obtain ⟨v31, ev31, h⟩ := elet_some h
    obtain ⟨v32, ev32, h⟩ := elet_some h
    have h := (oif_some h).2
    obtain ⟨S34, eS34, h⟩ := elet_some h
    have p6 : FK [4, 5, 6, 7, 8, 9] [11] S S34 := p5.tr (by rw [eS34]; exact fw_mf (by decide))
    obtain ⟨v35, ev35, h⟩ := elet_some h
    have h := (oif_some h).2
    obtain ⟨S37, eS37, h⟩ := elet_some h
    have p7 : FK [4, 5, 6, 7, 8, 9] [11] S S37 := p6.tr (by rw [eS37]; exact fw_mf (by decide))
    obtain ⟨v38, ev38, h⟩ := elet_some h
    have h := (oif_some h).2
    obtain ⟨S40, eS40, h⟩ := elet_some h
    have p8 : FK [4, 5, 6, 7, 8, 9] [11] S S40 := p7.tr (by rw [eS40]; exact fw_mf (by decide))
    obtain ⟨v41, ev41, h⟩ := elet_some h
    have h := (oif_some h).2
    obtain ⟨S43, eS43, h⟩ := elet_some h
    have p9 : FK [4, 5, 6, 7, 8, 9] [11] S S43 := p8.tr (by rw [eS43]; exact fw_mf (by decide))
    obtain ⟨v44, ev44, h⟩ := elet_some h
    obtain ⟨v45, ev45, h⟩ := elet_some h
    obtain ⟨S46, eS46, h⟩ := elet_some h
    have p10 : FK [4, 5, 6, 7, 8, 9] [11] S S46 := p9.tr (by rw [eS46]; exact fw_mf (by decide))
    rw [← osome1 h]
    exact p10
  · have h := h
    rw [← osome1 h]
    exact p5
set_option maxHeartbeats 1000000 in
theorem w_fr_readZone {S : MS} {S1 : MS} (h : fr_readZone S = some S1) : FK [4, 5, 6, 7, 8, 9] [11] S S1 := by
  have p0 : FK [4, 5, 6, 7, 8, 9] [11] S S := FK.rf
  unfold fr_readZone at h
  obtain ⟨v2, ev2, h⟩ := elet_some h
  rcases oif_or h with ⟨-, h⟩ | ⟨-, h⟩
  · have h := h
    obtain ⟨S4, eS4, h⟩ := obind_some h
    have p1 : FK [4, 5, 6, 7, 8, 9] [11] S S4 := p0.tr ((w_fr_faults eS4).w (by decide))
    exact p1.tr (w_fr_readZone_b18  h)
  · have h := h
    exact p0.tr (w_fr_readZone_b18  h)
set_option maxHeartbeats 1000000 in
theorem w_fr_readLine_b165 {S : MS} {S1 : MS} (h : fr_readLine_b165 S = some S1) : FK [4, 5, 6, 7, 8, 9] [11, 13] S S1 := by
  have p0 : FK [4, 5, 6, 7, 8, 9] [11, 13] S S := FK.rf
  unfold fr_readLine_b165 at h
  rw [← osome1 h]
  exact p0
set_option maxHeartbeats 1000000 in
theorem w_fr_readLine {S : MS} {S1 : MS} (h : fr_readLine S = some S1) : FK [4, 5, 6, 7, 8, 9] [11, 13] S S1 := by
  have p0 : FK [4, 5, 6, 7, 8, 9] [11, 13] S S := FK.rf
  unfold fr_readLine at h
  obtain ⟨r6, S3, eS3, h⟩ := obind2_some h
  have p1 : FK [4, 5, 6, 7, 8, 9] [11, 13] S S3 := p0.tr ((w_fr_isWord eS3).w (by decide))
  rcases oif_or h with ⟨-, h⟩ | ⟨-, h⟩
  · have h := h
    obtain ⟨r12, S9, eS9, h⟩ := obind2_some h
    have p2 : FK [4, 5, 6, 7, 8, 9] [11, 13] S S9 := p1.tr ((w_fr_isWord eS9).w (by decide))
    rcases oif_or h with ⟨-, h⟩ | ⟨-, h⟩
    · have h := h
      obtain ⟨r18, S15, eS15, h⟩ := obind2_some h
      have p3 : FK [4, 5, 6, 7, 8, 9] [11, 13] S S15 := p2.tr ((w_fr_isWord eS15).w (by decide))
      rcases oif_or h with ⟨-, h⟩ | ⟨-, h⟩
      · have h := h
        obtain ⟨r24, S21, eS21, h⟩ := obind2_some h
        have p4 : FK [4, 5, 6, 7, 8, 9] [11, 13] S S21 := p3.tr ((w_fr_isWord eS21).w (by decide))
        rcases oif_or h with ⟨-, h⟩ | ⟨-, h⟩
        · have h := h
          obtain ⟨r30, S27, eS27, h⟩ := obind2_some h
          have p5 : FK [4, 5, 6, 7, 8, 9] [11, 13] S S27 := p4.tr ((w_fr_isWord eS27).w (by decide))
          rcases oif_or h with ⟨-, h⟩ | ⟨-, h⟩
          · have h := h
            obtain ⟨r36, S33, eS33, h⟩ := obind2_some h
            have p6 : FK [4, 5, 6, 7, 8, 9] [11, 13] S S33 := p5.tr ((w_fr_isWord eS33).w (by decide))
            rcases oif_or h with ⟨-, h⟩ | ⟨-, h⟩
            · have h := h
              obtain ⟨r42, S39, eS39, h⟩ := obind2_some h
              have p7 : FK [4, 5, 6, 7, 8, 9] [11, 13] S S39 := p6.tr ((w_fr_isWord eS39).w (by decide))
              rcases oif_or h with ⟨-, h⟩ | ⟨-, h⟩
              · have h := h
                obtain ⟨r48, S45, eS45, h⟩ := obind2_some h
                have p8 : FK [4, 5, 6, 7, 8, 9] [11, 13] S S45 := p7.tr ((w_fr_isWord eS45).w (by decide))
                rcases oif_or h with ⟨-, h⟩ | ⟨-, h⟩
                · have h := h
                  obtain ⟨r54, S51, eS51, h⟩ := obind2_some h
                  have p9 : FK [4, 5, 6, 7, 8, 9] [11, 13] S S51 := p8.tr ((w_fr_isWord eS51).w (by decide))
                  rcases oif_or h with ⟨-, h⟩ | ⟨-, h⟩
                  · have h := h
                    obtain ⟨r60, S57, eS57, h⟩ := obind2_some h
                    have p10 : FK [4, 5, 6, 7, 8, 9] [11, 13] S S57 := p9.tr ((w_fr_isWord eS57).w (by decide))
                    rcases oif_or h with ⟨-, h⟩ | ⟨-, h⟩
                    · have h := h
                      obtain ⟨S62, eS62, h⟩ := obind_some h
                      have p11 : FK [4, 5, 6, 7, 8, 9] [11, 13] S S62 := p10.tr ((w_fr_faults eS62).w (by decide))
                      exact p11.tr (w_fr_readLine_b165  h)
                    · have h := h
                      obtain ⟨S65, eS65, h⟩ := obind_some h
                      have p12 : FK [4, 5, 6, 7, 8, 9] [11, 13] S S65 := p10.tr ((w_fr_readSource eS65).w (by decide))
                      exact p12.tr (w_fr_readLine_b165  h)
                  · have h := h
                    obtain ⟨S68, eS68, h⟩ := obind_some h
                    have p13 : FK [4, 5, 6, 7, 8, 9] [11, 13] S S68 := p9.tr ((w_fr_readMap eS68).w (by decide))
                    exact p13.tr (w_fr_readLine_b165  h)
                · have h := h
                  obtain ⟨S71, eS71, h⟩ := obind_some h
                  have p14 : FK [4, 5, 6, 7, 8, 9] [11, 13] S S71 := p8.tr ((w_fr_readMic eS71).w (by decide))
                  exact p14.tr (w_fr_readLine_b165  h)
              · have h := h
                obtain ⟨S74, eS74, h⟩ := obind_some h
                have p15 : FK [4, 5, 6, 7, 8, 9] [11, 13] S S74 := p7.tr ((w_fr_readOff eS74).w (by decide))
                exact p15.tr (w_fr_readLine_b165  h)
            · have h := h
              obtain ⟨S77, eS77, h⟩ := obind_some h
              have p16 : FK [4, 5, 6, 7, 8, 9] [11, 13] S S77 := p6.tr ((w_fr_readShade eS77).w (by decide))
              exact p16.tr (w_fr_readLine_b165  h)
          · have h := h
            obtain ⟨S80, eS80, h⟩ := obind_some h
            have p17 : FK [4, 5, 6, 7, 8, 9] [11, 13] S S80 := p5.tr ((w_fr_readZone eS80).w (by decide))
            exact p17.tr (w_fr_readLine_b165  h)
        · have h := h
          obtain ⟨S83, eS83, h⟩ := obind_some h
          have p18 : FK [4, 5, 6, 7, 8, 9] [11, 13] S S83 := p4.tr ((w_fr_readClock eS83).w (by decide))
          exact p18.tr (w_fr_readLine_b165  h)
      · have h := h
        obtain ⟨S86, eS86, h⟩ := obind_some h
        have p19 : FK [4, 5, 6, 7, 8, 9] [11, 13] S S86 := p3.tr ((w_fr_readFilter eS86).w (by decide))
        exact p19.tr (w_fr_readLine_b165  h)
    · have h := h
      obtain ⟨S89, eS89, h⟩ := obind_some h
      have p20 : FK [4, 5, 6, 7, 8, 9] [11, 13] S S89 := p2.tr ((w_fr_readFade eS89).w (by decide))
      exact p20.tr (w_fr_readLine_b165  h)
  · have h := h
    obtain ⟨S92, eS92, h⟩ := obind_some h
    have p21 : FK [4, 5, 6, 7, 8, 9] [11, 13] S S92 := p1.tr ((w_fr_readWall eS92).w (by decide))
    exact p21.tr (w_fr_readLine_b165  h)
set_option maxHeartbeats 1000000 in
theorem w_fr_readText_b116 {S : MS} {S1 : MS} (h : fr_readText_b116 S = some S1) : FK [4, 5, 6, 7, 8, 9] [11, 13] S S1 := by
  have p0 : FK [4, 5, 6, 7, 8, 9] [11, 13] S S := FK.rf
  unfold fr_readText_b116 at h
  rw [← osome1 h]
  exact p0
set_option maxHeartbeats 1000000 in
theorem w_fr_readText_b111 {S : MS} {S1 : MS} (h : fr_readText_b111 S = some S1) : FK [4, 5, 6, 7, 8, 9] [11, 13] S S1 := by
  have p0 : FK [4, 5, 6, 7, 8, 9] [11, 13] S S := FK.rf
  unfold fr_readText_b111 at h
  obtain ⟨S2, eS2, h⟩ := obind_some h
  have p1 : FK [4, 5, 6, 7, 8, 9] [11, 13] S S2 := p0.tr ((w_fr_faults eS2).w (by decide))
  exact p1.tr (w_fr_readText_b116  h)
set_option maxHeartbeats 1000000 in
theorem w_fr_readText_b92 {S : MS} {S1 : MS} (h : fr_readText_b92 S = some S1) : FK [4, 5, 6, 7, 8, 9] [11, 13] S S1 := by
  have p0 : FK [4, 5, 6, 7, 8, 9] [11, 13] S S := FK.rf
  unfold fr_readText_b92 at h
  obtain ⟨v2, ev2, h⟩ := elet_some h
  rcases oif_or h with ⟨-, h⟩ | ⟨-, h⟩
  · have h := h
    exact p0.tr (w_fr_readText_b111  h)
  · have h := h
    obtain ⟨v4, ev4, h⟩ := elet_some h
    rcases oif_or h with ⟨-, h⟩ | ⟨-, h⟩
    · have h := h
      exact p0.tr (w_fr_readText_b111  h)
    · have h := h
      exact p0.tr (w_fr_readText_b116  h)
set_option maxHeartbeats 1000000 in
theorem w_fr_readText_b52 {S1 : MS} : ∀ n : Nat, ∀ (S : MS), fr_readText_b52 n S = some S1 → FK [4, 5, 6, 7, 8, 9] [11, 13] S S1 := by
  intro n
  induction n with
  | zero =>
    intro S h
    have h : (none : Option (MS)) = some S1 := h
    cases h
  | succ n ih =>
    intro S h
    have p0 : FK [4, 5, 6, 7, 8, 9] [11, 13] S S := FK.rf
    unfold fr_readText_b52 at h
    obtain ⟨r5, S2, eS2, h⟩ := obind2_some h
    have p1 : FK [4, 5, 6, 7, 8, 9] [11, 13] S S2 := p0.tr ((w_fr_isSignHere eS2).w (by decide))
    rcases oif_or h with ⟨-, h⟩ | ⟨-, h⟩
    · have h := h
      obtain ⟨v7, ev7, h⟩ := elet_some h
      rcases oif_or h with ⟨-, h⟩ | ⟨-, h⟩
      · have h := h
        obtain ⟨v9, ev9, h⟩ := elet_some h
        rcases oif_or h with ⟨-, h⟩ | ⟨-, h⟩
        · have h := h
          exact p1.tr (w_fr_readText_b92  h)
        · have h := h
          obtain ⟨S11, eS11, h⟩ := obind_some h
          have p2 : FK [4, 5, 6, 7, 8, 9] [11, 13] S S11 := p1.tr ((w_fr_faults eS11).w (by decide))
          exact p2.tr (w_fr_readText_b92  h)
      · have h := h
        exact p1.tr (w_fr_readText_b92  h)
    · have h := h
      obtain ⟨S14, eS14, h⟩ := obind_some h
      have p3 : FK [4, 5, 6, 7, 8, 9] [11, 13] S S14 := p1.tr ((w_fr_nextToken eS14).w (by decide))
      obtain ⟨S17, eS17, h⟩ := obind_some h
      have p4 : FK [4, 5, 6, 7, 8, 9] [11, 13] S S17 := p3.tr ((w_fr_readLine eS17).w (by decide))
      exact p4.tr (ih _ h)
set_option maxHeartbeats 1000000 in
theorem w_fr_readText_b24 {S1 : MS} : ∀ n : Nat, ∀ (S : MS) (y1 : Int32), fr_readText_b24 n S y1 = some S1 → FK [4, 5, 6, 7, 8, 9] [11, 13] S S1 := by
  intro n
  induction n with
  | zero =>
    intro S y1 h
    have h : (none : Option (MS)) = some S1 := h
    cases h
  | succ n ih =>
    intro S l1 h
    have p0 : FK [4, 5, 6, 7, 8, 9] [11, 13] S S := FK.rf
    unfold fr_readText_b24 at h
    rcases oif_or h with ⟨-, h⟩ | ⟨-, h⟩
    · have h := h
      obtain ⟨S3, eS3, h⟩ := obind_some h
      have p1 : FK [4, 5, 6, 7, 8, 9] [11, 13] S S3 := p0.tr ((w_fr_nextToken eS3).w (by decide))
      obtain ⟨S6, eS6, h⟩ := obind_some h
      have p2 : FK [4, 5, 6, 7, 8, 9] [11, 13] S S6 := p1.tr ((w_fr_readFirst eS6).w (by decide))
      exact p2.tr (w_fr_readText_b52  _ _ h)
    · have h := h
      have h := (oif_some h).2
      obtain ⟨S10, eS10, h⟩ := elet_some h
      have p3 : FK [4, 5, 6, 7, 8, 9] [11, 13] S S10 := p0.tr (by rw [eS10]; exact fw_mf (by decide))
      obtain ⟨v11, ev11, h⟩ := elet_some h
      exact p3.tr (ih _ _ h)
set_option maxHeartbeats 1000000 in
theorem w_fr_readText_b2 {S1 : MS} : ∀ n : Nat, ∀ (S : MS) (y1 : Int32), fr_readText_b2 n S y1 = some S1 → FK [4, 5, 6, 7, 8, 9] [11, 13] S S1 := by
  intro n
  induction n with
  | zero =>
    intro S y1 h
    have h : (none : Option (MS)) = some S1 := h
    cases h
  | succ n ih =>
    intro S l1 h
    have p0 : FK [4, 5, 6, 7, 8, 9] [11, 13] S S := FK.rf
    unfold fr_readText_b2 at h
    rcases oif_or h with ⟨-, h⟩ | ⟨-, h⟩
    · have h := h
      exact p0.tr (w_fr_readText_b24  _ _ _ h)
    · have h := h
      have h := (oif_some h).2
      obtain ⟨S4, eS4, h⟩ := elet_some h
      have p1 : FK [4, 5, 6, 7, 8, 9] [11, 13] S S4 := p0.tr (by rw [eS4]; exact fw_mf (by decide))
      obtain ⟨v5, ev5, h⟩ := elet_some h
      exact p1.tr (ih _ _ h)
set_option maxHeartbeats 1000000 in
theorem w_fr_readText {S : MS} {S1 : MS} (h : fr_readText S = some S1) : FK [4, 5, 6, 7, 8, 9] [11, 13] S S1 := by
  have p0 : FK [4, 5, 6, 7, 8, 9] [11, 13] S S := FK.rf
  unfold fr_readText at h
  exact p0.tr (w_fr_readText_b2  _ _ _ h)
set_option maxHeartbeats 1000000 in
theorem w_fr_copy_13_12_b3 {S1 : MS} : ∀ n : Nat, ∀ (S : MS) (y1 : Int32) (y2 : Int32) (y3 : Int32), fr_copy_13_12_b3 n S y1 y2 y3 = some S1 → FK [] [12] S S1 := by
  intro n
  induction n with
  | zero =>
    intro S y1 y2 y3 h
    have h : (none : Option (MS)) = some S1 := h
    cases h
  | succ n ih =>
    intro S l1 l3 l4 h
    have p0 : FK [] [12] S S := FK.rf
    unfold fr_copy_13_12_b3 at h
    rcases oif_or h with ⟨-, h⟩ | ⟨-, h⟩
    · have h := h
      rw [← osome1 h]
      exact p0
    · have h := h
      obtain ⟨v3, ev3, h⟩ := elet_some h
      obtain ⟨v4, ev4, h⟩ := elet_some h
      have h := (oif_some h).2
      obtain ⟨v6, ev6, h⟩ := elet_some h
      have h := (oif_some h).2
      obtain ⟨S8, eS8, h⟩ := elet_some h
      have p1 : FK [] [12] S S8 := p0.tr (by rw [eS8]; exact fw_mf (by decide))
      obtain ⟨v9, ev9, h⟩ := elet_some h
      exact p1.tr (ih _ _ _ _ h)
set_option maxHeartbeats 1000000 in
theorem w_fr_copy_13_12 {a1 : Int32} {a3 : Int32} {S : MS} {S1 : MS} (h : fr_copy_13_12 S a1 a3 = some S1) : FK [] [12] S S1 := by
  have p0 : FK [] [12] S S := FK.rf
  unfold fr_copy_13_12 at h
  exact p0.tr (w_fr_copy_13_12_b3  _ _ _ _ _ h)
set_option maxHeartbeats 1000000 in
theorem w_fr_cellCount {S : MS} {r1 : Int32} {S1 : MS} (h : fr_cellCount S = some (r1, S1)) : FK [] [] S S1 := by
  have p0 : FK [] [] S S := FK.rf
  unfold fr_cellCount at h
  obtain ⟨v2, ev2, h⟩ := elet_some h
  obtain ⟨v3, ev3, h⟩ := elet_some h
  obtain ⟨v4, ev4, h⟩ := elet_some h
  rw [← (osome2 h).2]
  exact p0
set_option maxHeartbeats 1000000 in
theorem w_fr_centre_b57 {s0 : Int32} {S : MS} {r1 : Int32} {S1 : MS} (h : fr_centre_b57 S s0 = some (r1, S1)) : FK [] [] S S1 := by
  have p0 : FK [] [] S S := FK.rf
  unfold fr_centre_b57 at h
  rw [← (osome2 h).2]
  exact p0
set_option maxHeartbeats 1000000 in
theorem w_fr_centre {a0 : Int32} {a1 : Int32} {S : MS} {r1 : Int32} {S1 : MS} (h : fr_centre S a0 a1 = some (r1, S1)) : FK [] [] S S1 := by
  have p0 : FK [] [] S S := FK.rf
  unfold fr_centre at h
  rcases oif_or h with ⟨-, h⟩ | ⟨-, h⟩
  · have h := h
    obtain ⟨v3, ev3, h⟩ := elet_some h
    obtain ⟨v4, ev4, h⟩ := elet_some h
    obtain ⟨v5, ev5, h⟩ := elet_some h
    have h := (oif_some h).2
    obtain ⟨v7, ev7, h⟩ := elet_some h
    obtain ⟨v8, ev8, h⟩ := elet_some h
    obtain ⟨v9, ev9, h⟩ := elet_some h
    exact p0.tr (w_fr_centre_b57  h)
  · have h := h
    obtain ⟨v10, ev10, h⟩ := elet_some h
    obtain ⟨v11, ev11, h⟩ := elet_some h
    obtain ⟨v12, ev12, h⟩ := elet_some h
    have h := (oif_some h).2
    obtain ⟨v14, ev14, h⟩ := elet_some h
    obtain ⟨v15, ev15, h⟩ := elet_some h
    obtain ⟨v16, ev16, h⟩ := elet_some h
    exact p0.tr (w_fr_centre_b57  h)
set_option maxHeartbeats 1000000 in
theorem w_fr_delayFrom {a0 : Int32} {a1 : Int32} {a2 : Int32} {S : MS} {r1 : Int32} {S1 : MS} (h : fr_delayFrom S a0 a1 a2 = some (r1, S1)) : FK [] [] S S1 := by
  have p0 : FK [] [] S S := FK.rf
  unfold fr_delayFrom at h
  obtain ⟨v2, ev2, h⟩ := elet_some h
  have h := (oif_some h).2
  obtain ⟨v4, ev4, h⟩ := elet_some h
  obtain ⟨v5, ev5, h⟩ := elet_some h
  obtain ⟨v6, ev6, h⟩ := elet_some h
  have h := (oif_some h).2
  obtain ⟨v8, ev8, h⟩ := elet_some h
  obtain ⟨v9, ev9, h⟩ := elet_some h
  obtain ⟨v10, ev10, h⟩ := elet_some h
  obtain ⟨v11, ev11, h⟩ := elet_some h
  obtain ⟨v12, ev12, h⟩ := elet_some h
  obtain ⟨v13, ev13, h⟩ := elet_some h
  obtain ⟨v14, ev14, h⟩ := elet_some h
  obtain ⟨v15, ev15, h⟩ := elet_some h
  obtain ⟨r16, -, h⟩ := obind_some h
  obtain ⟨v18, ev18, h⟩ := elet_some h
  have h := (oif_some h).2
  obtain ⟨v20, ev20, h⟩ := elet_some h
  obtain ⟨v21, ev21, h⟩ := elet_some h
  have h := (oif_some h).2
  obtain ⟨v23, ev23, h⟩ := elet_some h
  obtain ⟨v24, ev24, h⟩ := elet_some h
  rw [← (osome2 h).2]
  exact p0
set_option maxHeartbeats 1000000 in
theorem w_fr_wave_b103 {s0 : Int32} {S : MS} {r1 : Int32} {S1 : MS} (h : fr_wave_b103 S s0 = some (r1, S1)) : FK [] [] S S1 := by
  have p0 : FK [] [] S S := FK.rf
  unfold fr_wave_b103 at h
  rw [← (osome2 h).2]
  exact p0
set_option maxHeartbeats 1000000 in
theorem w_fr_wave_b135 {s0 : Int32} {S : MS} {r1 : Int32} {S1 : MS} (h : fr_wave_b135 S s0 = some (r1, S1)) : FK [] [] S S1 := by
  have p0 : FK [] [] S S := FK.rf
  unfold fr_wave_b135 at h
  rw [← (osome2 h).2]
  exact p0
set_option maxHeartbeats 1000000 in
theorem w_fr_wave {a0 : Int32} {a1 : Int32} {S : MS} {r1 : Int32} {S1 : MS} (h : fr_wave S a0 a1 = some (r1, S1)) : FK [] [] S S1 := by
  have p0 : FK [] [] S S := FK.rf
  unfold fr_wave at h
  obtain ⟨v2, ev2, h⟩ := elet_some h
  have h := (oif_some h).2
  obtain ⟨v4, ev4, h⟩ := elet_some h
  obtain ⟨v5, ev5, h⟩ := elet_some h
  have h := (oif_some h).2
  obtain ⟨v7, ev7, h⟩ := elet_some h
  obtain ⟨v8, ev8, h⟩ := elet_some h
  have h := (oif_some h).2
  obtain ⟨v10, ev10, h⟩ := elet_some h
  rcases oif_or h with ⟨-, h⟩ | ⟨-, h⟩
  · have h := h
    obtain ⟨v12, ev12, h⟩ := elet_some h
    have h := (oif_some h).2
    obtain ⟨v14, ev14, h⟩ := elet_some h
    obtain ⟨v15, ev15, h⟩ := elet_some h
    have h := (oif_some h).2
    obtain ⟨v17, ev17, h⟩ := elet_some h
    obtain ⟨v18, ev18, h⟩ := elet_some h
    have h := (oif_some h).2
    obtain ⟨v20, ev20, h⟩ := elet_some h
    rcases oif_or h with ⟨-, h⟩ | ⟨-, h⟩
    · have h := h
      obtain ⟨v22, ev22, h⟩ := elet_some h
      rcases oif_or h with ⟨-, h⟩ | ⟨-, h⟩
      · have h := h
        obtain ⟨v24, ev24, h⟩ := elet_some h
        exact p0.tr (w_fr_wave_b103  h)
      · have h := h
        exact p0.tr (w_fr_wave_b103  h)
    · have h := h
      rcases oif_or h with ⟨-, h⟩ | ⟨-, h⟩
      · have h := h
        obtain ⟨v26, ev26, h⟩ := elet_some h
        obtain ⟨v27, ev27, h⟩ := elet_some h
        obtain ⟨v28, ev28, h⟩ := elet_some h
        obtain ⟨v29, ev29, h⟩ := elet_some h
        obtain ⟨v30, ev30, h⟩ := elet_some h
        obtain ⟨v31, ev31, h⟩ := elet_some h
        have h := (oif_some h).2
        obtain ⟨v33, ev33, h⟩ := elet_some h
        rw [← (osome2 h).2]
        exact p0
      · have h := h
        rcases oif_or h with ⟨-, h⟩ | ⟨-, h⟩
        · have h := h
          rcases oif_or h with ⟨-, h⟩ | ⟨-, h⟩
          · have h := h
            exact p0.tr (w_fr_wave_b135  h)
          · have h := h
            exact p0.tr (w_fr_wave_b135  h)
        · have h := h
          obtain ⟨v36, ev36, h⟩ := elet_some h
          obtain ⟨v37, ev37, h⟩ := elet_some h
          obtain ⟨v38, ev38, h⟩ := elet_some h
          obtain ⟨v39, ev39, h⟩ := elet_some h
          obtain ⟨v40, ev40, h⟩ := elet_some h
          have h := (oif_some h).2
          obtain ⟨v42, ev42, h⟩ := elet_some h
          obtain ⟨v43, ev43, h⟩ := elet_some h
          obtain ⟨v44, ev44, h⟩ := elet_some h
          obtain ⟨v45, ev45, h⟩ := elet_some h
          obtain ⟨v46, ev46, h⟩ := elet_some h
          have h := (oif_some h).2
          obtain ⟨v48, ev48, h⟩ := elet_some h
          obtain ⟨v49, ev49, h⟩ := elet_some h
          rw [← (osome2 h).2]
          exact p0
  · have h := h
    rw [← (osome2 h).2]
    exact p0
set_option maxHeartbeats 1000000 in
theorem w_fr_waveNow_b39 {s0 : Int32} {S : MS} {r1 : Int32} {S1 : MS} (h : fr_waveNow_b39 S s0 = some (r1, S1)) : FK [] [] S S1 := by
  have p0 : FK [] [] S S := FK.rf
  unfold fr_waveNow_b39 at h
  rw [← (osome2 h).2]
  exact p0
set_option maxHeartbeats 1000000 in
theorem w_fr_waveNow {a0 : Int32} {a1 : Int32} {S : MS} {r1 : Int32} {S1 : MS} (h : fr_waveNow S a0 a1 = some (r1, S1)) : FK [] [] S S1 := by
  have p0 : FK [] [] S S := FK.rf
  unfold fr_waveNow at h
  obtain ⟨v2, ev2, h⟩ := elet_some h
  rcases oif_or h with ⟨-, h⟩ | ⟨-, h⟩
  · have h := h
    obtain ⟨r7, S4, eS4, h⟩ := obind2_some h
    have p1 : FK [] [] S S4 := p0.tr ((w_fr_wave eS4).w (by decide))
    exact p1.tr (w_fr_waveNow_b39  h)
  · have h := h
    obtain ⟨v8, ev8, h⟩ := elet_some h
    have h := (oif_some h).2
    obtain ⟨v10, ev10, h⟩ := elet_some h
    obtain ⟨v11, ev11, h⟩ := elet_some h
    obtain ⟨v12, ev12, h⟩ := elet_some h
    rcases oif_or h with ⟨-, h⟩ | ⟨-, h⟩
    · have h := h
      exact p0.tr (w_fr_waveNow_b39  h)
    · have h := h
      exact p0.tr (w_fr_waveNow_b39  h)
set_option maxHeartbeats 1000000 in
theorem w_fr_heardFrom_b69 {s0 : Int32} {S : MS} {r1 : Int32} {S1 : MS} (h : fr_heardFrom_b69 S s0 = some (r1, S1)) : FK [] [] S S1 := by
  have p0 : FK [] [] S S := FK.rf
  unfold fr_heardFrom_b69 at h
  rw [← (osome2 h).2]
  exact p0
set_option maxHeartbeats 1000000 in
theorem w_fr_heardFrom_b31 {s0 : Int32} {l6 : Int32} {S : MS} {r1 : Int32} {S1 : MS} (h : fr_heardFrom_b31 S s0 l6 = some (r1, S1)) : FK [] [] S S1 := by
  have p0 : FK [] [] S S := FK.rf
  unfold fr_heardFrom_b31 at h
  obtain ⟨v2, ev2, h⟩ := elet_some h
  rcases oif_or h with ⟨-, h⟩ | ⟨-, h⟩
  · have h := h
    exact p0.tr (w_fr_heardFrom_b69  h)
  · have h := h
    obtain ⟨v4, ev4, h⟩ := elet_some h
    obtain ⟨v5, ev5, h⟩ := elet_some h
    obtain ⟨v6, ev6, h⟩ := elet_some h
    obtain ⟨v7, ev7, h⟩ := elet_some h
    have h := (oif_some h).2
    obtain ⟨v9, ev9, h⟩ := elet_some h
    exact p0.tr (w_fr_heardFrom_b69  h)
set_option maxHeartbeats 1000000 in
theorem w_fr_heardFrom {a0 : Int32} {a1 : Int32} {a2 : Int32} {a3 : Int32} {a4 : Int32} {S : MS} {r1 : Int32} {S1 : MS} (h : fr_heardFrom S a0 a1 a2 a3 a4 = some (r1, S1)) : FK [] [] S S1 := by
  have p0 : FK [] [] S S := FK.rf
  unfold fr_heardFrom at h
  obtain ⟨r5, S2, eS2, h⟩ := obind2_some h
  have p1 : FK [] [] S S2 := p0.tr ((w_fr_delayFrom eS2).w (by decide))
  rcases oif_or h with ⟨-, h⟩ | ⟨-, h⟩
  · have h := h
    obtain ⟨v7, ev7, h⟩ := elet_some h
    obtain ⟨r11, S8, eS8, h⟩ := obind2_some h
    have p2 : FK [] [] S S8 := p1.tr ((w_fr_waveNow eS8).w (by decide))
    exact p2.tr (w_fr_heardFrom_b31  h)
  · have h := h
    exact p1.tr (w_fr_heardFrom_b31  h)
set_option maxHeartbeats 1000000 in
theorem w_fr_heardOf_b16 {r1 : Int32} {S1 : MS} : ∀ n : Nat, ∀ (S : MS) (y1 : Int32) (y2 : Int32) (y3 : Int32) (y4 : Int32) (y5 : Int32) (y6 : Int32) (y7 : Int32), fr_heardOf_b16 n S y1 y2 y3 y4 y5 y6 y7 = some (r1, S1) → FK [] [] S S1 := by
  intro n
  induction n with
  | zero =>
    intro S y1 y2 y3 y4 y5 y6 y7 h
    have h : (none : Option (Int32 × MS)) = some (r1, S1) := h
    cases h
  | succ n ih =>
    intro S l1 l2 l3 l4 l5 l6 l7 h
    have p0 : FK [] [] S S := FK.rf
    unfold fr_heardOf_b16 at h
    obtain ⟨v2, ev2, h⟩ := elet_some h
    rcases oif_or h with ⟨-, h⟩ | ⟨-, h⟩
    · have h := h
      rw [← (osome2 h).2]
      exact p0
    · have h := h
      obtain ⟨v4, ev4, h⟩ := elet_some h
      have h := (oif_some h).2
      obtain ⟨v6, ev6, h⟩ := elet_some h
      obtain ⟨v7, ev7, h⟩ := elet_some h
      obtain ⟨v8, ev8, h⟩ := elet_some h
      obtain ⟨r12, S9, eS9, h⟩ := obind2_some h
      have p1 : FK [] [] S S9 := p0.tr ((w_fr_heardFrom eS9).w (by decide))
      obtain ⟨v13, ev13, h⟩ := elet_some h
      have h := (oif_some h).2
      obtain ⟨v15, ev15, h⟩ := elet_some h
      obtain ⟨v16, ev16, h⟩ := elet_some h
      obtain ⟨v17, ev17, h⟩ := elet_some h
      obtain ⟨v18, ev18, h⟩ := elet_some h
      obtain ⟨v19, ev19, h⟩ := elet_some h
      exact p1.tr (ih _ _ _ _ _ _ _ _ h)
set_option maxHeartbeats 1000000 in
theorem w_fr_heardOf {a0 : Int32} {a1 : Int32} {a2 : Int32} {a3 : Int32} {a4 : Int32} {S : MS} {r1 : Int32} {S1 : MS} (h : fr_heardOf S a0 a1 a2 a3 a4 = some (r1, S1)) : FK [] [] S S1 := by
  have p0 : FK [] [] S S := FK.rf
  unfold fr_heardOf at h
  obtain ⟨r5, S2, eS2, h⟩ := obind2_some h
  have p1 : FK [] [] S S2 := p0.tr ((w_fr_heardFrom eS2).w (by decide))
  exact p1.tr (w_fr_heardOf_b16  _ _ _ _ _ _ _ _ _ h)
set_option maxHeartbeats 1000000 in
theorem w_fr_sourcePlace_12_b45 {s0 : Int32} {S : MS} {r1 : Int32} {S1 : MS} (h : fr_sourcePlace_12_b45 S s0 = some (r1, S1)) : FK [] [] S S1 := by
  have p0 : FK [] [] S S := FK.rf
  unfold fr_sourcePlace_12_b45 at h
  rw [← (osome2 h).2]
  exact p0
set_option maxHeartbeats 1000000 in
theorem w_fr_sourcePlace_12 {a1 : Int32} {a2 : Int32} {a3 : Int32} {S : MS} {r1 : Int32} {S1 : MS} (h : fr_sourcePlace_12 S a1 a2 a3 = some (r1, S1)) : FK [] [] S S1 := by
  have p0 : FK [] [] S S := FK.rf
  unfold fr_sourcePlace_12 at h
  rcases oif_or h with ⟨-, h⟩ | ⟨-, h⟩
  · have h := h
    obtain ⟨v3, ev3, h⟩ := elet_some h
    have h := (oif_some h).2
    obtain ⟨v5, ev5, h⟩ := elet_some h
    obtain ⟨v6, ev6, h⟩ := elet_some h
    have h := (oif_some h).2
    obtain ⟨v8, ev8, h⟩ := elet_some h
    obtain ⟨v9, ev9, h⟩ := elet_some h
    obtain ⟨v10, ev10, h⟩ := elet_some h
    obtain ⟨v11, ev11, h⟩ := elet_some h
    exact p0.tr (w_fr_sourcePlace_12_b45  h)
  · have h := h
    obtain ⟨v12, ev12, h⟩ := elet_some h
    have h := (oif_some h).2
    obtain ⟨v14, ev14, h⟩ := elet_some h
    obtain ⟨v15, ev15, h⟩ := elet_some h
    have h := (oif_some h).2
    obtain ⟨v17, ev17, h⟩ := elet_some h
    obtain ⟨v18, ev18, h⟩ := elet_some h
    obtain ⟨v19, ev19, h⟩ := elet_some h
    obtain ⟨v20, ev20, h⟩ := elet_some h
    exact p0.tr (w_fr_sourcePlace_12_b45  h)
set_option maxHeartbeats 1000000 in
theorem w_fr_rawAt_12_b127 {k71 : MS → Int32 → Int32 → Int32 → Int32 → Option (Int32 × MS)} {s0 : Int32} {s1 : Int32} {l2 : Int32} {l4 : Int32} {l6 : Int32} {S : MS} {r1 : Int32} {S1 : MS} (hk71 : ∀ (x0 : MS) (x1 : Int32) (x2 : Int32) (x3 : Int32) (x4 : Int32), k71 x0 x1 x2 x3 x4 = some (r1, S1) → FK [] [] x0 S1) (h : fr_rawAt_12_b127 k71 S s0 s1 l2 l4 l6 = some (r1, S1)) : FK [] [] S S1 := by
  have p0 : FK [] [] S S := FK.rf
  unfold fr_rawAt_12_b127 at h
  obtain ⟨v2, ev2, h⟩ := elet_some h
  obtain ⟨v3, ev3, h⟩ := elet_some h
  exact p0.tr (hk71 _ _ _ _ _ h)
set_option maxHeartbeats 1000000 in
theorem w_fr_rawAt_12_b71 {r1 : Int32} {S1 : MS} : ∀ n : Nat, ∀ (S : MS) (y1 : Int32) (y2 : Int32) (y3 : Int32) (y4 : Int32), fr_rawAt_12_b71 n S y1 y2 y3 y4 = some (r1, S1) → FK [] [] S S1 := by
  intro n
  induction n with
  | zero =>
    intro S y1 y2 y3 y4 h
    have h : (none : Option (Int32 × MS)) = some (r1, S1) := h
    cases h
  | succ n ih =>
    intro S l2 l4 l5 l6 h
    have p0 : FK [] [] S S := FK.rf
    unfold fr_rawAt_12_b71 at h
    obtain ⟨v2, ev2, h⟩ := elet_some h
    rcases oif_or h with ⟨-, h⟩ | ⟨-, h⟩
    · have h := h
      obtain ⟨v4, ev4, h⟩ := elet_some h
      have h := (oif_some h).2
      obtain ⟨v6, ev6, h⟩ := elet_some h
      obtain ⟨v7, ev7, h⟩ := elet_some h
      rw [← (osome2 h).2]
      exact p0
    · have h := h
      obtain ⟨v8, ev8, h⟩ := elet_some h
      have h := (oif_some h).2
      obtain ⟨v10, ev10, h⟩ := elet_some h
      rcases oif_or h with ⟨-, h⟩ | ⟨-, h⟩
      · have h := h
        exact p0.tr (w_fr_rawAt_12_b127 ih h)
      · have h := h
        obtain ⟨r15, S12, eS12, h⟩ := obind2_some h
        have p1 : FK [] [] S S12 := p0.tr ((w_fr_sourcePlace_12 eS12).w (by decide))
        obtain ⟨r19, S16, eS16, h⟩ := obind2_some h
        have p2 : FK [] [] S S16 := p1.tr ((w_fr_sourcePlace_12 eS16).w (by decide))
        obtain ⟨r23, S20, eS20, h⟩ := obind2_some h
        have p3 : FK [] [] S S20 := p2.tr ((w_fr_heardOf eS20).w (by decide))
        exact p3.tr (w_fr_rawAt_12_b127 ih h)
set_option maxHeartbeats 1000000 in
theorem w_fr_rawAt_12 {a1 : Int32} {a2 : Int32} {S : MS} {r1 : Int32} {S1 : MS} (h : fr_rawAt_12 S a1 a2 = some (r1, S1)) : FK [] [] S S1 := by
  have p0 : FK [] [] S S := FK.rf
  unfold fr_rawAt_12 at h
  obtain ⟨v2, ev2, h⟩ := elet_some h
  have h := (oif_some h).2
  obtain ⟨v4, ev4, h⟩ := elet_some h
  obtain ⟨v5, ev5, h⟩ := elet_some h
  rcases oif_or h with ⟨-, h⟩ | ⟨-, h⟩
  · have h := h
    obtain ⟨v7, ev7, h⟩ := elet_some h
    rcases oif_or h with ⟨-, h⟩ | ⟨-, h⟩
    · have h := h
      exact p0.tr (w_fr_rawAt_12_b71  _ _ _ _ _ _ h)
    · have h := h
      obtain ⟨v9, ev9, h⟩ := elet_some h
      have h := (oif_some h).2
      obtain ⟨v11, ev11, h⟩ := elet_some h
      obtain ⟨v12, ev12, h⟩ := elet_some h
      obtain ⟨r16, S13, eS13, h⟩ := obind2_some h
      have p1 : FK [] [] S S13 := p0.tr ((w_fr_centre eS13).w (by decide))
      obtain ⟨v17, ev17, h⟩ := elet_some h
      obtain ⟨r21, S18, eS18, h⟩ := obind2_some h
      have p2 : FK [] [] S S18 := p1.tr ((w_fr_centre eS18).w (by decide))
      obtain ⟨r25, S22, eS22, h⟩ := obind2_some h
      have p3 : FK [] [] S S22 := p2.tr ((w_fr_heardOf eS22).w (by decide))
      obtain ⟨v26, ev26, h⟩ := elet_some h
      rw [← (osome2 h).2]
      exact p3
  · have h := h
    rw [← (osome2 h).2]
    exact p0
set_option maxHeartbeats 1000000 in
theorem w_fr_filtered_b64 {l2 : Int32} {S : MS} {r1 : Int32} {S1 : MS} (h : fr_filtered_b64 S l2 = some (r1, S1)) : FK [] [] S S1 := by
  have p0 : FK [] [] S S := FK.rf
  unfold fr_filtered_b64 at h
  rw [← (osome2 h).2]
  exact p0
set_option maxHeartbeats 1000000 in
theorem w_fr_filtered_b21 {r1 : Int32} {S1 : MS} : ∀ n : Nat, ∀ (S : MS) (y1 : Int32) (y2 : Int32) (y3 : Int32), fr_filtered_b21 n S y1 y2 y3 = some (r1, S1) → FK [] [] S S1 := by
  intro n
  induction n with
  | zero =>
    intro S y1 y2 y3 h
    have h : (none : Option (Int32 × MS)) = some (r1, S1) := h
    cases h
  | succ n ih =>
    intro S l1 l2 l3 h
    have p0 : FK [] [] S S := FK.rf
    unfold fr_filtered_b21 at h
    obtain ⟨v2, ev2, h⟩ := elet_some h
    rcases oif_or h with ⟨-, h⟩ | ⟨-, h⟩
    · have h := h
      exact p0.tr (w_fr_filtered_b64  h)
    · have h := h
      rcases oif_or h with ⟨-, h⟩ | ⟨-, h⟩
      · have h := h
        exact p0.tr (w_fr_filtered_b64  h)
      · have h := h
        obtain ⟨v5, ev5, h⟩ := elet_some h
        have h := (oif_some h).2
        obtain ⟨v7, ev7, h⟩ := elet_some h
        obtain ⟨v8, ev8, h⟩ := elet_some h
        have h := (oif_some h).2
        obtain ⟨v10, ev10, h⟩ := elet_some h
        obtain ⟨v11, ev11, h⟩ := elet_some h
        obtain ⟨v12, ev12, h⟩ := elet_some h
        obtain ⟨v13, ev13, h⟩ := elet_some h
        exact p0.tr (ih _ _ _ _ h)
set_option maxHeartbeats 1000000 in
theorem w_fr_filtered {a0 : Int32} {S : MS} {r1 : Int32} {S1 : MS} (h : fr_filtered S a0 = some (r1, S1)) : FK [] [] S S1 := by
  have p0 : FK [] [] S S := FK.rf
  unfold fr_filtered at h
  obtain ⟨v2, ev2, h⟩ := elet_some h
  rcases oif_or h with ⟨-, h⟩ | ⟨-, h⟩
  · have h := h
    have h := (oif_some h).2
    obtain ⟨v5, ev5, h⟩ := elet_some h
    rw [← (osome2 h).2]
    exact p0
  · have h := h
    exact p0.tr (w_fr_filtered_b21  _ _ _ _ _ h)
set_option maxHeartbeats 1000000 in
theorem w_fr_bounded {a0 : Int32} {S : MS} {r1 : Int32} {S1 : MS} (h : fr_bounded S a0 = some (r1, S1)) : FK [] [] S S1 := by
  have p0 : FK [] [] S S := FK.rf
  unfold fr_bounded at h
  obtain ⟨v2, ev2, h⟩ := elet_some h
  obtain ⟨v3, ev3, h⟩ := elet_some h
  obtain ⟨v4, ev4, h⟩ := elet_some h
  obtain ⟨v5, ev5, h⟩ := elet_some h
  obtain ⟨v6, ev6, h⟩ := elet_some h
  rw [← (osome2 h).2]
  exact p0
set_option maxHeartbeats 1000000 in
theorem w_fr_records_12_b49 {k6 : MS → Int32 → Option (MS)} {S1 : MS} (hk6 : ∀ (x0 : MS) (x1 : Int32), k6 x0 x1 = some S1 → FK [] [12, 23] x0 S1) : ∀ n : Nat, ∀ (S : MS) (y1 : Int32) (y2 : Int32), fr_records_12_b49 k6 n S y1 y2 = some S1 → FK [] [12, 23] S S1 := by
  intro n
  induction n with
  | zero =>
    intro S y1 y2 h
    have h : (none : Option (MS)) = some S1 := h
    cases h
  | succ n ih =>
    intro S l2 l3 h
    have p0 : FK [] [12, 23] S S := FK.rf
    unfold fr_records_12_b49 at h
    obtain ⟨v2, ev2, h⟩ := elet_some h
    rcases oif_or h with ⟨-, h⟩ | ⟨-, h⟩
    · have h := h
      obtain ⟨v4, ev4, h⟩ := elet_some h
      exact p0.tr (hk6 _ _ h)
    · have h := h
      obtain ⟨v5, ev5, h⟩ := elet_some h
      obtain ⟨v6, ev6, h⟩ := elet_some h
      obtain ⟨v7, ev7, h⟩ := elet_some h
      obtain ⟨r11, S8, eS8, h⟩ := obind2_some h
      have p1 : FK [] [12, 23] S S8 := p0.tr ((w_fr_filtered eS8).w (by decide))
      obtain ⟨r15, S12, eS12, h⟩ := obind2_some h
      have p2 : FK [] [12, 23] S S12 := p1.tr ((w_fr_bounded eS12).w (by decide))
      have h := (oif_some h).2
      obtain ⟨S17, eS17, h⟩ := elet_some h
      have p3 : FK [] [12, 23] S S17 := p2.tr (by rw [eS17]; exact fw_mf (by decide))
      obtain ⟨v18, ev18, h⟩ := elet_some h
      exact p3.tr (ih _ _ _ h)
set_option maxHeartbeats 1000000 in
theorem w_fr_records_12_b18 {k6 : MS → Int32 → Option (MS)} {S1 : MS} (hk6 : ∀ (x0 : MS) (x1 : Int32), k6 x0 x1 = some S1 → FK [] [12, 23] x0 S1) : ∀ n : Nat, ∀ (S : MS) (y1 : Int32) (y2 : Int32), fr_records_12_b18 k6 n S y1 y2 = some S1 → FK [] [12, 23] S S1 := by
  intro n
  induction n with
  | zero =>
    intro S y1 y2 h
    have h : (none : Option (MS)) = some S1 := h
    cases h
  | succ n ih =>
    intro S l2 l3 h
    have p0 : FK [] [12, 23] S S := FK.rf
    unfold fr_records_12_b18 at h
    obtain ⟨v2, ev2, h⟩ := elet_some h
    rcases oif_or h with ⟨-, h⟩ | ⟨-, h⟩
    · have h := h
      exact p0.tr (w_fr_records_12_b49 hk6 _ _ _ _ h)
    · have h := h
      obtain ⟨r7, S4, eS4, h⟩ := obind2_some h
      have p1 : FK [] [12, 23] S S4 := p0.tr ((w_fr_rawAt_12 eS4).w (by decide))
      have h := (oif_some h).2
      obtain ⟨S9, eS9, h⟩ := elet_some h
      have p2 : FK [] [12, 23] S S9 := p1.tr (by rw [eS9]; exact fw_mf (by decide))
      obtain ⟨v10, ev10, h⟩ := elet_some h
      exact p2.tr (ih _ _ _ h)
set_option maxHeartbeats 1000000 in
theorem w_fr_records_12_b6 {S1 : MS} : ∀ n : Nat, ∀ (S : MS) (y1 : Int32), fr_records_12_b6 n S y1 = some S1 → FK [] [12, 23] S S1 := by
  intro n
  induction n with
  | zero =>
    intro S y1 h
    have h : (none : Option (MS)) = some S1 := h
    cases h
  | succ n ih =>
    intro S l2 h
    have p0 : FK [] [12, 23] S S := FK.rf
    unfold fr_records_12_b6 at h
    obtain ⟨v2, ev2, h⟩ := elet_some h
    rcases oif_or h with ⟨-, h⟩ | ⟨-, h⟩
    · have h := h
      rw [← osome1 h]
      exact p0
    · have h := h
      exact p0.tr (w_fr_records_12_b18 ih _ _ _ _ h)
set_option maxHeartbeats 1000000 in
theorem w_fr_records_12 {S : MS} {S1 : MS} (h : fr_records_12 S = some S1) : FK [] [12, 23] S S1 := by
  have p0 : FK [] [12, 23] S S := FK.rf
  unfold fr_records_12 at h
  obtain ⟨S2, eS2, h⟩ := elet_some h
  have p1 : FK [] [12, 23] S S2 := p0.tr (by rw [eS2]; exact fw_mf (by decide))
  exact p1.tr (w_fr_records_12_b6  _ _ _ h)
set_option maxHeartbeats 1000000 in
theorem w_fr_copy_12_15_b3 {S1 : MS} : ∀ n : Nat, ∀ (S : MS) (y1 : Int32) (y2 : Int32) (y3 : Int32), fr_copy_12_15_b3 n S y1 y2 y3 = some S1 → FK [] [15] S S1 := by
  intro n
  induction n with
  | zero =>
    intro S y1 y2 y3 h
    have h : (none : Option (MS)) = some S1 := h
    cases h
  | succ n ih =>
    intro S l1 l3 l4 h
    have p0 : FK [] [15] S S := FK.rf
    unfold fr_copy_12_15_b3 at h
    rcases oif_or h with ⟨-, h⟩ | ⟨-, h⟩
    · have h := h
      rw [← osome1 h]
      exact p0
    · have h := h
      obtain ⟨v3, ev3, h⟩ := elet_some h
      obtain ⟨v4, ev4, h⟩ := elet_some h
      have h := (oif_some h).2
      obtain ⟨v6, ev6, h⟩ := elet_some h
      have h := (oif_some h).2
      obtain ⟨S8, eS8, h⟩ := elet_some h
      have p1 : FK [] [15] S S8 := p0.tr (by rw [eS8]; exact fw_mf (by decide))
      obtain ⟨v9, ev9, h⟩ := elet_some h
      exact p1.tr (ih _ _ _ _ h)
set_option maxHeartbeats 1000000 in
theorem w_fr_copy_12_15 {a1 : Int32} {a3 : Int32} {S : MS} {S1 : MS} (h : fr_copy_12_15 S a1 a3 = some S1) : FK [] [15] S S1 := by
  have p0 : FK [] [15] S S := FK.rf
  unfold fr_copy_12_15 at h
  exact p0.tr (w_fr_copy_12_15_b3  _ _ _ _ _ h)
set_option maxHeartbeats 1000000 in
theorem w_fr_remember_b54 {S : MS} {S1 : MS} (h : fr_remember_b54 S = some S1) : FK [19] [15] S S1 := by
  have p0 : FK [19] [15] S S := FK.rf
  unfold fr_remember_b54 at h
  obtain ⟨v2, ev2, h⟩ := elet_some h
  obtain ⟨v3, ev3, h⟩ := elet_some h
  obtain ⟨S4, eS4, h⟩ := obind_some h
  have p1 : FK [19] [15] S S4 := p0.tr ((w_fr_copy_12_15 eS4).w (by decide))
  obtain ⟨v7, ev7, h⟩ := elet_some h
  obtain ⟨v8, ev8, h⟩ := elet_some h
  obtain ⟨S9, eS9, h⟩ := elet_some h
  have p2 : FK [19] [15] S S9 := p1.tr (by rw [eS9]; exact fw_mi (by decide))
  rw [← osome1 h]
  exact p2
set_option maxHeartbeats 1000000 in
theorem w_fr_remember_b13 {S1 : MS} : ∀ n : Nat, ∀ (S : MS) (y1 : Int32), fr_remember_b13 n S y1 = some S1 → FK [19] [15] S S1 := by
  intro n
  induction n with
  | zero =>
    intro S y1 h
    have h : (none : Option (MS)) = some S1 := h
    cases h
  | succ n ih =>
    intro S l1 h
    have p0 : FK [19] [15] S S := FK.rf
    unfold fr_remember_b13 at h
    rcases oif_or h with ⟨-, h⟩ | ⟨-, h⟩
    · have h := h
      obtain ⟨v3, ev3, h⟩ := elet_some h
      obtain ⟨v4, ev4, h⟩ := elet_some h
      obtain ⟨S5, eS5, h⟩ := elet_some h
      have p1 : FK [19] [15] S S5 := p0.tr (by rw [eS5]; exact fw_mi (by decide))
      exact p1.tr (w_fr_remember_b54  h)
    · have h := h
      obtain ⟨v6, ev6, h⟩ := elet_some h
      have h := (oif_some h).2
      obtain ⟨v8, ev8, h⟩ := elet_some h
      have h := (oif_some h).2
      obtain ⟨S10, eS10, h⟩ := elet_some h
      have p2 : FK [19] [15] S S10 := p0.tr (by rw [eS10]; exact fw_mf (by decide))
      obtain ⟨v11, ev11, h⟩ := elet_some h
      exact p2.tr (ih _ _ h)
set_option maxHeartbeats 1000000 in
theorem w_fr_remember {S : MS} {S1 : MS} (h : fr_remember S = some S1) : FK [19] [15] S S1 := by
  have p0 : FK [19] [15] S S := FK.rf
  unfold fr_remember at h
  obtain ⟨v2, ev2, h⟩ := elet_some h
  rcases oif_or h with ⟨-, h⟩ | ⟨-, h⟩
  · have h := h
    exact p0.tr (w_fr_remember_b13  _ _ _ h)
  · have h := h
    exact p0.tr (w_fr_remember_b54  h)
set_option maxHeartbeats 1000000 in
theorem w_fr_laysCell_b2 {S1 : MS} : ∀ n : Nat, ∀ (S : MS) (y1 : Int32) (y2 : Int32), fr_laysCell_b2 n S y1 y2 = some S1 → FK [] [24] S S1 := by
  intro n
  induction n with
  | zero =>
    intro S y1 y2 h
    have h : (none : Option (MS)) = some S1 := h
    cases h
  | succ n ih =>
    intro S l1 l2 h
    have p0 : FK [] [24] S S := FK.rf
    unfold fr_laysCell_b2 at h
    obtain ⟨v2, ev2, h⟩ := elet_some h
    rcases oif_or h with ⟨-, h⟩ | ⟨-, h⟩
    · have h := h
      rw [← osome1 h]
      exact p0
    · have h := h
      obtain ⟨v4, ev4, h⟩ := elet_some h
      obtain ⟨v5, ev5, h⟩ := elet_some h
      have h := (oif_some h).2
      obtain ⟨v7, ev7, h⟩ := elet_some h
      have h := (oif_some h).2
      obtain ⟨S9, eS9, h⟩ := elet_some h
      have p1 : FK [] [24] S S9 := p0.tr (by rw [eS9]; exact fw_mf (by decide))
      obtain ⟨v10, ev10, h⟩ := elet_some h
      exact p1.tr (ih _ _ _ h)
set_option maxHeartbeats 1000000 in
theorem w_fr_laysCell {a0 : Int32} {S : MS} {S1 : MS} (h : fr_laysCell S a0 = some S1) : FK [] [24] S S1 := by
  have p0 : FK [] [24] S S := FK.rf
  unfold fr_laysCell at h
  exact p0.tr (w_fr_laysCell_b2  _ _ _ _ h)
set_option maxHeartbeats 1000000 in
theorem w_fr_laysPoint_b2 {S1 : MS} : ∀ n : Nat, ∀ (S : MS) (y1 : Int32) (y2 : Int32) (y3 : Int32), fr_laysPoint_b2 n S y1 y2 y3 = some S1 → FK [] [24] S S1 := by
  intro n
  induction n with
  | zero =>
    intro S y1 y2 y3 h
    have h : (none : Option (MS)) = some S1 := h
    cases h
  | succ n ih =>
    intro S l1 l2 l3 h
    have p0 : FK [] [24] S S := FK.rf
    unfold fr_laysPoint_b2 at h
    obtain ⟨v2, ev2, h⟩ := elet_some h
    rcases oif_or h with ⟨-, h⟩ | ⟨-, h⟩
    · have h := h
      rw [← osome1 h]
      exact p0
    · have h := h
      obtain ⟨r7, S4, eS4, h⟩ := obind2_some h
      have p1 : FK [] [24] S S4 := p0.tr ((w_fr_delayFrom eS4).w (by decide))
      have h := (oif_some h).2
      obtain ⟨S9, eS9, h⟩ := elet_some h
      have p2 : FK [] [24] S S9 := p1.tr (by rw [eS9]; exact fw_mf (by decide))
      obtain ⟨v10, ev10, h⟩ := elet_some h
      exact p2.tr (ih _ _ _ _ h)
set_option maxHeartbeats 1000000 in
theorem w_fr_laysPoint {a0 : Int32} {a1 : Int32} {S : MS} {S1 : MS} (h : fr_laysPoint S a0 a1 = some S1) : FK [] [24] S S1 := by
  have p0 : FK [] [24] S S := FK.rf
  unfold fr_laysPoint at h
  exact p0.tr (w_fr_laysPoint_b2  _ _ _ _ _ h)
set_option maxHeartbeats 1000000 in
theorem w_fr_mayAsk_b36 {s0 : Int32} {S : MS} {r1 : Int32} {S1 : MS} (h : fr_mayAsk_b36 S s0 = some (r1, S1)) : FK [0] [] S S1 := by
  have p0 : FK [0] [] S S := FK.rf
  unfold fr_mayAsk_b36 at h
  have h := (oif_some h).2
  rw [← (osome2 h).2]
  exact p0
set_option maxHeartbeats 1000000 in
theorem w_fr_mayAsk_b21 {s0 : Int32} {S : MS} {r1 : Int32} {S1 : MS} (h : fr_mayAsk_b21 S s0 = some (r1, S1)) : FK [0] [] S S1 := by
  have p0 : FK [0] [] S S := FK.rf
  unfold fr_mayAsk_b21 at h
  obtain ⟨S2, eS2, h⟩ := elet_some h
  have p1 : FK [0] [] S S2 := p0.tr (by rw [eS2]; exact fw_mi (by decide))
  obtain ⟨v3, ev3, h⟩ := elet_some h
  rcases oif_or h with ⟨-, h⟩ | ⟨-, h⟩
  · have h := h
    exact p1.tr (w_fr_mayAsk_b36  h)
  · have h := h
    exact p1.tr (w_fr_mayAsk_b36  h)
set_option maxHeartbeats 1000000 in
theorem w_fr_mayAsk {a0 : Int32} {S : MS} {r1 : Int32} {S1 : MS} (h : fr_mayAsk S a0 = some (r1, S1)) : FK [0] [] S S1 := by
  have p0 : FK [0] [] S S := FK.rf
  unfold fr_mayAsk at h
  obtain ⟨v2, ev2, h⟩ := elet_some h
  rcases oif_or h with ⟨-, h⟩ | ⟨-, h⟩
  · have h := h
    exact p0.tr (w_fr_mayAsk_b21  h)
  · have h := h
    rcases oif_or h with ⟨-, h⟩ | ⟨-, h⟩
    · have h := h
      exact p0.tr (w_fr_mayAsk_b21  h)
    · have h := h
      exact p0.tr (w_fr_mayAsk_b21  h)
set_option maxHeartbeats 1000000 in
theorem w_fr_told_b17 {s0 : Int32} {S : MS} {r1 : Int32} {S1 : MS} (h : fr_told_b17 S s0 = some (r1, S1)) : FK [0] [] S S1 := by
  have p0 : FK [0] [] S S := FK.rf
  unfold fr_told_b17 at h
  rw [← (osome2 h).2]
  exact p0
set_option maxHeartbeats 1000000 in
theorem w_fr_told {a0 : Int32} {S : MS} {r1 : Int32} {S1 : MS} (h : fr_told S a0 = some (r1, S1)) : FK [0] [] S S1 := by
  have p0 : FK [0] [] S S := FK.rf
  unfold fr_told at h
  obtain ⟨S2, eS2, h⟩ := elet_some h
  have p1 : FK [0] [] S S2 := p0.tr (by rw [eS2]; exact fw_mi (by decide))
  obtain ⟨v3, ev3, h⟩ := elet_some h
  rcases oif_or h with ⟨-, h⟩ | ⟨-, h⟩
  · have h := h
    exact p1.tr (w_fr_told_b17  h)
  · have h := h
    exact p1.tr (w_fr_told_b17  h)
set_option maxHeartbeats 1000000 in
theorem w_fr_isMic {a0 : Int32} {S : MS} {r1 : Int32} {S1 : MS} (h : fr_isMic S a0 = some (r1, S1)) : FK [] [] S S1 := by
  have p0 : FK [] [] S S := FK.rf
  unfold fr_isMic at h
  obtain ⟨v2, ev2, h⟩ := elet_some h
  obtain ⟨v3, ev3, h⟩ := elet_some h
  obtain ⟨r4, -, h⟩ := obind_some h
  have h := (oif_some h).2
  rw [← (osome2 h).2]
  exact p0
set_option maxHeartbeats 1000000 in
theorem w_fr_isCell {a0 : Int32} {S : MS} {r1 : Int32} {S1 : MS} (h : fr_isCell S a0 = some (r1, S1)) : FK [] [] S S1 := by
  have p0 : FK [] [] S S := FK.rf
  unfold fr_isCell at h
  obtain ⟨r5, S2, eS2, h⟩ := obind2_some h
  have p1 : FK [] [] S S2 := p0.tr ((w_fr_cellCount eS2).w (by decide))
  obtain ⟨v6, ev6, h⟩ := elet_some h
  obtain ⟨r7, -, h⟩ := obind_some h
  have h := (oif_some h).2
  rw [← (osome2 h).2]
  exact p1
set_option maxHeartbeats 1000000 in
theorem w_fr_isSource {a0 : Int32} {S : MS} {r1 : Int32} {S1 : MS} (h : fr_isSource S a0 = some (r1, S1)) : FK [] [] S S1 := by
  have p0 : FK [] [] S S := FK.rf
  unfold fr_isSource at h
  obtain ⟨v2, ev2, h⟩ := elet_some h
  obtain ⟨v3, ev3, h⟩ := elet_some h
  obtain ⟨r4, -, h⟩ := obind_some h
  have h := (oif_some h).2
  rw [← (osome2 h).2]
  exact p0
set_option maxHeartbeats 1000000 in
theorem w_fr_isTime {a0 : Int32} {S : MS} {r1 : Int32} {S1 : MS} (h : fr_isTime S a0 = some (r1, S1)) : FK [] [] S S1 := by
  have p0 : FK [] [] S S := FK.rf
  unfold fr_isTime at h
  obtain ⟨v2, ev2, h⟩ := elet_some h
  obtain ⟨v3, ev3, h⟩ := elet_some h
  obtain ⟨r4, -, h⟩ := obind_some h
  have h := (oif_some h).2
  rw [← (osome2 h).2]
  exact p0
set_option maxHeartbeats 1000000 in
theorem w_fr_mics {S : MS} {r1 : Int32} {S1 : MS} (h : fr_mics S = some (r1, S1)) : FK [0] [] S S1 := by
  have p0 : FK [0] [] S S := FK.rf
  unfold fr_mics at h
  obtain ⟨v2, ev2, h⟩ := elet_some h
  obtain ⟨r6, S3, eS3, h⟩ := obind2_some h
  have p1 : FK [0] [] S S3 := p0.tr ((w_fr_told eS3).w (by decide))
  rw [← (osome2 h).2]
  exact p1
set_option maxHeartbeats 1000000 in
theorem w_fr_micAt {a0 : Int32} {a1 : Int32} {S : MS} {r1 : Int32} {S1 : MS} (h : fr_micAt S a0 a1 = some (r1, S1)) : FK [0] [] S S1 := by
  have p0 : FK [0] [] S S := FK.rf
  unfold fr_micAt at h
  obtain ⟨r5, S2, eS2, h⟩ := obind2_some h
  have p1 : FK [0] [] S S2 := p0.tr ((w_fr_isMic eS2).w (by decide))
  obtain ⟨r9, S6, eS6, h⟩ := obind2_some h
  have p2 : FK [0] [] S S6 := p1.tr ((w_fr_mayAsk eS6).w (by decide))
  rcases oif_or h with ⟨-, h⟩ | ⟨-, h⟩
  · have h := h
    rw [← (osome2 h).2]
    exact p2
  · have h := h
    rcases oif_or h with ⟨-, h⟩ | ⟨-, h⟩
    · have h := h
      obtain ⟨v12, ev12, h⟩ := elet_some h
      have h := (oif_some h).2
      obtain ⟨v14, ev14, h⟩ := elet_some h
      rw [← (osome2 h).2]
      exact p2
    · have h := h
      rcases oif_or h with ⟨-, h⟩ | ⟨-, h⟩
      · have h := h
        obtain ⟨v16, ev16, h⟩ := elet_some h
        have h := (oif_some h).2
        obtain ⟨v18, ev18, h⟩ := elet_some h
        rw [← (osome2 h).2]
        exact p2
      · have h := h
        rcases oif_or h with ⟨-, h⟩ | ⟨-, h⟩
        · have h := h
          obtain ⟨v20, ev20, h⟩ := elet_some h
          have h := (oif_some h).2
          obtain ⟨v22, ev22, h⟩ := elet_some h
          rw [← (osome2 h).2]
          exact p2
        · have h := h
          rcases oif_or h with ⟨-, h⟩ | ⟨-, h⟩
          · have h := h
            obtain ⟨v24, ev24, h⟩ := elet_some h
            have h := (oif_some h).2
            obtain ⟨v26, ev26, h⟩ := elet_some h
            rw [← (osome2 h).2]
            exact p2
          · have h := h
            obtain ⟨r30, S27, eS27, h⟩ := obind2_some h
            have p3 : FK [0] [] S S27 := p2.tr ((w_fr_throwsAt eS27).w (by decide))
            rw [← (osome2 h).2]
            exact p3
set_option maxHeartbeats 1000000 in
theorem w_fr_hears_12_b13 {s0 : Int32} {S : MS} {r1 : Int32} {S1 : MS} (h : fr_hears_12_b13 S s0 = some (r1, S1)) : FK [] [] S S1 := by
  have p0 : FK [] [] S S := FK.rf
  unfold fr_hears_12_b13 at h
  have h := (oif_some h).2
  rw [← (osome2 h).2]
  exact p0
set_option maxHeartbeats 1000000 in
theorem w_fr_hears_12 {a1 : Int32} {S : MS} {r1 : Int32} {S1 : MS} (h : fr_hears_12 S a1 = some (r1, S1)) : FK [] [] S S1 := by
  have p0 : FK [] [] S S := FK.rf
  unfold fr_hears_12 at h
  obtain ⟨v2, ev2, h⟩ := elet_some h
  have h := (oif_some h).2
  obtain ⟨v4, ev4, h⟩ := elet_some h
  rcases oif_or h with ⟨-, h⟩ | ⟨-, h⟩
  · have h := h
    exact p0.tr (w_fr_hears_12_b13  h)
  · have h := h
    exact p0.tr (w_fr_hears_12_b13  h)
set_option maxHeartbeats 1000000 in
theorem w_fr_isMuted_b29 {s0 : Int32} {S : MS} {r1 : Int32} {S1 : MS} (h : fr_isMuted_b29 S s0 = some (r1, S1)) : FK [0] [] S S1 := by
  have p0 : FK [0] [] S S := FK.rf
  unfold fr_isMuted_b29 at h
  have h := (oif_some h).2
  rw [← (osome2 h).2]
  exact p0
set_option maxHeartbeats 1000000 in
theorem w_fr_isMuted_b28 {S : MS} {r1 : Int32} {S1 : MS} (h : fr_isMuted_b28 S = some (r1, S1)) : FK [0] [] S S1 := by
  have p0 : FK [0] [] S S := FK.rf
  unfold fr_isMuted_b28 at h
  exact p0.tr (w_fr_isMuted_b29  h)
set_option maxHeartbeats 1000000 in
theorem w_fr_isMuted {a0 : Int32} {S : MS} {r1 : Int32} {S1 : MS} (h : fr_isMuted S a0 = some (r1, S1)) : FK [0] [] S S1 := by
  have p0 : FK [0] [] S S := FK.rf
  unfold fr_isMuted at h
  obtain ⟨r5, S2, eS2, h⟩ := obind2_some h
  have p1 : FK [0] [] S S2 := p0.tr ((w_fr_isMic eS2).w (by decide))
  obtain ⟨r9, S6, eS6, h⟩ := obind2_some h
  have p2 : FK [0] [] S S6 := p1.tr ((w_fr_mayAsk eS6).w (by decide))
  rcases oif_or h with ⟨-, h⟩ | ⟨-, h⟩
  · have h := h
    exact p2.tr (w_fr_isMuted_b28  h)
  · have h := h
    obtain ⟨r14, S11, eS11, h⟩ := obind2_some h
    have p3 : FK [0] [] S S11 := p2.tr ((w_fr_hears_12 eS11).w (by decide))
    rcases oif_or h with ⟨-, h⟩ | ⟨-, h⟩
    · have h := h
      exact p3.tr (w_fr_isMuted_b29  h)
    · have h := h
      exact p3.tr (w_fr_isMuted_b28  h)
set_option maxHeartbeats 1000000 in
theorem w_fr_columns {S : MS} {r1 : Int32} {S1 : MS} (h : fr_columns S = some (r1, S1)) : FK [0] [] S S1 := by
  have p0 : FK [0] [] S S := FK.rf
  unfold fr_columns at h
  obtain ⟨v2, ev2, h⟩ := elet_some h
  obtain ⟨r6, S3, eS3, h⟩ := obind2_some h
  have p1 : FK [0] [] S S3 := p0.tr ((w_fr_told eS3).w (by decide))
  rw [← (osome2 h).2]
  exact p1
set_option maxHeartbeats 1000000 in
theorem w_fr_rows {S : MS} {r1 : Int32} {S1 : MS} (h : fr_rows S = some (r1, S1)) : FK [0] [] S S1 := by
  have p0 : FK [0] [] S S := FK.rf
  unfold fr_rows at h
  obtain ⟨v2, ev2, h⟩ := elet_some h
  obtain ⟨r6, S3, eS3, h⟩ := obind2_some h
  have p1 : FK [0] [] S S3 := p0.tr ((w_fr_told eS3).w (by decide))
  rw [← (osome2 h).2]
  exact p1
set_option maxHeartbeats 1000000 in
theorem w_fr_cellAt_b37 {s0 : Int32} {S : MS} {r1 : Int32} {S1 : MS} (h : fr_cellAt_b37 S s0 = some (r1, S1)) : FK [0] [] S S1 := by
  have p0 : FK [0] [] S S := FK.rf
  unfold fr_cellAt_b37 at h
  rw [← (osome2 h).2]
  exact p0
set_option maxHeartbeats 1000000 in
theorem w_fr_cellAt {a0 : Int32} {a1 : Int32} {S : MS} {r1 : Int32} {S1 : MS} (h : fr_cellAt S a0 a1 = some (r1, S1)) : FK [0] [] S S1 := by
  have p0 : FK [0] [] S S := FK.rf
  unfold fr_cellAt at h
  obtain ⟨r5, S2, eS2, h⟩ := obind2_some h
  have p1 : FK [0] [] S S2 := p0.tr ((w_fr_isCell eS2).w (by decide))
  obtain ⟨r9, S6, eS6, h⟩ := obind2_some h
  have p2 : FK [0] [] S S6 := p1.tr ((w_fr_mayAsk eS6).w (by decide))
  rcases oif_or h with ⟨-, h⟩ | ⟨-, h⟩
  · have h := h
    rw [← (osome2 h).2]
    exact p2
  · have h := h
    obtain ⟨r11, -, h⟩ := obind_some h
    rcases oif_or h with ⟨-, h⟩ | ⟨-, h⟩
    · have h := h
      obtain ⟨r17, S14, eS14, h⟩ := obind2_some h
      have p3 : FK [0] [] S S14 := p2.tr ((w_fr_throwsAt eS14).w (by decide))
      exact p3.tr (w_fr_cellAt_b37  h)
    · have h := h
      obtain ⟨r21, S18, eS18, h⟩ := obind2_some h
      have p4 : FK [0] [] S S18 := p2.tr ((w_fr_centre eS18).w (by decide))
      exact p4.tr (w_fr_cellAt_b37  h)
set_option maxHeartbeats 1000000 in
theorem w_fr_sources {S : MS} {r1 : Int32} {S1 : MS} (h : fr_sources S = some (r1, S1)) : FK [0] [] S S1 := by
  have p0 : FK [0] [] S S := FK.rf
  unfold fr_sources at h
  obtain ⟨v2, ev2, h⟩ := elet_some h
  obtain ⟨r6, S3, eS3, h⟩ := obind2_some h
  have p1 : FK [0] [] S S3 := p0.tr ((w_fr_told eS3).w (by decide))
  rw [← (osome2 h).2]
  exact p1
set_option maxHeartbeats 1000000 in
theorem w_fr_sourceAt_b50 {s0 : Int32} {S : MS} {r1 : Int32} {S1 : MS} (h : fr_sourceAt_b50 S s0 = some (r1, S1)) : FK [0] [] S S1 := by
  have p0 : FK [0] [] S S := FK.rf
  unfold fr_sourceAt_b50 at h
  rw [← (osome2 h).2]
  exact p0
set_option maxHeartbeats 1000000 in
theorem w_fr_sourceAt_b45 {S : MS} {r1 : Int32} {S1 : MS} (h : fr_sourceAt_b45 S = some (r1, S1)) : FK [0] [] S S1 := by
  have p0 : FK [0] [] S S := FK.rf
  unfold fr_sourceAt_b45 at h
  obtain ⟨r5, S2, eS2, h⟩ := obind2_some h
  have p1 : FK [0] [] S S2 := p0.tr ((w_fr_throwsAt eS2).w (by decide))
  exact p1.tr (w_fr_sourceAt_b50  h)
set_option maxHeartbeats 1000000 in
theorem w_fr_sourceAt {a0 : Int32} {a1 : Int32} {a2 : Int32} {S : MS} {r1 : Int32} {S1 : MS} (h : fr_sourceAt S a0 a1 a2 = some (r1, S1)) : FK [0] [] S S1 := by
  have p0 : FK [0] [] S S := FK.rf
  unfold fr_sourceAt at h
  obtain ⟨r5, S2, eS2, h⟩ := obind2_some h
  have p1 : FK [0] [] S S2 := p0.tr ((w_fr_isSource eS2).w (by decide))
  obtain ⟨r9, S6, eS6, h⟩ := obind2_some h
  have p2 : FK [0] [] S S6 := p1.tr ((w_fr_mayAsk eS6).w (by decide))
  rcases oif_or h with ⟨-, h⟩ | ⟨-, h⟩
  · have h := h
    rw [← (osome2 h).2]
    exact p2
  · have h := h
    obtain ⟨r11, -, h⟩ := obind_some h
    rcases oif_or h with ⟨-, h⟩ | ⟨-, h⟩
    · have h := h
      exact p2.tr (w_fr_sourceAt_b45  h)
    · have h := h
      obtain ⟨r17, S14, eS14, h⟩ := obind2_some h
      have p3 : FK [0] [] S S14 := p2.tr ((w_fr_isTime eS14).w (by decide))
      rcases oif_or h with ⟨-, h⟩ | ⟨-, h⟩
      · have h := h
        exact p3.tr (w_fr_sourceAt_b45  h)
      · have h := h
        obtain ⟨r22, S19, eS19, h⟩ := obind2_some h
        have p4 : FK [0] [] S S19 := p3.tr ((w_fr_sourcePlace_12 eS19).w (by decide))
        exact p4.tr (w_fr_sourceAt_b50  h)
set_option maxHeartbeats 1000000 in
theorem w_fr_isOn_b30 {s0 : Int32} {S : MS} {r1 : Int32} {S1 : MS} (h : fr_isOn_b30 S s0 = some (r1, S1)) : FK [0] [] S S1 := by
  have p0 : FK [0] [] S S := FK.rf
  unfold fr_isOn_b30 at h
  have h := (oif_some h).2
  rw [← (osome2 h).2]
  exact p0
set_option maxHeartbeats 1000000 in
theorem w_fr_isOn_b29 {S : MS} {r1 : Int32} {S1 : MS} (h : fr_isOn_b29 S = some (r1, S1)) : FK [0] [] S S1 := by
  have p0 : FK [0] [] S S := FK.rf
  unfold fr_isOn_b29 at h
  exact p0.tr (w_fr_isOn_b30  h)
set_option maxHeartbeats 1000000 in
theorem w_fr_isOn {a0 : Int32} {S : MS} {r1 : Int32} {S1 : MS} (h : fr_isOn S a0 = some (r1, S1)) : FK [0] [] S S1 := by
  have p0 : FK [0] [] S S := FK.rf
  unfold fr_isOn at h
  obtain ⟨r5, S2, eS2, h⟩ := obind2_some h
  have p1 : FK [0] [] S S2 := p0.tr ((w_fr_isSource eS2).w (by decide))
  obtain ⟨r9, S6, eS6, h⟩ := obind2_some h
  have p2 : FK [0] [] S S6 := p1.tr ((w_fr_mayAsk eS6).w (by decide))
  rcases oif_or h with ⟨-, h⟩ | ⟨-, h⟩
  · have h := h
    exact p2.tr (w_fr_isOn_b29  h)
  · have h := h
    obtain ⟨v11, ev11, h⟩ := elet_some h
    have h := (oif_some h).2
    obtain ⟨v13, ev13, h⟩ := elet_some h
    rcases oif_or h with ⟨-, h⟩ | ⟨-, h⟩
    · have h := h
      exact p2.tr (w_fr_isOn_b30  h)
    · have h := h
      exact p2.tr (w_fr_isOn_b29  h)
set_option maxHeartbeats 1000000 in
theorem w_fr_waveAt_b36 {s0 : Int32} {S : MS} {r1 : Int32} {S1 : MS} (h : fr_waveAt_b36 S s0 = some (r1, S1)) : FK [0] [] S S1 := by
  have p0 : FK [0] [] S S := FK.rf
  unfold fr_waveAt_b36 at h
  rw [← (osome2 h).2]
  exact p0
set_option maxHeartbeats 1000000 in
theorem w_fr_waveAt {a0 : Int32} {a1 : Int32} {S : MS} {r1 : Int32} {S1 : MS} (h : fr_waveAt S a0 a1 = some (r1, S1)) : FK [0] [] S S1 := by
  have p0 : FK [0] [] S S := FK.rf
  unfold fr_waveAt at h
  obtain ⟨r5, S2, eS2, h⟩ := obind2_some h
  have p1 : FK [0] [] S S2 := p0.tr ((w_fr_isSource eS2).w (by decide))
  obtain ⟨r9, S6, eS6, h⟩ := obind2_some h
  have p2 : FK [0] [] S S6 := p1.tr ((w_fr_mayAsk eS6).w (by decide))
  rcases oif_or h with ⟨-, h⟩ | ⟨-, h⟩
  · have h := h
    rw [← (osome2 h).2]
    exact p2
  · have h := h
    obtain ⟨r14, S11, eS11, h⟩ := obind2_some h
    have p3 : FK [0] [] S S11 := p2.tr ((w_fr_isTime eS11).w (by decide))
    rcases oif_or h with ⟨-, h⟩ | ⟨-, h⟩
    · have h := h
      obtain ⟨r19, S16, eS16, h⟩ := obind2_some h
      have p4 : FK [0] [] S S16 := p3.tr ((w_fr_throwsAt eS16).w (by decide))
      exact p4.tr (w_fr_waveAt_b36  h)
    · have h := h
      obtain ⟨r23, S20, eS20, h⟩ := obind2_some h
      have p5 : FK [0] [] S S20 := p3.tr ((w_fr_wave eS20).w (by decide))
      exact p5.tr (w_fr_waveAt_b36  h)
set_option maxHeartbeats 1000000 in
theorem w_fr_samples {S : MS} {r1 : Int32} {S1 : MS} (h : fr_samples S = some (r1, S1)) : FK [0] [] S S1 := by
  have p0 : FK [0] [] S S := FK.rf
  unfold fr_samples at h
  obtain ⟨v2, ev2, h⟩ := elet_some h
  obtain ⟨r6, S3, eS3, h⟩ := obind2_some h
  have p1 : FK [0] [] S S3 := p0.tr ((w_fr_told eS3).w (by decide))
  rw [← (osome2 h).2]
  exact p1
set_option maxHeartbeats 1000000 in
theorem w_fr_delay_b43 {s0 : Int32} {S : MS} {r1 : Int32} {S1 : MS} (h : fr_delay_b43 S s0 = some (r1, S1)) : FK [0] [] S S1 := by
  have p0 : FK [0] [] S S := FK.rf
  unfold fr_delay_b43 at h
  rw [← (osome2 h).2]
  exact p0
set_option maxHeartbeats 1000000 in
theorem w_fr_delay_b22 {s0 : Int32} {l1 : Int32} {l2 : Int32} {S : MS} {r1 : Int32} {S1 : MS} (h : fr_delay_b22 S s0 l1 l2 = some (r1, S1)) : FK [0] [] S S1 := by
  have p0 : FK [0] [] S S := FK.rf
  unfold fr_delay_b22 at h
  obtain ⟨r5, S2, eS2, h⟩ := obind2_some h
  have p1 : FK [0] [] S S2 := p0.tr ((w_fr_mayAsk eS2).w (by decide))
  rcases oif_or h with ⟨-, h⟩ | ⟨-, h⟩
  · have h := h
    exact p1.tr (w_fr_delay_b43  h)
  · have h := h
    obtain ⟨v7, ev7, h⟩ := elet_some h
    obtain ⟨v8, ev8, h⟩ := elet_some h
    have h := (oif_some h).2
    obtain ⟨v10, ev10, h⟩ := elet_some h
    exact p1.tr (w_fr_delay_b43  h)
set_option maxHeartbeats 1000000 in
theorem w_fr_delay_b21 {l1 : Int32} {l2 : Int32} {S : MS} {r1 : Int32} {S1 : MS} (h : fr_delay_b21 S l1 l2 = some (r1, S1)) : FK [0] [] S S1 := by
  have p0 : FK [0] [] S S := FK.rf
  unfold fr_delay_b21 at h
  exact p0.tr (w_fr_delay_b22  h)
set_option maxHeartbeats 1000000 in
theorem w_fr_delay {a0 : Int32} {a1 : Int32} {S : MS} {r1 : Int32} {S1 : MS} (h : fr_delay S a0 a1 = some (r1, S1)) : FK [0] [] S S1 := by
  have p0 : FK [0] [] S S := FK.rf
  unfold fr_delay at h
  obtain ⟨r5, S2, eS2, h⟩ := obind2_some h
  have p1 : FK [0] [] S S2 := p0.tr ((w_fr_isMic eS2).w (by decide))
  rcases oif_or h with ⟨-, h⟩ | ⟨-, h⟩
  · have h := h
    exact p1.tr (w_fr_delay_b21  h)
  · have h := h
    obtain ⟨r10, S7, eS7, h⟩ := obind2_some h
    have p2 : FK [0] [] S S7 := p1.tr ((w_fr_isCell eS7).w (by decide))
    rcases oif_or h with ⟨-, h⟩ | ⟨-, h⟩
    · have h := h
      exact p2.tr (w_fr_delay_b21  h)
    · have h := h
      exact p2.tr (w_fr_delay_b22  h)
set_option maxHeartbeats 1000000 in
theorem w_fr_delayTo_b37 {s0 : Int32} {S : MS} {r1 : Int32} {S1 : MS} (h : fr_delayTo_b37 S s0 = some (r1, S1)) : FK [0] [] S S1 := by
  have p0 : FK [0] [] S S := FK.rf
  unfold fr_delayTo_b37 at h
  rw [← (osome2 h).2]
  exact p0
set_option maxHeartbeats 1000000 in
theorem w_fr_delayTo {a0 : Int32} {a1 : Int32} {a2 : Int32} {S : MS} {r1 : Int32} {S1 : MS} (h : fr_delayTo S a0 a1 a2 = some (r1, S1)) : FK [0] [] S S1 := by
  have p0 : FK [0] [] S S := FK.rf
  unfold fr_delayTo at h
  obtain ⟨r5, S2, eS2, h⟩ := obind2_some h
  have p1 : FK [0] [] S S2 := p0.tr ((w_fr_isMic eS2).w (by decide))
  obtain ⟨r9, S6, eS6, h⟩ := obind2_some h
  have p2 : FK [0] [] S S6 := p1.tr ((w_fr_mayAsk eS6).w (by decide))
  rcases oif_or h with ⟨-, h⟩ | ⟨-, h⟩
  · have h := h
    rw [← (osome2 h).2]
    exact p2
  · have h := h
    obtain ⟨r11, -, h⟩ := obind_some h
    rcases oif_or h with ⟨-, h⟩ | ⟨-, h⟩
    · have h := h
      obtain ⟨r17, S14, eS14, h⟩ := obind2_some h
      have p3 : FK [0] [] S S14 := p2.tr ((w_fr_throwsAt eS14).w (by decide))
      exact p3.tr (w_fr_delayTo_b37  h)
    · have h := h
      obtain ⟨r21, S18, eS18, h⟩ := obind2_some h
      have p4 : FK [0] [] S S18 := p2.tr ((w_fr_delayFrom eS18).w (by decide))
      exact p4.tr (w_fr_delayTo_b37  h)
set_option maxHeartbeats 1000000 in
theorem w_fr_activeCount_b32 {k4 : MS → Int32 → Int32 → Option (Int32 × MS)} {s0 : Int32} {s1 : Int32} {l2 : Int32} {S : MS} {r1 : Int32} {S1 : MS} (hk4 : ∀ (x0 : MS) (x1 : Int32) (x2 : Int32), k4 x0 x1 x2 = some (r1, S1) → FK [] [] x0 S1) (h : fr_activeCount_b32 k4 S s0 s1 l2 = some (r1, S1)) : FK [] [] S S1 := by
  have p0 : FK [] [] S S := FK.rf
  unfold fr_activeCount_b32 at h
  obtain ⟨v2, ev2, h⟩ := elet_some h
  obtain ⟨v3, ev3, h⟩ := elet_some h
  exact p0.tr (hk4 _ _ _ h)
set_option maxHeartbeats 1000000 in
theorem w_fr_activeCount_b4 {r1 : Int32} {S1 : MS} : ∀ n : Nat, ∀ (S : MS) (y1 : Int32) (y2 : Int32), fr_activeCount_b4 n S y1 y2 = some (r1, S1) → FK [] [] S S1 := by
  intro n
  induction n with
  | zero =>
    intro S y1 y2 h
    have h : (none : Option (Int32 × MS)) = some (r1, S1) := h
    cases h
  | succ n ih =>
    intro S l1 l2 h
    have p0 : FK [] [] S S := FK.rf
    unfold fr_activeCount_b4 at h
    obtain ⟨v2, ev2, h⟩ := elet_some h
    rcases oif_or h with ⟨-, h⟩ | ⟨-, h⟩
    · have h := h
      rw [← (osome2 h).2]
      exact p0
    · have h := h
      obtain ⟨r7, S4, eS4, h⟩ := obind2_some h
      have p1 : FK [] [] S S4 := p0.tr ((w_fr_hears_12 eS4).w (by decide))
      rcases oif_or h with ⟨-, h⟩ | ⟨-, h⟩
      · have h := h
        exact p1.tr (w_fr_activeCount_b32 ih h)
      · have h := h
        exact p1.tr (w_fr_activeCount_b32 ih h)
set_option maxHeartbeats 1000000 in
theorem w_fr_activeCount {S : MS} {r1 : Int32} {S1 : MS} (h : fr_activeCount S = some (r1, S1)) : FK [] [] S S1 := by
  have p0 : FK [] [] S S := FK.rf
  unfold fr_activeCount at h
  exact p0.tr (w_fr_activeCount_b4  _ _ _ _ h)
set_option maxHeartbeats 1000000 in
theorem w_fr_spread_b19 {S : MS} {r1 : Int32} {S1 : MS} (h : fr_spread_b19 S = some (r1, S1)) : FK [0] [] S S1 := by
  have p0 : FK [0] [] S S := FK.rf
  unfold fr_spread_b19 at h
  rw [← (osome2 h).2]
  exact p0
set_option maxHeartbeats 1000000 in
theorem w_fr_spread_b91 {k30 : MS → Int32 → Int32 → Int32 → Int32 → Option (Int32 × MS)} {l1 : Int32} {l2 : Int32} {l3 : Int32} {l4 : Int32} {S : MS} {r1 : Int32} {S1 : MS} (hk30 : ∀ (x0 : MS) (x1 : Int32) (x2 : Int32) (x3 : Int32) (x4 : Int32), k30 x0 x1 x2 x3 x4 = some (r1, S1) → FK [0] [] x0 S1) (h : fr_spread_b91 k30 S l1 l2 l3 l4 = some (r1, S1)) : FK [0] [] S S1 := by
  have p0 : FK [0] [] S S := FK.rf
  unfold fr_spread_b91 at h
  obtain ⟨v2, ev2, h⟩ := elet_some h
  exact p0.tr (hk30 _ _ _ _ _ h)
set_option maxHeartbeats 1000000 in
theorem w_fr_spread_b30 {r1 : Int32} {S1 : MS} : ∀ n : Nat, ∀ (S : MS) (y1 : Int32) (y2 : Int32) (y3 : Int32) (y4 : Int32), fr_spread_b30 n S y1 y2 y3 y4 = some (r1, S1) → FK [0] [] S S1 := by
  intro n
  induction n with
  | zero =>
    intro S y1 y2 y3 y4 h
    have h : (none : Option (Int32 × MS)) = some (r1, S1) := h
    cases h
  | succ n ih =>
    intro S l1 l2 l3 l4 h
    have p0 : FK [0] [] S S := FK.rf
    unfold fr_spread_b30 at h
    obtain ⟨v2, ev2, h⟩ := elet_some h
    rcases oif_or h with ⟨-, h⟩ | ⟨-, h⟩
    · have h := h
      obtain ⟨v4, ev4, h⟩ := elet_some h
      rw [← (osome2 h).2]
      exact p0
    · have h := h
      obtain ⟨r8, S5, eS5, h⟩ := obind2_some h
      have p1 : FK [0] [] S S5 := p0.tr ((w_fr_hears_12 eS5).w (by decide))
      rcases oif_or h with ⟨-, h⟩ | ⟨-, h⟩
      · have h := h
        exact p1.tr (w_fr_spread_b91 ih h)
      · have h := h
        obtain ⟨v10, ev10, h⟩ := elet_some h
        obtain ⟨v11, ev11, h⟩ := elet_some h
        have h := (oif_some h).2
        obtain ⟨v13, ev13, h⟩ := elet_some h
        obtain ⟨v14, ev14, h⟩ := elet_some h
        obtain ⟨v15, ev15, h⟩ := elet_some h
        obtain ⟨v16, ev16, h⟩ := elet_some h
        have h := (oif_some h).2
        obtain ⟨v18, ev18, h⟩ := elet_some h
        obtain ⟨v19, ev19, h⟩ := elet_some h
        exact p1.tr (w_fr_spread_b91 ih h)
set_option maxHeartbeats 1000000 in
theorem w_fr_spread {a0 : Int32} {S : MS} {r1 : Int32} {S1 : MS} (h : fr_spread S a0 = some (r1, S1)) : FK [0] [] S S1 := by
  have p0 : FK [0] [] S S := FK.rf
  unfold fr_spread at h
  obtain ⟨r5, S2, eS2, h⟩ := obind2_some h
  have p1 : FK [0] [] S S2 := p0.tr ((w_fr_isCell eS2).w (by decide))
  obtain ⟨r9, S6, eS6, h⟩ := obind2_some h
  have p2 : FK [0] [] S S6 := p1.tr ((w_fr_mayAsk eS6).w (by decide))
  rcases oif_or h with ⟨-, h⟩ | ⟨-, h⟩
  · have h := h
    exact p2.tr (w_fr_spread_b19  h)
  · have h := h
    obtain ⟨r14, S11, eS11, h⟩ := obind2_some h
    have p3 : FK [0] [] S S11 := p2.tr ((w_fr_activeCount eS11).w (by decide))
    rcases oif_or h with ⟨-, h⟩ | ⟨-, h⟩
    · have h := h
      exact p3.tr (w_fr_spread_b19  h)
    · have h := h
      exact p3.tr (w_fr_spread_b30  _ _ _ _ _ _ h)
set_option maxHeartbeats 1000000 in
theorem w_fr_windowOf_12_b37 {k4 : MS → Int32 → Int32 → Option (Int32 × MS)} {s0 : Int32} {l3 : Int32} {S : MS} {r1 : Int32} {S1 : MS} (hk4 : ∀ (x0 : MS) (x1 : Int32) (x2 : Int32), k4 x0 x1 x2 = some (r1, S1) → FK [] [] x0 S1) (h : fr_windowOf_12_b37 k4 S s0 l3 = some (r1, S1)) : FK [] [] S S1 := by
  have p0 : FK [] [] S S := FK.rf
  unfold fr_windowOf_12_b37 at h
  obtain ⟨v2, ev2, h⟩ := elet_some h
  exact p0.tr (hk4 _ _ _ h)
set_option maxHeartbeats 1000000 in
theorem w_fr_windowOf_12_b4 {r1 : Int32} {S1 : MS} : ∀ n : Nat, ∀ (S : MS) (y1 : Int32) (y2 : Int32), fr_windowOf_12_b4 n S y1 y2 = some (r1, S1) → FK [] [] S S1 := by
  intro n
  induction n with
  | zero =>
    intro S y1 y2 h
    have h : (none : Option (Int32 × MS)) = some (r1, S1) := h
    cases h
  | succ n ih =>
    intro S l2 l3 h
    have p0 : FK [] [] S S := FK.rf
    unfold fr_windowOf_12_b4 at h
    obtain ⟨v2, ev2, h⟩ := elet_some h
    rcases oif_or h with ⟨-, h⟩ | ⟨-, h⟩
    · have h := h
      obtain ⟨v4, ev4, h⟩ := elet_some h
      obtain ⟨v5, ev5, h⟩ := elet_some h
      obtain ⟨v6, ev6, h⟩ := elet_some h
      rw [← (osome2 h).2]
      exact p0
    · have h := h
      obtain ⟨r10, S7, eS7, h⟩ := obind2_some h
      have p1 : FK [] [] S S7 := p0.tr ((w_fr_hears_12 eS7).w (by decide))
      rcases oif_or h with ⟨-, h⟩ | ⟨-, h⟩
      · have h := h
        exact p1.tr (w_fr_windowOf_12_b37 ih h)
      · have h := h
        have h := (oif_some h).2
        obtain ⟨v13, ev13, h⟩ := elet_some h
        obtain ⟨v14, ev14, h⟩ := elet_some h
        exact p1.tr (w_fr_windowOf_12_b37 ih h)
set_option maxHeartbeats 1000000 in
theorem w_fr_windowOf_12 {S : MS} {r1 : Int32} {S1 : MS} (h : fr_windowOf_12 S = some (r1, S1)) : FK [] [] S S1 := by
  have p0 : FK [] [] S S := FK.rf
  unfold fr_windowOf_12 at h
  exact p0.tr (w_fr_windowOf_12_b4  _ _ _ _ h)
set_option maxHeartbeats 1000000 in
theorem w_fr_window {a0 : Int32} {S : MS} {r1 : Int32} {S1 : MS} (h : fr_window S a0 = some (r1, S1)) : FK [0] [24] S S1 := by
  have p0 : FK [0] [24] S S := FK.rf
  unfold fr_window at h
  obtain ⟨r5, S2, eS2, h⟩ := obind2_some h
  have p1 : FK [0] [24] S S2 := p0.tr ((w_fr_isCell eS2).w (by decide))
  obtain ⟨r9, S6, eS6, h⟩ := obind2_some h
  have p2 : FK [0] [24] S S6 := p1.tr ((w_fr_mayAsk eS6).w (by decide))
  rcases oif_or h with ⟨-, h⟩ | ⟨-, h⟩
  · have h := h
    rw [← (osome2 h).2]
    exact p2
  · have h := h
    obtain ⟨S11, eS11, h⟩ := obind_some h
    have p3 : FK [0] [24] S S11 := p2.tr ((w_fr_laysCell eS11).w (by decide))
    obtain ⟨r17, S14, eS14, h⟩ := obind2_some h
    have p4 : FK [0] [24] S S14 := p3.tr ((w_fr_windowOf_12 eS14).w (by decide))
    rw [← (osome2 h).2]
    exact p4
set_option maxHeartbeats 1000000 in
theorem w_fr_sample_b45 {s0 : Int32} {S : MS} {r1 : Int32} {S1 : MS} (h : fr_sample_b45 S s0 = some (r1, S1)) : FK [0] [] S S1 := by
  have p0 : FK [0] [] S S := FK.rf
  unfold fr_sample_b45 at h
  rw [← (osome2 h).2]
  exact p0
set_option maxHeartbeats 1000000 in
theorem w_fr_sample {a0 : Int32} {a1 : Int32} {S : MS} {r1 : Int32} {S1 : MS} (h : fr_sample S a0 a1 = some (r1, S1)) : FK [0] [] S S1 := by
  have p0 : FK [0] [] S S := FK.rf
  unfold fr_sample at h
  obtain ⟨r5, S2, eS2, h⟩ := obind2_some h
  have p1 : FK [0] [] S S2 := p0.tr ((w_fr_isMic eS2).w (by decide))
  obtain ⟨r9, S6, eS6, h⟩ := obind2_some h
  have p2 : FK [0] [] S S6 := p1.tr ((w_fr_mayAsk eS6).w (by decide))
  rcases oif_or h with ⟨-, h⟩ | ⟨-, h⟩
  · have h := h
    rw [← (osome2 h).2]
    exact p2
  · have h := h
    obtain ⟨r14, S11, eS11, h⟩ := obind2_some h
    have p3 : FK [0] [] S S11 := p2.tr ((w_fr_isTime eS11).w (by decide))
    rcases oif_or h with ⟨-, h⟩ | ⟨-, h⟩
    · have h := h
      obtain ⟨r19, S16, eS16, h⟩ := obind2_some h
      have p4 : FK [0] [] S S16 := p3.tr ((w_fr_throwsAt eS16).w (by decide))
      exact p4.tr (w_fr_sample_b45  h)
    · have h := h
      obtain ⟨v20, ev20, h⟩ := elet_some h
      obtain ⟨v21, ev21, h⟩ := elet_some h
      obtain ⟨v22, ev22, h⟩ := elet_some h
      have h := (oif_some h).2
      obtain ⟨v24, ev24, h⟩ := elet_some h
      exact p3.tr (w_fr_sample_b45  h)
set_option maxHeartbeats 1000000 in
theorem w_fr_beamAt_12_b78 {k5 : MS → Int32 → Int32 → Int32 → Option (Int32 × MS)} {s0 : Int32} {s1 : Int32} {l2 : Int32} {l4 : Int32} {S : MS} {r1 : Int32} {S1 : MS} (hk5 : ∀ (x0 : MS) (x1 : Int32) (x2 : Int32) (x3 : Int32), k5 x0 x1 x2 x3 = some (r1, S1) → FK [] [] x0 S1) (h : fr_beamAt_12_b78 k5 S s0 s1 l2 l4 = some (r1, S1)) : FK [] [] S S1 := by
  have p0 : FK [] [] S S := FK.rf
  unfold fr_beamAt_12_b78 at h
  obtain ⟨v2, ev2, h⟩ := elet_some h
  obtain ⟨v3, ev3, h⟩ := elet_some h
  exact p0.tr (hk5 _ _ _ _ h)
set_option maxHeartbeats 1000000 in
theorem w_fr_beamAt_12_b77 {k5 : MS → Int32 → Int32 → Int32 → Option (Int32 × MS)} {s0 : Int32} {l2 : Int32} {l4 : Int32} {S : MS} {r1 : Int32} {S1 : MS} (hk5 : ∀ (x0 : MS) (x1 : Int32) (x2 : Int32) (x3 : Int32), k5 x0 x1 x2 x3 = some (r1, S1) → FK [] [] x0 S1) (h : fr_beamAt_12_b77 k5 S s0 l2 l4 = some (r1, S1)) : FK [] [] S S1 := by
  have p0 : FK [] [] S S := FK.rf
  unfold fr_beamAt_12_b77 at h
  exact p0.tr (w_fr_beamAt_12_b78 hk5 h)
set_option maxHeartbeats 1000000 in
theorem w_fr_beamAt_12_b5 {r1 : Int32} {S1 : MS} : ∀ n : Nat, ∀ (S : MS) (y1 : Int32) (y2 : Int32) (y3 : Int32), fr_beamAt_12_b5 n S y1 y2 y3 = some (r1, S1) → FK [] [] S S1 := by
  intro n
  induction n with
  | zero =>
    intro S y1 y2 y3 h
    have h : (none : Option (Int32 × MS)) = some (r1, S1) := h
    cases h
  | succ n ih =>
    intro S l2 l3 l4 h
    have p0 : FK [] [] S S := FK.rf
    unfold fr_beamAt_12_b5 at h
    obtain ⟨v2, ev2, h⟩ := elet_some h
    rcases oif_or h with ⟨-, h⟩ | ⟨-, h⟩
    · have h := h
      rw [← (osome2 h).2]
      exact p0
    · have h := h
      obtain ⟨r7, S4, eS4, h⟩ := obind2_some h
      have p1 : FK [] [] S S4 := p0.tr ((w_fr_hears_12 eS4).w (by decide))
      rcases oif_or h with ⟨-, h⟩ | ⟨-, h⟩
      · have h := h
        exact p1.tr (w_fr_beamAt_12_b77 ih h)
      · have h := h
        have h := (oif_some h).2
        obtain ⟨v10, ev10, h⟩ := elet_some h
        obtain ⟨v11, ev11, h⟩ := elet_some h
        obtain ⟨v12, ev12, h⟩ := elet_some h
        rcases oif_or h with ⟨-, h⟩ | ⟨-, h⟩
        · have h := h
          exact p1.tr (w_fr_beamAt_12_b77 ih h)
        · have h := h
          obtain ⟨v14, ev14, h⟩ := elet_some h
          have h := (oif_some h).2
          obtain ⟨v16, ev16, h⟩ := elet_some h
          obtain ⟨v17, ev17, h⟩ := elet_some h
          obtain ⟨v18, ev18, h⟩ := elet_some h
          obtain ⟨v19, ev19, h⟩ := elet_some h
          have h := (oif_some h).2
          obtain ⟨v21, ev21, h⟩ := elet_some h
          obtain ⟨v22, ev22, h⟩ := elet_some h
          have h := (oif_some h).2
          obtain ⟨v24, ev24, h⟩ := elet_some h
          obtain ⟨v25, ev25, h⟩ := elet_some h
          exact p1.tr (w_fr_beamAt_12_b78 ih h)
set_option maxHeartbeats 1000000 in
theorem w_fr_beamAt_12 {a1 : Int32} {S : MS} {r1 : Int32} {S1 : MS} (h : fr_beamAt_12 S a1 = some (r1, S1)) : FK [] [] S S1 := by
  have p0 : FK [] [] S S := FK.rf
  unfold fr_beamAt_12 at h
  exact p0.tr (w_fr_beamAt_12_b5  _ _ _ _ _ h)
set_option maxHeartbeats 1000000 in
theorem w_fr_beam_b54 {s0 : Int32} {S : MS} {r1 : Int32} {S1 : MS} (h : fr_beam_b54 S s0 = some (r1, S1)) : FK [0] [24] S S1 := by
  have p0 : FK [0] [24] S S := FK.rf
  unfold fr_beam_b54 at h
  rw [← (osome2 h).2]
  exact p0
set_option maxHeartbeats 1000000 in
theorem w_fr_beam {a0 : Int32} {a1 : Int32} {S : MS} {r1 : Int32} {S1 : MS} (h : fr_beam S a0 a1 = some (r1, S1)) : FK [0] [24] S S1 := by
  have p0 : FK [0] [24] S S := FK.rf
  unfold fr_beam at h
  obtain ⟨r5, S2, eS2, h⟩ := obind2_some h
  have p1 : FK [0] [24] S S2 := p0.tr ((w_fr_isCell eS2).w (by decide))
  obtain ⟨r9, S6, eS6, h⟩ := obind2_some h
  have p2 : FK [0] [24] S S6 := p1.tr ((w_fr_mayAsk eS6).w (by decide))
  rcases oif_or h with ⟨-, h⟩ | ⟨-, h⟩
  · have h := h
    rw [← (osome2 h).2]
    exact p2
  · have h := h
    obtain ⟨S11, eS11, h⟩ := obind_some h
    have p3 : FK [0] [24] S S11 := p2.tr ((w_fr_laysCell eS11).w (by decide))
    obtain ⟨r17, S14, eS14, h⟩ := obind2_some h
    have p4 : FK [0] [24] S S14 := p3.tr ((w_fr_windowOf_12 eS14).w (by decide))
    obtain ⟨v18, ev18, h⟩ := elet_some h
    obtain ⟨r19, -, h⟩ := obind_some h
    rcases oif_or h with ⟨-, h⟩ | ⟨-, h⟩
    · have h := h
      obtain ⟨r25, S22, eS22, h⟩ := obind2_some h
      have p5 : FK [0] [24] S S22 := p4.tr ((w_fr_throwsAt eS22).w (by decide))
      exact p5.tr (w_fr_beam_b54  h)
    · have h := h
      obtain ⟨r29, S26, eS26, h⟩ := obind2_some h
      have p6 : FK [0] [24] S S26 := p4.tr ((w_fr_beamAt_12 eS26).w (by decide))
      exact p6.tr (w_fr_beam_b54  h)
set_option maxHeartbeats 1000000 in
theorem w_fr_energy_12_b6 {r1 : Int64} {S1 : MS} : ∀ n : Nat, ∀ (S : MS) (y1 : Int32) (y2 : Int64) (y3 : Int32), fr_energy_12_b6 n S y1 y2 y3 = some (r1, S1) → FK [] [] S S1 := by
  intro n
  induction n with
  | zero =>
    intro S y1 y2 y3 h
    have h : (none : Option (Int64 × MS)) = some (r1, S1) := h
    cases h
  | succ n ih =>
    intro S l3 l4 l6 h
    have p0 : FK [] [] S S := FK.rf
    unfold fr_energy_12_b6 at h
    rcases oif_or h with ⟨-, h⟩ | ⟨-, h⟩
    · have h := h
      rw [← (osome2 h).2]
      exact p0
    · have h := h
      obtain ⟨r6, S3, eS3, h⟩ := obind2_some h
      have p1 : FK [] [] S S3 := p0.tr ((w_fr_beamAt_12 eS3).w (by decide))
      obtain ⟨v7, ev7, h⟩ := elet_some h
      obtain ⟨v8, ev8, h⟩ := elet_some h
      obtain ⟨v9, ev9, h⟩ := elet_some h
      obtain ⟨v10, ev10, h⟩ := elet_some h
      exact p1.tr (ih _ _ _ _ h)
set_option maxHeartbeats 1000000 in
theorem w_fr_energy_12 {a1 : Int32} {a2 : Int32} {S : MS} {r1 : Int64} {S1 : MS} (h : fr_energy_12 S a1 a2 = some (r1, S1)) : FK [] [] S S1 := by
  have p0 : FK [] [] S S := FK.rf
  unfold fr_energy_12 at h
  exact p0.tr (w_fr_energy_12_b6  _ _ _ _ _ h)
set_option maxHeartbeats 1000000 in
theorem w_fr_powerHere_12_b24 {s0 : Int64} {S : MS} {r1 : Int64} {S1 : MS} (h : fr_powerHere_12_b24 S s0 = some (r1, S1)) : FK [] [] S S1 := by
  have p0 : FK [] [] S S := FK.rf
  unfold fr_powerHere_12_b24 at h
  rw [← (osome2 h).2]
  exact p0
set_option maxHeartbeats 1000000 in
theorem w_fr_powerHere_12 {S : MS} {r1 : Int64} {S1 : MS} (h : fr_powerHere_12 S = some (r1, S1)) : FK [] [] S S1 := by
  have p0 : FK [] [] S S := FK.rf
  unfold fr_powerHere_12 at h
  obtain ⟨r5, S2, eS2, h⟩ := obind2_some h
  have p1 : FK [] [] S S2 := p0.tr ((w_fr_windowOf_12 eS2).w (by decide))
  rcases oif_or h with ⟨-, h⟩ | ⟨-, h⟩
  · have h := h
    exact p1.tr (w_fr_powerHere_12_b24  h)
  · have h := h
    obtain ⟨r10, S7, eS7, h⟩ := obind2_some h
    have p2 : FK [] [] S S7 := p1.tr ((w_fr_energy_12 eS7).w (by decide))
    obtain ⟨v11, ev11, h⟩ := elet_some h
    have h := (oif_some h).2
    obtain ⟨v13, ev13, h⟩ := elet_some h
    exact p2.tr (w_fr_powerHere_12_b24  h)
set_option maxHeartbeats 1000000 in
theorem w_fr_powerOf_12 {a1 : Int32} {S : MS} {r1 : Int64} {S1 : MS} (h : fr_powerOf_12 S a1 = some (r1, S1)) : FK [] [24] S S1 := by
  have p0 : FK [] [24] S S := FK.rf
  unfold fr_powerOf_12 at h
  obtain ⟨S2, eS2, h⟩ := obind_some h
  have p1 : FK [] [24] S S2 := p0.tr ((w_fr_laysCell eS2).w (by decide))
  obtain ⟨r8, S5, eS5, h⟩ := obind2_some h
  have p2 : FK [] [24] S S5 := p1.tr ((w_fr_powerHere_12 eS5).w (by decide))
  rw [← (osome2 h).2]
  exact p2
set_option maxHeartbeats 1000000 in
theorem w_fr_power_b25 {s0 : Int64} {S : MS} {r1 : Int64} {S1 : MS} (h : fr_power_b25 S s0 = some (r1, S1)) : FK [0] [24] S S1 := by
  have p0 : FK [0] [24] S S := FK.rf
  unfold fr_power_b25 at h
  rw [← (osome2 h).2]
  exact p0
set_option maxHeartbeats 1000000 in
theorem w_fr_power {a0 : Int32} {S : MS} {r1 : Int64} {S1 : MS} (h : fr_power S a0 = some (r1, S1)) : FK [0] [24] S S1 := by
  have p0 : FK [0] [24] S S := FK.rf
  unfold fr_power at h
  obtain ⟨r5, S2, eS2, h⟩ := obind2_some h
  have p1 : FK [0] [24] S S2 := p0.tr ((w_fr_isCell eS2).w (by decide))
  obtain ⟨r9, S6, eS6, h⟩ := obind2_some h
  have p2 : FK [0] [24] S S6 := p1.tr ((w_fr_mayAsk eS6).w (by decide))
  rcases oif_or h with ⟨-, h⟩ | ⟨-, h⟩
  · have h := h
    exact p2.tr (w_fr_power_b25  h)
  · have h := h
    obtain ⟨r14, S11, eS11, h⟩ := obind2_some h
    have p3 : FK [0] [24] S S11 := p2.tr ((w_fr_powerOf_12 eS11).w (by decide))
    exact p3.tr (w_fr_power_b25  h)
set_option maxHeartbeats 1000000 in
theorem w_fr_powerAt {a0 : Int32} {a1 : Int32} {S : MS} {r1 : Int64} {S1 : MS} (h : fr_powerAt S a0 a1 = some (r1, S1)) : FK [0] [24] S S1 := by
  have p0 : FK [0] [24] S S := FK.rf
  unfold fr_powerAt at h
  obtain ⟨r2, -, h⟩ := obind_some h
  obtain ⟨r7, S4, eS4, h⟩ := obind2_some h
  have p1 : FK [0] [24] S S4 := p0.tr ((w_fr_mayAsk eS4).w (by decide))
  rcases oif_or h with ⟨-, h⟩ | ⟨-, h⟩
  · have h := h
    rw [← (osome2 h).2]
    exact p1
  · have h := h
    obtain ⟨S9, eS9, h⟩ := obind_some h
    have p2 : FK [0] [24] S S9 := p1.tr ((w_fr_laysPoint eS9).w (by decide))
    obtain ⟨r15, S12, eS12, h⟩ := obind2_some h
    have p3 : FK [0] [24] S S12 := p2.tr ((w_fr_powerHere_12 eS12).w (by decide))
    rw [← (osome2 h).2]
    exact p3
set_option maxHeartbeats 1000000 in
theorem w_fr_laysPowers_12_b2 {S1 : MS} : ∀ n : Nat, ∀ (S : MS) (y1 : Int32), fr_laysPowers_12_b2 n S y1 = some S1 → FK [] [24] S S1 := by
  intro n
  induction n with
  | zero =>
    intro S y1 h
    have h : (none : Option (MS)) = some S1 := h
    cases h
  | succ n ih =>
    intro S l2 h
    have p0 : FK [] [24] S S := FK.rf
    unfold fr_laysPowers_12_b2 at h
    obtain ⟨r5, S2, eS2, h⟩ := obind2_some h
    have p1 : FK [] [24] S S2 := p0.tr ((w_fr_cellCount eS2).w (by decide))
    rcases oif_or h with ⟨-, h⟩ | ⟨-, h⟩
    · have h := h
      rw [← osome1 h]
      exact p1
    · have h := h
      obtain ⟨r10, S7, eS7, h⟩ := obind2_some h
      have p2 : FK [] [24] S S7 := p1.tr ((w_fr_powerOf_12 eS7).w (by decide))
      have h := (oif_some h).2
      obtain ⟨S12, eS12, h⟩ := elet_some h
      have p3 : FK [] [24] S S12 := p2.tr (by rw [eS12]; exact ⟨fun _ _ => rfl, fun _ _ => rfl⟩)
      obtain ⟨v13, ev13, h⟩ := elet_some h
      exact p3.tr (ih _ _ h)
set_option maxHeartbeats 1000000 in
theorem w_fr_laysPowers_12 {S : MS} {S1 : MS} (h : fr_laysPowers_12 S = some S1) : FK [] [24] S S1 := by
  have p0 : FK [] [24] S S := FK.rf
  unfold fr_laysPowers_12 at h
  exact p0.tr (w_fr_laysPowers_12_b2  _ _ _ h)
set_option maxHeartbeats 1000000 in
theorem w_fr_bestIn_12_b38 {k9 : MS → Int32 → Int32 → Option (Int32 × MS)} {s0 : Int32} {l3 : Int32} {S : MS} {r1 : Int32} {S1 : MS} (hk9 : ∀ (x0 : MS) (x1 : Int32) (x2 : Int32), k9 x0 x1 x2 = some (r1, S1) → FK [] [24] x0 S1) (h : fr_bestIn_12_b38 k9 S s0 l3 = some (r1, S1)) : FK [] [24] S S1 := by
  have p0 : FK [] [24] S S := FK.rf
  unfold fr_bestIn_12_b38 at h
  obtain ⟨v2, ev2, h⟩ := elet_some h
  exact p0.tr (hk9 _ _ _ h)
set_option maxHeartbeats 1000000 in
theorem w_fr_bestIn_12_b9 {r1 : Int32} {S1 : MS} : ∀ n : Nat, ∀ (S : MS) (y1 : Int32) (y2 : Int32), fr_bestIn_12_b9 n S y1 y2 = some (r1, S1) → FK [] [24] S S1 := by
  intro n
  induction n with
  | zero =>
    intro S y1 y2 h
    have h : (none : Option (Int32 × MS)) = some (r1, S1) := h
    cases h
  | succ n ih =>
    intro S l2 l3 h
    have p0 : FK [] [24] S S := FK.rf
    unfold fr_bestIn_12_b9 at h
    obtain ⟨r5, S2, eS2, h⟩ := obind2_some h
    have p1 : FK [] [24] S S2 := p0.tr ((w_fr_cellCount eS2).w (by decide))
    rcases oif_or h with ⟨-, h⟩ | ⟨-, h⟩
    · have h := h
      rw [← (osome2 h).2]
      exact p1
    · have h := h
      have h := (oif_some h).2
      obtain ⟨v8, ev8, h⟩ := elet_some h
      have h := (oif_some h).2
      obtain ⟨v10, ev10, h⟩ := elet_some h
      obtain ⟨v11, ev11, h⟩ := elet_some h
      rcases oif_or h with ⟨-, h⟩ | ⟨-, h⟩
      · have h := h
        exact p1.tr (w_fr_bestIn_12_b38 ih h)
      · have h := h
        exact p1.tr (w_fr_bestIn_12_b38 ih h)
set_option maxHeartbeats 1000000 in
theorem w_fr_bestIn_12 {S : MS} {r1 : Int32} {S1 : MS} (h : fr_bestIn_12 S = some (r1, S1)) : FK [] [24] S S1 := by
  have p0 : FK [] [24] S S := FK.rf
  unfold fr_bestIn_12 at h
  obtain ⟨S2, eS2, h⟩ := obind_some h
  have p1 : FK [] [24] S S2 := p0.tr ((w_fr_laysPowers_12 eS2).w (by decide))
  exact p1.tr (w_fr_bestIn_12_b9  _ _ _ _ h)
set_option maxHeartbeats 1000000 in
theorem w_fr_best_b20 {s0 : Int32} {S : MS} {r1 : Int32} {S1 : MS} (h : fr_best_b20 S s0 = some (r1, S1)) : FK [0] [24] S S1 := by
  have p0 : FK [0] [24] S S := FK.rf
  unfold fr_best_b20 at h
  rw [← (osome2 h).2]
  exact p0
set_option maxHeartbeats 1000000 in
theorem w_fr_best {S : MS} {r1 : Int32} {S1 : MS} (h : fr_best S = some (r1, S1)) : FK [0] [24] S S1 := by
  have p0 : FK [0] [24] S S := FK.rf
  unfold fr_best at h
  obtain ⟨r5, S2, eS2, h⟩ := obind2_some h
  have p1 : FK [0] [24] S S2 := p0.tr ((w_fr_mayAsk eS2).w (by decide))
  rcases oif_or h with ⟨-, h⟩ | ⟨-, h⟩
  · have h := h
    exact p1.tr (w_fr_best_b20  h)
  · have h := h
    obtain ⟨r10, S7, eS7, h⟩ := obind2_some h
    have p2 : FK [0] [24] S S7 := p1.tr ((w_fr_bestIn_12 eS7).w (by decide))
    exact p2.tr (w_fr_best_b20  h)
set_option maxHeartbeats 1000000 in
theorem w_fr_bestPower_b25 {s0 : Int64} {S : MS} {r1 : Int64} {S1 : MS} (h : fr_bestPower_b25 S s0 = some (r1, S1)) : FK [0] [24] S S1 := by
  have p0 : FK [0] [24] S S := FK.rf
  unfold fr_bestPower_b25 at h
  rw [← (osome2 h).2]
  exact p0
set_option maxHeartbeats 1000000 in
theorem w_fr_bestPower {S : MS} {r1 : Int64} {S1 : MS} (h : fr_bestPower S = some (r1, S1)) : FK [0] [24] S S1 := by
  have p0 : FK [0] [24] S S := FK.rf
  unfold fr_bestPower at h
  obtain ⟨r5, S2, eS2, h⟩ := obind2_some h
  have p1 : FK [0] [24] S S2 := p0.tr ((w_fr_mayAsk eS2).w (by decide))
  rcases oif_or h with ⟨-, h⟩ | ⟨-, h⟩
  · have h := h
    exact p1.tr (w_fr_bestPower_b25  h)
  · have h := h
    obtain ⟨r10, S7, eS7, h⟩ := obind2_some h
    have p2 : FK [0] [24] S S7 := p1.tr ((w_fr_bestIn_12 eS7).w (by decide))
    have h := (oif_some h).2
    obtain ⟨v12, ev12, h⟩ := elet_some h
    exact p2.tr (w_fr_bestPower_b25  h)
set_option maxHeartbeats 1000000 in
theorem w_fr_meanPower_b22 {r1 : Int64} {S1 : MS} : ∀ n : Nat, ∀ (S : MS) (y1 : Int64) (y2 : Int32), fr_meanPower_b22 n S y1 y2 = some (r1, S1) → FK [0] [24] S S1 := by
  intro n
  induction n with
  | zero =>
    intro S y1 y2 h
    have h : (none : Option (Int64 × MS)) = some (r1, S1) := h
    cases h
  | succ n ih =>
    intro S l1 l3 h
    have p0 : FK [0] [24] S S := FK.rf
    unfold fr_meanPower_b22 at h
    obtain ⟨r5, S2, eS2, h⟩ := obind2_some h
    have p1 : FK [0] [24] S S2 := p0.tr ((w_fr_cellCount eS2).w (by decide))
    rcases oif_or h with ⟨-, h⟩ | ⟨-, h⟩
    · have h := h
      obtain ⟨r10, S7, eS7, h⟩ := obind2_some h
      have p2 : FK [0] [24] S S7 := p1.tr ((w_fr_cellCount eS7).w (by decide))
      obtain ⟨v11, ev11, h⟩ := elet_some h
      have h := (oif_some h).2
      obtain ⟨v13, ev13, h⟩ := elet_some h
      rw [← (osome2 h).2]
      exact p2
    · have h := h
      have h := (oif_some h).2
      obtain ⟨v15, ev15, h⟩ := elet_some h
      obtain ⟨v16, ev16, h⟩ := elet_some h
      obtain ⟨v17, ev17, h⟩ := elet_some h
      exact p1.tr (ih _ _ _ h)
set_option maxHeartbeats 1000000 in
theorem w_fr_meanPower {S : MS} {r1 : Int64} {S1 : MS} (h : fr_meanPower S = some (r1, S1)) : FK [0] [24] S S1 := by
  have p0 : FK [0] [24] S S := FK.rf
  unfold fr_meanPower at h
  obtain ⟨r5, S2, eS2, h⟩ := obind2_some h
  have p1 : FK [0] [24] S S2 := p0.tr ((w_fr_mayAsk eS2).w (by decide))
  rcases oif_or h with ⟨-, h⟩ | ⟨-, h⟩
  · have h := h
    rw [← (osome2 h).2]
    exact p1
  · have h := h
    obtain ⟨S7, eS7, h⟩ := obind_some h
    have p2 : FK [0] [24] S S7 := p1.tr ((w_fr_laysPowers_12 eS7).w (by decide))
    exact p2.tr (w_fr_meanPower_b22  _ _ _ _ h)
set_option maxHeartbeats 1000000 in
theorem w_fr_isTop_b118 {k29 : MS → Int32 → Int32 → Int32 → Int32 → Option (Int32 × MS)} {k58 : MS → Int32 → Int32 → Int32 → Int32 → Int32 → Option (Int32 × MS)} {l1 : Int32} {l2 : Int32} {l3 : Int32} {l4 : Int32} {l5 : Int32} {S : MS} {r1 : Int32} {S1 : MS} (hk29 : ∀ (x0 : MS) (x1 : Int32) (x2 : Int32) (x3 : Int32) (x4 : Int32), k29 x0 x1 x2 x3 x4 = some (r1, S1) → FK [] [] x0 S1) (hk58 : ∀ (x0 : MS) (x1 : Int32) (x2 : Int32) (x3 : Int32) (x4 : Int32) (x5 : Int32), k58 x0 x1 x2 x3 x4 x5 = some (r1, S1) → FK [] [] x0 S1) (h : fr_isTop_b118 k29 k58 S l1 l2 l3 l4 l5 = some (r1, S1)) : FK [] [] S S1 := by
  have p0 : FK [] [] S S := FK.rf
  unfold fr_isTop_b118 at h
  obtain ⟨v2, ev2, h⟩ := elet_some h
  exact p0.tr (hk58 _ _ _ _ _ _ h)
set_option maxHeartbeats 1000000 in
theorem w_fr_isTop_b58 {k29 : MS → Int32 → Int32 → Int32 → Int32 → Option (Int32 × MS)} {r1 : Int32} {S1 : MS} (hk29 : ∀ (x0 : MS) (x1 : Int32) (x2 : Int32) (x3 : Int32) (x4 : Int32), k29 x0 x1 x2 x3 x4 = some (r1, S1) → FK [] [] x0 S1) : ∀ n : Nat, ∀ (S : MS) (y1 : Int32) (y2 : Int32) (y3 : Int32) (y4 : Int32) (y5 : Int32), fr_isTop_b58 k29 n S y1 y2 y3 y4 y5 = some (r1, S1) → FK [] [] S S1 := by
  intro n
  induction n with
  | zero =>
    intro S y1 y2 y3 y4 y5 h
    have h : (none : Option (Int32 × MS)) = some (r1, S1) := h
    cases h
  | succ n ih =>
    intro S l1 l2 l3 l4 l5 h
    have p0 : FK [] [] S S := FK.rf
    unfold fr_isTop_b58 at h
    obtain ⟨v2, ev2, h⟩ := elet_some h
    obtain ⟨v3, ev3, h⟩ := elet_some h
    obtain ⟨v4, ev4, h⟩ := elet_some h
    obtain ⟨v5, ev5, h⟩ := elet_some h
    rcases oif_or h with ⟨-, h⟩ | ⟨-, h⟩
    · have h := h
      obtain ⟨v7, ev7, h⟩ := elet_some h
      exact p0.tr (hk29 _ _ _ _ _ h)
    · have h := h
      obtain ⟨v8, ev8, h⟩ := elet_some h
      obtain ⟨v9, ev9, h⟩ := elet_some h
      obtain ⟨v10, ev10, h⟩ := elet_some h
      rcases oif_or h with ⟨-, h⟩ | ⟨-, h⟩
      · have h := h
        exact p0.tr (w_fr_isTop_b118 hk29 ih h)
      · have h := h
        have h := (oif_some h).2
        obtain ⟨v13, ev13, h⟩ := elet_some h
        have h := (oif_some h).2
        obtain ⟨v15, ev15, h⟩ := elet_some h
        obtain ⟨v16, ev16, h⟩ := elet_some h
        rcases oif_or h with ⟨-, h⟩ | ⟨-, h⟩
        · have h := h
          exact p0.tr (w_fr_isTop_b118 hk29 ih h)
        · have h := h
          rw [← (osome2 h).2]
          exact p0
set_option maxHeartbeats 1000000 in
theorem w_fr_isTop_b29 {r1 : Int32} {S1 : MS} : ∀ n : Nat, ∀ (S : MS) (y1 : Int32) (y2 : Int32) (y3 : Int32) (y4 : Int32), fr_isTop_b29 n S y1 y2 y3 y4 = some (r1, S1) → FK [] [] S S1 := by
  intro n
  induction n with
  | zero =>
    intro S y1 y2 y3 y4 h
    have h : (none : Option (Int32 × MS)) = some (r1, S1) := h
    cases h
  | succ n ih =>
    intro S l1 l2 l3 l4 h
    have p0 : FK [] [] S S := FK.rf
    unfold fr_isTop_b29 at h
    obtain ⟨v2, ev2, h⟩ := elet_some h
    obtain ⟨v3, ev3, h⟩ := elet_some h
    obtain ⟨v4, ev4, h⟩ := elet_some h
    obtain ⟨v5, ev5, h⟩ := elet_some h
    rcases oif_or h with ⟨-, h⟩ | ⟨-, h⟩
    · have h := h
      rw [← (osome2 h).2]
      exact p0
    · have h := h
      obtain ⟨v7, ev7, h⟩ := elet_some h
      obtain ⟨v8, ev8, h⟩ := elet_some h
      exact p0.tr (w_fr_isTop_b58 ih _ _ _ _ _ _ _ h)
set_option maxHeartbeats 1000000 in
theorem w_fr_isTop {a0 : Int32} {S : MS} {r1 : Int32} {S1 : MS} (h : fr_isTop S a0 = some (r1, S1)) : FK [] [] S S1 := by
  have p0 : FK [] [] S S := FK.rf
  unfold fr_isTop at h
  obtain ⟨v2, ev2, h⟩ := elet_some h
  have h := (oif_some h).2
  obtain ⟨v4, ev4, h⟩ := elet_some h
  obtain ⟨v5, ev5, h⟩ := elet_some h
  have h := (oif_some h).2
  obtain ⟨v7, ev7, h⟩ := elet_some h
  obtain ⟨v8, ev8, h⟩ := elet_some h
  obtain ⟨v9, ev9, h⟩ := elet_some h
  exact p0.tr (w_fr_isTop_b29  _ _ _ _ _ _ h)
set_option maxHeartbeats 1000000 in
theorem w_fr_peaks_b44 {k22 : MS → Int32 → Int32 → Option (Int32 × MS)} {s0 : Int32} {s1 : Int32} {l2 : Int32} {S : MS} {r1 : Int32} {S1 : MS} (hk22 : ∀ (x0 : MS) (x1 : Int32) (x2 : Int32), k22 x0 x1 x2 = some (r1, S1) → FK [0] [24] x0 S1) (h : fr_peaks_b44 k22 S s0 s1 l2 = some (r1, S1)) : FK [0] [24] S S1 := by
  have p0 : FK [0] [24] S S := FK.rf
  unfold fr_peaks_b44 at h
  obtain ⟨v2, ev2, h⟩ := elet_some h
  obtain ⟨v3, ev3, h⟩ := elet_some h
  exact p0.tr (hk22 _ _ _ h)
set_option maxHeartbeats 1000000 in
theorem w_fr_peaks_b22 {r1 : Int32} {S1 : MS} : ∀ n : Nat, ∀ (S : MS) (y1 : Int32) (y2 : Int32), fr_peaks_b22 n S y1 y2 = some (r1, S1) → FK [0] [24] S S1 := by
  intro n
  induction n with
  | zero =>
    intro S y1 y2 h
    have h : (none : Option (Int32 × MS)) = some (r1, S1) := h
    cases h
  | succ n ih =>
    intro S l1 l2 h
    have p0 : FK [0] [24] S S := FK.rf
    unfold fr_peaks_b22 at h
    obtain ⟨r5, S2, eS2, h⟩ := obind2_some h
    have p1 : FK [0] [24] S S2 := p0.tr ((w_fr_cellCount eS2).w (by decide))
    rcases oif_or h with ⟨-, h⟩ | ⟨-, h⟩
    · have h := h
      rw [← (osome2 h).2]
      exact p1
    · have h := h
      obtain ⟨r10, S7, eS7, h⟩ := obind2_some h
      have p2 : FK [0] [24] S S7 := p1.tr ((w_fr_isTop eS7).w (by decide))
      rcases oif_or h with ⟨-, h⟩ | ⟨-, h⟩
      · have h := h
        exact p2.tr (w_fr_peaks_b44 ih h)
      · have h := h
        exact p2.tr (w_fr_peaks_b44 ih h)
set_option maxHeartbeats 1000000 in
theorem w_fr_peaks {S : MS} {r1 : Int32} {S1 : MS} (h : fr_peaks S = some (r1, S1)) : FK [0] [24] S S1 := by
  have p0 : FK [0] [24] S S := FK.rf
  unfold fr_peaks at h
  obtain ⟨r5, S2, eS2, h⟩ := obind2_some h
  have p1 : FK [0] [24] S S2 := p0.tr ((w_fr_mayAsk eS2).w (by decide))
  rcases oif_or h with ⟨-, h⟩ | ⟨-, h⟩
  · have h := h
    rw [← (osome2 h).2]
    exact p1
  · have h := h
    obtain ⟨S7, eS7, h⟩ := obind_some h
    have p2 : FK [0] [24] S S7 := p1.tr ((w_fr_laysPowers_12 eS7).w (by decide))
    exact p2.tr (w_fr_peaks_b22  _ _ _ _ h)
set_option maxHeartbeats 1000000 in
theorem w_fr_isGreater_b42 {s0 : Int32} {S : MS} {r1 : Int32} {S1 : MS} (h : fr_isGreater_b42 S s0 = some (r1, S1)) : FK [] [] S S1 := by
  have p0 : FK [] [] S S := FK.rf
  unfold fr_isGreater_b42 at h
  have h := (oif_some h).2
  rw [← (osome2 h).2]
  exact p0
set_option maxHeartbeats 1000000 in
theorem w_fr_isGreater_b37 {S : MS} {r1 : Int32} {S1 : MS} (h : fr_isGreater_b37 S = some (r1, S1)) : FK [] [] S S1 := by
  have p0 : FK [] [] S S := FK.rf
  unfold fr_isGreater_b37 at h
  exact p0.tr (w_fr_isGreater_b42  h)
set_option maxHeartbeats 1000000 in
theorem w_fr_isGreater_b41 {S : MS} {r1 : Int32} {S1 : MS} (h : fr_isGreater_b41 S = some (r1, S1)) : FK [] [] S S1 := by
  have p0 : FK [] [] S S := FK.rf
  unfold fr_isGreater_b41 at h
  exact p0.tr (w_fr_isGreater_b42  h)
set_option maxHeartbeats 1000000 in
theorem w_fr_isGreater {a0 : Int32} {a1 : Int32} {S : MS} {r1 : Int32} {S1 : MS} (h : fr_isGreater S a0 a1 = some (r1, S1)) : FK [] [] S S1 := by
  have p0 : FK [] [] S S := FK.rf
  unfold fr_isGreater at h
  have h := (oif_some h).2
  obtain ⟨v3, ev3, h⟩ := elet_some h
  have h := (oif_some h).2
  obtain ⟨v5, ev5, h⟩ := elet_some h
  obtain ⟨v6, ev6, h⟩ := elet_some h
  rcases oif_or h with ⟨-, h⟩ | ⟨-, h⟩
  · have h := h
    exact p0.tr (w_fr_isGreater_b37  h)
  · have h := h
    have h := (oif_some h).2
    obtain ⟨v9, ev9, h⟩ := elet_some h
    have h := (oif_some h).2
    obtain ⟨v11, ev11, h⟩ := elet_some h
    obtain ⟨v12, ev12, h⟩ := elet_some h
    rcases oif_or h with ⟨-, h⟩ | ⟨-, h⟩
    · have h := h
      rcases oif_or h with ⟨-, h⟩ | ⟨-, h⟩
      · have h := h
        exact p0.tr (w_fr_isGreater_b41  h)
      · have h := h
        exact p0.tr (w_fr_isGreater_b37  h)
    · have h := h
      exact p0.tr (w_fr_isGreater_b41  h)
set_option maxHeartbeats 1000000 in
theorem w_fr_peakAt_b99 {k20 : MS → Int32 → Int32 → Option (Int32 × MS)} {l1 : Int32} {l2 : Int32} {S : MS} {r1 : Int32} {S1 : MS} (hk20 : ∀ (x0 : MS) (x1 : Int32) (x2 : Int32), k20 x0 x1 x2 = some (r1, S1) → FK [0] [24] x0 S1) (h : fr_peakAt_b99 k20 S l1 l2 = some (r1, S1)) : FK [0] [24] S S1 := by
  have p0 : FK [0] [24] S S := FK.rf
  unfold fr_peakAt_b99 at h
  obtain ⟨v2, ev2, h⟩ := elet_some h
  exact p0.tr (hk20 _ _ _ h)
set_option maxHeartbeats 1000000 in
theorem w_fr_peakAt_b84 {k20 : MS → Int32 → Int32 → Option (Int32 × MS)} {k44 : MS → Int32 → Int32 → Int32 → Int32 → Option (Int32 × MS)} {s0 : Int32} {s1 : Int32} {l1 : Int32} {l2 : Int32} {l4 : Int32} {S : MS} {r1 : Int32} {S1 : MS} (hk20 : ∀ (x0 : MS) (x1 : Int32) (x2 : Int32), k20 x0 x1 x2 = some (r1, S1) → FK [0] [24] x0 S1) (hk44 : ∀ (x0 : MS) (x1 : Int32) (x2 : Int32) (x3 : Int32) (x4 : Int32), k44 x0 x1 x2 x3 x4 = some (r1, S1) → FK [0] [24] x0 S1) (h : fr_peakAt_b84 k20 k44 S s0 s1 l1 l2 l4 = some (r1, S1)) : FK [0] [24] S S1 := by
  have p0 : FK [0] [24] S S := FK.rf
  unfold fr_peakAt_b84 at h
  obtain ⟨v2, ev2, h⟩ := elet_some h
  obtain ⟨v3, ev3, h⟩ := elet_some h
  exact p0.tr (hk44 _ _ _ _ _ h)
set_option maxHeartbeats 1000000 in
theorem w_fr_peakAt_b83 {k20 : MS → Int32 → Int32 → Option (Int32 × MS)} {k44 : MS → Int32 → Int32 → Int32 → Int32 → Option (Int32 × MS)} {s0 : Int32} {l1 : Int32} {l2 : Int32} {l4 : Int32} {S : MS} {r1 : Int32} {S1 : MS} (hk20 : ∀ (x0 : MS) (x1 : Int32) (x2 : Int32), k20 x0 x1 x2 = some (r1, S1) → FK [0] [24] x0 S1) (hk44 : ∀ (x0 : MS) (x1 : Int32) (x2 : Int32) (x3 : Int32) (x4 : Int32), k44 x0 x1 x2 x3 x4 = some (r1, S1) → FK [0] [24] x0 S1) (h : fr_peakAt_b83 k20 k44 S s0 l1 l2 l4 = some (r1, S1)) : FK [0] [24] S S1 := by
  have p0 : FK [0] [24] S S := FK.rf
  unfold fr_peakAt_b83 at h
  exact p0.tr (w_fr_peakAt_b84 hk20 hk44 h)
set_option maxHeartbeats 1000000 in
theorem w_fr_peakAt_b44 {k20 : MS → Int32 → Int32 → Option (Int32 × MS)} {r1 : Int32} {S1 : MS} (hk20 : ∀ (x0 : MS) (x1 : Int32) (x2 : Int32), k20 x0 x1 x2 = some (r1, S1) → FK [0] [24] x0 S1) : ∀ n : Nat, ∀ (S : MS) (y1 : Int32) (y2 : Int32) (y3 : Int32) (y4 : Int32), fr_peakAt_b44 k20 n S y1 y2 y3 y4 = some (r1, S1) → FK [0] [24] S S1 := by
  intro n
  induction n with
  | zero =>
    intro S y1 y2 y3 y4 h
    have h : (none : Option (Int32 × MS)) = some (r1, S1) := h
    cases h
  | succ n ih =>
    intro S l1 l2 l3 l4 h
    have p0 : FK [0] [24] S S := FK.rf
    unfold fr_peakAt_b44 at h
    obtain ⟨r5, S2, eS2, h⟩ := obind2_some h
    have p1 : FK [0] [24] S S2 := p0.tr ((w_fr_cellCount eS2).w (by decide))
    rcases oif_or h with ⟨-, h⟩ | ⟨-, h⟩
    · have h := h
      rcases oif_or h with ⟨-, h⟩ | ⟨-, h⟩
      · have h := h
        rw [← (osome2 h).2]
        exact p1
      · have h := h
        exact p1.tr (w_fr_peakAt_b99 hk20 h)
    · have h := h
      rcases oif_or h with ⟨-, h⟩ | ⟨-, h⟩
      · have h := h
        exact p1.tr (w_fr_peakAt_b83 hk20 ih h)
      · have h := h
        obtain ⟨r12, S9, eS9, h⟩ := obind2_some h
        have p2 : FK [0] [24] S S9 := p1.tr ((w_fr_isTop eS9).w (by decide))
        rcases oif_or h with ⟨-, h⟩ | ⟨-, h⟩
        · have h := h
          exact p2.tr (w_fr_peakAt_b83 hk20 ih h)
        · have h := h
          obtain ⟨r17, S14, eS14, h⟩ := obind2_some h
          have p3 : FK [0] [24] S S14 := p2.tr ((w_fr_isGreater eS14).w (by decide))
          rcases oif_or h with ⟨-, h⟩ | ⟨-, h⟩
          · have h := h
            exact p3.tr (w_fr_peakAt_b83 hk20 ih h)
          · have h := h
            exact p3.tr (w_fr_peakAt_b84 hk20 ih h)
set_option maxHeartbeats 1000000 in
theorem w_fr_peakAt_b20 {r1 : Int32} {S1 : MS} : ∀ n : Nat, ∀ (S : MS) (y1 : Int32) (y2 : Int32), fr_peakAt_b20 n S y1 y2 = some (r1, S1) → FK [0] [24] S S1 := by
  intro n
  induction n with
  | zero =>
    intro S y1 y2 h
    have h : (none : Option (Int32 × MS)) = some (r1, S1) := h
    cases h
  | succ n ih =>
    intro S l1 l2 h
    have p0 : FK [0] [24] S S := FK.rf
    unfold fr_peakAt_b20 at h
    obtain ⟨r5, S2, eS2, h⟩ := obind2_some h
    have p1 : FK [0] [24] S S2 := p0.tr ((w_fr_cellCount eS2).w (by decide))
    rcases oif_or h with ⟨-, h⟩ | ⟨-, h⟩
    · have h := h
      obtain ⟨r10, S7, eS7, h⟩ := obind2_some h
      have p2 : FK [0] [24] S S7 := p1.tr ((w_fr_throwsAt eS7).w (by decide))
      rw [← (osome2 h).2]
      exact p2
    · have h := h
      obtain ⟨r14, S11, eS11, h⟩ := obind2_some h
      have p3 : FK [0] [24] S S11 := p1.tr ((w_fr_isTop eS11).w (by decide))
      rcases oif_or h with ⟨-, h⟩ | ⟨-, h⟩
      · have h := h
        exact p3.tr (w_fr_peakAt_b99 ih h)
      · have h := h
        exact p3.tr (w_fr_peakAt_b44 ih _ _ _ _ _ _ h)
set_option maxHeartbeats 1000000 in
theorem w_fr_peakAt {a0 : Int32} {S : MS} {r1 : Int32} {S1 : MS} (h : fr_peakAt S a0 = some (r1, S1)) : FK [0] [24] S S1 := by
  have p0 : FK [0] [24] S S := FK.rf
  unfold fr_peakAt at h
  obtain ⟨r5, S2, eS2, h⟩ := obind2_some h
  have p1 : FK [0] [24] S S2 := p0.tr ((w_fr_mayAsk eS2).w (by decide))
  rcases oif_or h with ⟨-, h⟩ | ⟨-, h⟩
  · have h := h
    rw [← (osome2 h).2]
    exact p1
  · have h := h
    obtain ⟨S7, eS7, h⟩ := obind_some h
    have p2 : FK [0] [24] S S7 := p1.tr ((w_fr_laysPowers_12 eS7).w (by decide))
    exact p2.tr (w_fr_peakAt_b20  _ _ _ _ h)
set_option maxHeartbeats 1000000 in
theorem w_fr_isPeak {a0 : Int32} {S : MS} {r1 : Int32} {S1 : MS} (h : fr_isPeak S a0 = some (r1, S1)) : FK [0] [24] S S1 := by
  have p0 : FK [0] [24] S S := FK.rf
  unfold fr_isPeak at h
  obtain ⟨r5, S2, eS2, h⟩ := obind2_some h
  have p1 : FK [0] [24] S S2 := p0.tr ((w_fr_isCell eS2).w (by decide))
  obtain ⟨r9, S6, eS6, h⟩ := obind2_some h
  have p2 : FK [0] [24] S S6 := p1.tr ((w_fr_mayAsk eS6).w (by decide))
  rcases oif_or h with ⟨-, h⟩ | ⟨-, h⟩
  · have h := h
    rw [← (osome2 h).2]
    exact p2
  · have h := h
    obtain ⟨S11, eS11, h⟩ := obind_some h
    have p3 : FK [0] [24] S S11 := p2.tr ((w_fr_laysPowers_12 eS11).w (by decide))
    obtain ⟨r17, S14, eS14, h⟩ := obind2_some h
    have p4 : FK [0] [24] S S14 := p3.tr ((w_fr_isTop eS14).w (by decide))
    have h := (oif_some h).2
    rw [← (osome2 h).2]
    exact p4
set_option maxHeartbeats 1000000 in
theorem w_fr_contrast_b81 {s0 : UInt32} {S : MS} {r1 : UInt32} {S1 : MS} (h : fr_contrast_b81 S s0 = some (r1, S1)) : FK [0] [24] S S1 := by
  have p0 : FK [0] [24] S S := FK.rf
  unfold fr_contrast_b81 at h
  rw [← (osome2 h).2]
  exact p0
set_option maxHeartbeats 1000000 in
theorem w_fr_contrast_b54 {k24 : MS → Int32 → Int64 → Int32 → Option (UInt32 × MS)} {s0 : Int64} {l1 : Int32} {l4 : Int32} {S : MS} {r1 : UInt32} {S1 : MS} (hk24 : ∀ (x0 : MS) (x1 : Int32) (x2 : Int64) (x3 : Int32), k24 x0 x1 x2 x3 = some (r1, S1) → FK [0] [24] x0 S1) (h : fr_contrast_b54 k24 S s0 l1 l4 = some (r1, S1)) : FK [0] [24] S S1 := by
  have p0 : FK [0] [24] S S := FK.rf
  unfold fr_contrast_b54 at h
  obtain ⟨v2, ev2, h⟩ := elet_some h
  exact p0.tr (hk24 _ _ _ _ h)
set_option maxHeartbeats 1000000 in
theorem w_fr_contrast_b24 {r1 : UInt32} {S1 : MS} : ∀ n : Nat, ∀ (S : MS) (y1 : Int32) (y2 : Int64) (y3 : Int32), fr_contrast_b24 n S y1 y2 y3 = some (r1, S1) → FK [0] [24] S S1 := by
  intro n
  induction n with
  | zero =>
    intro S y1 y2 y3 h
    have h : (none : Option (UInt32 × MS)) = some (r1, S1) := h
    cases h
  | succ n ih =>
    intro S l1 l2 l4 h
    have p0 : FK [0] [24] S S := FK.rf
    unfold fr_contrast_b24 at h
    obtain ⟨r5, S2, eS2, h⟩ := obind2_some h
    have p1 : FK [0] [24] S S2 := p0.tr ((w_fr_cellCount eS2).w (by decide))
    rcases oif_or h with ⟨-, h⟩ | ⟨-, h⟩
    · have h := h
      obtain ⟨v7, ev7, h⟩ := elet_some h
      rcases oif_or h with ⟨-, h⟩ | ⟨-, h⟩
      · have h := h
        exact p1.tr (w_fr_contrast_b81  h)
      · have h := h
        have h := (oif_some h).2
        obtain ⟨v10, ev10, h⟩ := elet_some h
        obtain ⟨v11, ev11, h⟩ := elet_some h
        obtain ⟨v12, ev12, h⟩ := elet_some h
        have h := (oif_some h).2
        obtain ⟨v14, ev14, h⟩ := elet_some h
        exact p1.tr (w_fr_contrast_b81  h)
    · have h := h
      rcases oif_or h with ⟨-, h⟩ | ⟨-, h⟩
      · have h := h
        exact p1.tr (w_fr_contrast_b54 ih h)
      · have h := h
        have h := (oif_some h).2
        obtain ⟨v17, ev17, h⟩ := elet_some h
        obtain ⟨v18, ev18, h⟩ := elet_some h
        exact p1.tr (w_fr_contrast_b54 ih h)
set_option maxHeartbeats 1000000 in
theorem w_fr_contrast {S : MS} {r1 : UInt32} {S1 : MS} (h : fr_contrast S = some (r1, S1)) : FK [0] [24] S S1 := by
  have p0 : FK [0] [24] S S := FK.rf
  unfold fr_contrast at h
  obtain ⟨r5, S2, eS2, h⟩ := obind2_some h
  have p1 : FK [0] [24] S S2 := p0.tr ((w_fr_mayAsk eS2).w (by decide))
  rcases oif_or h with ⟨-, h⟩ | ⟨-, h⟩
  · have h := h
    rw [← (osome2 h).2]
    exact p1
  · have h := h
    obtain ⟨r10, S7, eS7, h⟩ := obind2_some h
    have p2 : FK [0] [24] S S7 := p1.tr ((w_fr_bestIn_12 eS7).w (by decide))
    exact p2.tr (w_fr_contrast_b24  _ _ _ _ _ h)
set_option maxHeartbeats 1000000 in
theorem w_fr_shift {a0 : Int32} {a1 : Int32} {a2 : Int32} {S : MS} {r1 : Int32} {S1 : MS} (h : fr_shift S a0 a1 a2 = some (r1, S1)) : FK [] [] S S1 := by
  have p0 : FK [] [] S S := FK.rf
  unfold fr_shift at h
  obtain ⟨v2, ev2, h⟩ := elet_some h
  obtain ⟨v3, ev3, h⟩ := elet_some h
  have h := (oif_some h).2
  obtain ⟨v5, ev5, h⟩ := elet_some h
  obtain ⟨v6, ev6, h⟩ := elet_some h
  obtain ⟨v7, ev7, h⟩ := elet_some h
  have h := (oif_some h).2
  obtain ⟨v9, ev9, h⟩ := elet_some h
  obtain ⟨v10, ev10, h⟩ := elet_some h
  rw [← (osome2 h).2]
  exact p0
set_option maxHeartbeats 1000000 in
theorem w_fr_confusion_b110 {k6 : MS → Int32 → Int32 → Int32 → Int32 → Int32 → Option (Int32 × MS)} {s0 : Int32} {l1 : Int32} {l2 : Int32} {l3 : Int32} {l5 : Int32} {S : MS} {r1 : Int32} {S1 : MS} (hk6 : ∀ (x0 : MS) (x1 : Int32) (x2 : Int32) (x3 : Int32) (x4 : Int32) (x5 : Int32), k6 x0 x1 x2 x3 x4 x5 = some (r1, S1) → FK [] [] x0 S1) (h : fr_confusion_b110 k6 S s0 l1 l2 l3 l5 = some (r1, S1)) : FK [] [] S S1 := by
  have p0 : FK [] [] S S := FK.rf
  unfold fr_confusion_b110 at h
  obtain ⟨v2, ev2, h⟩ := elet_some h
  exact p0.tr (hk6 _ _ _ _ _ _ h)
set_option maxHeartbeats 1000000 in
theorem w_fr_confusion_b76 {k6 : MS → Int32 → Int32 → Int32 → Int32 → Int32 → Option (Int32 × MS)} {k23 : MS → Int32 → Int32 → Int32 → Int32 → Int32 → Int32 → Int32 → Option (Int32 × MS)} {s0 : Int32} {s1 : Int32} {l1 : Int32} {l2 : Int32} {l3 : Int32} {l4 : Int32} {l5 : Int32} {l7 : Int32} {S : MS} {r1 : Int32} {S1 : MS} (hk6 : ∀ (x0 : MS) (x1 : Int32) (x2 : Int32) (x3 : Int32) (x4 : Int32) (x5 : Int32), k6 x0 x1 x2 x3 x4 x5 = some (r1, S1) → FK [] [] x0 S1) (hk23 : ∀ (x0 : MS) (x1 : Int32) (x2 : Int32) (x3 : Int32) (x4 : Int32) (x5 : Int32) (x6 : Int32) (x7 : Int32), k23 x0 x1 x2 x3 x4 x5 x6 x7 = some (r1, S1) → FK [] [] x0 S1) (h : fr_confusion_b76 k6 k23 S s0 s1 l1 l2 l3 l4 l5 l7 = some (r1, S1)) : FK [] [] S S1 := by
  have p0 : FK [] [] S S := FK.rf
  unfold fr_confusion_b76 at h
  obtain ⟨v2, ev2, h⟩ := elet_some h
  obtain ⟨v3, ev3, h⟩ := elet_some h
  exact p0.tr (hk23 _ _ _ _ _ _ _ _ h)
set_option maxHeartbeats 1000000 in
theorem w_fr_confusion_b75 {k6 : MS → Int32 → Int32 → Int32 → Int32 → Int32 → Option (Int32 × MS)} {k23 : MS → Int32 → Int32 → Int32 → Int32 → Int32 → Int32 → Int32 → Option (Int32 × MS)} {s0 : Int32} {l1 : Int32} {l2 : Int32} {l3 : Int32} {l4 : Int32} {l5 : Int32} {l7 : Int32} {S : MS} {r1 : Int32} {S1 : MS} (hk6 : ∀ (x0 : MS) (x1 : Int32) (x2 : Int32) (x3 : Int32) (x4 : Int32) (x5 : Int32), k6 x0 x1 x2 x3 x4 x5 = some (r1, S1) → FK [] [] x0 S1) (hk23 : ∀ (x0 : MS) (x1 : Int32) (x2 : Int32) (x3 : Int32) (x4 : Int32) (x5 : Int32) (x6 : Int32) (x7 : Int32), k23 x0 x1 x2 x3 x4 x5 x6 x7 = some (r1, S1) → FK [] [] x0 S1) (h : fr_confusion_b75 k6 k23 S s0 l1 l2 l3 l4 l5 l7 = some (r1, S1)) : FK [] [] S S1 := by
  have p0 : FK [] [] S S := FK.rf
  unfold fr_confusion_b75 at h
  exact p0.tr (w_fr_confusion_b76 hk6 hk23 h)
set_option maxHeartbeats 1000000 in
theorem w_fr_confusion_b23 {k6 : MS → Int32 → Int32 → Int32 → Int32 → Int32 → Option (Int32 × MS)} {r1 : Int32} {S1 : MS} (hk6 : ∀ (x0 : MS) (x1 : Int32) (x2 : Int32) (x3 : Int32) (x4 : Int32) (x5 : Int32), k6 x0 x1 x2 x3 x4 x5 = some (r1, S1) → FK [] [] x0 S1) : ∀ n : Nat, ∀ (S : MS) (y1 : Int32) (y2 : Int32) (y3 : Int32) (y4 : Int32) (y5 : Int32) (y6 : Int32) (y7 : Int32), fr_confusion_b23 k6 n S y1 y2 y3 y4 y5 y6 y7 = some (r1, S1) → FK [] [] S S1 := by
  intro n
  induction n with
  | zero =>
    intro S y1 y2 y3 y4 y5 y6 y7 h
    have h : (none : Option (Int32 × MS)) = some (r1, S1) := h
    cases h
  | succ n ih =>
    intro S l1 l2 l3 l4 l5 l6 l7 h
    have p0 : FK [] [] S S := FK.rf
    unfold fr_confusion_b23 at h
    obtain ⟨v2, ev2, h⟩ := elet_some h
    rcases oif_or h with ⟨-, h⟩ | ⟨-, h⟩
    · have h := h
      obtain ⟨r7, S4, eS4, h⟩ := obind2_some h
      have p1 : FK [] [] S S4 := p0.tr ((w_fr_hears_12 eS4).w (by decide))
      rcases oif_or h with ⟨-, h⟩ | ⟨-, h⟩
      · have h := h
        exact p1.tr (w_fr_confusion_b110 hk6 h)
      · have h := h
        obtain ⟨v9, ev9, h⟩ := elet_some h
        exact p1.tr (w_fr_confusion_b110 hk6 h)
    · have h := h
      obtain ⟨r13, S10, eS10, h⟩ := obind2_some h
      have p2 : FK [] [] S S10 := p0.tr ((w_fr_hears_12 eS10).w (by decide))
      rcases oif_or h with ⟨-, h⟩ | ⟨-, h⟩
      · have h := h
        exact p2.tr (w_fr_confusion_b75 hk6 ih h)
      · have h := h
        obtain ⟨r18, S15, eS15, h⟩ := obind2_some h
        have p3 : FK [] [] S S15 := p2.tr ((w_fr_shift eS15).w (by decide))
        obtain ⟨r22, S19, eS19, h⟩ := obind2_some h
        have p4 : FK [] [] S S19 := p3.tr ((w_fr_shift eS19).w (by decide))
        obtain ⟨v23, ev23, h⟩ := elet_some h
        have h := (oif_some h).2
        obtain ⟨v25, ev25, h⟩ := elet_some h
        rcases oif_or h with ⟨-, h⟩ | ⟨-, h⟩
        · have h := h
          exact p4.tr (w_fr_confusion_b76 hk6 ih h)
        · have h := h
          exact p4.tr (w_fr_confusion_b75 hk6 ih h)
set_option maxHeartbeats 1000000 in
theorem w_fr_confusion_b6 {r1 : Int32} {S1 : MS} : ∀ n : Nat, ∀ (S : MS) (y1 : Int32) (y2 : Int32) (y3 : Int32) (y4 : Int32) (y5 : Int32), fr_confusion_b6 n S y1 y2 y3 y4 y5 = some (r1, S1) → FK [] [] S S1 := by
  intro n
  induction n with
  | zero =>
    intro S y1 y2 y3 y4 y5 h
    have h : (none : Option (Int32 × MS)) = some (r1, S1) := h
    cases h
  | succ n ih =>
    intro S l1 l2 l3 l4 l5 h
    have p0 : FK [] [] S S := FK.rf
    unfold fr_confusion_b6 at h
    obtain ⟨v2, ev2, h⟩ := elet_some h
    rcases oif_or h with ⟨-, h⟩ | ⟨-, h⟩
    · have h := h
      rw [← (osome2 h).2]
      exact p0
    · have h := h
      exact p0.tr (w_fr_confusion_b23 ih _ _ _ _ _ _ _ _ _ h)
set_option maxHeartbeats 1000000 in
theorem w_fr_confusion {a0 : Int32} {a1 : Int32} {a2 : Int32} {S : MS} {r1 : Int32} {S1 : MS} (h : fr_confusion S a0 a1 a2 = some (r1, S1)) : FK [] [] S S1 := by
  have p0 : FK [] [] S S := FK.rf
  unfold fr_confusion at h
  exact p0.tr (w_fr_confusion_b6  _ _ _ _ _ _ _ h)
set_option maxHeartbeats 1000000 in
theorem w_fr_alias_b52 {s0 : Int32} {S : MS} {r1 : Int32} {S1 : MS} (h : fr_alias_b52 S s0 = some (r1, S1)) : FK [0] [] S S1 := by
  have p0 : FK [0] [] S S := FK.rf
  unfold fr_alias_b52 at h
  rw [← (osome2 h).2]
  exact p0
set_option maxHeartbeats 1000000 in
theorem w_fr_alias_b22 {s0 : Int32} {l1 : Int32} {l2 : Int32} {l3 : Int32} {S : MS} {r1 : Int32} {S1 : MS} (h : fr_alias_b22 S s0 l1 l2 l3 = some (r1, S1)) : FK [0] [] S S1 := by
  have p0 : FK [0] [] S S := FK.rf
  unfold fr_alias_b22 at h
  obtain ⟨r5, S2, eS2, h⟩ := obind2_some h
  have p1 : FK [0] [] S S2 := p0.tr ((w_fr_mayAsk eS2).w (by decide))
  rcases oif_or h with ⟨-, h⟩ | ⟨-, h⟩
  · have h := h
    rw [← (osome2 h).2]
    exact p1
  · have h := h
    obtain ⟨r7, -, h⟩ := obind_some h
    rcases oif_or h with ⟨-, h⟩ | ⟨-, h⟩
    · have h := h
      obtain ⟨r13, S10, eS10, h⟩ := obind2_some h
      have p2 : FK [0] [] S S10 := p1.tr ((w_fr_throwsAt eS10).w (by decide))
      exact p2.tr (w_fr_alias_b52  h)
    · have h := h
      obtain ⟨r17, S14, eS14, h⟩ := obind2_some h
      have p3 : FK [0] [] S S14 := p1.tr ((w_fr_confusion eS14).w (by decide))
      exact p3.tr (w_fr_alias_b52  h)
set_option maxHeartbeats 1000000 in
theorem w_fr_alias_b21 {l1 : Int32} {l2 : Int32} {l3 : Int32} {S : MS} {r1 : Int32} {S1 : MS} (h : fr_alias_b21 S l1 l2 l3 = some (r1, S1)) : FK [0] [] S S1 := by
  have p0 : FK [0] [] S S := FK.rf
  unfold fr_alias_b21 at h
  exact p0.tr (w_fr_alias_b22  h)
set_option maxHeartbeats 1000000 in
theorem w_fr_alias {a0 : Int32} {a1 : Int32} {a2 : Int32} {S : MS} {r1 : Int32} {S1 : MS} (h : fr_alias S a0 a1 a2 = some (r1, S1)) : FK [0] [] S S1 := by
  have p0 : FK [0] [] S S := FK.rf
  unfold fr_alias at h
  obtain ⟨r5, S2, eS2, h⟩ := obind2_some h
  have p1 : FK [0] [] S S2 := p0.tr ((w_fr_isCell eS2).w (by decide))
  rcases oif_or h with ⟨-, h⟩ | ⟨-, h⟩
  · have h := h
    exact p1.tr (w_fr_alias_b21  h)
  · have h := h
    obtain ⟨r10, S7, eS7, h⟩ := obind2_some h
    have p2 : FK [0] [] S S7 := p1.tr ((w_fr_isCell eS7).w (by decide))
    rcases oif_or h with ⟨-, h⟩ | ⟨-, h⟩
    · have h := h
      exact p2.tr (w_fr_alias_b21  h)
    · have h := h
      exact p2.tr (w_fr_alias_b22  h)
set_option maxHeartbeats 1000000 in
theorem w_fr_isMark_b45 {s0 : Int32} {S : MS} {r1 : Int32} {S1 : MS} (h : fr_isMark_b45 S s0 = some (r1, S1)) : FK [] [] S S1 := by
  have p0 : FK [] [] S S := FK.rf
  unfold fr_isMark_b45 at h
  have h := (oif_some h).2
  rw [← (osome2 h).2]
  exact p0
set_option maxHeartbeats 1000000 in
theorem w_fr_isMark_b44 {S : MS} {r1 : Int32} {S1 : MS} (h : fr_isMark_b44 S = some (r1, S1)) : FK [] [] S S1 := by
  have p0 : FK [] [] S S := FK.rf
  unfold fr_isMark_b44 at h
  exact p0.tr (w_fr_isMark_b45  h)
set_option maxHeartbeats 1000000 in
theorem w_fr_isMark {a0 : Int32} {a1 : Int32} {a2 : Int32} {a3 : Int32} {S : MS} {r1 : Int32} {S1 : MS} (h : fr_isMark S a0 a1 a2 a3 = some (r1, S1)) : FK [] [] S S1 := by
  have p0 : FK [] [] S S := FK.rf
  unfold fr_isMark at h
  rcases oif_or h with ⟨-, h⟩ | ⟨-, h⟩
  · have h := h
    exact p0.tr (w_fr_isMark_b44  h)
  · have h := h
    obtain ⟨r6, S3, eS3, h⟩ := obind2_some h
    have p1 : FK [] [] S S3 := p0.tr ((w_fr_isTop eS3).w (by decide))
    rcases oif_or h with ⟨-, h⟩ | ⟨-, h⟩
    · have h := h
      exact p1.tr (w_fr_isMark_b44  h)
    · have h := h
      obtain ⟨r11, S8, eS8, h⟩ := obind2_some h
      have p2 : FK [] [] S S8 := p1.tr ((w_fr_activeCount eS8).w (by decide))
      rcases oif_or h with ⟨-, h⟩ | ⟨-, h⟩
      · have h := h
        exact p2.tr (w_fr_isMark_b44  h)
      · have h := h
        obtain ⟨r16, S13, eS13, h⟩ := obind2_some h
        have p3 : FK [] [] S S13 := p2.tr ((w_fr_confusion eS13).w (by decide))
        obtain ⟨v17, ev17, h⟩ := elet_some h
        obtain ⟨r21, S18, eS18, h⟩ := obind2_some h
        have p4 : FK [] [] S S18 := p3.tr ((w_fr_activeCount eS18).w (by decide))
        obtain ⟨v22, ev22, h⟩ := elet_some h
        rcases oif_or h with ⟨-, h⟩ | ⟨-, h⟩
        · have h := h
          exact p4.tr (w_fr_isMark_b44  h)
        · have h := h
          exact p4.tr (w_fr_isMark_b45  h)
set_option maxHeartbeats 1000000 in
theorem w_fr_isAlias_b67 {s0 : Int32} {S : MS} {r1 : Int32} {S1 : MS} (h : fr_isAlias_b67 S s0 = some (r1, S1)) : FK [0] [24] S S1 := by
  have p0 : FK [0] [24] S S := FK.rf
  unfold fr_isAlias_b67 at h
  have h := (oif_some h).2
  rw [← (osome2 h).2]
  exact p0
set_option maxHeartbeats 1000000 in
theorem w_fr_isAlias_b66 {S : MS} {r1 : Int32} {S1 : MS} (h : fr_isAlias_b66 S = some (r1, S1)) : FK [0] [24] S S1 := by
  have p0 : FK [0] [24] S S := FK.rf
  unfold fr_isAlias_b66 at h
  exact p0.tr (w_fr_isAlias_b67  h)
set_option maxHeartbeats 1000000 in
theorem w_fr_isAlias_b34 {s0 : Int32} {l1 : Int32} {l2 : Int32} {l3 : Int32} {S : MS} {r1 : Int32} {S1 : MS} (h : fr_isAlias_b34 S s0 l1 l2 l3 = some (r1, S1)) : FK [0] [24] S S1 := by
  have p0 : FK [0] [24] S S := FK.rf
  unfold fr_isAlias_b34 at h
  obtain ⟨S2, eS2, h⟩ := elet_some h
  have p1 : FK [0] [24] S S2 := p0.tr (by rw [eS2]; exact fw_mi (by decide))
  obtain ⟨v3, ev3, h⟩ := elet_some h
  rcases oif_or h with ⟨-, h⟩ | ⟨-, h⟩
  · have h := h
    obtain ⟨r8, S5, eS5, h⟩ := obind2_some h
    have p2 : FK [0] [24] S S5 := p1.tr ((w_fr_bestIn_12 eS5).w (by decide))
    obtain ⟨r12, S9, eS9, h⟩ := obind2_some h
    have p3 : FK [0] [24] S S9 := p2.tr ((w_fr_isMark eS9).w (by decide))
    rcases oif_or h with ⟨-, h⟩ | ⟨-, h⟩
    · have h := h
      exact p3.tr (w_fr_isAlias_b66  h)
    · have h := h
      exact p3.tr (w_fr_isAlias_b67  h)
  · have h := h
    exact p1.tr (w_fr_isAlias_b66  h)
set_option maxHeartbeats 1000000 in
theorem w_fr_isAlias_b33 {l1 : Int32} {l2 : Int32} {l3 : Int32} {S : MS} {r1 : Int32} {S1 : MS} (h : fr_isAlias_b33 S l1 l2 l3 = some (r1, S1)) : FK [0] [24] S S1 := by
  have p0 : FK [0] [24] S S := FK.rf
  unfold fr_isAlias_b33 at h
  exact p0.tr (w_fr_isAlias_b34  h)
set_option maxHeartbeats 1000000 in
theorem w_fr_isAlias {a0 : Int32} {a1 : Int32} {a2 : Int32} {S : MS} {r1 : Int32} {S1 : MS} (h : fr_isAlias S a0 a1 a2 = some (r1, S1)) : FK [0] [24] S S1 := by
  have p0 : FK [0] [24] S S := FK.rf
  unfold fr_isAlias at h
  obtain ⟨r5, S2, eS2, h⟩ := obind2_some h
  have p1 : FK [0] [24] S S2 := p0.tr ((w_fr_isCell eS2).w (by decide))
  obtain ⟨r9, S6, eS6, h⟩ := obind2_some h
  have p2 : FK [0] [24] S S6 := p1.tr ((w_fr_mayAsk eS6).w (by decide))
  rcases oif_or h with ⟨-, h⟩ | ⟨-, h⟩
  · have h := h
    rw [← (osome2 h).2]
    exact p2
  · have h := h
    obtain ⟨r11, -, h⟩ := obind_some h
    rcases oif_or h with ⟨-, h⟩ | ⟨-, h⟩
    · have h := h
      exact p2.tr (w_fr_isAlias_b33  h)
    · have h := h
      obtain ⟨r14, -, h⟩ := obind_some h
      rcases oif_or h with ⟨-, h⟩ | ⟨-, h⟩
      · have h := h
        exact p2.tr (w_fr_isAlias_b33  h)
      · have h := h
        exact p2.tr (w_fr_isAlias_b34  h)
set_option maxHeartbeats 1000000 in
theorem w_fr_aliases_b71 {k43 : MS → Int32 → Int32 → Int32 → Int32 → Int32 → Option (Int32 × MS)} {s0 : Int32} {s1 : Int32} {l1 : Int32} {l2 : Int32} {l3 : Int32} {l5 : Int32} {S : MS} {r1 : Int32} {S1 : MS} (hk43 : ∀ (x0 : MS) (x1 : Int32) (x2 : Int32) (x3 : Int32) (x4 : Int32) (x5 : Int32), k43 x0 x1 x2 x3 x4 x5 = some (r1, S1) → FK [0] [24] x0 S1) (h : fr_aliases_b71 k43 S s0 s1 l1 l2 l3 l5 = some (r1, S1)) : FK [0] [24] S S1 := by
  have p0 : FK [0] [24] S S := FK.rf
  unfold fr_aliases_b71 at h
  obtain ⟨v2, ev2, h⟩ := elet_some h
  obtain ⟨v3, ev3, h⟩ := elet_some h
  exact p0.tr (hk43 _ _ _ _ _ _ h)
set_option maxHeartbeats 1000000 in
theorem w_fr_aliases_b43 {r1 : Int32} {S1 : MS} : ∀ n : Nat, ∀ (S : MS) (y1 : Int32) (y2 : Int32) (y3 : Int32) (y4 : Int32) (y5 : Int32), fr_aliases_b43 n S y1 y2 y3 y4 y5 = some (r1, S1) → FK [0] [24] S S1 := by
  intro n
  induction n with
  | zero =>
    intro S y1 y2 y3 y4 y5 h
    have h : (none : Option (Int32 × MS)) = some (r1, S1) := h
    cases h
  | succ n ih =>
    intro S l1 l2 l3 l4 l5 h
    have p0 : FK [0] [24] S S := FK.rf
    unfold fr_aliases_b43 at h
    obtain ⟨r5, S2, eS2, h⟩ := obind2_some h
    have p1 : FK [0] [24] S S2 := p0.tr ((w_fr_cellCount eS2).w (by decide))
    rcases oif_or h with ⟨-, h⟩ | ⟨-, h⟩
    · have h := h
      rw [← (osome2 h).2]
      exact p1
    · have h := h
      obtain ⟨r10, S7, eS7, h⟩ := obind2_some h
      have p2 : FK [0] [24] S S7 := p1.tr ((w_fr_isMark eS7).w (by decide))
      rcases oif_or h with ⟨-, h⟩ | ⟨-, h⟩
      · have h := h
        exact p2.tr (w_fr_aliases_b71 ih h)
      · have h := h
        exact p2.tr (w_fr_aliases_b71 ih h)
set_option maxHeartbeats 1000000 in
theorem w_fr_aliases_b20 {s0 : Int32} {l1 : Int32} {l2 : Int32} {S : MS} {r1 : Int32} {S1 : MS} (h : fr_aliases_b20 S s0 l1 l2 = some (r1, S1)) : FK [0] [24] S S1 := by
  have p0 : FK [0] [24] S S := FK.rf
  unfold fr_aliases_b20 at h
  obtain ⟨r5, S2, eS2, h⟩ := obind2_some h
  have p1 : FK [0] [24] S S2 := p0.tr ((w_fr_mayAsk eS2).w (by decide))
  rcases oif_or h with ⟨-, h⟩ | ⟨-, h⟩
  · have h := h
    rw [← (osome2 h).2]
    exact p1
  · have h := h
    obtain ⟨r10, S7, eS7, h⟩ := obind2_some h
    have p2 : FK [0] [24] S S7 := p1.tr ((w_fr_bestIn_12 eS7).w (by decide))
    exact p2.tr (w_fr_aliases_b43  _ _ _ _ _ _ _ h)
set_option maxHeartbeats 1000000 in
theorem w_fr_aliases_b19 {l1 : Int32} {l2 : Int32} {S : MS} {r1 : Int32} {S1 : MS} (h : fr_aliases_b19 S l1 l2 = some (r1, S1)) : FK [0] [24] S S1 := by
  have p0 : FK [0] [24] S S := FK.rf
  unfold fr_aliases_b19 at h
  exact p0.tr (w_fr_aliases_b20  h)
set_option maxHeartbeats 1000000 in
theorem w_fr_aliases {a0 : Int32} {a1 : Int32} {S : MS} {r1 : Int32} {S1 : MS} (h : fr_aliases S a0 a1 = some (r1, S1)) : FK [0] [24] S S1 := by
  have p0 : FK [0] [24] S S := FK.rf
  unfold fr_aliases at h
  obtain ⟨r2, -, h⟩ := obind_some h
  rcases oif_or h with ⟨-, h⟩ | ⟨-, h⟩
  · have h := h
    exact p0.tr (w_fr_aliases_b19  h)
  · have h := h
    obtain ⟨r5, -, h⟩ := obind_some h
    rcases oif_or h with ⟨-, h⟩ | ⟨-, h⟩
    · have h := h
      exact p0.tr (w_fr_aliases_b19  h)
    · have h := h
      exact p0.tr (w_fr_aliases_b20  h)
set_option maxHeartbeats 1000000 in
theorem w_fr_blockOf {a0 : Int32} {a1 : Int32} {a2 : Int32} {S : MS} {r1 : Int64} {S1 : MS} (h : fr_blockOf S a0 a1 a2 = some (r1, S1)) : FK [] [24] S S1 := by
  have p0 : FK [] [24] S S := FK.rf
  unfold fr_blockOf at h
  obtain ⟨S2, eS2, h⟩ := obind_some h
  have p1 : FK [] [24] S S2 := p0.tr ((w_fr_laysCell eS2).w (by decide))
  obtain ⟨r8, S5, eS5, h⟩ := obind2_some h
  have p2 : FK [] [24] S S5 := p1.tr ((w_fr_windowOf_12 eS5).w (by decide))
  obtain ⟨v9, ev9, h⟩ := elet_some h
  obtain ⟨v10, ev10, h⟩ := elet_some h
  obtain ⟨r14, S11, eS11, h⟩ := obind2_some h
  have p3 : FK [] [24] S S11 := p2.tr ((w_fr_energy_12 eS11).w (by decide))
  obtain ⟨v15, ev15, h⟩ := elet_some h
  have h := (oif_some h).2
  obtain ⟨v17, ev17, h⟩ := elet_some h
  rw [← (osome2 h).2]
  exact p3
set_option maxHeartbeats 1000000 in
theorem w_fr_isBlock_b27 {s0 : Int32} {S : MS} {r1 : Int32} {S1 : MS} (h : fr_isBlock_b27 S s0 = some (r1, S1)) : FK [] [] S S1 := by
  have p0 : FK [] [] S S := FK.rf
  unfold fr_isBlock_b27 at h
  have h := (oif_some h).2
  rw [← (osome2 h).2]
  exact p0
set_option maxHeartbeats 1000000 in
theorem w_fr_isBlock_b26 {S : MS} {r1 : Int32} {S1 : MS} (h : fr_isBlock_b26 S = some (r1, S1)) : FK [] [] S S1 := by
  have p0 : FK [] [] S S := FK.rf
  unfold fr_isBlock_b26 at h
  exact p0.tr (w_fr_isBlock_b27  h)
set_option maxHeartbeats 1000000 in
theorem w_fr_isBlock {a0 : Int32} {a1 : Int32} {S : MS} {r1 : Int32} {S1 : MS} (h : fr_isBlock S a0 a1 = some (r1, S1)) : FK [] [] S S1 := by
  have p0 : FK [] [] S S := FK.rf
  unfold fr_isBlock at h
  obtain ⟨r5, S2, eS2, h⟩ := obind2_some h
  have p1 : FK [] [] S S2 := p0.tr ((w_fr_isTime eS2).w (by decide))
  rcases oif_or h with ⟨-, h⟩ | ⟨-, h⟩
  · have h := h
    exact p1.tr (w_fr_isBlock_b26  h)
  · have h := h
    obtain ⟨v7, ev7, h⟩ := elet_some h
    obtain ⟨r8, -, h⟩ := obind_some h
    rcases oif_or h with ⟨-, h⟩ | ⟨-, h⟩
    · have h := h
      exact p1.tr (w_fr_isBlock_b26  h)
    · have h := h
      exact p1.tr (w_fr_isBlock_b27  h)
set_option maxHeartbeats 1000000 in
theorem w_fr_blockPower_b39 {s0 : Int64} {S : MS} {r1 : Int64} {S1 : MS} (h : fr_blockPower_b39 S s0 = some (r1, S1)) : FK [0] [24] S S1 := by
  have p0 : FK [0] [24] S S := FK.rf
  unfold fr_blockPower_b39 at h
  rw [← (osome2 h).2]
  exact p0
set_option maxHeartbeats 1000000 in
theorem w_fr_blockPower {a0 : Int32} {a1 : Int32} {a2 : Int32} {S : MS} {r1 : Int64} {S1 : MS} (h : fr_blockPower S a0 a1 a2 = some (r1, S1)) : FK [0] [24] S S1 := by
  have p0 : FK [0] [24] S S := FK.rf
  unfold fr_blockPower at h
  obtain ⟨r5, S2, eS2, h⟩ := obind2_some h
  have p1 : FK [0] [24] S S2 := p0.tr ((w_fr_isCell eS2).w (by decide))
  obtain ⟨r9, S6, eS6, h⟩ := obind2_some h
  have p2 : FK [0] [24] S S6 := p1.tr ((w_fr_mayAsk eS6).w (by decide))
  rcases oif_or h with ⟨-, h⟩ | ⟨-, h⟩
  · have h := h
    rw [← (osome2 h).2]
    exact p2
  · have h := h
    obtain ⟨r14, S11, eS11, h⟩ := obind2_some h
    have p3 : FK [0] [24] S S11 := p2.tr ((w_fr_isBlock eS11).w (by decide))
    rcases oif_or h with ⟨-, h⟩ | ⟨-, h⟩
    · have h := h
      obtain ⟨r19, S16, eS16, h⟩ := obind2_some h
      have p4 : FK [0] [24] S S16 := p3.tr ((w_fr_throwsAt eS16).w (by decide))
      obtain ⟨v20, ev20, h⟩ := elet_some h
      exact p4.tr (w_fr_blockPower_b39  h)
    · have h := h
      obtain ⟨r24, S21, eS21, h⟩ := obind2_some h
      have p5 : FK [0] [24] S S21 := p3.tr ((w_fr_blockOf eS21).w (by decide))
      exact p5.tr (w_fr_blockPower_b39  h)
set_option maxHeartbeats 1000000 in
theorem w_fr_bestOfBlock_b51 {k14 : MS → Int32 → Int32 → Int32 → Int64 → Int32 → Option (Int32 × MS)} {l1 : Int32} {l2 : Int32} {l3 : Int32} {l4 : Int64} {l6 : Int32} {S : MS} {r1 : Int32} {S1 : MS} (hk14 : ∀ (x0 : MS) (x1 : Int32) (x2 : Int32) (x3 : Int32) (x4 : Int64) (x5 : Int32), k14 x0 x1 x2 x3 x4 x5 = some (r1, S1) → FK [] [24] x0 S1) (h : fr_bestOfBlock_b51 k14 S l1 l2 l3 l4 l6 = some (r1, S1)) : FK [] [24] S S1 := by
  have p0 : FK [] [24] S S := FK.rf
  unfold fr_bestOfBlock_b51 at h
  obtain ⟨v2, ev2, h⟩ := elet_some h
  exact p0.tr (hk14 _ _ _ _ _ _ h)
set_option maxHeartbeats 1000000 in
theorem w_fr_bestOfBlock_b14 {r1 : Int32} {S1 : MS} : ∀ n : Nat, ∀ (S : MS) (y1 : Int32) (y2 : Int32) (y3 : Int32) (y4 : Int64) (y5 : Int32), fr_bestOfBlock_b14 n S y1 y2 y3 y4 y5 = some (r1, S1) → FK [] [24] S S1 := by
  intro n
  induction n with
  | zero =>
    intro S y1 y2 y3 y4 y5 h
    have h : (none : Option (Int32 × MS)) = some (r1, S1) := h
    cases h
  | succ n ih =>
    intro S l1 l2 l3 l4 l6 h
    have p0 : FK [] [24] S S := FK.rf
    unfold fr_bestOfBlock_b14 at h
    obtain ⟨r5, S2, eS2, h⟩ := obind2_some h
    have p1 : FK [] [24] S S2 := p0.tr ((w_fr_cellCount eS2).w (by decide))
    rcases oif_or h with ⟨-, h⟩ | ⟨-, h⟩
    · have h := h
      rw [← (osome2 h).2]
      exact p1
    · have h := h
      obtain ⟨r10, S7, eS7, h⟩ := obind2_some h
      have p2 : FK [] [24] S S7 := p1.tr ((w_fr_blockOf eS7).w (by decide))
      obtain ⟨v11, ev11, h⟩ := elet_some h
      rcases oif_or h with ⟨-, h⟩ | ⟨-, h⟩
      · have h := h
        exact p2.tr (w_fr_bestOfBlock_b51 ih h)
      · have h := h
        exact p2.tr (w_fr_bestOfBlock_b51 ih h)
set_option maxHeartbeats 1000000 in
theorem w_fr_bestOfBlock {a0 : Int32} {a1 : Int32} {S : MS} {r1 : Int32} {S1 : MS} (h : fr_bestOfBlock S a0 a1 = some (r1, S1)) : FK [] [24] S S1 := by
  have p0 : FK [] [24] S S := FK.rf
  unfold fr_bestOfBlock at h
  obtain ⟨r5, S2, eS2, h⟩ := obind2_some h
  have p1 : FK [] [24] S S2 := p0.tr ((w_fr_blockOf eS2).w (by decide))
  exact p1.tr (w_fr_bestOfBlock_b14  _ _ _ _ _ _ _ h)
set_option maxHeartbeats 1000000 in
theorem w_fr_blockBest_b23 {s0 : Int32} {S : MS} {r1 : Int32} {S1 : MS} (h : fr_blockBest_b23 S s0 = some (r1, S1)) : FK [0] [24] S S1 := by
  have p0 : FK [0] [24] S S := FK.rf
  unfold fr_blockBest_b23 at h
  rw [← (osome2 h).2]
  exact p0
set_option maxHeartbeats 1000000 in
theorem w_fr_blockBest {a0 : Int32} {a1 : Int32} {S : MS} {r1 : Int32} {S1 : MS} (h : fr_blockBest S a0 a1 = some (r1, S1)) : FK [0] [24] S S1 := by
  have p0 : FK [0] [24] S S := FK.rf
  unfold fr_blockBest at h
  obtain ⟨r5, S2, eS2, h⟩ := obind2_some h
  have p1 : FK [0] [24] S S2 := p0.tr ((w_fr_isBlock eS2).w (by decide))
  obtain ⟨r9, S6, eS6, h⟩ := obind2_some h
  have p2 : FK [0] [24] S S6 := p1.tr ((w_fr_mayAsk eS6).w (by decide))
  rcases oif_or h with ⟨-, h⟩ | ⟨-, h⟩
  · have h := h
    exact p2.tr (w_fr_blockBest_b23  h)
  · have h := h
    obtain ⟨r14, S11, eS11, h⟩ := obind2_some h
    have p3 : FK [0] [24] S S11 := p2.tr ((w_fr_bestOfBlock eS11).w (by decide))
    exact p3.tr (w_fr_blockBest_b23  h)
set_option maxHeartbeats 1000000 in
theorem w_fr_path_b66 {k32 : MS → Int32 → Int32 → Int32 → Int32 → Option (Int32 × MS)} {s0 : Int32} {s1 : Int32} {l1 : Int32} {l4 : Int32} {l5 : Int32} {S : MS} {r1 : Int32} {S1 : MS} (hk32 : ∀ (x0 : MS) (x1 : Int32) (x2 : Int32) (x3 : Int32) (x4 : Int32), k32 x0 x1 x2 x3 x4 = some (r1, S1) → FK [0] [24] x0 S1) (h : fr_path_b66 k32 S s0 s1 l1 l4 l5 = some (r1, S1)) : FK [0] [24] S S1 := by
  have p0 : FK [0] [24] S S := FK.rf
  unfold fr_path_b66 at h
  obtain ⟨v2, ev2, h⟩ := elet_some h
  obtain ⟨v3, ev3, h⟩ := elet_some h
  exact p0.tr (hk32 _ _ _ _ _ h)
set_option maxHeartbeats 1000000 in
theorem w_fr_path_b32 {r1 : Int32} {S1 : MS} : ∀ n : Nat, ∀ (S : MS) (y1 : Int32) (y2 : Int32) (y3 : Int32) (y4 : Int32), fr_path_b32 n S y1 y2 y3 y4 = some (r1, S1) → FK [0] [24] S S1 := by
  intro n
  induction n with
  | zero =>
    intro S y1 y2 y3 y4 h
    have h : (none : Option (Int32 × MS)) = some (r1, S1) := h
    cases h
  | succ n ih =>
    intro S l1 l2 l3 l4 h
    have p0 : FK [0] [24] S S := FK.rf
    unfold fr_path_b32 at h
    obtain ⟨v2, ev2, h⟩ := elet_some h
    obtain ⟨v3, ev3, h⟩ := elet_some h
    rcases oif_or h with ⟨-, h⟩ | ⟨-, h⟩
    · have h := h
      rw [← (osome2 h).2]
      exact p0
    · have h := h
      obtain ⟨r8, S5, eS5, h⟩ := obind2_some h
      have p1 : FK [0] [24] S S5 := p0.tr ((w_fr_bestOfBlock eS5).w (by decide))
      rcases oif_or h with ⟨-, h⟩ | ⟨-, h⟩
      · have h := h
        exact p1.tr (w_fr_path_b66 ih h)
      · have h := h
        exact p1.tr (w_fr_path_b66 ih h)
set_option maxHeartbeats 1000000 in
theorem w_fr_path {a0 : Int32} {S : MS} {r1 : Int32} {S1 : MS} (h : fr_path S a0 = some (r1, S1)) : FK [0] [24] S S1 := by
  have p0 : FK [0] [24] S S := FK.rf
  unfold fr_path at h
  obtain ⟨v2, ev2, h⟩ := elet_some h
  obtain ⟨r3, -, h⟩ := obind_some h
  obtain ⟨r8, S5, eS5, h⟩ := obind2_some h
  have p1 : FK [0] [24] S S5 := p0.tr ((w_fr_mayAsk eS5).w (by decide))
  rcases oif_or h with ⟨-, h⟩ | ⟨-, h⟩
  · have h := h
    rw [← (osome2 h).2]
    exact p1
  · have h := h
    obtain ⟨r13, S10, eS10, h⟩ := obind2_some h
    have p2 : FK [0] [24] S S10 := p1.tr ((w_fr_bestOfBlock eS10).w (by decide))
    exact p2.tr (w_fr_path_b32  _ _ _ _ _ _ h)
set_option maxHeartbeats 1000000 in
theorem w_fr_blockCount {a0 : Int32} {S : MS} {r1 : Int32} {S1 : MS} (h : fr_blockCount S a0 = some (r1, S1)) : FK [] [] S S1 := by
  have p0 : FK [] [] S S := FK.rf
  unfold fr_blockCount at h
  obtain ⟨v2, ev2, h⟩ := elet_some h
  have h := (oif_some h).2
  obtain ⟨v4, ev4, h⟩ := elet_some h
  rw [← (osome2 h).2]
  exact p0
set_option maxHeartbeats 1000000 in
theorem w_fr_areNear_b57 {s0 : Int32} {S : MS} {r1 : Int32} {S1 : MS} (h : fr_areNear_b57 S s0 = some (r1, S1)) : FK [] [] S S1 := by
  have p0 : FK [] [] S S := FK.rf
  unfold fr_areNear_b57 at h
  have h := (oif_some h).2
  rw [← (osome2 h).2]
  exact p0
set_option maxHeartbeats 1000000 in
theorem w_fr_areNear_b56 {S : MS} {r1 : Int32} {S1 : MS} (h : fr_areNear_b56 S = some (r1, S1)) : FK [] [] S S1 := by
  have p0 : FK [] [] S S := FK.rf
  unfold fr_areNear_b56 at h
  exact p0.tr (w_fr_areNear_b57  h)
set_option maxHeartbeats 1000000 in
theorem w_fr_areNear {a0 : Int32} {a1 : Int32} {S : MS} {r1 : Int32} {S1 : MS} (h : fr_areNear S a0 a1 = some (r1, S1)) : FK [] [] S S1 := by
  have p0 : FK [] [] S S := FK.rf
  unfold fr_areNear at h
  obtain ⟨v2, ev2, h⟩ := elet_some h
  have h := (oif_some h).2
  obtain ⟨v4, ev4, h⟩ := elet_some h
  obtain ⟨v5, ev5, h⟩ := elet_some h
  have h := (oif_some h).2
  obtain ⟨v7, ev7, h⟩ := elet_some h
  obtain ⟨v8, ev8, h⟩ := elet_some h
  obtain ⟨v9, ev9, h⟩ := elet_some h
  rcases oif_or h with ⟨-, h⟩ | ⟨-, h⟩
  · have h := h
    exact p0.tr (w_fr_areNear_b56  h)
  · have h := h
    obtain ⟨v11, ev11, h⟩ := elet_some h
    have h := (oif_some h).2
    obtain ⟨v13, ev13, h⟩ := elet_some h
    obtain ⟨v14, ev14, h⟩ := elet_some h
    have h := (oif_some h).2
    obtain ⟨v16, ev16, h⟩ := elet_some h
    obtain ⟨v17, ev17, h⟩ := elet_some h
    obtain ⟨v18, ev18, h⟩ := elet_some h
    rcases oif_or h with ⟨-, h⟩ | ⟨-, h⟩
    · have h := h
      exact p0.tr (w_fr_areNear_b56  h)
    · have h := h
      exact p0.tr (w_fr_areNear_b57  h)
set_option maxHeartbeats 1000000 in
theorem w_fr_bestBehind_b69 {k5 : MS → Int32 → Int32 → Int32 → Int32 → Option (Int32 × MS)} {l1 : Int32} {l2 : Int32} {l3 : Int32} {l4 : Int32} {S : MS} {r1 : Int32} {S1 : MS} (hk5 : ∀ (x0 : MS) (x1 : Int32) (x2 : Int32) (x3 : Int32) (x4 : Int32), k5 x0 x1 x2 x3 x4 = some (r1, S1) → FK [] [] x0 S1) (h : fr_bestBehind_b69 k5 S l1 l2 l3 l4 = some (r1, S1)) : FK [] [] S S1 := by
  have p0 : FK [] [] S S := FK.rf
  unfold fr_bestBehind_b69 at h
  obtain ⟨v2, ev2, h⟩ := elet_some h
  exact p0.tr (hk5 _ _ _ _ _ h)
set_option maxHeartbeats 1000000 in
theorem w_fr_bestBehind_b66 {k5 : MS → Int32 → Int32 → Int32 → Int32 → Option (Int32 × MS)} {l1 : Int32} {l2 : Int32} {l4 : Int32} {S : MS} {r1 : Int32} {S1 : MS} (hk5 : ∀ (x0 : MS) (x1 : Int32) (x2 : Int32) (x3 : Int32) (x4 : Int32), k5 x0 x1 x2 x3 x4 = some (r1, S1) → FK [] [] x0 S1) (h : fr_bestBehind_b66 k5 S l1 l2 l4 = some (r1, S1)) : FK [] [] S S1 := by
  have p0 : FK [] [] S S := FK.rf
  unfold fr_bestBehind_b66 at h
  exact p0.tr (w_fr_bestBehind_b69 hk5 h)
set_option maxHeartbeats 1000000 in
theorem w_fr_bestBehind_b29 {k5 : MS → Int32 → Int32 → Int32 → Int32 → Option (Int32 × MS)} {l1 : Int32} {l2 : Int32} {l3 : Int32} {l4 : Int32} {S : MS} {r1 : Int32} {S1 : MS} (hk5 : ∀ (x0 : MS) (x1 : Int32) (x2 : Int32) (x3 : Int32) (x4 : Int32), k5 x0 x1 x2 x3 x4 = some (r1, S1) → FK [] [] x0 S1) (h : fr_bestBehind_b29 k5 S l1 l2 l3 l4 = some (r1, S1)) : FK [] [] S S1 := by
  have p0 : FK [] [] S S := FK.rf
  unfold fr_bestBehind_b29 at h
  rcases oif_or h with ⟨-, h⟩ | ⟨-, h⟩
  · have h := h
    exact p0.tr (w_fr_bestBehind_b66 hk5 h)
  · have h := h
    obtain ⟨v3, ev3, h⟩ := elet_some h
    obtain ⟨v4, ev4, h⟩ := elet_some h
    have h := (oif_some h).2
    obtain ⟨v6, ev6, h⟩ := elet_some h
    obtain ⟨v7, ev7, h⟩ := elet_some h
    obtain ⟨v8, ev8, h⟩ := elet_some h
    have h := (oif_some h).2
    obtain ⟨v10, ev10, h⟩ := elet_some h
    obtain ⟨v11, ev11, h⟩ := elet_some h
    rcases oif_or h with ⟨-, h⟩ | ⟨-, h⟩
    · have h := h
      exact p0.tr (w_fr_bestBehind_b66 hk5 h)
    · have h := h
      exact p0.tr (w_fr_bestBehind_b69 hk5 h)
set_option maxHeartbeats 1000000 in
theorem w_fr_bestBehind_b5 {r1 : Int32} {S1 : MS} : ∀ n : Nat, ∀ (S : MS) (y1 : Int32) (y2 : Int32) (y3 : Int32) (y4 : Int32), fr_bestBehind_b5 n S y1 y2 y3 y4 = some (r1, S1) → FK [] [] S S1 := by
  intro n
  induction n with
  | zero =>
    intro S y1 y2 y3 y4 h
    have h : (none : Option (Int32 × MS)) = some (r1, S1) := h
    cases h
  | succ n ih =>
    intro S l1 l2 l3 l4 h
    have p0 : FK [] [] S S := FK.rf
    unfold fr_bestBehind_b5 at h
    obtain ⟨r5, S2, eS2, h⟩ := obind2_some h
    have p1 : FK [] [] S S2 := p0.tr ((w_fr_cellCount eS2).w (by decide))
    rcases oif_or h with ⟨-, h⟩ | ⟨-, h⟩
    · have h := h
      rw [← (osome2 h).2]
      exact p1
    · have h := h
      rcases oif_or h with ⟨-, h⟩ | ⟨-, h⟩
      · have h := h
        exact p1.tr (w_fr_bestBehind_b29 ih h)
      · have h := h
        obtain ⟨r11, S8, eS8, h⟩ := obind2_some h
        have p2 : FK [] [] S S8 := p1.tr ((w_fr_areNear eS8).w (by decide))
        rcases oif_or h with ⟨-, h⟩ | ⟨-, h⟩
        · have h := h
          exact p2.tr (w_fr_bestBehind_b69 ih h)
        · have h := h
          exact p2.tr (w_fr_bestBehind_b29 ih h)
set_option maxHeartbeats 1000000 in
theorem w_fr_bestBehind {a0 : Int32} {a1 : Int32} {S : MS} {r1 : Int32} {S1 : MS} (h : fr_bestBehind S a0 a1 = some (r1, S1)) : FK [] [] S S1 := by
  have p0 : FK [] [] S S := FK.rf
  unfold fr_bestBehind at h
  exact p0.tr (w_fr_bestBehind_b5  _ _ _ _ _ _ h)
set_option maxHeartbeats 1000000 in
theorem w_fr_laysScores_b93 {k8 : MS → Int32 → Int32 → Option (MS)} {k32 : MS → Int32 → Int32 → Int32 → Int32 → Option (MS)} {s0 : Int64} {s1 : Int64} {s2 : Int32} {l1 : Int32} {l2 : Int32} {l3 : Int32} {l4 : Int32} {S : MS} {S1 : MS} (hk8 : ∀ (x0 : MS) (x1 : Int32) (x2 : Int32), k8 x0 x1 x2 = some S1 → FK [] [24] x0 S1) (hk32 : ∀ (x0 : MS) (x1 : Int32) (x2 : Int32) (x3 : Int32) (x4 : Int32), k32 x0 x1 x2 x3 x4 = some S1 → FK [] [24] x0 S1) (h : fr_laysScores_b93 k8 k32 S s0 s1 s2 l1 l2 l3 l4 = some S1) : FK [] [24] S S1 := by
  have p0 : FK [] [24] S S := FK.rf
  unfold fr_laysScores_b93 at h
  obtain ⟨v2, ev2, h⟩ := elet_some h
  have h := (oif_some h).2
  obtain ⟨S4, eS4, h⟩ := elet_some h
  have p1 : FK [] [24] S S4 := p0.tr (by rw [eS4]; exact ⟨fun _ _ => rfl, fun _ _ => rfl⟩)
  obtain ⟨v5, ev5, h⟩ := elet_some h
  exact p1.tr (hk32 _ _ _ _ _ h)
set_option maxHeartbeats 1000000 in
theorem w_fr_laysScores_b32 {k8 : MS → Int32 → Int32 → Option (MS)} {S1 : MS} (hk8 : ∀ (x0 : MS) (x1 : Int32) (x2 : Int32), k8 x0 x1 x2 = some S1 → FK [] [24] x0 S1) : ∀ n : Nat, ∀ (S : MS) (y1 : Int32) (y2 : Int32) (y3 : Int32) (y4 : Int32), fr_laysScores_b32 k8 n S y1 y2 y3 y4 = some S1 → FK [] [24] S S1 := by
  intro n
  induction n with
  | zero =>
    intro S y1 y2 y3 y4 h
    have h : (none : Option (MS)) = some S1 := h
    cases h
  | succ n ih =>
    intro S l1 l2 l3 l4 h
    have p0 : FK [] [24] S S := FK.rf
    unfold fr_laysScores_b32 at h
    obtain ⟨r5, S2, eS2, h⟩ := obind2_some h
    have p1 : FK [] [24] S S2 := p0.tr ((w_fr_cellCount eS2).w (by decide))
    rcases oif_or h with ⟨-, h⟩ | ⟨-, h⟩
    · have h := h
      obtain ⟨v7, ev7, h⟩ := elet_some h
      exact p1.tr (hk8 _ _ _ h)
    · have h := h
      obtain ⟨v8, ev8, h⟩ := elet_some h
      obtain ⟨v9, ev9, h⟩ := elet_some h
      obtain ⟨v10, ev10, h⟩ := elet_some h
      obtain ⟨r14, S11, eS11, h⟩ := obind2_some h
      have p2 : FK [] [24] S S11 := p1.tr ((w_fr_blockOf eS11).w (by decide))
      rcases oif_or h with ⟨-, h⟩ | ⟨-, h⟩
      · have h := h
        obtain ⟨v16, ev16, h⟩ := elet_some h
        obtain ⟨v17, ev17, h⟩ := elet_some h
        obtain ⟨v18, ev18, h⟩ := elet_some h
        obtain ⟨r22, S19, eS19, h⟩ := obind2_some h
        have p3 : FK [] [24] S S19 := p2.tr ((w_fr_bestBehind eS19).w (by decide))
        obtain ⟨v23, ev23, h⟩ := elet_some h
        have h := (oif_some h).2
        obtain ⟨v25, ev25, h⟩ := elet_some h
        exact p3.tr (w_fr_laysScores_b93 hk8 ih h)
      · have h := h
        exact p2.tr (w_fr_laysScores_b93 hk8 ih h)
set_option maxHeartbeats 1000000 in
theorem w_fr_laysScores_b28 {k8 : MS → Int32 → Int32 → Option (MS)} {s0 : Int32} {l1 : Int32} {l2 : Int32} {S : MS} {S1 : MS} (hk8 : ∀ (x0 : MS) (x1 : Int32) (x2 : Int32), k8 x0 x1 x2 = some S1 → FK [] [24] x0 S1) (h : fr_laysScores_b28 k8 S s0 l1 l2 = some S1) : FK [] [24] S S1 := by
  have p0 : FK [] [24] S S := FK.rf
  unfold fr_laysScores_b28 at h
  exact p0.tr (w_fr_laysScores_b32 hk8 _ _ _ _ _ _ h)
set_option maxHeartbeats 1000000 in
theorem w_fr_laysScores_b8 {S1 : MS} : ∀ n : Nat, ∀ (S : MS) (y1 : Int32) (y2 : Int32), fr_laysScores_b8 n S y1 y2 = some S1 → FK [] [24] S S1 := by
  intro n
  induction n with
  | zero =>
    intro S y1 y2 h
    have h : (none : Option (MS)) = some S1 := h
    cases h
  | succ n ih =>
    intro S l1 l2 h
    have p0 : FK [] [24] S S := FK.rf
    unfold fr_laysScores_b8 at h
    rcases oif_or h with ⟨-, h⟩ | ⟨-, h⟩
    · have h := h
      rw [← osome1 h]
      exact p0
    · have h := h
      obtain ⟨r6, S3, eS3, h⟩ := obind2_some h
      have p1 : FK [] [24] S S3 := p0.tr ((w_fr_blockCount eS3).w (by decide))
      obtain ⟨v7, ev7, h⟩ := elet_some h
      rcases oif_or h with ⟨-, h⟩ | ⟨-, h⟩
      · have h := h
        exact p1.tr (w_fr_laysScores_b28 ih h)
      · have h := h
        exact p1.tr (w_fr_laysScores_b28 ih h)
set_option maxHeartbeats 1000000 in
theorem w_fr_laysScores {a0 : Int32} {S : MS} {S1 : MS} (h : fr_laysScores S a0 = some S1) : FK [] [24] S S1 := by
  have p0 : FK [] [24] S S := FK.rf
  unfold fr_laysScores at h
  obtain ⟨r5, S2, eS2, h⟩ := obind2_some h
  have p1 : FK [] [24] S S2 := p0.tr ((w_fr_blockCount eS2).w (by decide))
  obtain ⟨v6, ev6, h⟩ := elet_some h
  exact p1.tr (w_fr_laysScores_b8  _ _ _ _ h)
set_option maxHeartbeats 1000000 in
theorem w_fr_isLength {a0 : Int32} {S : MS} {r1 : Int32} {S1 : MS} (h : fr_isLength S a0 = some (r1, S1)) : FK [] [] S S1 := by
  have p0 : FK [] [] S S := FK.rf
  unfold fr_isLength at h
  obtain ⟨v2, ev2, h⟩ := elet_some h
  obtain ⟨r3, -, h⟩ := obind_some h
  have h := (oif_some h).2
  rw [← (osome2 h).2]
  exact p0
set_option maxHeartbeats 1000000 in
theorem w_fr_trackScore {a0 : Int32} {S : MS} {r1 : Int64} {S1 : MS} (h : fr_trackScore S a0 = some (r1, S1)) : FK [0] [24] S S1 := by
  have p0 : FK [0] [24] S S := FK.rf
  unfold fr_trackScore at h
  obtain ⟨r5, S2, eS2, h⟩ := obind2_some h
  have p1 : FK [0] [24] S S2 := p0.tr ((w_fr_isLength eS2).w (by decide))
  obtain ⟨r9, S6, eS6, h⟩ := obind2_some h
  have p2 : FK [0] [24] S S6 := p1.tr ((w_fr_mayAsk eS6).w (by decide))
  rcases oif_or h with ⟨-, h⟩ | ⟨-, h⟩
  · have h := h
    rw [← (osome2 h).2]
    exact p2
  · have h := h
    obtain ⟨S11, eS11, h⟩ := obind_some h
    have p3 : FK [0] [24] S S11 := p2.tr ((w_fr_laysScores eS11).w (by decide))
    obtain ⟨r17, S14, eS14, h⟩ := obind2_some h
    have p4 : FK [0] [24] S S14 := p3.tr ((w_fr_bestBehind eS14).w (by decide))
    have h := (oif_some h).2
    obtain ⟨v19, ev19, h⟩ := elet_some h
    rw [← (osome2 h).2]
    exact p4
set_option maxHeartbeats 1000000 in
theorem w_fr_trackCell_b61 {r1 : Int32} {S1 : MS} : ∀ n : Nat, ∀ (S : MS) (y1 : Int32) (y2 : Int32) (y3 : Int32), fr_trackCell_b61 n S y1 y2 y3 = some (r1, S1) → FK [0] [24] S S1 := by
  intro n
  induction n with
  | zero =>
    intro S y1 y2 y3 h
    have h : (none : Option (Int32 × MS)) = some (r1, S1) := h
    cases h
  | succ n ih =>
    intro S l2 l3 l4 h
    have p0 : FK [0] [24] S S := FK.rf
    unfold fr_trackCell_b61 at h
    rcases oif_or h with ⟨-, h⟩ | ⟨-, h⟩
    · have h := h
      rw [← (osome2 h).2]
      exact p0
    · have h := h
      obtain ⟨r6, S3, eS3, h⟩ := obind2_some h
      have p1 : FK [0] [24] S S3 := p0.tr ((w_fr_bestBehind eS3).w (by decide))
      obtain ⟨v7, ev7, h⟩ := elet_some h
      exact p1.tr (ih _ _ _ _ h)
set_option maxHeartbeats 1000000 in
theorem w_fr_trackCell_b29 {s0 : Int32} {l1 : Int32} {l2 : Int32} {S : MS} {r1 : Int32} {S1 : MS} (h : fr_trackCell_b29 S s0 l1 l2 = some (r1, S1)) : FK [0] [24] S S1 := by
  have p0 : FK [0] [24] S S := FK.rf
  unfold fr_trackCell_b29 at h
  obtain ⟨r5, S2, eS2, h⟩ := obind2_some h
  have p1 : FK [0] [24] S S2 := p0.tr ((w_fr_mayAsk eS2).w (by decide))
  rcases oif_or h with ⟨-, h⟩ | ⟨-, h⟩
  · have h := h
    rw [← (osome2 h).2]
    exact p1
  · have h := h
    obtain ⟨r10, S7, eS7, h⟩ := obind2_some h
    have p2 : FK [0] [24] S S7 := p1.tr ((w_fr_isLength eS7).w (by decide))
    rcases oif_or h with ⟨-, h⟩ | ⟨-, h⟩
    · have h := h
      obtain ⟨r15, S12, eS12, h⟩ := obind2_some h
      have p3 : FK [0] [24] S S12 := p2.tr ((w_fr_throwsAt eS12).w (by decide))
      rw [← (osome2 h).2]
      exact p3
    · have h := h
      obtain ⟨S16, eS16, h⟩ := obind_some h
      have p4 : FK [0] [24] S S16 := p2.tr ((w_fr_laysScores eS16).w (by decide))
      exact p4.tr (w_fr_trackCell_b61  _ _ _ _ _ h)
set_option maxHeartbeats 1000000 in
theorem w_fr_trackCell_b24 {l1 : Int32} {l2 : Int32} {S : MS} {r1 : Int32} {S1 : MS} (h : fr_trackCell_b24 S l1 l2 = some (r1, S1)) : FK [0] [24] S S1 := by
  have p0 : FK [0] [24] S S := FK.rf
  unfold fr_trackCell_b24 at h
  exact p0.tr (w_fr_trackCell_b29  h)
set_option maxHeartbeats 1000000 in
theorem w_fr_trackCell {a0 : Int32} {a1 : Int32} {S : MS} {r1 : Int32} {S1 : MS} (h : fr_trackCell S a0 a1 = some (r1, S1)) : FK [0] [24] S S1 := by
  have p0 : FK [0] [24] S S := FK.rf
  unfold fr_trackCell at h
  obtain ⟨r5, S2, eS2, h⟩ := obind2_some h
  have p1 : FK [0] [24] S S2 := p0.tr ((w_fr_isLength eS2).w (by decide))
  rcases oif_or h with ⟨-, h⟩ | ⟨-, h⟩
  · have h := h
    exact p1.tr (w_fr_trackCell_b24  h)
  · have h := h
    obtain ⟨r10, S7, eS7, h⟩ := obind2_some h
    have p2 : FK [0] [24] S S7 := p1.tr ((w_fr_blockCount eS7).w (by decide))
    obtain ⟨v11, ev11, h⟩ := elet_some h
    obtain ⟨r12, -, h⟩ := obind_some h
    rcases oif_or h with ⟨-, h⟩ | ⟨-, h⟩
    · have h := h
      exact p2.tr (w_fr_trackCell_b29  h)
    · have h := h
      exact p2.tr (w_fr_trackCell_b24  h)
set_option maxHeartbeats 1000000 in
theorem w_fr_isZone {a0 : Int32} {S : MS} {r1 : Int32} {S1 : MS} (h : fr_isZone S a0 = some (r1, S1)) : FK [] [] S S1 := by
  have p0 : FK [] [] S S := FK.rf
  unfold fr_isZone at h
  obtain ⟨v2, ev2, h⟩ := elet_some h
  obtain ⟨v3, ev3, h⟩ := elet_some h
  obtain ⟨r4, -, h⟩ := obind_some h
  have h := (oif_some h).2
  rw [← (osome2 h).2]
  exact p0
set_option maxHeartbeats 1000000 in
theorem w_fr_isInZone_b72 {s0 : Int32} {S : MS} {r1 : Int32} {S1 : MS} (h : fr_isInZone_b72 S s0 = some (r1, S1)) : FK [] [] S S1 := by
  have p0 : FK [] [] S S := FK.rf
  unfold fr_isInZone_b72 at h
  have h := (oif_some h).2
  rw [← (osome2 h).2]
  exact p0
set_option maxHeartbeats 1000000 in
theorem w_fr_isInZone_b71 {S : MS} {r1 : Int32} {S1 : MS} (h : fr_isInZone_b71 S = some (r1, S1)) : FK [] [] S S1 := by
  have p0 : FK [] [] S S := FK.rf
  unfold fr_isInZone_b71 at h
  exact p0.tr (w_fr_isInZone_b72  h)
set_option maxHeartbeats 1000000 in
theorem w_fr_isInZone {a0 : Int32} {a1 : Int32} {S : MS} {r1 : Int32} {S1 : MS} (h : fr_isInZone S a0 a1 = some (r1, S1)) : FK [] [] S S1 := by
  have p0 : FK [] [] S S := FK.rf
  unfold fr_isInZone at h
  obtain ⟨v2, ev2, h⟩ := elet_some h
  obtain ⟨v3, ev3, h⟩ := elet_some h
  obtain ⟨v4, ev4, h⟩ := elet_some h
  have h := (oif_some h).2
  obtain ⟨v6, ev6, h⟩ := elet_some h
  have h := (oif_some h).2
  obtain ⟨v8, ev8, h⟩ := elet_some h
  obtain ⟨v9, ev9, h⟩ := elet_some h
  have h := (oif_some h).2
  obtain ⟨v11, ev11, h⟩ := elet_some h
  obtain ⟨r12, -, h⟩ := obind_some h
  rcases oif_or h with ⟨-, h⟩ | ⟨-, h⟩
  · have h := h
    exact p0.tr (w_fr_isInZone_b71  h)
  · have h := h
    obtain ⟨v15, ev15, h⟩ := elet_some h
    have h := (oif_some h).2
    obtain ⟨v17, ev17, h⟩ := elet_some h
    obtain ⟨v18, ev18, h⟩ := elet_some h
    have h := (oif_some h).2
    obtain ⟨v20, ev20, h⟩ := elet_some h
    obtain ⟨v21, ev21, h⟩ := elet_some h
    have h := (oif_some h).2
    obtain ⟨v23, ev23, h⟩ := elet_some h
    obtain ⟨r24, -, h⟩ := obind_some h
    rcases oif_or h with ⟨-, h⟩ | ⟨-, h⟩
    · have h := h
      exact p0.tr (w_fr_isInZone_b71  h)
    · have h := h
      exact p0.tr (w_fr_isInZone_b72  h)
set_option maxHeartbeats 1000000 in
theorem w_fr_zonePower_b53 {k19 : MS → Int32 → Int64 → Int32 → Option (Int64 × MS)} {s0 : Int64} {s1 : Int64} {l1 : Int32} {l4 : Int32} {S : MS} {r1 : Int64} {S1 : MS} (hk19 : ∀ (x0 : MS) (x1 : Int32) (x2 : Int64) (x3 : Int32), k19 x0 x1 x2 x3 = some (r1, S1) → FK [0] [24] x0 S1) (h : fr_zonePower_b53 k19 S s0 s1 l1 l4 = some (r1, S1)) : FK [0] [24] S S1 := by
  have p0 : FK [0] [24] S S := FK.rf
  unfold fr_zonePower_b53 at h
  obtain ⟨v2, ev2, h⟩ := elet_some h
  obtain ⟨v3, ev3, h⟩ := elet_some h
  exact p0.tr (hk19 _ _ _ _ h)
set_option maxHeartbeats 1000000 in
theorem w_fr_zonePower_b19 {r1 : Int64} {S1 : MS} : ∀ n : Nat, ∀ (S : MS) (y1 : Int32) (y2 : Int64) (y3 : Int32), fr_zonePower_b19 n S y1 y2 y3 = some (r1, S1) → FK [0] [24] S S1 := by
  intro n
  induction n with
  | zero =>
    intro S y1 y2 y3 h
    have h : (none : Option (Int64 × MS)) = some (r1, S1) := h
    cases h
  | succ n ih =>
    intro S l1 l2 l4 h
    have p0 : FK [0] [24] S S := FK.rf
    unfold fr_zonePower_b19 at h
    obtain ⟨r5, S2, eS2, h⟩ := obind2_some h
    have p1 : FK [0] [24] S S2 := p0.tr ((w_fr_cellCount eS2).w (by decide))
    rcases oif_or h with ⟨-, h⟩ | ⟨-, h⟩
    · have h := h
      rw [← (osome2 h).2]
      exact p1
    · have h := h
      obtain ⟨r10, S7, eS7, h⟩ := obind2_some h
      have p2 : FK [0] [24] S S7 := p1.tr ((w_fr_isInZone eS7).w (by decide))
      rcases oif_or h with ⟨-, h⟩ | ⟨-, h⟩
      · have h := h
        exact p2.tr (w_fr_zonePower_b53 ih h)
      · have h := h
        obtain ⟨r15, S12, eS12, h⟩ := obind2_some h
        have p3 : FK [0] [24] S S12 := p2.tr ((w_fr_powerOf_12 eS12).w (by decide))
        exact p3.tr (w_fr_zonePower_b53 ih h)
set_option maxHeartbeats 1000000 in
theorem w_fr_zonePower {a0 : Int32} {S : MS} {r1 : Int64} {S1 : MS} (h : fr_zonePower S a0 = some (r1, S1)) : FK [0] [24] S S1 := by
  have p0 : FK [0] [24] S S := FK.rf
  unfold fr_zonePower at h
  obtain ⟨r5, S2, eS2, h⟩ := obind2_some h
  have p1 : FK [0] [24] S S2 := p0.tr ((w_fr_isZone eS2).w (by decide))
  obtain ⟨r9, S6, eS6, h⟩ := obind2_some h
  have p2 : FK [0] [24] S S6 := p1.tr ((w_fr_mayAsk eS6).w (by decide))
  rcases oif_or h with ⟨-, h⟩ | ⟨-, h⟩
  · have h := h
    rw [← (osome2 h).2]
    exact p2
  · have h := h
    exact p2.tr (w_fr_zonePower_b19  _ _ _ _ _ h)
set_option maxHeartbeats 1000000 in
theorem w_fr_zoneBest_b66 {k26 : MS → Int32 → Int32 → Int32 → Option (Int32 × MS)} {l1 : Int32} {l2 : Int32} {l3 : Int32} {S : MS} {r1 : Int32} {S1 : MS} (hk26 : ∀ (x0 : MS) (x1 : Int32) (x2 : Int32) (x3 : Int32), k26 x0 x1 x2 x3 = some (r1, S1) → FK [0] [24] x0 S1) (h : fr_zoneBest_b66 k26 S l1 l2 l3 = some (r1, S1)) : FK [0] [24] S S1 := by
  have p0 : FK [0] [24] S S := FK.rf
  unfold fr_zoneBest_b66 at h
  obtain ⟨v2, ev2, h⟩ := elet_some h
  exact p0.tr (hk26 _ _ _ _ h)
set_option maxHeartbeats 1000000 in
theorem w_fr_zoneBest_b64 {k26 : MS → Int32 → Int32 → Int32 → Option (Int32 × MS)} {l1 : Int32} {l3 : Int32} {S : MS} {r1 : Int32} {S1 : MS} (hk26 : ∀ (x0 : MS) (x1 : Int32) (x2 : Int32) (x3 : Int32), k26 x0 x1 x2 x3 = some (r1, S1) → FK [0] [24] x0 S1) (h : fr_zoneBest_b64 k26 S l1 l3 = some (r1, S1)) : FK [0] [24] S S1 := by
  have p0 : FK [0] [24] S S := FK.rf
  unfold fr_zoneBest_b64 at h
  exact p0.tr (w_fr_zoneBest_b66 hk26 h)
set_option maxHeartbeats 1000000 in
theorem w_fr_zoneBest_b26 {r1 : Int32} {S1 : MS} : ∀ n : Nat, ∀ (S : MS) (y1 : Int32) (y2 : Int32) (y3 : Int32), fr_zoneBest_b26 n S y1 y2 y3 = some (r1, S1) → FK [0] [24] S S1 := by
  intro n
  induction n with
  | zero =>
    intro S y1 y2 y3 h
    have h : (none : Option (Int32 × MS)) = some (r1, S1) := h
    cases h
  | succ n ih =>
    intro S l1 l2 l3 h
    have p0 : FK [0] [24] S S := FK.rf
    unfold fr_zoneBest_b26 at h
    obtain ⟨r5, S2, eS2, h⟩ := obind2_some h
    have p1 : FK [0] [24] S S2 := p0.tr ((w_fr_cellCount eS2).w (by decide))
    rcases oif_or h with ⟨-, h⟩ | ⟨-, h⟩
    · have h := h
      rw [← (osome2 h).2]
      exact p1
    · have h := h
      obtain ⟨r10, S7, eS7, h⟩ := obind2_some h
      have p2 : FK [0] [24] S S7 := p1.tr ((w_fr_isInZone eS7).w (by decide))
      rcases oif_or h with ⟨-, h⟩ | ⟨-, h⟩
      · have h := h
        exact p2.tr (w_fr_zoneBest_b66 ih h)
      · have h := h
        rcases oif_or h with ⟨-, h⟩ | ⟨-, h⟩
        · have h := h
          exact p2.tr (w_fr_zoneBest_b64 ih h)
        · have h := h
          have h := (oif_some h).2
          obtain ⟨v14, ev14, h⟩ := elet_some h
          have h := (oif_some h).2
          obtain ⟨v16, ev16, h⟩ := elet_some h
          obtain ⟨v17, ev17, h⟩ := elet_some h
          rcases oif_or h with ⟨-, h⟩ | ⟨-, h⟩
          · have h := h
            exact p2.tr (w_fr_zoneBest_b66 ih h)
          · have h := h
            exact p2.tr (w_fr_zoneBest_b64 ih h)
set_option maxHeartbeats 1000000 in
theorem w_fr_zoneBest {a0 : Int32} {S : MS} {r1 : Int32} {S1 : MS} (h : fr_zoneBest S a0 = some (r1, S1)) : FK [0] [24] S S1 := by
  have p0 : FK [0] [24] S S := FK.rf
  unfold fr_zoneBest at h
  obtain ⟨r5, S2, eS2, h⟩ := obind2_some h
  have p1 : FK [0] [24] S S2 := p0.tr ((w_fr_isZone eS2).w (by decide))
  obtain ⟨r9, S6, eS6, h⟩ := obind2_some h
  have p2 : FK [0] [24] S S6 := p1.tr ((w_fr_mayAsk eS6).w (by decide))
  rcases oif_or h with ⟨-, h⟩ | ⟨-, h⟩
  · have h := h
    rw [← (osome2 h).2]
    exact p2
  · have h := h
    obtain ⟨S11, eS11, h⟩ := obind_some h
    have p3 : FK [0] [24] S S11 := p2.tr ((w_fr_laysPowers_12 eS11).w (by decide))
    exact p3.tr (w_fr_zoneBest_b26  _ _ _ _ _ h)
set_option maxHeartbeats 1000000 in
theorem w_fr_movingOf_b6 {r1 : Int64} {S1 : MS} : ∀ n : Nat, ∀ (S : MS) (y1 : Int32) (y2 : Int32) (y3 : Int32) (y4 : Int64) (y5 : Int32), fr_movingOf_b6 n S y1 y2 y3 y4 y5 = some (r1, S1) → FK [] [24] S S1 := by
  intro n
  induction n with
  | zero =>
    intro S y1 y2 y3 y4 y5 h
    have h : (none : Option (Int64 × MS)) = some (r1, S1) := h
    cases h
  | succ n ih =>
    intro S l1 l2 l3 l4 l6 h
    have p0 : FK [] [24] S S := FK.rf
    unfold fr_movingOf_b6 at h
    obtain ⟨v2, ev2, h⟩ := elet_some h
    rcases oif_or h with ⟨-, h⟩ | ⟨-, h⟩
    · have h := h
      obtain ⟨v4, ev4, h⟩ := elet_some h
      obtain ⟨v5, ev5, h⟩ := elet_some h
      have h := (oif_some h).2
      obtain ⟨v7, ev7, h⟩ := elet_some h
      rw [← (osome2 h).2]
      exact p0
    · have h := h
      obtain ⟨r11, S8, eS8, h⟩ := obind2_some h
      have p1 : FK [] [24] S S8 := p0.tr ((w_fr_centre eS8).w (by decide))
      obtain ⟨v12, ev12, h⟩ := elet_some h
      obtain ⟨v13, ev13, h⟩ := elet_some h
      obtain ⟨v14, ev14, h⟩ := elet_some h
      obtain ⟨r18, S15, eS15, h⟩ := obind2_some h
      have p2 : FK [] [24] S S15 := p1.tr ((w_fr_centre eS15).w (by decide))
      obtain ⟨v19, ev19, h⟩ := elet_some h
      obtain ⟨v20, ev20, h⟩ := elet_some h
      obtain ⟨v21, ev21, h⟩ := elet_some h
      obtain ⟨S22, eS22, h⟩ := obind_some h
      have p3 : FK [] [24] S S22 := p2.tr ((w_fr_laysPoint eS22).w (by decide))
      obtain ⟨r28, S25, eS25, h⟩ := obind2_some h
      have p4 : FK [] [24] S S25 := p3.tr ((w_fr_beamAt_12 eS25).w (by decide))
      obtain ⟨v29, ev29, h⟩ := elet_some h
      obtain ⟨v30, ev30, h⟩ := elet_some h
      obtain ⟨v31, ev31, h⟩ := elet_some h
      obtain ⟨v32, ev32, h⟩ := elet_some h
      exact p4.tr (ih _ _ _ _ _ _ h)
set_option maxHeartbeats 1000000 in
theorem w_fr_movingOf {a0 : Int32} {a1 : Int32} {a2 : Int32} {S : MS} {r1 : Int64} {S1 : MS} (h : fr_movingOf S a0 a1 a2 = some (r1, S1)) : FK [] [24] S S1 := by
  have p0 : FK [] [24] S S := FK.rf
  unfold fr_movingOf at h
  exact p0.tr (w_fr_movingOf_b6  _ _ _ _ _ _ _ h)
set_option maxHeartbeats 1000000 in
theorem w_fr_movingPower_b38 {s0 : Int64} {S : MS} {r1 : Int64} {S1 : MS} (h : fr_movingPower_b38 S s0 = some (r1, S1)) : FK [0] [24] S S1 := by
  have p0 : FK [0] [24] S S := FK.rf
  unfold fr_movingPower_b38 at h
  rw [← (osome2 h).2]
  exact p0
set_option maxHeartbeats 1000000 in
theorem w_fr_movingPower {a0 : Int32} {a1 : Int32} {a2 : Int32} {S : MS} {r1 : Int64} {S1 : MS} (h : fr_movingPower S a0 a1 a2 = some (r1, S1)) : FK [0] [24] S S1 := by
  have p0 : FK [0] [24] S S := FK.rf
  unfold fr_movingPower at h
  obtain ⟨r5, S2, eS2, h⟩ := obind2_some h
  have p1 : FK [0] [24] S S2 := p0.tr ((w_fr_isCell eS2).w (by decide))
  obtain ⟨r9, S6, eS6, h⟩ := obind2_some h
  have p2 : FK [0] [24] S S6 := p1.tr ((w_fr_mayAsk eS6).w (by decide))
  rcases oif_or h with ⟨-, h⟩ | ⟨-, h⟩
  · have h := h
    rw [← (osome2 h).2]
    exact p2
  · have h := h
    obtain ⟨r11, -, h⟩ := obind_some h
    rcases oif_or h with ⟨-, h⟩ | ⟨-, h⟩
    · have h := h
      obtain ⟨r17, S14, eS14, h⟩ := obind2_some h
      have p3 : FK [0] [24] S S14 := p2.tr ((w_fr_throwsAt eS14).w (by decide))
      obtain ⟨v18, ev18, h⟩ := elet_some h
      exact p3.tr (w_fr_movingPower_b38  h)
    · have h := h
      obtain ⟨r22, S19, eS19, h⟩ := obind2_some h
      have p4 : FK [0] [24] S S19 := p2.tr ((w_fr_movingOf eS19).w (by decide))
      exact p4.tr (w_fr_movingPower_b38  h)
set_option maxHeartbeats 1000000 in
theorem w_fr_bestVelocity_b33 {S : MS} {r1 : Int32} {S1 : MS} (h : fr_bestVelocity_b33 S = some (r1, S1)) : FK [0] [24] S S1 := by
  have p0 : FK [0] [24] S S := FK.rf
  unfold fr_bestVelocity_b33 at h
  obtain ⟨r5, S2, eS2, h⟩ := obind2_some h
  have p1 : FK [0] [24] S S2 := p0.tr ((w_fr_throwsAt eS2).w (by decide))
  rw [← (osome2 h).2]
  exact p1
set_option maxHeartbeats 1000000 in
theorem w_fr_bestVelocity_b115 {k49 : MS → Int32 → Int32 → Int32 → Int32 → Int64 → Int32 → Option (Int32 × MS)} {k59 : MS → Int32 → Int32 → Int32 → Int32 → Int64 → Int32 → Int32 → Option (Int32 × MS)} {l1 : Int32} {l2 : Int32} {l3 : Int32} {l4 : Int32} {l5 : Int64} {l7 : Int32} {l8 : Int32} {S : MS} {r1 : Int32} {S1 : MS} (hk49 : ∀ (x0 : MS) (x1 : Int32) (x2 : Int32) (x3 : Int32) (x4 : Int32) (x5 : Int64) (x6 : Int32), k49 x0 x1 x2 x3 x4 x5 x6 = some (r1, S1) → FK [0] [24] x0 S1) (hk59 : ∀ (x0 : MS) (x1 : Int32) (x2 : Int32) (x3 : Int32) (x4 : Int32) (x5 : Int64) (x6 : Int32) (x7 : Int32), k59 x0 x1 x2 x3 x4 x5 x6 x7 = some (r1, S1) → FK [0] [24] x0 S1) (h : fr_bestVelocity_b115 k49 k59 S l1 l2 l3 l4 l5 l7 l8 = some (r1, S1)) : FK [0] [24] S S1 := by
  have p0 : FK [0] [24] S S := FK.rf
  unfold fr_bestVelocity_b115 at h
  obtain ⟨v2, ev2, h⟩ := elet_some h
  exact p0.tr (hk59 _ _ _ _ _ _ _ _ h)
set_option maxHeartbeats 1000000 in
theorem w_fr_bestVelocity_b97 {k49 : MS → Int32 → Int32 → Int32 → Int32 → Int64 → Int32 → Option (Int32 × MS)} {k59 : MS → Int32 → Int32 → Int32 → Int32 → Int64 → Int32 → Int32 → Option (Int32 × MS)} {l1 : Int32} {l2 : Int32} {l3 : Int32} {l7 : Int32} {l8 : Int32} {l9 : Int64} {S : MS} {r1 : Int32} {S1 : MS} (hk49 : ∀ (x0 : MS) (x1 : Int32) (x2 : Int32) (x3 : Int32) (x4 : Int32) (x5 : Int64) (x6 : Int32), k49 x0 x1 x2 x3 x4 x5 x6 = some (r1, S1) → FK [0] [24] x0 S1) (hk59 : ∀ (x0 : MS) (x1 : Int32) (x2 : Int32) (x3 : Int32) (x4 : Int32) (x5 : Int64) (x6 : Int32) (x7 : Int32), k59 x0 x1 x2 x3 x4 x5 x6 x7 = some (r1, S1) → FK [0] [24] x0 S1) (h : fr_bestVelocity_b97 k49 k59 S l1 l2 l3 l7 l8 l9 = some (r1, S1)) : FK [0] [24] S S1 := by
  have p0 : FK [0] [24] S S := FK.rf
  unfold fr_bestVelocity_b97 at h
  obtain ⟨v2, ev2, h⟩ := elet_some h
  obtain ⟨v3, ev3, h⟩ := elet_some h
  obtain ⟨v4, ev4, h⟩ := elet_some h
  obtain ⟨v5, ev5, h⟩ := elet_some h
  exact p0.tr (w_fr_bestVelocity_b115 hk49 hk59 h)
set_option maxHeartbeats 1000000 in
theorem w_fr_bestVelocity_b59 {k49 : MS → Int32 → Int32 → Int32 → Int32 → Int64 → Int32 → Option (Int32 × MS)} {r1 : Int32} {S1 : MS} (hk49 : ∀ (x0 : MS) (x1 : Int32) (x2 : Int32) (x3 : Int32) (x4 : Int32) (x5 : Int64) (x6 : Int32), k49 x0 x1 x2 x3 x4 x5 x6 = some (r1, S1) → FK [0] [24] x0 S1) : ∀ n : Nat, ∀ (S : MS) (y1 : Int32) (y2 : Int32) (y3 : Int32) (y4 : Int32) (y5 : Int64) (y6 : Int32) (y7 : Int32), fr_bestVelocity_b59 k49 n S y1 y2 y3 y4 y5 y6 y7 = some (r1, S1) → FK [0] [24] S S1 := by
  intro n
  induction n with
  | zero =>
    intro S y1 y2 y3 y4 y5 y6 y7 h
    have h : (none : Option (Int32 × MS)) = some (r1, S1) := h
    cases h
  | succ n ih =>
    intro S l1 l2 l3 l4 l5 l7 l8 h
    have p0 : FK [0] [24] S S := FK.rf
    unfold fr_bestVelocity_b59 at h
    rcases oif_or h with ⟨-, h⟩ | ⟨-, h⟩
    · have h := h
      obtain ⟨v3, ev3, h⟩ := elet_some h
      exact p0.tr (hk49 _ _ _ _ _ _ _ h)
    · have h := h
      obtain ⟨v4, ev4, h⟩ := elet_some h
      obtain ⟨v5, ev5, h⟩ := elet_some h
      obtain ⟨r9, S6, eS6, h⟩ := obind2_some h
      have p1 : FK [0] [24] S S6 := p0.tr ((w_fr_movingOf eS6).w (by decide))
      rcases oif_or h with ⟨-, h⟩ | ⟨-, h⟩
      · have h := h
        exact p1.tr (w_fr_bestVelocity_b97 hk49 ih h)
      · have h := h
        obtain ⟨v11, ev11, h⟩ := elet_some h
        rcases oif_or h with ⟨-, h⟩ | ⟨-, h⟩
        · have h := h
          exact p1.tr (w_fr_bestVelocity_b97 hk49 ih h)
        · have h := h
          exact p1.tr (w_fr_bestVelocity_b115 hk49 ih h)
set_option maxHeartbeats 1000000 in
theorem w_fr_bestVelocity_b49 {r1 : Int32} {S1 : MS} : ∀ n : Nat, ∀ (S : MS) (y1 : Int32) (y2 : Int32) (y3 : Int32) (y4 : Int32) (y5 : Int64) (y6 : Int32), fr_bestVelocity_b49 n S y1 y2 y3 y4 y5 y6 = some (r1, S1) → FK [0] [24] S S1 := by
  intro n
  induction n with
  | zero =>
    intro S y1 y2 y3 y4 y5 y6 h
    have h : (none : Option (Int32 × MS)) = some (r1, S1) := h
    cases h
  | succ n ih =>
    intro S l1 l2 l3 l4 l5 l7 h
    have p0 : FK [0] [24] S S := FK.rf
    unfold fr_bestVelocity_b49 at h
    rcases oif_or h with ⟨-, h⟩ | ⟨-, h⟩
    · have h := h
      rw [← (osome2 h).2]
      exact p0
    · have h := h
      obtain ⟨v3, ev3, h⟩ := elet_some h
      exact p0.tr (w_fr_bestVelocity_b59 ih _ _ _ _ _ _ _ _ _ h)
set_option maxHeartbeats 1000000 in
theorem w_fr_bestVelocity {a0 : Int32} {a1 : Int32} {a2 : Int32} {S : MS} {r1 : Int32} {S1 : MS} (h : fr_bestVelocity S a0 a1 a2 = some (r1, S1)) : FK [0] [24] S S1 := by
  have p0 : FK [0] [24] S S := FK.rf
  unfold fr_bestVelocity at h
  obtain ⟨r5, S2, eS2, h⟩ := obind2_some h
  have p1 : FK [0] [24] S S2 := p0.tr ((w_fr_isCell eS2).w (by decide))
  obtain ⟨r9, S6, eS6, h⟩ := obind2_some h
  have p2 : FK [0] [24] S S6 := p1.tr ((w_fr_mayAsk eS6).w (by decide))
  rcases oif_or h with ⟨-, h⟩ | ⟨-, h⟩
  · have h := h
    rw [← (osome2 h).2]
    exact p2
  · have h := h
    obtain ⟨r11, -, h⟩ := obind_some h
    rcases oif_or h with ⟨-, h⟩ | ⟨-, h⟩
    · have h := h
      exact p2.tr (w_fr_bestVelocity_b33  h)
    · have h := h
      obtain ⟨r14, -, h⟩ := obind_some h
      rcases oif_or h with ⟨-, h⟩ | ⟨-, h⟩
      · have h := h
        exact p2.tr (w_fr_bestVelocity_b33  h)
      · have h := h
        obtain ⟨v17, ev17, h⟩ := elet_some h
        exact p2.tr (w_fr_bestVelocity_b49  _ _ _ _ _ _ _ _ h)
set_option maxHeartbeats 1000000 in
theorem w_fr_together_b6 {r1 : Int64} {S1 : MS} : ∀ n : Nat, ∀ (S : MS) (y1 : Int32) (y2 : Int32) (y3 : Int32) (y4 : Int64) (y5 : Int32), fr_together_b6 n S y1 y2 y3 y4 y5 = some (r1, S1) → FK [] [] S S1 := by
  intro n
  induction n with
  | zero =>
    intro S y1 y2 y3 y4 y5 h
    have h : (none : Option (Int64 × MS)) = some (r1, S1) := h
    cases h
  | succ n ih =>
    intro S l1 l2 l3 l4 l6 h
    have p0 : FK [] [] S S := FK.rf
    unfold fr_together_b6 at h
    obtain ⟨v2, ev2, h⟩ := elet_some h
    obtain ⟨v3, ev3, h⟩ := elet_some h
    rcases oif_or h with ⟨-, h⟩ | ⟨-, h⟩
    · have h := h
      rw [← (osome2 h).2]
      exact p0
    · have h := h
      obtain ⟨v5, ev5, h⟩ := elet_some h
      obtain ⟨v6, ev6, h⟩ := elet_some h
      obtain ⟨v7, ev7, h⟩ := elet_some h
      have h := (oif_some h).2
      obtain ⟨v9, ev9, h⟩ := elet_some h
      obtain ⟨v10, ev10, h⟩ := elet_some h
      obtain ⟨v11, ev11, h⟩ := elet_some h
      obtain ⟨v12, ev12, h⟩ := elet_some h
      obtain ⟨v13, ev13, h⟩ := elet_some h
      obtain ⟨v14, ev14, h⟩ := elet_some h
      have h := (oif_some h).2
      obtain ⟨v16, ev16, h⟩ := elet_some h
      obtain ⟨v17, ev17, h⟩ := elet_some h
      obtain ⟨v18, ev18, h⟩ := elet_some h
      obtain ⟨v19, ev19, h⟩ := elet_some h
      obtain ⟨v20, ev20, h⟩ := elet_some h
      exact p0.tr (ih _ _ _ _ _ _ h)
set_option maxHeartbeats 1000000 in
theorem w_fr_together {a0 : Int32} {a1 : Int32} {a2 : Int32} {S : MS} {r1 : Int64} {S1 : MS} (h : fr_together S a0 a1 a2 = some (r1, S1)) : FK [] [] S S1 := by
  have p0 : FK [] [] S S := FK.rf
  unfold fr_together at h
  exact p0.tr (w_fr_together_b6  _ _ _ _ _ _ _ h)
set_option maxHeartbeats 1000000 in
theorem w_fr_correlation_b54 {s0 : Int64} {S : MS} {r1 : Int64} {S1 : MS} (h : fr_correlation_b54 S s0 = some (r1, S1)) : FK [0] [] S S1 := by
  have p0 : FK [0] [] S S := FK.rf
  unfold fr_correlation_b54 at h
  rw [← (osome2 h).2]
  exact p0
set_option maxHeartbeats 1000000 in
theorem w_fr_correlation_b22 {s0 : Int32} {l1 : Int32} {l2 : Int32} {l3 : Int32} {S : MS} {r1 : Int64} {S1 : MS} (h : fr_correlation_b22 S s0 l1 l2 l3 = some (r1, S1)) : FK [0] [] S S1 := by
  have p0 : FK [0] [] S S := FK.rf
  unfold fr_correlation_b22 at h
  obtain ⟨r5, S2, eS2, h⟩ := obind2_some h
  have p1 : FK [0] [] S S2 := p0.tr ((w_fr_mayAsk eS2).w (by decide))
  rcases oif_or h with ⟨-, h⟩ | ⟨-, h⟩
  · have h := h
    rw [← (osome2 h).2]
    exact p1
  · have h := h
    obtain ⟨r10, S7, eS7, h⟩ := obind2_some h
    have p2 : FK [0] [] S S7 := p1.tr ((w_fr_isTime eS7).w (by decide))
    rcases oif_or h with ⟨-, h⟩ | ⟨-, h⟩
    · have h := h
      obtain ⟨r15, S12, eS12, h⟩ := obind2_some h
      have p3 : FK [0] [] S S12 := p2.tr ((w_fr_throwsAt eS12).w (by decide))
      obtain ⟨v16, ev16, h⟩ := elet_some h
      exact p3.tr (w_fr_correlation_b54  h)
    · have h := h
      obtain ⟨r20, S17, eS17, h⟩ := obind2_some h
      have p4 : FK [0] [] S S17 := p2.tr ((w_fr_together eS17).w (by decide))
      exact p4.tr (w_fr_correlation_b54  h)
set_option maxHeartbeats 1000000 in
theorem w_fr_correlation_b21 {l1 : Int32} {l2 : Int32} {l3 : Int32} {S : MS} {r1 : Int64} {S1 : MS} (h : fr_correlation_b21 S l1 l2 l3 = some (r1, S1)) : FK [0] [] S S1 := by
  have p0 : FK [0] [] S S := FK.rf
  unfold fr_correlation_b21 at h
  exact p0.tr (w_fr_correlation_b22  h)
set_option maxHeartbeats 1000000 in
theorem w_fr_correlation {a0 : Int32} {a1 : Int32} {a2 : Int32} {S : MS} {r1 : Int64} {S1 : MS} (h : fr_correlation S a0 a1 a2 = some (r1, S1)) : FK [0] [] S S1 := by
  have p0 : FK [0] [] S S := FK.rf
  unfold fr_correlation at h
  obtain ⟨r5, S2, eS2, h⟩ := obind2_some h
  have p1 : FK [0] [] S S2 := p0.tr ((w_fr_isMic eS2).w (by decide))
  rcases oif_or h with ⟨-, h⟩ | ⟨-, h⟩
  · have h := h
    exact p1.tr (w_fr_correlation_b21  h)
  · have h := h
    obtain ⟨r10, S7, eS7, h⟩ := obind2_some h
    have p2 : FK [0] [] S S7 := p1.tr ((w_fr_isMic eS7).w (by decide))
    rcases oif_or h with ⟨-, h⟩ | ⟨-, h⟩
    · have h := h
      exact p2.tr (w_fr_correlation_b21  h)
    · have h := h
      exact p2.tr (w_fr_correlation_b22  h)
set_option maxHeartbeats 1000000 in
theorem w_fr_bestLag_b83 {k50 : MS → Int32 → Int32 → Int32 → Int32 → Int32 → Option (Int32 × MS)} {s0 : Int32} {l1 : Int32} {l2 : Int32} {l3 : Int32} {l5 : Int32} {S : MS} {r1 : Int32} {S1 : MS} (hk50 : ∀ (x0 : MS) (x1 : Int32) (x2 : Int32) (x3 : Int32) (x4 : Int32) (x5 : Int32), k50 x0 x1 x2 x3 x4 x5 = some (r1, S1) → FK [0] [] x0 S1) (h : fr_bestLag_b83 k50 S s0 l1 l2 l3 l5 = some (r1, S1)) : FK [0] [] S S1 := by
  have p0 : FK [0] [] S S := FK.rf
  unfold fr_bestLag_b83 at h
  obtain ⟨v2, ev2, h⟩ := elet_some h
  exact p0.tr (hk50 _ _ _ _ _ _ h)
set_option maxHeartbeats 1000000 in
theorem w_fr_bestLag_b50 {r1 : Int32} {S1 : MS} : ∀ n : Nat, ∀ (S : MS) (y1 : Int32) (y2 : Int32) (y3 : Int32) (y4 : Int32) (y5 : Int32), fr_bestLag_b50 n S y1 y2 y3 y4 y5 = some (r1, S1) → FK [0] [] S S1 := by
  intro n
  induction n with
  | zero =>
    intro S y1 y2 y3 y4 y5 h
    have h : (none : Option (Int32 × MS)) = some (r1, S1) := h
    cases h
  | succ n ih =>
    intro S l1 l2 l3 l4 l5 h
    have p0 : FK [0] [] S S := FK.rf
    unfold fr_bestLag_b50 at h
    rcases oif_or h with ⟨-, h⟩ | ⟨-, h⟩
    · have h := h
      rw [← (osome2 h).2]
      exact p0
    · have h := h
      obtain ⟨r6, S3, eS3, h⟩ := obind2_some h
      have p1 : FK [0] [] S S3 := p0.tr ((w_fr_together eS3).w (by decide))
      obtain ⟨r10, S7, eS7, h⟩ := obind2_some h
      have p2 : FK [0] [] S S7 := p1.tr ((w_fr_together eS7).w (by decide))
      obtain ⟨v11, ev11, h⟩ := elet_some h
      rcases oif_or h with ⟨-, h⟩ | ⟨-, h⟩
      · have h := h
        exact p2.tr (w_fr_bestLag_b83 ih h)
      · have h := h
        exact p2.tr (w_fr_bestLag_b83 ih h)
set_option maxHeartbeats 1000000 in
theorem w_fr_bestLag_b22 {s0 : Int32} {l1 : Int32} {l2 : Int32} {l3 : Int32} {S : MS} {r1 : Int32} {S1 : MS} (h : fr_bestLag_b22 S s0 l1 l2 l3 = some (r1, S1)) : FK [0] [] S S1 := by
  have p0 : FK [0] [] S S := FK.rf
  unfold fr_bestLag_b22 at h
  obtain ⟨r5, S2, eS2, h⟩ := obind2_some h
  have p1 : FK [0] [] S S2 := p0.tr ((w_fr_mayAsk eS2).w (by decide))
  rcases oif_or h with ⟨-, h⟩ | ⟨-, h⟩
  · have h := h
    rw [← (osome2 h).2]
    exact p1
  · have h := h
    obtain ⟨r10, S7, eS7, h⟩ := obind2_some h
    have p2 : FK [0] [] S S7 := p1.tr ((w_fr_isTime eS7).w (by decide))
    rcases oif_or h with ⟨-, h⟩ | ⟨-, h⟩
    · have h := h
      obtain ⟨r15, S12, eS12, h⟩ := obind2_some h
      have p3 : FK [0] [] S S12 := p2.tr ((w_fr_throwsAt eS12).w (by decide))
      rw [← (osome2 h).2]
      exact p3
    · have h := h
      exact p2.tr (w_fr_bestLag_b50  _ _ _ _ _ _ _ h)
set_option maxHeartbeats 1000000 in
theorem w_fr_bestLag_b21 {l1 : Int32} {l2 : Int32} {l3 : Int32} {S : MS} {r1 : Int32} {S1 : MS} (h : fr_bestLag_b21 S l1 l2 l3 = some (r1, S1)) : FK [0] [] S S1 := by
  have p0 : FK [0] [] S S := FK.rf
  unfold fr_bestLag_b21 at h
  exact p0.tr (w_fr_bestLag_b22  h)
set_option maxHeartbeats 1000000 in
theorem w_fr_bestLag {a0 : Int32} {a1 : Int32} {a2 : Int32} {S : MS} {r1 : Int32} {S1 : MS} (h : fr_bestLag S a0 a1 a2 = some (r1, S1)) : FK [0] [] S S1 := by
  have p0 : FK [0] [] S S := FK.rf
  unfold fr_bestLag at h
  obtain ⟨r5, S2, eS2, h⟩ := obind2_some h
  have p1 : FK [0] [] S S2 := p0.tr ((w_fr_isMic eS2).w (by decide))
  rcases oif_or h with ⟨-, h⟩ | ⟨-, h⟩
  · have h := h
    exact p1.tr (w_fr_bestLag_b21  h)
  · have h := h
    obtain ⟨r10, S7, eS7, h⟩ := obind2_some h
    have p2 : FK [0] [] S S7 := p1.tr ((w_fr_isMic eS7).w (by decide))
    rcases oif_or h with ⟨-, h⟩ | ⟨-, h⟩
    · have h := h
      exact p2.tr (w_fr_bestLag_b21  h)
    · have h := h
      exact p2.tr (w_fr_bestLag_b22  h)
set_option maxHeartbeats 1000000 in
theorem w_fr_levelOf {a0 : Int32} {S : MS} {r1 : Int64} {S1 : MS} (h : fr_levelOf S a0 = some (r1, S1)) : FK [] [] S S1 := by
  have p0 : FK [] [] S S := FK.rf
  unfold fr_levelOf at h
  obtain ⟨r5, S2, eS2, h⟩ := obind2_some h
  have p1 : FK [] [] S S2 := p0.tr ((w_fr_together eS2).w (by decide))
  obtain ⟨v6, ev6, h⟩ := elet_some h
  obtain ⟨v7, ev7, h⟩ := elet_some h
  have h := (oif_some h).2
  obtain ⟨v9, ev9, h⟩ := elet_some h
  rw [← (osome2 h).2]
  exact p1
set_option maxHeartbeats 1000000 in
theorem w_fr_level_b21 {s0 : Int64} {S : MS} {r1 : Int64} {S1 : MS} (h : fr_level_b21 S s0 = some (r1, S1)) : FK [0] [] S S1 := by
  have p0 : FK [0] [] S S := FK.rf
  unfold fr_level_b21 at h
  rw [← (osome2 h).2]
  exact p0
set_option maxHeartbeats 1000000 in
theorem w_fr_level {a0 : Int32} {S : MS} {r1 : Int64} {S1 : MS} (h : fr_level S a0 = some (r1, S1)) : FK [0] [] S S1 := by
  have p0 : FK [0] [] S S := FK.rf
  unfold fr_level at h
  obtain ⟨r5, S2, eS2, h⟩ := obind2_some h
  have p1 : FK [0] [] S S2 := p0.tr ((w_fr_isMic eS2).w (by decide))
  obtain ⟨r9, S6, eS6, h⟩ := obind2_some h
  have p2 : FK [0] [] S S6 := p1.tr ((w_fr_mayAsk eS6).w (by decide))
  rcases oif_or h with ⟨-, h⟩ | ⟨-, h⟩
  · have h := h
    exact p2.tr (w_fr_level_b21  h)
  · have h := h
    obtain ⟨r14, S11, eS11, h⟩ := obind2_some h
    have p3 : FK [0] [] S S11 := p2.tr ((w_fr_levelOf eS11).w (by decide))
    exact p3.tr (w_fr_level_b21  h)
set_option maxHeartbeats 1000000 in
theorem w_fr_loudest_b84 {k16 : MS → Int32 → Int32 → Option (Int32 × MS)} {k31 : MS → Int32 → Int32 → Int32 → Int32 → Option (Int32 × MS)} {s0 : Int32} {s1 : Int32} {l1 : Int32} {l2 : Int32} {l4 : Int32} {S : MS} {r1 : Int32} {S1 : MS} (hk16 : ∀ (x0 : MS) (x1 : Int32) (x2 : Int32), k16 x0 x1 x2 = some (r1, S1) → FK [0] [] x0 S1) (hk31 : ∀ (x0 : MS) (x1 : Int32) (x2 : Int32) (x3 : Int32) (x4 : Int32), k31 x0 x1 x2 x3 x4 = some (r1, S1) → FK [0] [] x0 S1) (h : fr_loudest_b84 k16 k31 S s0 s1 l1 l2 l4 = some (r1, S1)) : FK [0] [] S S1 := by
  have p0 : FK [0] [] S S := FK.rf
  unfold fr_loudest_b84 at h
  obtain ⟨v2, ev2, h⟩ := elet_some h
  obtain ⟨v3, ev3, h⟩ := elet_some h
  exact p0.tr (hk31 _ _ _ _ _ h)
set_option maxHeartbeats 1000000 in
theorem w_fr_loudest_b79 {k16 : MS → Int32 → Int32 → Option (Int32 × MS)} {k31 : MS → Int32 → Int32 → Int32 → Int32 → Option (Int32 × MS)} {s0 : Int32} {l1 : Int32} {l2 : Int32} {l4 : Int32} {S : MS} {r1 : Int32} {S1 : MS} (hk16 : ∀ (x0 : MS) (x1 : Int32) (x2 : Int32), k16 x0 x1 x2 = some (r1, S1) → FK [0] [] x0 S1) (hk31 : ∀ (x0 : MS) (x1 : Int32) (x2 : Int32) (x3 : Int32) (x4 : Int32), k31 x0 x1 x2 x3 x4 = some (r1, S1) → FK [0] [] x0 S1) (h : fr_loudest_b79 k16 k31 S s0 l1 l2 l4 = some (r1, S1)) : FK [0] [] S S1 := by
  have p0 : FK [0] [] S S := FK.rf
  unfold fr_loudest_b79 at h
  exact p0.tr (w_fr_loudest_b84 hk16 hk31 h)
set_option maxHeartbeats 1000000 in
theorem w_fr_loudest_b83 {k16 : MS → Int32 → Int32 → Option (Int32 × MS)} {k31 : MS → Int32 → Int32 → Int32 → Int32 → Option (Int32 × MS)} {s0 : Int32} {l1 : Int32} {l2 : Int32} {l4 : Int32} {S : MS} {r1 : Int32} {S1 : MS} (hk16 : ∀ (x0 : MS) (x1 : Int32) (x2 : Int32), k16 x0 x1 x2 = some (r1, S1) → FK [0] [] x0 S1) (hk31 : ∀ (x0 : MS) (x1 : Int32) (x2 : Int32) (x3 : Int32) (x4 : Int32), k31 x0 x1 x2 x3 x4 = some (r1, S1) → FK [0] [] x0 S1) (h : fr_loudest_b83 k16 k31 S s0 l1 l2 l4 = some (r1, S1)) : FK [0] [] S S1 := by
  have p0 : FK [0] [] S S := FK.rf
  unfold fr_loudest_b83 at h
  exact p0.tr (w_fr_loudest_b84 hk16 hk31 h)
set_option maxHeartbeats 1000000 in
theorem w_fr_loudest_b31 {k16 : MS → Int32 → Int32 → Option (Int32 × MS)} {r1 : Int32} {S1 : MS} (hk16 : ∀ (x0 : MS) (x1 : Int32) (x2 : Int32), k16 x0 x1 x2 = some (r1, S1) → FK [0] [] x0 S1) : ∀ n : Nat, ∀ (S : MS) (y1 : Int32) (y2 : Int32) (y3 : Int32) (y4 : Int32), fr_loudest_b31 k16 n S y1 y2 y3 y4 = some (r1, S1) → FK [0] [] S S1 := by
  intro n
  induction n with
  | zero =>
    intro S y1 y2 y3 y4 h
    have h : (none : Option (Int32 × MS)) = some (r1, S1) := h
    cases h
  | succ n ih =>
    intro S l1 l2 l3 l4 h
    have p0 : FK [0] [] S S := FK.rf
    unfold fr_loudest_b31 at h
    obtain ⟨v2, ev2, h⟩ := elet_some h
    rcases oif_or h with ⟨-, h⟩ | ⟨-, h⟩
    · have h := h
      rcases oif_or h with ⟨-, h⟩ | ⟨-, h⟩
      · have h := h
        rw [← (osome2 h).2]
        exact p0
      · have h := h
        obtain ⟨v5, ev5, h⟩ := elet_some h
        exact p0.tr (hk16 _ _ _ h)
    · have h := h
      obtain ⟨r9, S6, eS6, h⟩ := obind2_some h
      have p1 : FK [0] [] S S6 := p0.tr ((w_fr_levelOf eS6).w (by decide))
      obtain ⟨r13, S10, eS10, h⟩ := obind2_some h
      have p2 : FK [0] [] S S10 := p1.tr ((w_fr_levelOf eS10).w (by decide))
      obtain ⟨v14, ev14, h⟩ := elet_some h
      rcases oif_or h with ⟨-, h⟩ | ⟨-, h⟩
      · have h := h
        exact p2.tr (w_fr_loudest_b79 hk16 ih h)
      · have h := h
        obtain ⟨r19, S16, eS16, h⟩ := obind2_some h
        have p3 : FK [0] [] S S16 := p2.tr ((w_fr_levelOf eS16).w (by decide))
        obtain ⟨r23, S20, eS20, h⟩ := obind2_some h
        have p4 : FK [0] [] S S20 := p3.tr ((w_fr_levelOf eS20).w (by decide))
        obtain ⟨v24, ev24, h⟩ := elet_some h
        rcases oif_or h with ⟨-, h⟩ | ⟨-, h⟩
        · have h := h
          rcases oif_or h with ⟨-, h⟩ | ⟨-, h⟩
          · have h := h
            exact p4.tr (w_fr_loudest_b83 hk16 ih h)
          · have h := h
            exact p4.tr (w_fr_loudest_b79 hk16 ih h)
        · have h := h
          exact p4.tr (w_fr_loudest_b83 hk16 ih h)
set_option maxHeartbeats 1000000 in
theorem w_fr_loudest_b16 {r1 : Int32} {S1 : MS} : ∀ n : Nat, ∀ (S : MS) (y1 : Int32) (y2 : Int32), fr_loudest_b16 n S y1 y2 = some (r1, S1) → FK [0] [] S S1 := by
  intro n
  induction n with
  | zero =>
    intro S y1 y2 h
    have h : (none : Option (Int32 × MS)) = some (r1, S1) := h
    cases h
  | succ n ih =>
    intro S l1 l2 h
    have p0 : FK [0] [] S S := FK.rf
    unfold fr_loudest_b16 at h
    obtain ⟨v2, ev2, h⟩ := elet_some h
    rcases oif_or h with ⟨-, h⟩ | ⟨-, h⟩
    · have h := h
      rw [← (osome2 h).2]
      exact p0
    · have h := h
      exact p0.tr (w_fr_loudest_b31 ih _ _ _ _ _ _ h)
set_option maxHeartbeats 1000000 in
theorem w_fr_loudest {a0 : Int32} {S : MS} {r1 : Int32} {S1 : MS} (h : fr_loudest S a0 = some (r1, S1)) : FK [0] [] S S1 := by
  have p0 : FK [0] [] S S := FK.rf
  unfold fr_loudest at h
  obtain ⟨r5, S2, eS2, h⟩ := obind2_some h
  have p1 : FK [0] [] S S2 := p0.tr ((w_fr_isMic eS2).w (by decide))
  obtain ⟨r9, S6, eS6, h⟩ := obind2_some h
  have p2 : FK [0] [] S S6 := p1.tr ((w_fr_mayAsk eS6).w (by decide))
  rcases oif_or h with ⟨-, h⟩ | ⟨-, h⟩
  · have h := h
    rw [← (osome2 h).2]
    exact p2
  · have h := h
    exact p2.tr (w_fr_loudest_b16  _ _ _ _ h)
set_option maxHeartbeats 1000000 in
theorem w_fr_writeMap_b109 {k31 : MS → Int64 → Int32 → Option (Int32 × MS)} {s0 : Int32} {s1 : Int32} {s2 : Int32} {l1 : Int64} {l3 : Int32} {S : MS} {r1 : Int32} {S1 : MS} (hk31 : ∀ (x0 : MS) (x1 : Int64) (x2 : Int32), k31 x0 x1 x2 = some (r1, S1) → FK [0, 28] [24, 27] x0 S1) (h : fr_writeMap_b109 k31 S s0 s1 s2 l1 l3 = some (r1, S1)) : FK [0, 28] [24, 27] S S1 := by
  have p0 : FK [0, 28] [24, 27] S S := FK.rf
  unfold fr_writeMap_b109 at h
  obtain ⟨v2, ev2, h⟩ := elet_some h
  have h := (oif_some h).2
  obtain ⟨S4, eS4, h⟩ := elet_some h
  have p1 : FK [0, 28] [24, 27] S S4 := p0.tr (by rw [eS4]; exact fw_mf (by decide))
  obtain ⟨v5, ev5, h⟩ := elet_some h
  obtain ⟨v6, ev6, h⟩ := elet_some h
  obtain ⟨S7, eS7, h⟩ := elet_some h
  have p2 : FK [0, 28] [24, 27] S S7 := p1.tr (by rw [eS7]; exact fw_mi (by decide))
  obtain ⟨v8, ev8, h⟩ := elet_some h
  exact p2.tr (hk31 _ _ _ h)
set_option maxHeartbeats 1000000 in
theorem w_fr_writeMap_b76 {k31 : MS → Int64 → Int32 → Option (Int32 × MS)} {l1 : Int64} {l3 : Int32} {S : MS} {r1 : Int32} {S1 : MS} (hk31 : ∀ (x0 : MS) (x1 : Int64) (x2 : Int32), k31 x0 x1 x2 = some (r1, S1) → FK [0, 28] [24, 27] x0 S1) (h : fr_writeMap_b76 k31 S l1 l3 = some (r1, S1)) : FK [0, 28] [24, 27] S S1 := by
  have p0 : FK [0, 28] [24, 27] S S := FK.rf
  unfold fr_writeMap_b76 at h
  obtain ⟨v2, ev2, h⟩ := elet_some h
  obtain ⟨v3, ev3, h⟩ := elet_some h
  rcases oif_or h with ⟨-, h⟩ | ⟨-, h⟩
  · have h := h
    exact p0.tr (w_fr_writeMap_b109 hk31 h)
  · have h := h
    have h := (oif_some h).2
    obtain ⟨v6, ev6, h⟩ := elet_some h
    obtain ⟨v7, ev7, h⟩ := elet_some h
    have h := (oif_some h).2
    obtain ⟨v9, ev9, h⟩ := elet_some h
    obtain ⟨v10, ev10, h⟩ := elet_some h
    exact p0.tr (w_fr_writeMap_b109 hk31 h)
set_option maxHeartbeats 1000000 in
theorem w_fr_writeMap_b31 {r1 : Int32} {S1 : MS} : ∀ n : Nat, ∀ (S : MS) (y1 : Int64) (y2 : Int32), fr_writeMap_b31 n S y1 y2 = some (r1, S1) → FK [0, 28] [24, 27] S S1 := by
  intro n
  induction n with
  | zero =>
    intro S y1 y2 h
    have h : (none : Option (Int32 × MS)) = some (r1, S1) := h
    cases h
  | succ n ih =>
    intro S l1 l3 h
    have p0 : FK [0, 28] [24, 27] S S := FK.rf
    unfold fr_writeMap_b31 at h
    obtain ⟨r5, S2, eS2, h⟩ := obind2_some h
    have p1 : FK [0, 28] [24, 27] S S2 := p0.tr ((w_fr_cellCount eS2).w (by decide))
    rcases oif_or h with ⟨-, h⟩ | ⟨-, h⟩
    · have h := h
      obtain ⟨v7, ev7, h⟩ := elet_some h
      rw [← (osome2 h).2]
      exact p1
    · have h := h
      rcases oif_or h with ⟨-, h⟩ | ⟨-, h⟩
      · have h := h
        exact p1.tr (w_fr_writeMap_b76 ih h)
      · have h := h
        obtain ⟨v9, ev9, h⟩ := elet_some h
        have h := (oif_some h).2
        obtain ⟨v11, ev11, h⟩ := elet_some h
        rcases oif_or h with ⟨-, h⟩ | ⟨-, h⟩
        · have h := h
          obtain ⟨v13, ev13, h⟩ := elet_some h
          have h := (oif_some h).2
          obtain ⟨S15, eS15, h⟩ := elet_some h
          have p2 : FK [0, 28] [24, 27] S S15 := p1.tr (by rw [eS15]; exact fw_mf (by decide))
          obtain ⟨v16, ev16, h⟩ := elet_some h
          obtain ⟨v17, ev17, h⟩ := elet_some h
          obtain ⟨S18, eS18, h⟩ := elet_some h
          have p3 : FK [0, 28] [24, 27] S S18 := p2.tr (by rw [eS18]; exact fw_mi (by decide))
          exact p3.tr (w_fr_writeMap_b76 ih h)
        · have h := h
          exact p1.tr (w_fr_writeMap_b76 ih h)
set_option maxHeartbeats 1000000 in
theorem w_fr_writeMap {S : MS} {r1 : Int32} {S1 : MS} (h : fr_writeMap S = some (r1, S1)) : FK [0, 28] [24, 27] S S1 := by
  have p0 : FK [0, 28] [24, 27] S S := FK.rf
  unfold fr_writeMap at h
  obtain ⟨r5, S2, eS2, h⟩ := obind2_some h
  have p1 : FK [0, 28] [24, 27] S S2 := p0.tr ((w_fr_mayAsk eS2).w (by decide))
  rcases oif_or h with ⟨-, h⟩ | ⟨-, h⟩
  · have h := h
    rw [← (osome2 h).2]
    exact p1
  · have h := h
    obtain ⟨r10, S7, eS7, h⟩ := obind2_some h
    have p2 : FK [0, 28] [24, 27] S S7 := p1.tr ((w_fr_bestIn_12 eS7).w (by decide))
    have h := (oif_some h).2
    obtain ⟨v12, ev12, h⟩ := elet_some h
    obtain ⟨S13, eS13, h⟩ := elet_some h
    have p3 : FK [0, 28] [24, 27] S S13 := p2.tr (by rw [eS13]; exact fw_mi (by decide))
    exact p3.tr (w_fr_writeMap_b31  _ _ _ _ h)
set_option maxHeartbeats 1000000 in
theorem w_fr_mapByte_b40 {s0 : Int32} {S : MS} {r1 : Int32} {S1 : MS} (h : fr_mapByte_b40 S s0 = some (r1, S1)) : FK [0] [] S S1 := by
  have p0 : FK [0] [] S S := FK.rf
  unfold fr_mapByte_b40 at h
  rw [← (osome2 h).2]
  exact p0
set_option maxHeartbeats 1000000 in
theorem w_fr_mapByte_b20 {s0 : Int32} {l1 : Int32} {S : MS} {r1 : Int32} {S1 : MS} (h : fr_mapByte_b20 S s0 l1 = some (r1, S1)) : FK [0] [] S S1 := by
  have p0 : FK [0] [] S S := FK.rf
  unfold fr_mapByte_b20 at h
  obtain ⟨S2, eS2, h⟩ := elet_some h
  have p1 : FK [0] [] S S2 := p0.tr (by rw [eS2]; exact fw_mi (by decide))
  obtain ⟨v3, ev3, h⟩ := elet_some h
  rcases oif_or h with ⟨-, h⟩ | ⟨-, h⟩
  · have h := h
    have h := (oif_some h).2
    obtain ⟨v6, ev6, h⟩ := elet_some h
    exact p1.tr (w_fr_mapByte_b40  h)
  · have h := h
    exact p1.tr (w_fr_mapByte_b40  h)
set_option maxHeartbeats 1000000 in
theorem w_fr_mapByte {a0 : Int32} {S : MS} {r1 : Int32} {S1 : MS} (h : fr_mapByte S a0 = some (r1, S1)) : FK [0] [] S S1 := by
  have p0 : FK [0] [] S S := FK.rf
  unfold fr_mapByte at h
  obtain ⟨v2, ev2, h⟩ := elet_some h
  obtain ⟨v3, ev3, h⟩ := elet_some h
  obtain ⟨r4, -, h⟩ := obind_some h
  rcases oif_or h with ⟨-, h⟩ | ⟨-, h⟩
  · have h := h
    exact p0.tr (w_fr_mapByte_b20  h)
  · have h := h
    exact p0.tr (w_fr_mapByte_b20  h)
set_option maxHeartbeats 1000000 in
theorem w_fr_copy_12_14_b3 {S1 : MS} : ∀ n : Nat, ∀ (S : MS) (y1 : Int32) (y2 : Int32) (y3 : Int32), fr_copy_12_14_b3 n S y1 y2 y3 = some S1 → FK [] [14] S S1 := by
  intro n
  induction n with
  | zero =>
    intro S y1 y2 y3 h
    have h : (none : Option (MS)) = some S1 := h
    cases h
  | succ n ih =>
    intro S l1 l3 l4 h
    have p0 : FK [] [14] S S := FK.rf
    unfold fr_copy_12_14_b3 at h
    rcases oif_or h with ⟨-, h⟩ | ⟨-, h⟩
    · have h := h
      rw [← osome1 h]
      exact p0
    · have h := h
      obtain ⟨v3, ev3, h⟩ := elet_some h
      obtain ⟨v4, ev4, h⟩ := elet_some h
      have h := (oif_some h).2
      obtain ⟨v6, ev6, h⟩ := elet_some h
      have h := (oif_some h).2
      obtain ⟨S8, eS8, h⟩ := elet_some h
      have p1 : FK [] [14] S S8 := p0.tr (by rw [eS8]; exact fw_mf (by decide))
      obtain ⟨v9, ev9, h⟩ := elet_some h
      exact p1.tr (ih _ _ _ _ h)
set_option maxHeartbeats 1000000 in
theorem w_fr_copy_12_14 {a1 : Int32} {a3 : Int32} {S : MS} {S1 : MS} (h : fr_copy_12_14 S a1 a3 = some S1) : FK [] [14] S S1 := by
  have p0 : FK [] [14] S S := FK.rf
  unfold fr_copy_12_14 at h
  exact p0.tr (w_fr_copy_12_14_b3  _ _ _ _ _ h)
set_option maxHeartbeats 1000000 in
theorem w_fr_sourcePlace_14_b45 {s0 : Int32} {S : MS} {r1 : Int32} {S1 : MS} (h : fr_sourcePlace_14_b45 S s0 = some (r1, S1)) : FK [] [] S S1 := by
  have p0 : FK [] [] S S := FK.rf
  unfold fr_sourcePlace_14_b45 at h
  rw [← (osome2 h).2]
  exact p0
set_option maxHeartbeats 1000000 in
theorem w_fr_sourcePlace_14 {a1 : Int32} {a2 : Int32} {a3 : Int32} {S : MS} {r1 : Int32} {S1 : MS} (h : fr_sourcePlace_14 S a1 a2 a3 = some (r1, S1)) : FK [] [] S S1 := by
  have p0 : FK [] [] S S := FK.rf
  unfold fr_sourcePlace_14 at h
  rcases oif_or h with ⟨-, h⟩ | ⟨-, h⟩
  · have h := h
    obtain ⟨v3, ev3, h⟩ := elet_some h
    have h := (oif_some h).2
    obtain ⟨v5, ev5, h⟩ := elet_some h
    obtain ⟨v6, ev6, h⟩ := elet_some h
    have h := (oif_some h).2
    obtain ⟨v8, ev8, h⟩ := elet_some h
    obtain ⟨v9, ev9, h⟩ := elet_some h
    obtain ⟨v10, ev10, h⟩ := elet_some h
    obtain ⟨v11, ev11, h⟩ := elet_some h
    exact p0.tr (w_fr_sourcePlace_14_b45  h)
  · have h := h
    obtain ⟨v12, ev12, h⟩ := elet_some h
    have h := (oif_some h).2
    obtain ⟨v14, ev14, h⟩ := elet_some h
    obtain ⟨v15, ev15, h⟩ := elet_some h
    have h := (oif_some h).2
    obtain ⟨v17, ev17, h⟩ := elet_some h
    obtain ⟨v18, ev18, h⟩ := elet_some h
    obtain ⟨v19, ev19, h⟩ := elet_some h
    obtain ⟨v20, ev20, h⟩ := elet_some h
    exact p0.tr (w_fr_sourcePlace_14_b45  h)
set_option maxHeartbeats 1000000 in
theorem w_fr_rawAt_14_b127 {k71 : MS → Int32 → Int32 → Int32 → Int32 → Option (Int32 × MS)} {s0 : Int32} {s1 : Int32} {l2 : Int32} {l4 : Int32} {l6 : Int32} {S : MS} {r1 : Int32} {S1 : MS} (hk71 : ∀ (x0 : MS) (x1 : Int32) (x2 : Int32) (x3 : Int32) (x4 : Int32), k71 x0 x1 x2 x3 x4 = some (r1, S1) → FK [] [] x0 S1) (h : fr_rawAt_14_b127 k71 S s0 s1 l2 l4 l6 = some (r1, S1)) : FK [] [] S S1 := by
  have p0 : FK [] [] S S := FK.rf
  unfold fr_rawAt_14_b127 at h
  obtain ⟨v2, ev2, h⟩ := elet_some h
  obtain ⟨v3, ev3, h⟩ := elet_some h
  exact p0.tr (hk71 _ _ _ _ _ h)
set_option maxHeartbeats 1000000 in
theorem w_fr_rawAt_14_b71 {r1 : Int32} {S1 : MS} : ∀ n : Nat, ∀ (S : MS) (y1 : Int32) (y2 : Int32) (y3 : Int32) (y4 : Int32), fr_rawAt_14_b71 n S y1 y2 y3 y4 = some (r1, S1) → FK [] [] S S1 := by
  intro n
  induction n with
  | zero =>
    intro S y1 y2 y3 y4 h
    have h : (none : Option (Int32 × MS)) = some (r1, S1) := h
    cases h
  | succ n ih =>
    intro S l2 l4 l5 l6 h
    have p0 : FK [] [] S S := FK.rf
    unfold fr_rawAt_14_b71 at h
    obtain ⟨v2, ev2, h⟩ := elet_some h
    rcases oif_or h with ⟨-, h⟩ | ⟨-, h⟩
    · have h := h
      obtain ⟨v4, ev4, h⟩ := elet_some h
      have h := (oif_some h).2
      obtain ⟨v6, ev6, h⟩ := elet_some h
      obtain ⟨v7, ev7, h⟩ := elet_some h
      rw [← (osome2 h).2]
      exact p0
    · have h := h
      obtain ⟨v8, ev8, h⟩ := elet_some h
      have h := (oif_some h).2
      obtain ⟨v10, ev10, h⟩ := elet_some h
      rcases oif_or h with ⟨-, h⟩ | ⟨-, h⟩
      · have h := h
        exact p0.tr (w_fr_rawAt_14_b127 ih h)
      · have h := h
        obtain ⟨r15, S12, eS12, h⟩ := obind2_some h
        have p1 : FK [] [] S S12 := p0.tr ((w_fr_sourcePlace_14 eS12).w (by decide))
        obtain ⟨r19, S16, eS16, h⟩ := obind2_some h
        have p2 : FK [] [] S S16 := p1.tr ((w_fr_sourcePlace_14 eS16).w (by decide))
        obtain ⟨r23, S20, eS20, h⟩ := obind2_some h
        have p3 : FK [] [] S S20 := p2.tr ((w_fr_heardOf eS20).w (by decide))
        exact p3.tr (w_fr_rawAt_14_b127 ih h)
set_option maxHeartbeats 1000000 in
theorem w_fr_rawAt_14 {a1 : Int32} {a2 : Int32} {S : MS} {r1 : Int32} {S1 : MS} (h : fr_rawAt_14 S a1 a2 = some (r1, S1)) : FK [] [] S S1 := by
  have p0 : FK [] [] S S := FK.rf
  unfold fr_rawAt_14 at h
  obtain ⟨v2, ev2, h⟩ := elet_some h
  have h := (oif_some h).2
  obtain ⟨v4, ev4, h⟩ := elet_some h
  obtain ⟨v5, ev5, h⟩ := elet_some h
  rcases oif_or h with ⟨-, h⟩ | ⟨-, h⟩
  · have h := h
    obtain ⟨v7, ev7, h⟩ := elet_some h
    rcases oif_or h with ⟨-, h⟩ | ⟨-, h⟩
    · have h := h
      exact p0.tr (w_fr_rawAt_14_b71  _ _ _ _ _ _ h)
    · have h := h
      obtain ⟨v9, ev9, h⟩ := elet_some h
      have h := (oif_some h).2
      obtain ⟨v11, ev11, h⟩ := elet_some h
      obtain ⟨v12, ev12, h⟩ := elet_some h
      obtain ⟨r16, S13, eS13, h⟩ := obind2_some h
      have p1 : FK [] [] S S13 := p0.tr ((w_fr_centre eS13).w (by decide))
      obtain ⟨v17, ev17, h⟩ := elet_some h
      obtain ⟨r21, S18, eS18, h⟩ := obind2_some h
      have p2 : FK [] [] S S18 := p1.tr ((w_fr_centre eS18).w (by decide))
      obtain ⟨r25, S22, eS22, h⟩ := obind2_some h
      have p3 : FK [] [] S S22 := p2.tr ((w_fr_heardOf eS22).w (by decide))
      obtain ⟨v26, ev26, h⟩ := elet_some h
      rw [← (osome2 h).2]
      exact p3
  · have h := h
    rw [← (osome2 h).2]
    exact p0
set_option maxHeartbeats 1000000 in
theorem w_fr_records_14_b49 {k6 : MS → Int32 → Option (MS)} {S1 : MS} (hk6 : ∀ (x0 : MS) (x1 : Int32), k6 x0 x1 = some S1 → FK [] [14, 23] x0 S1) : ∀ n : Nat, ∀ (S : MS) (y1 : Int32) (y2 : Int32), fr_records_14_b49 k6 n S y1 y2 = some S1 → FK [] [14, 23] S S1 := by
  intro n
  induction n with
  | zero =>
    intro S y1 y2 h
    have h : (none : Option (MS)) = some S1 := h
    cases h
  | succ n ih =>
    intro S l2 l3 h
    have p0 : FK [] [14, 23] S S := FK.rf
    unfold fr_records_14_b49 at h
    obtain ⟨v2, ev2, h⟩ := elet_some h
    rcases oif_or h with ⟨-, h⟩ | ⟨-, h⟩
    · have h := h
      obtain ⟨v4, ev4, h⟩ := elet_some h
      exact p0.tr (hk6 _ _ h)
    · have h := h
      obtain ⟨v5, ev5, h⟩ := elet_some h
      obtain ⟨v6, ev6, h⟩ := elet_some h
      obtain ⟨v7, ev7, h⟩ := elet_some h
      obtain ⟨r11, S8, eS8, h⟩ := obind2_some h
      have p1 : FK [] [14, 23] S S8 := p0.tr ((w_fr_filtered eS8).w (by decide))
      obtain ⟨r15, S12, eS12, h⟩ := obind2_some h
      have p2 : FK [] [14, 23] S S12 := p1.tr ((w_fr_bounded eS12).w (by decide))
      have h := (oif_some h).2
      obtain ⟨S17, eS17, h⟩ := elet_some h
      have p3 : FK [] [14, 23] S S17 := p2.tr (by rw [eS17]; exact fw_mf (by decide))
      obtain ⟨v18, ev18, h⟩ := elet_some h
      exact p3.tr (ih _ _ _ h)
set_option maxHeartbeats 1000000 in
theorem w_fr_records_14_b18 {k6 : MS → Int32 → Option (MS)} {S1 : MS} (hk6 : ∀ (x0 : MS) (x1 : Int32), k6 x0 x1 = some S1 → FK [] [14, 23] x0 S1) : ∀ n : Nat, ∀ (S : MS) (y1 : Int32) (y2 : Int32), fr_records_14_b18 k6 n S y1 y2 = some S1 → FK [] [14, 23] S S1 := by
  intro n
  induction n with
  | zero =>
    intro S y1 y2 h
    have h : (none : Option (MS)) = some S1 := h
    cases h
  | succ n ih =>
    intro S l2 l3 h
    have p0 : FK [] [14, 23] S S := FK.rf
    unfold fr_records_14_b18 at h
    obtain ⟨v2, ev2, h⟩ := elet_some h
    rcases oif_or h with ⟨-, h⟩ | ⟨-, h⟩
    · have h := h
      exact p0.tr (w_fr_records_14_b49 hk6 _ _ _ _ h)
    · have h := h
      obtain ⟨r7, S4, eS4, h⟩ := obind2_some h
      have p1 : FK [] [14, 23] S S4 := p0.tr ((w_fr_rawAt_14 eS4).w (by decide))
      have h := (oif_some h).2
      obtain ⟨S9, eS9, h⟩ := elet_some h
      have p2 : FK [] [14, 23] S S9 := p1.tr (by rw [eS9]; exact fw_mf (by decide))
      obtain ⟨v10, ev10, h⟩ := elet_some h
      exact p2.tr (ih _ _ _ h)
set_option maxHeartbeats 1000000 in
theorem w_fr_records_14_b6 {S1 : MS} : ∀ n : Nat, ∀ (S : MS) (y1 : Int32), fr_records_14_b6 n S y1 = some S1 → FK [] [14, 23] S S1 := by
  intro n
  induction n with
  | zero =>
    intro S y1 h
    have h : (none : Option (MS)) = some S1 := h
    cases h
  | succ n ih =>
    intro S l2 h
    have p0 : FK [] [14, 23] S S := FK.rf
    unfold fr_records_14_b6 at h
    obtain ⟨v2, ev2, h⟩ := elet_some h
    rcases oif_or h with ⟨-, h⟩ | ⟨-, h⟩
    · have h := h
      rw [← osome1 h]
      exact p0
    · have h := h
      exact p0.tr (w_fr_records_14_b18 ih _ _ _ _ h)
set_option maxHeartbeats 1000000 in
theorem w_fr_records_14 {S : MS} {S1 : MS} (h : fr_records_14 S = some S1) : FK [] [14, 23] S S1 := by
  have p0 : FK [] [14, 23] S S := FK.rf
  unfold fr_records_14 at h
  obtain ⟨S2, eS2, h⟩ := elet_some h
  have p1 : FK [] [14, 23] S S2 := p0.tr (by rw [eS2]; exact fw_mf (by decide))
  exact p1.tr (w_fr_records_14_b6  _ _ _ h)
set_option maxHeartbeats 1000000 in
theorem w_fr_recordsPoint_14 {a1 : Int32} {a2 : Int32} {S : MS} {S1 : MS} (h : fr_recordsPoint_14 S a1 a2 = some S1) : FK [21, 22] [14, 23] S S1 := by
  have p0 : FK [21, 22] [14, 23] S S := FK.rf
  unfold fr_recordsPoint_14 at h
  obtain ⟨S2, eS2, h⟩ := elet_some h
  have p1 : FK [21, 22] [14, 23] S S2 := p0.tr (by rw [eS2]; exact fw_mi (by decide))
  obtain ⟨S3, eS3, h⟩ := elet_some h
  have p2 : FK [21, 22] [14, 23] S S3 := p1.tr (by rw [eS3]; exact fw_mi (by decide))
  obtain ⟨S4, eS4, h⟩ := obind_some h
  have p3 : FK [21, 22] [14, 23] S S4 := p2.tr ((w_fr_records_14 eS4).w (by decide))
  obtain ⟨S7, eS7, h⟩ := elet_some h
  have p4 : FK [21, 22] [14, 23] S S7 := p3.tr (by rw [eS7]; exact fw_mi (by decide))
  rw [← osome1 h]
  exact p4
set_option maxHeartbeats 1000000 in
theorem w_fr_hears_14_b13 {s0 : Int32} {S : MS} {r1 : Int32} {S1 : MS} (h : fr_hears_14_b13 S s0 = some (r1, S1)) : FK [] [] S S1 := by
  have p0 : FK [] [] S S := FK.rf
  unfold fr_hears_14_b13 at h
  have h := (oif_some h).2
  rw [← (osome2 h).2]
  exact p0
set_option maxHeartbeats 1000000 in
theorem w_fr_hears_14 {a1 : Int32} {S : MS} {r1 : Int32} {S1 : MS} (h : fr_hears_14 S a1 = some (r1, S1)) : FK [] [] S S1 := by
  have p0 : FK [] [] S S := FK.rf
  unfold fr_hears_14 at h
  obtain ⟨v2, ev2, h⟩ := elet_some h
  have h := (oif_some h).2
  obtain ⟨v4, ev4, h⟩ := elet_some h
  rcases oif_or h with ⟨-, h⟩ | ⟨-, h⟩
  · have h := h
    exact p0.tr (w_fr_hears_14_b13  h)
  · have h := h
    exact p0.tr (w_fr_hears_14_b13  h)
set_option maxHeartbeats 1000000 in
theorem w_fr_windowOf_14_b37 {k4 : MS → Int32 → Int32 → Option (Int32 × MS)} {s0 : Int32} {l3 : Int32} {S : MS} {r1 : Int32} {S1 : MS} (hk4 : ∀ (x0 : MS) (x1 : Int32) (x2 : Int32), k4 x0 x1 x2 = some (r1, S1) → FK [] [] x0 S1) (h : fr_windowOf_14_b37 k4 S s0 l3 = some (r1, S1)) : FK [] [] S S1 := by
  have p0 : FK [] [] S S := FK.rf
  unfold fr_windowOf_14_b37 at h
  obtain ⟨v2, ev2, h⟩ := elet_some h
  exact p0.tr (hk4 _ _ _ h)
set_option maxHeartbeats 1000000 in
theorem w_fr_windowOf_14_b4 {r1 : Int32} {S1 : MS} : ∀ n : Nat, ∀ (S : MS) (y1 : Int32) (y2 : Int32), fr_windowOf_14_b4 n S y1 y2 = some (r1, S1) → FK [] [] S S1 := by
  intro n
  induction n with
  | zero =>
    intro S y1 y2 h
    have h : (none : Option (Int32 × MS)) = some (r1, S1) := h
    cases h
  | succ n ih =>
    intro S l2 l3 h
    have p0 : FK [] [] S S := FK.rf
    unfold fr_windowOf_14_b4 at h
    obtain ⟨v2, ev2, h⟩ := elet_some h
    rcases oif_or h with ⟨-, h⟩ | ⟨-, h⟩
    · have h := h
      obtain ⟨v4, ev4, h⟩ := elet_some h
      obtain ⟨v5, ev5, h⟩ := elet_some h
      obtain ⟨v6, ev6, h⟩ := elet_some h
      rw [← (osome2 h).2]
      exact p0
    · have h := h
      obtain ⟨r10, S7, eS7, h⟩ := obind2_some h
      have p1 : FK [] [] S S7 := p0.tr ((w_fr_hears_14 eS7).w (by decide))
      rcases oif_or h with ⟨-, h⟩ | ⟨-, h⟩
      · have h := h
        exact p1.tr (w_fr_windowOf_14_b37 ih h)
      · have h := h
        have h := (oif_some h).2
        obtain ⟨v13, ev13, h⟩ := elet_some h
        obtain ⟨v14, ev14, h⟩ := elet_some h
        exact p1.tr (w_fr_windowOf_14_b37 ih h)
set_option maxHeartbeats 1000000 in
theorem w_fr_windowOf_14 {S : MS} {r1 : Int32} {S1 : MS} (h : fr_windowOf_14 S = some (r1, S1)) : FK [] [] S S1 := by
  have p0 : FK [] [] S S := FK.rf
  unfold fr_windowOf_14 at h
  exact p0.tr (w_fr_windowOf_14_b4  _ _ _ _ h)
set_option maxHeartbeats 1000000 in
theorem w_fr_beamAt_14_b78 {k5 : MS → Int32 → Int32 → Int32 → Option (Int32 × MS)} {s0 : Int32} {s1 : Int32} {l2 : Int32} {l4 : Int32} {S : MS} {r1 : Int32} {S1 : MS} (hk5 : ∀ (x0 : MS) (x1 : Int32) (x2 : Int32) (x3 : Int32), k5 x0 x1 x2 x3 = some (r1, S1) → FK [] [] x0 S1) (h : fr_beamAt_14_b78 k5 S s0 s1 l2 l4 = some (r1, S1)) : FK [] [] S S1 := by
  have p0 : FK [] [] S S := FK.rf
  unfold fr_beamAt_14_b78 at h
  obtain ⟨v2, ev2, h⟩ := elet_some h
  obtain ⟨v3, ev3, h⟩ := elet_some h
  exact p0.tr (hk5 _ _ _ _ h)
set_option maxHeartbeats 1000000 in
theorem w_fr_beamAt_14_b77 {k5 : MS → Int32 → Int32 → Int32 → Option (Int32 × MS)} {s0 : Int32} {l2 : Int32} {l4 : Int32} {S : MS} {r1 : Int32} {S1 : MS} (hk5 : ∀ (x0 : MS) (x1 : Int32) (x2 : Int32) (x3 : Int32), k5 x0 x1 x2 x3 = some (r1, S1) → FK [] [] x0 S1) (h : fr_beamAt_14_b77 k5 S s0 l2 l4 = some (r1, S1)) : FK [] [] S S1 := by
  have p0 : FK [] [] S S := FK.rf
  unfold fr_beamAt_14_b77 at h
  exact p0.tr (w_fr_beamAt_14_b78 hk5 h)
set_option maxHeartbeats 1000000 in
theorem w_fr_beamAt_14_b5 {r1 : Int32} {S1 : MS} : ∀ n : Nat, ∀ (S : MS) (y1 : Int32) (y2 : Int32) (y3 : Int32), fr_beamAt_14_b5 n S y1 y2 y3 = some (r1, S1) → FK [] [] S S1 := by
  intro n
  induction n with
  | zero =>
    intro S y1 y2 y3 h
    have h : (none : Option (Int32 × MS)) = some (r1, S1) := h
    cases h
  | succ n ih =>
    intro S l2 l3 l4 h
    have p0 : FK [] [] S S := FK.rf
    unfold fr_beamAt_14_b5 at h
    obtain ⟨v2, ev2, h⟩ := elet_some h
    rcases oif_or h with ⟨-, h⟩ | ⟨-, h⟩
    · have h := h
      rw [← (osome2 h).2]
      exact p0
    · have h := h
      obtain ⟨r7, S4, eS4, h⟩ := obind2_some h
      have p1 : FK [] [] S S4 := p0.tr ((w_fr_hears_14 eS4).w (by decide))
      rcases oif_or h with ⟨-, h⟩ | ⟨-, h⟩
      · have h := h
        exact p1.tr (w_fr_beamAt_14_b77 ih h)
      · have h := h
        have h := (oif_some h).2
        obtain ⟨v10, ev10, h⟩ := elet_some h
        obtain ⟨v11, ev11, h⟩ := elet_some h
        obtain ⟨v12, ev12, h⟩ := elet_some h
        rcases oif_or h with ⟨-, h⟩ | ⟨-, h⟩
        · have h := h
          exact p1.tr (w_fr_beamAt_14_b77 ih h)
        · have h := h
          obtain ⟨v14, ev14, h⟩ := elet_some h
          have h := (oif_some h).2
          obtain ⟨v16, ev16, h⟩ := elet_some h
          obtain ⟨v17, ev17, h⟩ := elet_some h
          obtain ⟨v18, ev18, h⟩ := elet_some h
          obtain ⟨v19, ev19, h⟩ := elet_some h
          have h := (oif_some h).2
          obtain ⟨v21, ev21, h⟩ := elet_some h
          obtain ⟨v22, ev22, h⟩ := elet_some h
          have h := (oif_some h).2
          obtain ⟨v24, ev24, h⟩ := elet_some h
          obtain ⟨v25, ev25, h⟩ := elet_some h
          exact p1.tr (w_fr_beamAt_14_b78 ih h)
set_option maxHeartbeats 1000000 in
theorem w_fr_beamAt_14 {a1 : Int32} {S : MS} {r1 : Int32} {S1 : MS} (h : fr_beamAt_14 S a1 = some (r1, S1)) : FK [] [] S S1 := by
  have p0 : FK [] [] S S := FK.rf
  unfold fr_beamAt_14 at h
  exact p0.tr (w_fr_beamAt_14_b5  _ _ _ _ _ h)
set_option maxHeartbeats 1000000 in
theorem w_fr_energy_14_b6 {r1 : Int64} {S1 : MS} : ∀ n : Nat, ∀ (S : MS) (y1 : Int32) (y2 : Int64) (y3 : Int32), fr_energy_14_b6 n S y1 y2 y3 = some (r1, S1) → FK [] [] S S1 := by
  intro n
  induction n with
  | zero =>
    intro S y1 y2 y3 h
    have h : (none : Option (Int64 × MS)) = some (r1, S1) := h
    cases h
  | succ n ih =>
    intro S l3 l4 l6 h
    have p0 : FK [] [] S S := FK.rf
    unfold fr_energy_14_b6 at h
    rcases oif_or h with ⟨-, h⟩ | ⟨-, h⟩
    · have h := h
      rw [← (osome2 h).2]
      exact p0
    · have h := h
      obtain ⟨r6, S3, eS3, h⟩ := obind2_some h
      have p1 : FK [] [] S S3 := p0.tr ((w_fr_beamAt_14 eS3).w (by decide))
      obtain ⟨v7, ev7, h⟩ := elet_some h
      obtain ⟨v8, ev8, h⟩ := elet_some h
      obtain ⟨v9, ev9, h⟩ := elet_some h
      obtain ⟨v10, ev10, h⟩ := elet_some h
      exact p1.tr (ih _ _ _ _ h)
set_option maxHeartbeats 1000000 in
theorem w_fr_energy_14 {a1 : Int32} {a2 : Int32} {S : MS} {r1 : Int64} {S1 : MS} (h : fr_energy_14 S a1 a2 = some (r1, S1)) : FK [] [] S S1 := by
  have p0 : FK [] [] S S := FK.rf
  unfold fr_energy_14 at h
  exact p0.tr (w_fr_energy_14_b6  _ _ _ _ _ h)
set_option maxHeartbeats 1000000 in
theorem w_fr_powerHere_14_b24 {s0 : Int64} {S : MS} {r1 : Int64} {S1 : MS} (h : fr_powerHere_14_b24 S s0 = some (r1, S1)) : FK [] [] S S1 := by
  have p0 : FK [] [] S S := FK.rf
  unfold fr_powerHere_14_b24 at h
  rw [← (osome2 h).2]
  exact p0
set_option maxHeartbeats 1000000 in
theorem w_fr_powerHere_14 {S : MS} {r1 : Int64} {S1 : MS} (h : fr_powerHere_14 S = some (r1, S1)) : FK [] [] S S1 := by
  have p0 : FK [] [] S S := FK.rf
  unfold fr_powerHere_14 at h
  obtain ⟨r5, S2, eS2, h⟩ := obind2_some h
  have p1 : FK [] [] S S2 := p0.tr ((w_fr_windowOf_14 eS2).w (by decide))
  rcases oif_or h with ⟨-, h⟩ | ⟨-, h⟩
  · have h := h
    exact p1.tr (w_fr_powerHere_14_b24  h)
  · have h := h
    obtain ⟨r10, S7, eS7, h⟩ := obind2_some h
    have p2 : FK [] [] S S7 := p1.tr ((w_fr_energy_14 eS7).w (by decide))
    obtain ⟨v11, ev11, h⟩ := elet_some h
    have h := (oif_some h).2
    obtain ⟨v13, ev13, h⟩ := elet_some h
    exact p2.tr (w_fr_powerHere_14_b24  h)
set_option maxHeartbeats 1000000 in
theorem w_fr_powerOf_14 {a1 : Int32} {S : MS} {r1 : Int64} {S1 : MS} (h : fr_powerOf_14 S a1 = some (r1, S1)) : FK [] [24] S S1 := by
  have p0 : FK [] [24] S S := FK.rf
  unfold fr_powerOf_14 at h
  obtain ⟨S2, eS2, h⟩ := obind_some h
  have p1 : FK [] [24] S S2 := p0.tr ((w_fr_laysCell eS2).w (by decide))
  obtain ⟨r8, S5, eS5, h⟩ := obind2_some h
  have p2 : FK [] [24] S S5 := p1.tr ((w_fr_powerHere_14 eS5).w (by decide))
  rw [← (osome2 h).2]
  exact p2
set_option maxHeartbeats 1000000 in
theorem w_fr_laysPowers_14_b2 {S1 : MS} : ∀ n : Nat, ∀ (S : MS) (y1 : Int32), fr_laysPowers_14_b2 n S y1 = some S1 → FK [] [24] S S1 := by
  intro n
  induction n with
  | zero =>
    intro S y1 h
    have h : (none : Option (MS)) = some S1 := h
    cases h
  | succ n ih =>
    intro S l2 h
    have p0 : FK [] [24] S S := FK.rf
    unfold fr_laysPowers_14_b2 at h
    obtain ⟨r5, S2, eS2, h⟩ := obind2_some h
    have p1 : FK [] [24] S S2 := p0.tr ((w_fr_cellCount eS2).w (by decide))
    rcases oif_or h with ⟨-, h⟩ | ⟨-, h⟩
    · have h := h
      rw [← osome1 h]
      exact p1
    · have h := h
      obtain ⟨r10, S7, eS7, h⟩ := obind2_some h
      have p2 : FK [] [24] S S7 := p1.tr ((w_fr_powerOf_14 eS7).w (by decide))
      have h := (oif_some h).2
      obtain ⟨S12, eS12, h⟩ := elet_some h
      have p3 : FK [] [24] S S12 := p2.tr (by rw [eS12]; exact ⟨fun _ _ => rfl, fun _ _ => rfl⟩)
      obtain ⟨v13, ev13, h⟩ := elet_some h
      exact p3.tr (ih _ _ h)
set_option maxHeartbeats 1000000 in
theorem w_fr_laysPowers_14 {S : MS} {S1 : MS} (h : fr_laysPowers_14 S = some S1) : FK [] [24] S S1 := by
  have p0 : FK [] [24] S S := FK.rf
  unfold fr_laysPowers_14 at h
  exact p0.tr (w_fr_laysPowers_14_b2  _ _ _ h)
set_option maxHeartbeats 1000000 in
theorem w_fr_bestIn_14_b38 {k9 : MS → Int32 → Int32 → Option (Int32 × MS)} {s0 : Int32} {l3 : Int32} {S : MS} {r1 : Int32} {S1 : MS} (hk9 : ∀ (x0 : MS) (x1 : Int32) (x2 : Int32), k9 x0 x1 x2 = some (r1, S1) → FK [] [24] x0 S1) (h : fr_bestIn_14_b38 k9 S s0 l3 = some (r1, S1)) : FK [] [24] S S1 := by
  have p0 : FK [] [24] S S := FK.rf
  unfold fr_bestIn_14_b38 at h
  obtain ⟨v2, ev2, h⟩ := elet_some h
  exact p0.tr (hk9 _ _ _ h)
set_option maxHeartbeats 1000000 in
theorem w_fr_bestIn_14_b9 {r1 : Int32} {S1 : MS} : ∀ n : Nat, ∀ (S : MS) (y1 : Int32) (y2 : Int32), fr_bestIn_14_b9 n S y1 y2 = some (r1, S1) → FK [] [24] S S1 := by
  intro n
  induction n with
  | zero =>
    intro S y1 y2 h
    have h : (none : Option (Int32 × MS)) = some (r1, S1) := h
    cases h
  | succ n ih =>
    intro S l2 l3 h
    have p0 : FK [] [24] S S := FK.rf
    unfold fr_bestIn_14_b9 at h
    obtain ⟨r5, S2, eS2, h⟩ := obind2_some h
    have p1 : FK [] [24] S S2 := p0.tr ((w_fr_cellCount eS2).w (by decide))
    rcases oif_or h with ⟨-, h⟩ | ⟨-, h⟩
    · have h := h
      rw [← (osome2 h).2]
      exact p1
    · have h := h
      have h := (oif_some h).2
      obtain ⟨v8, ev8, h⟩ := elet_some h
      have h := (oif_some h).2
      obtain ⟨v10, ev10, h⟩ := elet_some h
      obtain ⟨v11, ev11, h⟩ := elet_some h
      rcases oif_or h with ⟨-, h⟩ | ⟨-, h⟩
      · have h := h
        exact p1.tr (w_fr_bestIn_14_b38 ih h)
      · have h := h
        exact p1.tr (w_fr_bestIn_14_b38 ih h)
set_option maxHeartbeats 1000000 in
theorem w_fr_bestIn_14 {S : MS} {r1 : Int32} {S1 : MS} (h : fr_bestIn_14 S = some (r1, S1)) : FK [] [24] S S1 := by
  have p0 : FK [] [24] S S := FK.rf
  unfold fr_bestIn_14 at h
  obtain ⟨S2, eS2, h⟩ := obind_some h
  have p1 : FK [] [24] S S2 := p0.tr ((w_fr_laysPowers_14 eS2).w (by decide))
  exact p1.tr (w_fr_bestIn_14_b9  _ _ _ _ h)
set_option maxHeartbeats 1000000 in
theorem w_fr_pointBest {a0 : Int32} {a1 : Int32} {S : MS} {r1 : Int32} {S1 : MS} (h : fr_pointBest S a0 a1 = some (r1, S1)) : FK [0, 21, 22] [14, 23, 24] S S1 := by
  have p0 : FK [0, 21, 22] [14, 23, 24] S S := FK.rf
  unfold fr_pointBest at h
  obtain ⟨r5, S2, eS2, h⟩ := obind2_some h
  have p1 : FK [0, 21, 22] [14, 23, 24] S S2 := p0.tr ((w_fr_isCell eS2).w (by decide))
  obtain ⟨r9, S6, eS6, h⟩ := obind2_some h
  have p2 : FK [0, 21, 22] [14, 23, 24] S S6 := p1.tr ((w_fr_mayAsk eS6).w (by decide))
  rcases oif_or h with ⟨-, h⟩ | ⟨-, h⟩
  · have h := h
    rw [← (osome2 h).2]
    exact p2
  · have h := h
    obtain ⟨r11, -, h⟩ := obind_some h
    rcases oif_or h with ⟨-, h⟩ | ⟨-, h⟩
    · have h := h
      obtain ⟨r17, S14, eS14, h⟩ := obind2_some h
      have p3 : FK [0, 21, 22] [14, 23, 24] S S14 := p2.tr ((w_fr_throwsAt eS14).w (by decide))
      rw [← (osome2 h).2]
      exact p3
    · have h := h
      obtain ⟨S18, eS18, h⟩ := obind_some h
      have p4 : FK [0, 21, 22] [14, 23, 24] S S18 := p2.tr ((w_fr_copy_12_14 eS18).w (by decide))
      obtain ⟨S21, eS21, h⟩ := obind_some h
      have p5 : FK [0, 21, 22] [14, 23, 24] S S21 := p4.tr ((w_fr_recordsPoint_14 eS21).w (by decide))
      obtain ⟨r27, S24, eS24, h⟩ := obind2_some h
      have p6 : FK [0, 21, 22] [14, 23, 24] S S24 := p5.tr ((w_fr_bestIn_14 eS24).w (by decide))
      rw [← (osome2 h).2]
      exact p6
set_option maxHeartbeats 1000000 in
theorem w_fr_pointPower_b22 {s0 : Int32} {l1 : Int32} {l2 : Int32} {l3 : Int32} {S : MS} {r1 : Int64} {S1 : MS} (h : fr_pointPower_b22 S s0 l1 l2 l3 = some (r1, S1)) : FK [0, 21, 22] [14, 23, 24] S S1 := by
  have p0 : FK [0, 21, 22] [14, 23, 24] S S := FK.rf
  unfold fr_pointPower_b22 at h
  obtain ⟨r5, S2, eS2, h⟩ := obind2_some h
  have p1 : FK [0, 21, 22] [14, 23, 24] S S2 := p0.tr ((w_fr_mayAsk eS2).w (by decide))
  rcases oif_or h with ⟨-, h⟩ | ⟨-, h⟩
  · have h := h
    rw [← (osome2 h).2]
    exact p1
  · have h := h
    obtain ⟨r7, -, h⟩ := obind_some h
    rcases oif_or h with ⟨-, h⟩ | ⟨-, h⟩
    · have h := h
      obtain ⟨r13, S10, eS10, h⟩ := obind2_some h
      have p2 : FK [0, 21, 22] [14, 23, 24] S S10 := p1.tr ((w_fr_throwsAt eS10).w (by decide))
      obtain ⟨v14, ev14, h⟩ := elet_some h
      rw [← (osome2 h).2]
      exact p2
    · have h := h
      obtain ⟨S15, eS15, h⟩ := obind_some h
      have p3 : FK [0, 21, 22] [14, 23, 24] S S15 := p1.tr ((w_fr_copy_12_14 eS15).w (by decide))
      obtain ⟨S18, eS18, h⟩ := obind_some h
      have p4 : FK [0, 21, 22] [14, 23, 24] S S18 := p3.tr ((w_fr_recordsPoint_14 eS18).w (by decide))
      obtain ⟨r24, S21, eS21, h⟩ := obind2_some h
      have p5 : FK [0, 21, 22] [14, 23, 24] S S21 := p4.tr ((w_fr_powerOf_14 eS21).w (by decide))
      rw [← (osome2 h).2]
      exact p5
set_option maxHeartbeats 1000000 in
theorem w_fr_pointPower_b21 {l1 : Int32} {l2 : Int32} {l3 : Int32} {S : MS} {r1 : Int64} {S1 : MS} (h : fr_pointPower_b21 S l1 l2 l3 = some (r1, S1)) : FK [0, 21, 22] [14, 23, 24] S S1 := by
  have p0 : FK [0, 21, 22] [14, 23, 24] S S := FK.rf
  unfold fr_pointPower_b21 at h
  exact p0.tr (w_fr_pointPower_b22  h)
set_option maxHeartbeats 1000000 in
theorem w_fr_pointPower {a0 : Int32} {a1 : Int32} {a2 : Int32} {S : MS} {r1 : Int64} {S1 : MS} (h : fr_pointPower S a0 a1 a2 = some (r1, S1)) : FK [0, 21, 22] [14, 23, 24] S S1 := by
  have p0 : FK [0, 21, 22] [14, 23, 24] S S := FK.rf
  unfold fr_pointPower at h
  obtain ⟨r5, S2, eS2, h⟩ := obind2_some h
  have p1 : FK [0, 21, 22] [14, 23, 24] S S2 := p0.tr ((w_fr_isCell eS2).w (by decide))
  rcases oif_or h with ⟨-, h⟩ | ⟨-, h⟩
  · have h := h
    exact p1.tr (w_fr_pointPower_b21  h)
  · have h := h
    obtain ⟨r10, S7, eS7, h⟩ := obind2_some h
    have p2 : FK [0, 21, 22] [14, 23, 24] S S7 := p1.tr ((w_fr_isCell eS7).w (by decide))
    rcases oif_or h with ⟨-, h⟩ | ⟨-, h⟩
    · have h := h
      exact p2.tr (w_fr_pointPower_b21  h)
    · have h := h
      exact p2.tr (w_fr_pointPower_b22  h)
set_option maxHeartbeats 1000000 in
theorem w_fr_bestWithout {a0 : Int32} {S : MS} {r1 : Int32} {S1 : MS} (h : fr_bestWithout S a0 = some (r1, S1)) : FK [0] [14, 24] S S1 := by
  have p0 : FK [0] [14, 24] S S := FK.rf
  unfold fr_bestWithout at h
  obtain ⟨r5, S2, eS2, h⟩ := obind2_some h
  have p1 : FK [0] [14, 24] S S2 := p0.tr ((w_fr_isMic eS2).w (by decide))
  obtain ⟨r9, S6, eS6, h⟩ := obind2_some h
  have p2 : FK [0] [14, 24] S S6 := p1.tr ((w_fr_mayAsk eS6).w (by decide))
  rcases oif_or h with ⟨-, h⟩ | ⟨-, h⟩
  · have h := h
    rw [← (osome2 h).2]
    exact p2
  · have h := h
    obtain ⟨S11, eS11, h⟩ := obind_some h
    have p3 : FK [0] [14, 24] S S11 := p2.tr ((w_fr_copy_12_14 eS11).w (by decide))
    obtain ⟨v14, ev14, h⟩ := elet_some h
    have h := (oif_some h).2
    obtain ⟨S16, eS16, h⟩ := elet_some h
    have p4 : FK [0] [14, 24] S S16 := p3.tr (by rw [eS16]; exact fw_mf (by decide))
    obtain ⟨r20, S17, eS17, h⟩ := obind2_some h
    have p5 : FK [0] [14, 24] S S17 := p4.tr ((w_fr_bestIn_14 eS17).w (by decide))
    rw [← (osome2 h).2]
    exact p5
set_option maxHeartbeats 1000000 in
theorem w_fr_bestIfOff {a0 : Int32} {S : MS} {r1 : Int32} {S1 : MS} (h : fr_bestIfOff S a0 = some (r1, S1)) : FK [0] [14, 23, 24] S S1 := by
  have p0 : FK [0] [14, 23, 24] S S := FK.rf
  unfold fr_bestIfOff at h
  obtain ⟨r5, S2, eS2, h⟩ := obind2_some h
  have p1 : FK [0] [14, 23, 24] S S2 := p0.tr ((w_fr_isSource eS2).w (by decide))
  obtain ⟨r9, S6, eS6, h⟩ := obind2_some h
  have p2 : FK [0] [14, 23, 24] S S6 := p1.tr ((w_fr_mayAsk eS6).w (by decide))
  rcases oif_or h with ⟨-, h⟩ | ⟨-, h⟩
  · have h := h
    rw [← (osome2 h).2]
    exact p2
  · have h := h
    obtain ⟨S11, eS11, h⟩ := obind_some h
    have p3 : FK [0] [14, 23, 24] S S11 := p2.tr ((w_fr_copy_12_14 eS11).w (by decide))
    obtain ⟨v14, ev14, h⟩ := elet_some h
    have h := (oif_some h).2
    obtain ⟨S16, eS16, h⟩ := elet_some h
    have p4 : FK [0] [14, 23, 24] S S16 := p3.tr (by rw [eS16]; exact fw_mf (by decide))
    obtain ⟨S17, eS17, h⟩ := obind_some h
    have p5 : FK [0] [14, 23, 24] S S17 := p4.tr ((w_fr_records_14 eS17).w (by decide))
    obtain ⟨r23, S20, eS20, h⟩ := obind2_some h
    have p6 : FK [0] [14, 23, 24] S S20 := p5.tr ((w_fr_bestIn_14 eS20).w (by decide))
    rw [← (osome2 h).2]
    exact p6
set_option maxHeartbeats 1000000 in
theorem w_fr_weightOf_b40 {k4 : MS → Int32 → Int32 → Option (Int32 × MS)} {s0 : Int32} {s1 : Int32} {l2 : Int32} {S : MS} {r1 : Int32} {S1 : MS} (hk4 : ∀ (x0 : MS) (x1 : Int32) (x2 : Int32), k4 x0 x1 x2 = some (r1, S1) → FK [] [] x0 S1) (h : fr_weightOf_b40 k4 S s0 s1 l2 = some (r1, S1)) : FK [] [] S S1 := by
  have p0 : FK [] [] S S := FK.rf
  unfold fr_weightOf_b40 at h
  obtain ⟨v2, ev2, h⟩ := elet_some h
  obtain ⟨v3, ev3, h⟩ := elet_some h
  exact p0.tr (hk4 _ _ _ h)
set_option maxHeartbeats 1000000 in
theorem w_fr_weightOf_b4 {r1 : Int32} {S1 : MS} : ∀ n : Nat, ∀ (S : MS) (y1 : Int32) (y2 : Int32), fr_weightOf_b4 n S y1 y2 = some (r1, S1) → FK [] [] S S1 := by
  intro n
  induction n with
  | zero =>
    intro S y1 y2 h
    have h : (none : Option (Int32 × MS)) = some (r1, S1) := h
    cases h
  | succ n ih =>
    intro S l1 l2 h
    have p0 : FK [] [] S S := FK.rf
    unfold fr_weightOf_b4 at h
    obtain ⟨v2, ev2, h⟩ := elet_some h
    rcases oif_or h with ⟨-, h⟩ | ⟨-, h⟩
    · have h := h
      rw [← (osome2 h).2]
      exact p0
    · have h := h
      obtain ⟨r7, S4, eS4, h⟩ := obind2_some h
      have p1 : FK [] [] S S4 := p0.tr ((w_fr_hears_12 eS4).w (by decide))
      rcases oif_or h with ⟨-, h⟩ | ⟨-, h⟩
      · have h := h
        exact p1.tr (w_fr_weightOf_b40 ih h)
      · have h := h
        obtain ⟨v9, ev9, h⟩ := elet_some h
        have h := (oif_some h).2
        obtain ⟨v11, ev11, h⟩ := elet_some h
        exact p1.tr (w_fr_weightOf_b40 ih h)
set_option maxHeartbeats 1000000 in
theorem w_fr_weightOf {S : MS} {r1 : Int32} {S1 : MS} (h : fr_weightOf S = some (r1, S1)) : FK [] [] S S1 := by
  have p0 : FK [] [] S S := FK.rf
  unfold fr_weightOf at h
  exact p0.tr (w_fr_weightOf_b4  _ _ _ _ h)
set_option maxHeartbeats 1000000 in
theorem w_fr_cleaned_b18 {s0 : Int32} {S : MS} {r1 : Int32} {S1 : MS} (h : fr_cleaned_b18 S s0 = some (r1, S1)) : FK [0] [] S S1 := by
  have p0 : FK [0] [] S S := FK.rf
  unfold fr_cleaned_b18 at h
  rw [← (osome2 h).2]
  exact p0
set_option maxHeartbeats 1000000 in
theorem w_fr_cleaned {S : MS} {r1 : Int32} {S1 : MS} (h : fr_cleaned S = some (r1, S1)) : FK [0] [] S S1 := by
  have p0 : FK [0] [] S S := FK.rf
  unfold fr_cleaned at h
  obtain ⟨r5, S2, eS2, h⟩ := obind2_some h
  have p1 : FK [0] [] S S2 := p0.tr ((w_fr_mayAsk eS2).w (by decide))
  rcases oif_or h with ⟨-, h⟩ | ⟨-, h⟩
  · have h := h
    exact p1.tr (w_fr_cleaned_b18  h)
  · have h := h
    obtain ⟨v7, ev7, h⟩ := elet_some h
    exact p1.tr (w_fr_cleaned_b18  h)
set_option maxHeartbeats 1000000 in
theorem w_fr_copy_15_12_b3 {S1 : MS} : ∀ n : Nat, ∀ (S : MS) (y1 : Int32) (y2 : Int32) (y3 : Int32), fr_copy_15_12_b3 n S y1 y2 y3 = some S1 → FK [] [12] S S1 := by
  intro n
  induction n with
  | zero =>
    intro S y1 y2 y3 h
    have h : (none : Option (MS)) = some S1 := h
    cases h
  | succ n ih =>
    intro S l1 l3 l4 h
    have p0 : FK [] [12] S S := FK.rf
    unfold fr_copy_15_12_b3 at h
    rcases oif_or h with ⟨-, h⟩ | ⟨-, h⟩
    · have h := h
      rw [← osome1 h]
      exact p0
    · have h := h
      obtain ⟨v3, ev3, h⟩ := elet_some h
      obtain ⟨v4, ev4, h⟩ := elet_some h
      have h := (oif_some h).2
      obtain ⟨v6, ev6, h⟩ := elet_some h
      have h := (oif_some h).2
      obtain ⟨S8, eS8, h⟩ := elet_some h
      have p1 : FK [] [12] S S8 := p0.tr (by rw [eS8]; exact fw_mf (by decide))
      obtain ⟨v9, ev9, h⟩ := elet_some h
      exact p1.tr (ih _ _ _ _ h)
set_option maxHeartbeats 1000000 in
theorem w_fr_copy_15_12 {a1 : Int32} {a3 : Int32} {S : MS} {S1 : MS} (h : fr_copy_15_12 S a1 a3 = some S1) : FK [] [12] S S1 := by
  have p0 : FK [] [12] S S := FK.rf
  unfold fr_copy_15_12 at h
  exact p0.tr (w_fr_copy_15_12_b3  _ _ _ _ _ h)
set_option maxHeartbeats 1000000 in
theorem w_fr_undo_b13 {s0 : Int32} {S : MS} {r1 : Int32} {S1 : MS} (h : fr_undo_b13 S s0 = some (r1, S1)) : FK [0, 19] [12] S S1 := by
  have p0 : FK [0, 19] [12] S S := FK.rf
  unfold fr_undo_b13 at h
  obtain ⟨S2, eS2, h⟩ := elet_some h
  have p1 : FK [0, 19] [12] S S2 := p0.tr (by rw [eS2]; exact fw_mi (by decide))
  obtain ⟨v3, ev3, h⟩ := elet_some h
  rcases oif_or h with ⟨-, h⟩ | ⟨-, h⟩
  · have h := h
    obtain ⟨v5, ev5, h⟩ := elet_some h
    obtain ⟨v6, ev6, h⟩ := elet_some h
    obtain ⟨S7, eS7, h⟩ := elet_some h
    have p2 : FK [0, 19] [12] S S7 := p1.tr (by rw [eS7]; exact fw_mi (by decide))
    obtain ⟨v8, ev8, h⟩ := elet_some h
    obtain ⟨v9, ev9, h⟩ := elet_some h
    obtain ⟨S10, eS10, h⟩ := obind_some h
    have p3 : FK [0, 19] [12] S S10 := p2.tr ((w_fr_copy_15_12 eS10).w (by decide))
    obtain ⟨v13, ev13, h⟩ := elet_some h
    rw [← (osome2 h).2]
    exact p3
  · have h := h
    rw [← (osome2 h).2]
    exact p1
set_option maxHeartbeats 1000000 in
theorem w_fr_undo {S : MS} {r1 : Int32} {S1 : MS} (h : fr_undo S = some (r1, S1)) : FK [0, 19] [12] S S1 := by
  have p0 : FK [0, 19] [12] S S := FK.rf
  unfold fr_undo at h
  obtain ⟨v2, ev2, h⟩ := elet_some h
  rcases oif_or h with ⟨-, h⟩ | ⟨-, h⟩
  · have h := h
    exact p0.tr (w_fr_undo_b13  h)
  · have h := h
    exact p0.tr (w_fr_undo_b13  h)
set_option maxHeartbeats 1000000 in
theorem w_fr_undoable {S : MS} {r1 : Int32} {S1 : MS} (h : fr_undoable S = some (r1, S1)) : FK [0] [] S S1 := by
  have p0 : FK [0] [] S S := FK.rf
  unfold fr_undoable at h
  obtain ⟨S2, eS2, h⟩ := elet_some h
  have p1 : FK [0] [] S S2 := p0.tr (by rw [eS2]; exact fw_mi (by decide))
  obtain ⟨v3, ev3, h⟩ := elet_some h
  rw [← (osome2 h).2]
  exact p1
set_option maxHeartbeats 1000000 in
theorem w_fr_copy_12_16_b3 {S1 : MS} : ∀ n : Nat, ∀ (S : MS) (y1 : Int32) (y2 : Int32) (y3 : Int32), fr_copy_12_16_b3 n S y1 y2 y3 = some S1 → FK [] [16] S S1 := by
  intro n
  induction n with
  | zero =>
    intro S y1 y2 y3 h
    have h : (none : Option (MS)) = some S1 := h
    cases h
  | succ n ih =>
    intro S l1 l3 l4 h
    have p0 : FK [] [16] S S := FK.rf
    unfold fr_copy_12_16_b3 at h
    rcases oif_or h with ⟨-, h⟩ | ⟨-, h⟩
    · have h := h
      rw [← osome1 h]
      exact p0
    · have h := h
      obtain ⟨v3, ev3, h⟩ := elet_some h
      obtain ⟨v4, ev4, h⟩ := elet_some h
      have h := (oif_some h).2
      obtain ⟨v6, ev6, h⟩ := elet_some h
      have h := (oif_some h).2
      obtain ⟨S8, eS8, h⟩ := elet_some h
      have p1 : FK [] [16] S S8 := p0.tr (by rw [eS8]; exact fw_mf (by decide))
      obtain ⟨v9, ev9, h⟩ := elet_some h
      exact p1.tr (ih _ _ _ _ h)
set_option maxHeartbeats 1000000 in
theorem w_fr_copy_12_16 {a1 : Int32} {a3 : Int32} {S : MS} {S1 : MS} (h : fr_copy_12_16 S a1 a3 = some S1) : FK [] [16] S S1 := by
  have p0 : FK [] [16] S S := FK.rf
  unfold fr_copy_12_16 at h
  exact p0.tr (w_fr_copy_12_16_b3  _ _ _ _ _ h)
set_option maxHeartbeats 1000000 in
theorem w_fr_copy_16_12_b3 {S1 : MS} : ∀ n : Nat, ∀ (S : MS) (y1 : Int32) (y2 : Int32) (y3 : Int32), fr_copy_16_12_b3 n S y1 y2 y3 = some S1 → FK [] [12] S S1 := by
  intro n
  induction n with
  | zero =>
    intro S y1 y2 y3 h
    have h : (none : Option (MS)) = some S1 := h
    cases h
  | succ n ih =>
    intro S l1 l3 l4 h
    have p0 : FK [] [12] S S := FK.rf
    unfold fr_copy_16_12_b3 at h
    rcases oif_or h with ⟨-, h⟩ | ⟨-, h⟩
    · have h := h
      rw [← osome1 h]
      exact p0
    · have h := h
      obtain ⟨v3, ev3, h⟩ := elet_some h
      obtain ⟨v4, ev4, h⟩ := elet_some h
      have h := (oif_some h).2
      obtain ⟨v6, ev6, h⟩ := elet_some h
      have h := (oif_some h).2
      obtain ⟨S8, eS8, h⟩ := elet_some h
      have p1 : FK [] [12] S S8 := p0.tr (by rw [eS8]; exact fw_mf (by decide))
      obtain ⟨v9, ev9, h⟩ := elet_some h
      exact p1.tr (ih _ _ _ _ h)
set_option maxHeartbeats 1000000 in
theorem w_fr_copy_16_12 {a1 : Int32} {a3 : Int32} {S : MS} {S1 : MS} (h : fr_copy_16_12 S a1 a3 = some S1) : FK [] [12] S S1 := by
  have p0 : FK [] [12] S S := FK.rf
  unfold fr_copy_16_12 at h
  exact p0.tr (w_fr_copy_16_12_b3  _ _ _ _ _ h)
end
section
/-! 11w.hand.lean.txt -/
/-! Safety by hand: the last eight bits, four -/
theorem four_step {n : Nat} {S : MS} {l1 l2 : Int32} {b : Int} (hb : rg (S.1 2) 0 b) (h9 : b ≤ 999) (hl : ¬ l2 < 0) : fr_four_b3 (n + 1) S l1 l2 = fr_four_b3 n (mi (mf S 1 (upd (S.2.1 1) (S.1 2).toNatClampNeg (l1 >>> (l2 &&& 31) &&& 255))) 2 (S.1 2 + 1)) l1 (l2 + Int32.ofInt (-8)) := by
  have hi : inb (S.1 2) 1000 = true := rg_inb hb (Int.le_refl 0) (by omega)
  conv => lhs; unfold fr_four_b3
  rw [if_neg hl]
  show oif (inb (S.1 2) 1000 = true) _ = _
  unfold oif
  rw [if_pos hi]
  rfl
end
section
/-! 11x.root.lean.txt -/
/-! the root: not below what is squared -/
theorem root_step {n : Nat} {l0 l1 l2 : Int32} (h : ¬ l2 ≤ 0) : fr_root_b6 (n + 1) l0 l1 l2 = if 0 < lg_cmp ((l1 + l2).toInt64 * (l1 + l2).toInt64) l0.toInt64 then fr_root_b6 n l0 l1 (l2 / 2) else fr_root_b6 n l0 (l1 + l2) (l2 / 2) := by
  conv => lhs; unfold fr_root_b6
  rw [if_neg h]
  rfl
theorem bm64 {x : Int} (h1 : -9223372036854775808 ≤ x) (h2 : x ≤ 9223372036854775807) : x.bmod (2 ^ 64) = x := by
  rw [Int.bmod_def]
  omega
theorem root_cmp {l0 m : Int32} (h0 : 0 ≤ m.toInt) (h1 : m.toInt ≤ 65536) : 0 < lg_cmp (m.toInt64 * m.toInt64) l0.toInt64 ↔ l0.toInt < m.toInt * m.toInt := by
  have q := imul_nn h0 h1 h0 h1
  rw [lg_cmp_gt, Int64.lt_iff_toInt_lt, Int64.toInt_mul, Int32.toInt_toInt64, Int32.toInt_toInt64, bm64 (by omega) (by omega)]
theorem half {l2 : Int32} {c : Int} (h : l2.toInt = 2 * c) (h0 : 0 ≤ c) : (l2 / 2).toInt = c := by
  have h2 := Int32.toInt_lt l2
  have h9 : (2 : Int32).toInt = 2 := by decide
  rw [Int32.toInt_div, h9, h, Int.tdiv_eq_ediv_of_nonneg (by omega), bm32 (by omega) (by omega)]
  omega
theorem root_loop (l0 : Int32) : ∀ (k n : Nat) (l1 l2 : Int32), k + 2 ≤ n → l2.toInt = 2 ^ k → 0 ≤ l1.toInt → l1.toInt + 2 * 2 ^ k ≤ 65536 → l0.toInt < (l1.toInt + 2 * 2 ^ k) * (l1.toInt + 2 * 2 ^ k) → Tot (fr_root_b6 n l0 l1 l2) (fun x => 0 ≤ x.toInt ∧ x.toInt ≤ 65535 ∧ l0.toInt < (x.toInt + 1) * (x.toInt + 1)) := by
  intro k
  induction k with
  | zero =>
    intro n l1 l2 hn h2 h1 hs hv
    obtain ⟨n, rfl⟩ : ∃ j, n = j + 2 := ⟨n - 2, by omega⟩
    have h2 : l2.toInt = 1 := h2
    have hs : l1.toInt + 2 * 1 ≤ 65536 := hs
    have hv : l0.toInt < (l1.toInt + 2 * 1) * (l1.toInt + 2 * 1) := hv
    have h00 : (0 : Int32).toInt = 0 := by decide
    have hl : ¬ l2 ≤ 0 := fun q => by have := Int32.le_iff_toInt_le.mp q; omega
    have hz : (l2 / 2).toInt = 0 := by
      have h9 : (2 : Int32).toInt = 2 := by decide
      rw [Int32.toInt_div, h9, h2]
      decide
    have hz2 : l2 / 2 ≤ 0 := Int32.le_iff_toInt_le.mpr (by omega)
    have hm : (l1 + l2).toInt = l1.toInt + 1 := by rw [Int32.toInt_add, h2, bm32 (by omega) (by omega)]
    have last : ∀ x : Int32, fr_root_b6 (n + 1) l0 x (l2 / 2) = some x := fun x => by
      conv => lhs; unfold fr_root_b6
      rw [if_pos hz2]
    rw [root_step hl]
    refine tot_if (fun hc => ?_) (fun hc => ?_)
    · rw [last]
      have hc := (root_cmp (by omega) (by omega)).mp hc
      rw [hm] at hc
      exact tot_some ⟨h1, by omega, hc⟩
    · rw [last]
      refine tot_some ⟨by omega, by omega, ?_⟩
      rw [hm, show l1.toInt + 1 + 1 = l1.toInt + 2 * 1 by omega]
      exact hv
  | succ k ih =>
    intro n l1 l2 hn h2 h1 hs hv
    obtain ⟨n, rfl⟩ : ∃ j, n = j + 1 := ⟨n - 1, by omega⟩
    have hp : (2 : Int) ^ (k + 1) = 2 * 2 ^ k := by rw [Int.pow_succ, Int.mul_comm]
    have h0 : (0 : Int) < 2 ^ k := Int.pow_pos (by decide)
    rw [hp] at h2 hs hv
    generalize hb : (2 : Int) ^ k = b at h2 hs hv h0 ih
    have h00 : (0 : Int32).toInt = 0 := by decide
    have hl : ¬ l2 ≤ 0 := fun q => by have := Int32.le_iff_toInt_le.mp q; omega
    have hm : (l1 + l2).toInt = l1.toInt + 2 * b := by rw [Int32.toInt_add, h2, bm32 (by omega) (by omega)]
    rw [root_step hl]
    refine tot_if (fun hc => ?_) (fun hc => ?_)
    · have hc := (root_cmp (by omega) (by omega)).mp hc
      rw [hm] at hc
      exact ih n l1 (l2 / 2) (by omega) (half h2 (by omega)) h1 (by omega) hc
    · refine ih n (l1 + l2) (l2 / 2) (by omega) (half h2 (by omega)) (by omega) (by omega) ?_
      rw [hm, show l1.toInt + 2 * b + 2 * b = l1.toInt + 2 * (2 * b) by omega]
      exact hv
theorem z_root {a0 : Int32} {far : Int} (h0 : 0 ≤ far) (h : far * far ≤ a0.toInt) : Tot (fr_root a0) (fun x => far ≤ x.toInt ∧ x.toInt ≤ 65535) := by
  unfold fr_root
  have h2 := Int32.toInt_lt a0
  refine tot_w (root_loop a0 15 16384 0 32768 (by decide) (by decide) (by decide) (by decide) ?_) (fun x hx => ⟨?_, hx.2.1⟩)
  · have e : ((0 : Int32).toInt + 2 * 2 ^ 15) * ((0 : Int32).toInt + 2 * 2 ^ 15) = 4294967296 := by decide
    rw [e]
    omega
  · obtain ⟨x0, x1, x2⟩ := hx
    by_cases q : far ≤ x.toInt
    · exact q
    · have q1 : x.toInt + 1 ≤ far := by omega
      have q2 := (imul_nn (x := x.toInt + 1) (by omega) q1 (y := x.toInt + 1) (by omega) q1).2
      omega
end
