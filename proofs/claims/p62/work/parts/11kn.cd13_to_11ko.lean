section
/-! 11kn.cd13.lean.txt -/
def g_X11_zonePower_b49  (T : AT) (l0 : Nat) : Option (Nat × Int64 × AT) := oif (oO T l0 11 = true) <| obind (T.2.2.2.2 l0 12) fun n3 => oif (oO T n3 10 = true) <| obind2 (g_X10_value T n3 (0 : Int32)) fun r7 T5 => some (0, r7, T5)
def g_X11_zonePower_b22  (T : AT) (s0 : Nat) (l0 : Nat) (l1 : Int32) : Option (Nat × Int64 × AT) := oif (oO T l0 11 = true) <| obind (T.2.2.2.2 l0 14) fun n3 => oif (oO T n3 6 = true) <| obind (T.2.2.2.2 n3 6) fun n5 => oif (oO T n5 1 = true) <| obind (T.2.2.2.2 n5 6) fun n7 => oif (aA T n7 106 = true) <| oif (inb l1 (T.2.1 n7).2 = true) <| obind (T.2.2.2.2 n7 l1.toNatClampNeg) fun n10 => oif (oO T l0 11 = true) <| obind (T.2.2.2.2 l0 14) fun n12 => oif (oO T n12 6 = true) <| obind (T.2.2.2.2 n12 6) fun n14 => oif (oO T l0 11 = true) <| obind (T.2.2.2.2 l0 12) fun n16 => oif (oO T s0 4 = true) <| obind (g_X4_sumIn T s0 n10 n14 n16 (0 : Int32)) fun T18 => g_X11_zonePower_b49 T18 l0
def g_X11_zonePower (T : AT) (o : Nat) (a0 : Int32) : Option (Nat × Int64 × AT) := oif (oO T o 11 = true) <| othr (g_X11_needCamera T o) 0 fun r5 T3 => oif (oO T3 o 11 = true) <| obind (T3.2.2.2.2 o 14) fun n8 => oif (oO T3 n8 6 = true) <| obind (T3.2.2.2.2 n8 6) fun n10 => oif (oO T3 n10 1 = true) <| elet (T3.2.2.1 n10 7) fun v12 => othr (g_X11_needIndex T3 a0 v12) 0 fun r15 T13 => oif (oO T13 o 11 = true) <| obind2 (g_X11_powersNow T13 o) fun r19 T18 => oif (Nat.blt r19 T18.1 = true) <| g_X11_zonePower_b22 T18 r19 o a0
set_option maxHeartbeats 4000000 in
set_option maxRecDepth 100000 in
theorem s_X11_zonePower_b49 {e1 : Nat} {r1 : Int64} {T1 : AT} : ∀ (T : AT) (l0 : Nat), g_X11_zonePower_b49 T l0 = some (e1, r1, T1) → GL T T1 := by
  intro T l0 h
  have p0 := GL.rf T
  unfold g_X11_zonePower_b49 at h
  obtain ⟨g2, h⟩ := oif_some h
  obtain ⟨n3, en3, h⟩ := obind_some h
  obtain ⟨g4, h⟩ := oif_some h
  obtain ⟨r6, T5, eT5, h⟩ := obind2_some h
  have p1 : GL T T5 := GL.tr p0 (gl_sp (s_X10_value eT5))
  rw [← (osome3 h).2.2]
  exact p1
set_option maxHeartbeats 4000000 in
set_option maxRecDepth 100000 in
theorem s_X11_zonePower_b22 {e1 : Nat} {r1 : Int64} {T1 : AT} : ∀ (T : AT) (s0 : Nat) (l0 : Nat) (l1 : Int32), g_X11_zonePower_b22 T s0 l0 l1 = some (e1, r1, T1) → GL T T1 := by
  intro T s0 l0 l1 h
  have p0 := GL.rf T
  unfold g_X11_zonePower_b22 at h
  obtain ⟨g2, h⟩ := oif_some h
  obtain ⟨n3, en3, h⟩ := obind_some h
  obtain ⟨g4, h⟩ := oif_some h
  obtain ⟨n5, en5, h⟩ := obind_some h
  obtain ⟨g6, h⟩ := oif_some h
  obtain ⟨n7, en7, h⟩ := obind_some h
  obtain ⟨g8, h⟩ := oif_some h
  obtain ⟨g9, h⟩ := oif_some h
  obtain ⟨n10, en10, h⟩ := obind_some h
  obtain ⟨g11, h⟩ := oif_some h
  obtain ⟨n12, en12, h⟩ := obind_some h
  obtain ⟨g13, h⟩ := oif_some h
  obtain ⟨n14, en14, h⟩ := obind_some h
  obtain ⟨g15, h⟩ := oif_some h
  obtain ⟨n16, en16, h⟩ := obind_some h
  obtain ⟨g17, h⟩ := oif_some h
  obtain ⟨T18, eT18, h⟩ := obind_some h
  have p1 : GL T T18 := GL.tr p0 (s_X4_sumIn eT18)
  exact GL.tr p1 (s_X11_zonePower_b49 _ _ h)
set_option maxHeartbeats 4000000 in
set_option maxRecDepth 100000 in
theorem s_X11_zonePower {T : AT} {o : Nat} {a0 : Int32} {e1 : Nat} {r1 : Int64} {T1 : AT} (h : g_X11_zonePower T o a0 = some (e1, r1, T1)) : GL T T1 := by
  have p0 := GL.rf T
  unfold g_X11_zonePower at h
  obtain ⟨g2, h⟩ := oif_some h
  rcases othr_s h with ⟨k9, r9, e9, -⟩ | ⟨r4, T3, eT3, h⟩
  · exact GL.tr p0 (gl_sp (s_X11_needCamera e9))
  have p1 : GL T T3 := GL.tr p0 (gl_sp (s_X11_needCamera eT3))
  obtain ⟨g5, h⟩ := oif_some h
  obtain ⟨n6, en6, h⟩ := obind_some h
  obtain ⟨g7, h⟩ := oif_some h
  obtain ⟨n8, en8, h⟩ := obind_some h
  obtain ⟨g9, h⟩ := oif_some h
  obtain ⟨v10, -, h⟩ := elet_some h
  rcases othr_s h with ⟨k9, r9, e9, -⟩ | ⟨r12, T11, eT11, h⟩
  · exact GL.tr p1 (gl_sp (s_X11_needIndex e9))
  have p2 : GL T T11 := GL.tr p1 (gl_sp (s_X11_needIndex eT11))
  obtain ⟨g13, h⟩ := oif_some h
  obtain ⟨r15, T14, eT14, h⟩ := obind2_some h
  obtain ⟨g16, h⟩ := oif_some h
  have p3 : GL T T14 := GL.tr p2 (s_X11_powersNow eT14)
  exact GL.tr p3 (s_X11_zonePower_b22 _ _ _ _ h)
set_option maxHeartbeats 4000000 in
set_option maxRecDepth 100000 in
theorem a_X11_zonePower_b49 {p : Program} {l : Launch} {e : Env} {s : State} {m : MethodId} {args : Array Value} {below : List Frame} {meth : Method} {c : Code} {Q : State → Prop} {D : va_G} {A : Nat → Prop} {cI cJ cZ cMic cSrc cSt cAI cAJ : ClassId} {ad0 : Nat → Nat} {T0 : AT} {r1 : Int64} {T1 : AT} (E : cE p c cX11_zonePower s m args (Cond.code yX11_zonePower cX11_zonePower 2 (some .long) :: wsA) D RX11 (CT cI cJ cZ cMic cSrc cSt cAI cAJ)) (hA : ∀ q : Nat, s.heap.size ≤ q → A q) (hX : xT A s) (hN : nX s) (hml : c.maxLocals = 2) (hst : l.stackTraces = false) (kr57 : ∀ (ad : Nat → Nat) (H : Heap) (locs : List Loc) (ls : Array Slot), (∀ n, n < T0.1 → ad n = ad0 n) → gC cI cJ cZ cMic cSrc cSt cAI cAJ D ad A s.heap H locs T1 → W p l e { frames := 7, cells := T1.1 - T0.1, slots := sg T1 - sg T0, locals := 149 } s m args below meth c H locs (T1.1 - T0.1) (sg T1 - sg T0) Q (F0 m 57 ls [.long r1])) : ∀ (T : AT) (ad : Nat → Nat) (H : Heap) (locs : List Loc) (ls : Array Slot) (l0 : Nat), g_X11_zonePower_b49 T l0 = some (0, r1, T1) → GL T0 T → RC T → (∀ n, n < T0.1 → ad n = ad0 n) → l0 < T.1 → gC cI cJ cZ cMic cSrc cSt cAI cAJ D ad A s.heap H locs T → lv_has ls 2 [(0, .ref (ad l0))] → W p l e { frames := 7, cells := T1.1 - T0.1, slots := sg T1 - sg T0, locals := 149 } s m args below meth c H locs (T.1 - T0.1) (sg T - sg T0) Q (F0 m 49 ls []) := by
  have hx := E.1
  have hb := E.2.1
  have hts := E.2.2.1
  have hown := E.2.2.2.1
  have hK := E.2.2.2.2
  intro T ad H locs ls l0 h hgl hrc had h_l0 G hl
  have hT1 := s_X11_zonePower_b49 _ _ h
  have hcs := cs_ok hgl hT1
  have cp0 := cpr0 hrc
  unfold g_X11_zonePower_b49 at h
  refine lv_aload_n hx hb dX11_zonePower_49 rfl (lv_at hl 0 rfl) ?_
  obtain ⟨g2, h⟩ := oif_some h
  obtain ⟨n3, en3, h⟩ := obind_some h
  have h_n3 : n3 < T.1 := by rw [← cp0.1]; exact cp0.2.2 _ _ _ en3
  refine c_get E G l0 12 (v := .ref (ad n3)) (oO_k g2).1 (cc_o11 (oO_k g2).2) rfl (fun w h => .tail _ (iA_23 h)) (by decide) (.tail _ qA_671) rfl (by rw [en3]; rfl) dX11_zonePower_50 ?_
  clear en3
  refine lv_iconst (v := 0) hx hb dX11_zonePower_53 (by decide) ?_
  obtain ⟨g4, h⟩ := oif_some h
  obtain ⟨r7, T5, eT5, h⟩ := obind2_some h
  refine q_cvl (As := [.int 0]) (rest := []) E G hA hX hN hml (u_X10_value l hst D cI cJ cZ cMic cSrc cSt cAI cAJ ad T n3 (0 : Int32) eT5) (cwV 1 hts (gaV qA_791 qA_792 qA_793 qA_6 qA_633) rfl rfl rfl (by decide +kernel) ⟨Nat.le_of_ble_eq_true rfl, Nat.le_of_ble_eq_true rfl⟩) (oO_k g4).1 (cc_o10 (oO_k g4).2) rfl rfl hl.1 rfl (lv_room (Nat.le_of_ble_eq_true rfl)) dX11_zonePower_54 hcs (fun q8 T6 H locs hq G => ?_)
  obtain ⟨hq1, hq2⟩ := hq
  rw [hq2] at G
  refine lv_tol hq1 ?_
  clear hq1 hq2
  have cp1 := cpr_sp cp0 (s_X10_value eT5)
  rw [(osome3 h).2.2] at G
  refine w_cast (c2 := T1.1 - T0.1) (s2 := sg T1 - sg T0) (by rw [← (osome3 h).2.2, cp1.1] <;> rfl) (by rw [← (osome3 h).2.2, sg_cpr cp1] <;> rfl) ?_
  refine lv_tol ((osome3 h).2.1) ?_
  exact kr57 ad _ _ _ had G
set_option maxHeartbeats 4000000 in
set_option maxRecDepth 100000 in
theorem a_X11_zonePower_b22 {p : Program} {l : Launch} {e : Env} {s : State} {m : MethodId} {args : Array Value} {below : List Frame} {meth : Method} {c : Code} {Q : State → Prop} {D : va_G} {A : Nat → Prop} {cI cJ cZ cMic cSrc cSt cAI cAJ : ClassId} {ad0 : Nat → Nat} {T0 : AT} {r1 : Int64} {T1 : AT} (E : cE p c cX11_zonePower s m args (Cond.code yX11_zonePower cX11_zonePower 2 (some .long) :: wsA) D RX11 (CT cI cJ cZ cMic cSrc cSt cAI cAJ)) (hA : ∀ q : Nat, s.heap.size ≤ q → A q) (hX : xT A s) (hN : nX s) (hml : c.maxLocals = 2) (hst : l.stackTraces = false) (kr57 : ∀ (ad : Nat → Nat) (H : Heap) (locs : List Loc) (ls : Array Slot), (∀ n, n < T0.1 → ad n = ad0 n) → gC cI cJ cZ cMic cSrc cSt cAI cAJ D ad A s.heap H locs T1 → W p l e { frames := 7, cells := T1.1 - T0.1, slots := sg T1 - sg T0, locals := 149 } s m args below meth c H locs (T1.1 - T0.1) (sg T1 - sg T0) Q (F0 m 57 ls [.long r1])) : ∀ (T : AT) (ad : Nat → Nat) (H : Heap) (locs : List Loc) (ls : Array Slot) (s0 : Nat) (l0 : Nat) (l1 : Int32), g_X11_zonePower_b22 T s0 l0 l1 = some (0, r1, T1) → GL T0 T → RC T → (∀ n, n < T0.1 → ad n = ad0 n) → s0 < T.1 → l0 < T.1 → gC cI cJ cZ cMic cSrc cSt cAI cAJ D ad A s.heap H locs T → lv_has ls 2 [(0, .ref (ad l0)), (1, .int l1)] → W p l e { frames := 7, cells := T1.1 - T0.1, slots := sg T1 - sg T0, locals := 149 } s m args below meth c H locs (T.1 - T0.1) (sg T - sg T0) Q (F0 m 22 ls [.ref (ad s0)]) := by
  have hx := E.1
  have hb := E.2.1
  have hts := E.2.2.1
  have hown := E.2.2.2.1
  have hK := E.2.2.2.2
  intro T ad H locs ls s0 l0 l1 h hgl hrc had h_s0 h_l0 G hl
  have hT1 := s_X11_zonePower_b22 _ _ _ _ h
  have hcs := cs_ok hgl hT1
  have cp0 := cpr0 hrc
  unfold g_X11_zonePower_b22 at h
  refine lv_aload_n hx hb dX11_zonePower_22 rfl (lv_at hl 0 rfl) ?_
  obtain ⟨g2, h⟩ := oif_some h
  obtain ⟨n3, en3, h⟩ := obind_some h
  have h_n3 : n3 < T.1 := by rw [← cp0.1]; exact cp0.2.2 _ _ _ en3
  refine c_get E G l0 14 (v := .ref (ad n3)) (oO_k g2).1 (cc_o11 (oO_k g2).2) rfl (fun w h => .tail _ (iA_23 h)) (by decide) (.tail _ qA_675) rfl (by rw [en3]; rfl) dX11_zonePower_23 ?_
  clear en3
  obtain ⟨g4, h⟩ := oif_some h
  obtain ⟨n5, en5, h⟩ := obind_some h
  have h_n5 : n5 < T.1 := by rw [← cp0.1]; exact cp0.2.2 _ _ _ en5
  refine c_get E G n3 6 (v := .ref (ad n5)) (oO_k g4).1 (cc_o6 (oO_k g4).2) rfl (fun w h => .tail _ (iA_14 h)) (by decide) (.tail _ qA_695) rfl (by rw [en5]; rfl) dX11_zonePower_26 ?_
  clear en5
  obtain ⟨g6, h⟩ := oif_some h
  obtain ⟨n7, en7, h⟩ := obind_some h
  have h_n7 : n7 < T.1 := by rw [← cp0.1]; exact cp0.2.2 _ _ _ en7
  refine c_get E G n5 6 (v := .ref (ad n7)) (oO_k g6).1 (cc_o1 (oO_k g6).2) rfl (fun w h => .tail _ (iA_15 h)) (by decide) (.tail _ qA_830) rfl (by rw [en7]; rfl) dX11_zonePower_29 ?_
  clear en7
  refine lv_iload_n hx hb dX11_zonePower_32 rfl (lv_at hl 1 rfl) ?_
  obtain ⟨g8, h⟩ := oif_some h
  obtain ⟨g9, h⟩ := oif_some h
  obtain ⟨n10, en10, h⟩ := obind_some h
  have h_n10 : n10 < T.1 := by rw [← cp0.1]; exact cp0.2.2 _ _ _ en10
  refine c_alda E G n7 6 (k := l1.toNatClampNeg) (v := .ref (ad n10)) (aA_k g8).1 (cc_a106 (aA_k g8).2.1) rfl (inb_k g9).1 (inb_k g9).2 (aA_k g8).2.2 (by show va_rf ((T.2.2.2.2 n7 l1.toNatClampNeg).map ad) = _; rw [en10]; rfl) dX11_zonePower_33 ?_
  clear en10
  refine lv_aload_n hx hb dX11_zonePower_34 rfl (lv_at hl 0 rfl) ?_
  obtain ⟨g11, h⟩ := oif_some h
  obtain ⟨n12, en12, h⟩ := obind_some h
  have h_n12 : n12 < T.1 := by rw [← cp0.1]; exact cp0.2.2 _ _ _ en12
  refine c_get E G l0 14 (v := .ref (ad n12)) (oO_k g11).1 (cc_o11 (oO_k g11).2) rfl (fun w h => .tail _ (iA_23 h)) (by decide) (.tail _ qA_675) rfl (by rw [en12]; rfl) dX11_zonePower_35 ?_
  clear en12
  obtain ⟨g13, h⟩ := oif_some h
  obtain ⟨n14, en14, h⟩ := obind_some h
  have h_n14 : n14 < T.1 := by rw [← cp0.1]; exact cp0.2.2 _ _ _ en14
  refine c_get E G n12 6 (v := .ref (ad n14)) (oO_k g13).1 (cc_o6 (oO_k g13).2) rfl (fun w h => .tail _ (iA_14 h)) (by decide) (.tail _ qA_695) rfl (by rw [en14]; rfl) dX11_zonePower_38 ?_
  clear en14
  refine lv_aload_n hx hb dX11_zonePower_41 rfl (lv_at hl 0 rfl) ?_
  obtain ⟨g15, h⟩ := oif_some h
  obtain ⟨n16, en16, h⟩ := obind_some h
  have h_n16 : n16 < T.1 := by rw [← cp0.1]; exact cp0.2.2 _ _ _ en16
  refine c_get E G l0 12 (v := .ref (ad n16)) (oO_k g15).1 (cc_o11 (oO_k g15).2) rfl (fun w h => .tail _ (iA_23 h)) (by decide) (.tail _ qA_671) rfl (by rw [en16]; rfl) dX11_zonePower_42 ?_
  clear en16
  refine lv_iconst (v := 0) hx hb dX11_zonePower_45 (by decide) ?_
  obtain ⟨g17, h⟩ := oif_some h
  obtain ⟨T18, eT18, h⟩ := obind_some h
  have hg2 := s_X4_sumIn eT18
  have hrc2 := hg2.2.2 cp0.2.2
  have hT2 := s_X11_zonePower_b49 _ _ h
  refine q_avv (As := [.ref (ad n10), .ref (ad n14), .ref (ad n16), .int 0]) (rest := []) E G hA hX hN hml (a_X4_sumIn l hst D cI cJ cZ cMic cSrc cSt cAI cAJ ad T s0 n10 n14 n16 (0 : Int32) eT18 cp0.2.2 (by rw [cp0.1]; exact h_s0) (by rw [cp0.1]; exact h_n10) (by rw [cp0.1]; exact h_n14) (by rw [cp0.1]; exact h_n16)) (cwV 4 hts (gaV qA_816 qA_817 qA_818 qA_426 qA_438) rfl rfl rfl (by decide +kernel) ⟨Nat.le_of_ble_eq_true rfl, Nat.le_of_ble_eq_true rfl⟩) (oO_k g17).1 (cc_o4 (oO_k g17).2) rfl rfl hl.1 rfl (lv_room (Nat.le_of_ble_eq_true rfl)) dX11_zonePower_46 (cs_av hgl cp0 hg2 hT2) (fun ad2 H locs hga G => ?_)
  refine w_cast (c2 := T18.1 - T0.1) (s2 := sg T18 - sg T0) (cs_f1 hgl cp0 hg2) (cs_f2 hgl cp0 hg2) ?_
  have hl := lv_sub hl [0] rfl
  rw [show ad l0 = ad2 l0 from (hga l0 (by rw [cp0.1]; exact h_l0)).symm] at hl
  exact a_X11_zonePower_b49 E hA hX hN hml hst kr57 _ _ _ _ _ _ h (GL.tr (gl_cpr hgl cp0) hg2) hrc2 (fun n hn => (hga n (by rw [cp0.1]; exact Nat.lt_of_lt_of_le hn hgl.1)).trans (had n hn)) (Nat.lt_of_lt_of_le (by rw [cp0.1]; exact h_l0) hg2.1) G hl
set_option maxHeartbeats 4000000 in
set_option maxRecDepth 100000 in
theorem a_X11_zonePower (l : Launch) (hst : l.stackTraces = false) (D : va_G) (cI cJ cZ cMic cSrc cSt cAI cAJ : ClassId) (ad : Nat → Nat) (T : AT) (o : Nat) (a0 : Int32) {r1 : Int64} {T1 : AT} (h : g_X11_zonePower T o a0 = some (0, r1, T1)) (hrc : RC T) (h_o : o < T.1) : kAl l yX11_zonePower (Cond.code yX11_zonePower cX11_zonePower 2 (some .long) :: wsA) 7 149 cI cJ cZ cMic cSrc cSt cAI cAJ D ad T [.ref (ad o), .int a0] r1 T1 := by
  intro sz
  refine Met.ofW (cc := cX11_zonePower) (maxL := 2) (ret := (some .long)) (by decide) rfl ?_
  intro p e s m args below meth c s₁ B hml hv
  obtain ⟨rfl, hsz, hP, hK, hD0, hX, hN⟩ := hv
  have hx := B.exec
  have hb := B.bytes
  have hr := B.returns
  have hts := atoms_spec (ws := (Cond.code yX11_zonePower cX11_zonePower 2 (some .long) :: wsA)) B.pre
  have hown : s.vm.findClass RX11 = some m.cls := findClass_of_methodNamed B.named
  have hlocks := B.notSynchronized
  subst hsz
  have hD := hD0.self (sz := s.heap.size)
  generalize hAe : va_A (cW ad T.1 (cc cI cJ cZ cMic cSrc cSt cAI cAJ ad T)) s.heap.size = A at hD hX ⊢
  have hA : ∀ q : Nat, s.heap.size ≤ q → A q := fun q h => by rw [← hAe]; exact Or.inr h
  have G : gC cI cJ cZ cMic cSrc cSt cAI cAJ D ad A s.heap s.heap [] T := ⟨hP, hD, va_S.rf⟩
  have E : cE p c cX11_zonePower s m ([.ref (ad o), .int a0] : List Value).toArray (Cond.code yX11_zonePower cX11_zonePower 2 (some .long) :: wsA) D RX11 (CT cI cJ cZ cMic cSrc cSt cAI cAJ) := ⟨hx, hb, hts, hown, hK⟩
  have hl := lv_entry ([.ref (ad o), .int a0]) (n := 2) (Nat.le_of_ble_eq_true rfl)
  rw [lg_entry_eq]
  generalize (lg_sl ([.ref (ad o), .int a0]) ++ List.replicate (2 - (lg_sl ([.ref (ad o), .int a0])).length) Slot.unset).toArray = ls at hl ⊢
  have hl : lv_has ls 2 [(0, .ref (ad o)), (1, .int a0)] := hl
  have hgl := GL.rf T
  have had : ∀ n, n < T.1 → ad n = ad n := fun _ _ => rfl
  have hT1 := s_X11_zonePower h
  have hcs := cs_ok hgl hT1
  refine w_cast (Nat.sub_self T.1).symm (Nat.sub_self (sg T)).symm ?_
  have cp0 := cpr0 hrc
  unfold g_X11_zonePower at h
  refine lv_aload_n hx hb dX11_zonePower_0 rfl (lv_at hl 0 rfl) ?_
  obtain ⟨g2, h⟩ := oif_some h
  obtain ⟨r5, T3, eT3, h⟩ := othr_n h
  refine q_cvv (As := []) (rest := []) E G hA hX hN hml (u_X11_needCamera l hst D cI cJ cZ cMic cSrc cSt cAI cAJ ad T o eT3) (cwV 0 hts (gaV qA_728 qA_729 qA_730 qA_131 qA_731) rfl rfl rfl (by decide +kernel) ⟨Nat.le_of_ble_eq_true rfl, Nat.le_of_ble_eq_true rfl⟩) (oO_k g2).1 (cc_o11 (oO_k g2).2) rfl rfl hl.1 rfl (lv_room (Nat.le_of_ble_eq_true rfl)) dX11_zonePower_1 hcs (fun T4 H locs hq G => ?_)
  rw [hq] at G
  clear hq
  have cp1 := cpr_sp cp0 (s_X11_needCamera eT3)
  refine lv_iload_n hx hb dX11_zonePower_4 rfl (lv_at hl 1 rfl) ?_
  refine lv_aload_n hx hb dX11_zonePower_5 rfl (lv_at hl 0 rfl) ?_
  obtain ⟨g7, h⟩ := oif_some h
  obtain ⟨n8, en8, h⟩ := obind_some h
  have h_n8 : n8 < T.1 := by rw [← cp1.1]; exact cp1.2.2 _ _ _ en8
  refine c_get E G o 14 (v := .ref (ad n8)) (oO_k g7).1 (cc_o11 (oO_k g7).2) rfl (fun w h => .tail _ (iA_23 h)) (by decide) (.tail _ qA_675) rfl (by rw [en8]; rfl) dX11_zonePower_6 ?_
  clear en8
  obtain ⟨g9, h⟩ := oif_some h
  obtain ⟨n10, en10, h⟩ := obind_some h
  have h_n10 : n10 < T.1 := by rw [← cp1.1]; exact cp1.2.2 _ _ _ en10
  refine c_get E G n8 6 (v := .ref (ad n10)) (oO_k g9).1 (cc_o6 (oO_k g9).2) rfl (fun w h => .tail _ (iA_14 h)) (by decide) (.tail _ qA_695) rfl (by rw [en10]; rfl) dX11_zonePower_9 ?_
  clear en10
  obtain ⟨g11, h⟩ := oif_some h
  refine c_get E G n10 7 (oO_k g11).1 (cc_o1 (oO_k g11).2) rfl (fun w h => .tail _ (iA_15 h)) (by decide) (.tail _ qA_829) rfl rfl dX11_zonePower_12 ?_
  refine lv_topi (fun v12 ev12 => ?_)
  have h := elet_at ev12 h
  clear ev12
  obtain ⟨r15, T13, eT13, h⟩ := othr_n h
  refine q_csv (As := [.int a0, .int v12]) (rest := []) E G hA hX hN hml (u_X11_needIndex l hst D cI cJ cZ cMic cSrc cSt cAI cAJ ad T3 a0 v12 eT13) (cwS 2 hts (gaS qA_738 qA_739 qA_131 qA_740) rfl rfl rfl (by decide +kernel) ⟨Nat.le_of_ble_eq_true rfl, Nat.le_of_ble_eq_true rfl⟩) rfl hl.1 rfl (lv_room (Nat.le_of_ble_eq_true rfl)) dX11_zonePower_15 hcs (fun T14 H locs hq G => ?_)
  rw [hq] at G
  clear hq
  have cp2 := cpr_sp cp1 (s_X11_needIndex eT13)
  refine lv_aload_n hx hb dX11_zonePower_18 rfl (lv_at hl 0 rfl) ?_
  obtain ⟨g17, h⟩ := oif_some h
  obtain ⟨r19, T18, eT18, h⟩ := obind2_some h
  obtain ⟨g20, h⟩ := oif_some h
  have hg2 := s_X11_powersNow eT18
  have hrc2 := hg2.2.2 cp2.2.2
  have hT2 := s_X11_zonePower_b22 _ _ _ _ h
  refine q_avr (As := []) (rest := []) E G hA hX hN hml (a_X11_powersNow l hst D cI cJ cZ cMic cSrc cSt cAI cAJ ad T13 o eT18 cp2.2.2 (by rw [cp2.1]; exact h_o)) (cwV 0 hts (gaV qA_799 qA_800 qA_801 qA_131 qA_802) rfl rfl rfl (by decide +kernel) ⟨Nat.le_of_ble_eq_true rfl, Nat.le_of_ble_eq_true rfl⟩) (oO_k g17).1 (cc_o11 (oO_k g17).2) rfl rfl hl.1 rfl (lv_room (Nat.le_of_ble_eq_true rfl)) dX11_zonePower_19 (cs_av hgl cp2 hg2 hT2) (fun ad2 H locs hga G => ?_)
  refine w_cast (c2 := T18.1 - T.1) (s2 := sg T18 - sg T) (cs_f1 hgl cp2 hg2) (cs_f2 hgl cp2 hg2) ?_
  have h_new : r19 < T18.1 := Nat.le_of_ble_eq_true g20
  have hl := lv_sub hl [0, 1] rfl
  rw [show ad o = ad2 o from (hga o (by rw [cp2.1]; exact h_o)).symm] at hl
  exact a_X11_zonePower_b22 E hA hX hN hml hst (fun ad H locs ls had G => W.lret (v := r1) hx hb hr (fun t ht hW => ⟨⟨r1, (T1, ad), rfl, ⟨rfl, rfl, had⟩, ⟨by rw [ht]; exact G.1, va_K.moved hW.alike hK, G.2.1⟩⟩, G.2.2.F ht⟩) G.2.2.2.2 dX11_zonePower_57) _ _ _ _ _ _ _ _ h (GL.tr (gl_cpr hgl cp2) hg2) hrc2 (fun n hn => (hga n (by rw [cp2.1]; exact Nat.lt_of_lt_of_le hn hgl.1)).trans (had n hn)) h_new (Nat.lt_of_lt_of_le (by rw [cp2.1]; exact h_o) hg2.1) G hl
set_option maxHeartbeats 4000000 in
set_option maxRecDepth 100000 in
theorem b_X11_zonePower_b49 {p : Program} {l : Launch} {e : Env} {s : State} {m : MethodId} {args : Array Value} {below : List Frame} {meth : Method} {c : Code} {Qc : Array Value → State → Outcome → State → Prop} {XC : String → State → State → Prop} {D : va_G} {A : Nat → Prop} {cI cJ cZ cMic cSrc cSt cAI cAJ : ClassId} {ad0 : Nat → Nat} {T0 : AT} {e1 : Nat} {r1 : Int64} {T1 : AT} (E : cE p c cX11_zonePower s m args (Cond.code yX11_zonePower cX11_zonePower 2 (some .long) :: wsA) D RX11 (CT cI cJ cZ cMic cSrc cSt cAI cAJ)) (hA : ∀ q : Nat, s.heap.size ≤ q → A q) (hX : xT A s) (hN : nX s) (hml : c.maxLocals = 2) (hst : l.stackTraces = false) (htab : ∀ x ∈ c.exceptionTable.toList, False) (hlocks : meth.locks = false) (kx : ∀ (ad : Nat → Nat) (H : Heap) (locs : List Loc) (t : State), (∀ n, n < T0.1 → ad n = ad0 n) → gC cI cJ cZ cMic cSrc cSt cAI cAJ D ad A s.heap H locs T1 → s.vm.Alike t.vm → H.size ≤ t.heap.size → (∀ q, q < H.size → t.heap[q]? = H[q]?) → XC (exn e1) s t) : ∀ (T : AT) (ad : Nat → Nat) (H : Heap) (locs : List Loc) (ls : Array Slot) (l0 : Nat), g_X11_zonePower_b49 T l0 = some (e1 + 1, r1, T1) → GL T0 T → RC T → (∀ n, n < T0.1 → ad n = ad0 n) → l0 < T.1 → gC cI cJ cZ cMic cSrc cSt cAI cAJ D ad A s.heap H locs T → lv_has ls 2 [(0, .ref (ad l0))] → W p l e { frames := 7, cells := T1.1 - T0.1 + 1, slots := sg T1 - sg T0 + 6, locals := 149 } s m args below meth c H locs (T.1 - T0.1) (sg T - sg T0) (vx_MQ below Qc XC args s (T1.1 - T0.1 + 1) (sg T1 - sg T0 + 6) A) (F0 m 49 ls []) := by
  have hx := E.1
  have hb := E.2.1
  have hts := E.2.2.1
  have hown := E.2.2.2.1
  have hK := E.2.2.2.2
  intro T ad H locs ls l0 h hgl hrc had h_l0 G hl
  have hT1 := s_X11_zonePower_b49 _ _ h
  have hcs := cs_okx hgl hT1
  have hcx := cs_okx1 hgl hT1
  have cp0 := cpr0 hrc
  unfold g_X11_zonePower_b49 at h
  refine lv_aload_n hx hb dX11_zonePower_49 rfl (lv_at hl 0 rfl) ?_
  obtain ⟨g2, h⟩ := oif_some h
  obtain ⟨n3, en3, h⟩ := obind_some h
  have h_n3 : n3 < T.1 := by rw [← cp0.1]; exact cp0.2.2 _ _ _ en3
  refine c_get E G l0 12 (v := .ref (ad n3)) (oO_k g2).1 (cc_o11 (oO_k g2).2) rfl (fun w h => .tail _ (iA_23 h)) (by decide) (.tail _ qA_671) rfl (by rw [en3]; rfl) dX11_zonePower_50 ?_
  clear en3
  refine lv_iconst (v := 0) hx hb dX11_zonePower_53 (by decide) ?_
  obtain ⟨g4, h⟩ := oif_some h
  obtain ⟨r7, T5, eT5, h⟩ := obind2_some h
  refine q_cvl (As := [.int 0]) (rest := []) E G hA hX hN hml (u_X10_value l hst D cI cJ cZ cMic cSrc cSt cAI cAJ ad T n3 (0 : Int32) eT5) (cwV 1 hts (gaV qA_791 qA_792 qA_793 qA_6 qA_633) rfl rfl rfl (by decide +kernel) ⟨Nat.le_of_ble_eq_true rfl, Nat.le_of_ble_eq_true rfl⟩) (oO_k g4).1 (cc_o10 (oO_k g4).2) rfl rfl hl.1 rfl (lv_room (Nat.le_of_ble_eq_true rfl)) dX11_zonePower_54 hcs (fun q8 T6 H locs hq G => ?_)
  obtain ⟨hq1, hq2⟩ := hq
  rw [hq2] at G
  refine lv_tol hq1 ?_
  clear hq1 hq2
  have cp1 := cpr_sp cp0 (s_X10_value eT5)
  exact (Nat.succ_ne_zero _ (congrArg Prod.fst (Option.some.inj h)).symm).elim
set_option maxHeartbeats 4000000 in
set_option maxRecDepth 100000 in
theorem b_X11_zonePower_b22 {p : Program} {l : Launch} {e : Env} {s : State} {m : MethodId} {args : Array Value} {below : List Frame} {meth : Method} {c : Code} {Qc : Array Value → State → Outcome → State → Prop} {XC : String → State → State → Prop} {D : va_G} {A : Nat → Prop} {cI cJ cZ cMic cSrc cSt cAI cAJ : ClassId} {ad0 : Nat → Nat} {T0 : AT} {e1 : Nat} {r1 : Int64} {T1 : AT} (E : cE p c cX11_zonePower s m args (Cond.code yX11_zonePower cX11_zonePower 2 (some .long) :: wsA) D RX11 (CT cI cJ cZ cMic cSrc cSt cAI cAJ)) (hA : ∀ q : Nat, s.heap.size ≤ q → A q) (hX : xT A s) (hN : nX s) (hml : c.maxLocals = 2) (hst : l.stackTraces = false) (htab : ∀ x ∈ c.exceptionTable.toList, False) (hlocks : meth.locks = false) (kx : ∀ (ad : Nat → Nat) (H : Heap) (locs : List Loc) (t : State), (∀ n, n < T0.1 → ad n = ad0 n) → gC cI cJ cZ cMic cSrc cSt cAI cAJ D ad A s.heap H locs T1 → s.vm.Alike t.vm → H.size ≤ t.heap.size → (∀ q, q < H.size → t.heap[q]? = H[q]?) → XC (exn e1) s t) : ∀ (T : AT) (ad : Nat → Nat) (H : Heap) (locs : List Loc) (ls : Array Slot) (s0 : Nat) (l0 : Nat) (l1 : Int32), g_X11_zonePower_b22 T s0 l0 l1 = some (e1 + 1, r1, T1) → GL T0 T → RC T → (∀ n, n < T0.1 → ad n = ad0 n) → s0 < T.1 → l0 < T.1 → gC cI cJ cZ cMic cSrc cSt cAI cAJ D ad A s.heap H locs T → lv_has ls 2 [(0, .ref (ad l0)), (1, .int l1)] → W p l e { frames := 7, cells := T1.1 - T0.1 + 1, slots := sg T1 - sg T0 + 6, locals := 149 } s m args below meth c H locs (T.1 - T0.1) (sg T - sg T0) (vx_MQ below Qc XC args s (T1.1 - T0.1 + 1) (sg T1 - sg T0 + 6) A) (F0 m 22 ls [.ref (ad s0)]) := by
  have hx := E.1
  have hb := E.2.1
  have hts := E.2.2.1
  have hown := E.2.2.2.1
  have hK := E.2.2.2.2
  intro T ad H locs ls s0 l0 l1 h hgl hrc had h_s0 h_l0 G hl
  have hT1 := s_X11_zonePower_b22 _ _ _ _ h
  have hcs := cs_okx hgl hT1
  have hcx := cs_okx1 hgl hT1
  have cp0 := cpr0 hrc
  unfold g_X11_zonePower_b22 at h
  refine lv_aload_n hx hb dX11_zonePower_22 rfl (lv_at hl 0 rfl) ?_
  obtain ⟨g2, h⟩ := oif_some h
  obtain ⟨n3, en3, h⟩ := obind_some h
  have h_n3 : n3 < T.1 := by rw [← cp0.1]; exact cp0.2.2 _ _ _ en3
  refine c_get E G l0 14 (v := .ref (ad n3)) (oO_k g2).1 (cc_o11 (oO_k g2).2) rfl (fun w h => .tail _ (iA_23 h)) (by decide) (.tail _ qA_675) rfl (by rw [en3]; rfl) dX11_zonePower_23 ?_
  clear en3
  obtain ⟨g4, h⟩ := oif_some h
  obtain ⟨n5, en5, h⟩ := obind_some h
  have h_n5 : n5 < T.1 := by rw [← cp0.1]; exact cp0.2.2 _ _ _ en5
  refine c_get E G n3 6 (v := .ref (ad n5)) (oO_k g4).1 (cc_o6 (oO_k g4).2) rfl (fun w h => .tail _ (iA_14 h)) (by decide) (.tail _ qA_695) rfl (by rw [en5]; rfl) dX11_zonePower_26 ?_
  clear en5
  obtain ⟨g6, h⟩ := oif_some h
  obtain ⟨n7, en7, h⟩ := obind_some h
  have h_n7 : n7 < T.1 := by rw [← cp0.1]; exact cp0.2.2 _ _ _ en7
  refine c_get E G n5 6 (v := .ref (ad n7)) (oO_k g6).1 (cc_o1 (oO_k g6).2) rfl (fun w h => .tail _ (iA_15 h)) (by decide) (.tail _ qA_830) rfl (by rw [en7]; rfl) dX11_zonePower_29 ?_
  clear en7
  refine lv_iload_n hx hb dX11_zonePower_32 rfl (lv_at hl 1 rfl) ?_
  obtain ⟨g8, h⟩ := oif_some h
  obtain ⟨g9, h⟩ := oif_some h
  obtain ⟨n10, en10, h⟩ := obind_some h
  have h_n10 : n10 < T.1 := by rw [← cp0.1]; exact cp0.2.2 _ _ _ en10
  refine c_alda E G n7 6 (k := l1.toNatClampNeg) (v := .ref (ad n10)) (aA_k g8).1 (cc_a106 (aA_k g8).2.1) rfl (inb_k g9).1 (inb_k g9).2 (aA_k g8).2.2 (by show va_rf ((T.2.2.2.2 n7 l1.toNatClampNeg).map ad) = _; rw [en10]; rfl) dX11_zonePower_33 ?_
  clear en10
  refine lv_aload_n hx hb dX11_zonePower_34 rfl (lv_at hl 0 rfl) ?_
  obtain ⟨g11, h⟩ := oif_some h
  obtain ⟨n12, en12, h⟩ := obind_some h
  have h_n12 : n12 < T.1 := by rw [← cp0.1]; exact cp0.2.2 _ _ _ en12
  refine c_get E G l0 14 (v := .ref (ad n12)) (oO_k g11).1 (cc_o11 (oO_k g11).2) rfl (fun w h => .tail _ (iA_23 h)) (by decide) (.tail _ qA_675) rfl (by rw [en12]; rfl) dX11_zonePower_35 ?_
  clear en12
  obtain ⟨g13, h⟩ := oif_some h
  obtain ⟨n14, en14, h⟩ := obind_some h
  have h_n14 : n14 < T.1 := by rw [← cp0.1]; exact cp0.2.2 _ _ _ en14
  refine c_get E G n12 6 (v := .ref (ad n14)) (oO_k g13).1 (cc_o6 (oO_k g13).2) rfl (fun w h => .tail _ (iA_14 h)) (by decide) (.tail _ qA_695) rfl (by rw [en14]; rfl) dX11_zonePower_38 ?_
  clear en14
  refine lv_aload_n hx hb dX11_zonePower_41 rfl (lv_at hl 0 rfl) ?_
  obtain ⟨g15, h⟩ := oif_some h
  obtain ⟨n16, en16, h⟩ := obind_some h
  have h_n16 : n16 < T.1 := by rw [← cp0.1]; exact cp0.2.2 _ _ _ en16
  refine c_get E G l0 12 (v := .ref (ad n16)) (oO_k g15).1 (cc_o11 (oO_k g15).2) rfl (fun w h => .tail _ (iA_23 h)) (by decide) (.tail _ qA_671) rfl (by rw [en16]; rfl) dX11_zonePower_42 ?_
  clear en16
  refine lv_iconst (v := 0) hx hb dX11_zonePower_45 (by decide) ?_
  obtain ⟨g17, h⟩ := oif_some h
  obtain ⟨T18, eT18, h⟩ := obind_some h
  have hg2 := s_X4_sumIn eT18
  have hrc2 := hg2.2.2 cp0.2.2
  have hT2 := s_X11_zonePower_b49 _ _ h
  refine q_avv (As := [.ref (ad n10), .ref (ad n14), .ref (ad n16), .int 0]) (rest := []) E G hA hX hN hml (a_X4_sumIn l hst D cI cJ cZ cMic cSrc cSt cAI cAJ ad T s0 n10 n14 n16 (0 : Int32) eT18 cp0.2.2 (by rw [cp0.1]; exact h_s0) (by rw [cp0.1]; exact h_n10) (by rw [cp0.1]; exact h_n14) (by rw [cp0.1]; exact h_n16)) (cwV 4 hts (gaV qA_816 qA_817 qA_818 qA_426 qA_438) rfl rfl rfl (by decide +kernel) ⟨Nat.le_of_ble_eq_true rfl, Nat.le_of_ble_eq_true rfl⟩) (oO_k g17).1 (cc_o4 (oO_k g17).2) rfl rfl hl.1 rfl (lv_room (Nat.le_of_ble_eq_true rfl)) dX11_zonePower_46 (cs_avx hgl cp0 hg2 hT2) (fun ad2 H locs hga G => ?_)
  refine w_cast (c2 := T18.1 - T0.1) (s2 := sg T18 - sg T0) (cs_f1 hgl cp0 hg2) (cs_f2 hgl cp0 hg2) ?_
  have hl := lv_sub hl [0] rfl
  rw [show ad l0 = ad2 l0 from (hga l0 (by rw [cp0.1]; exact h_l0)).symm] at hl
  exact b_X11_zonePower_b49 E hA hX hN hml hst htab hlocks kx _ _ _ _ _ _ h (GL.tr (gl_cpr hgl cp0) hg2) hrc2 (fun n hn => (hga n (by rw [cp0.1]; exact Nat.lt_of_lt_of_le hn hgl.1)).trans (had n hn)) (Nat.lt_of_lt_of_le (by rw [cp0.1]; exact h_l0) hg2.1) G hl
set_option maxHeartbeats 4000000 in
set_option maxRecDepth 100000 in
theorem b_X11_zonePower (l : Launch) (hst : l.stackTraces = false) (D : va_G) (cI cJ cZ cMic cSrc cSt cAI cAJ : ClassId) (ad : Nat → Nat) (T : AT) (o : Nat) (a0 : Int32) {e1 : Nat} {r1 : Int64} {T1 : AT} (h : g_X11_zonePower T o a0 = some (e1 + 1, r1, T1)) (hrc : RC T) (h_o : o < T.1) : kAXl l yX11_zonePower (Cond.code yX11_zonePower cX11_zonePower 2 (some .long) :: wsA) 7 149 cI cJ cZ cMic cSrc cSt cAI cAJ D ad T [.ref (ad o), .int a0] e1 T1 := by
  intro sz
  refine vx_ofW (cc := cX11_zonePower) (maxL := 2) (ret := (some .long)) (by decide) rfl ?_
  intro p e s m args below meth c s₁ B hml htab hv
  obtain ⟨rfl, hsz, hP, hK, hD0, hX, hN⟩ := hv
  have hx := B.exec
  have hb := B.bytes
  have hr := B.returns
  have hts := atoms_spec (ws := (Cond.code yX11_zonePower cX11_zonePower 2 (some .long) :: wsA)) B.pre
  have hown : s.vm.findClass RX11 = some m.cls := findClass_of_methodNamed B.named
  have hlocks := B.notSynchronized
  subst hsz
  have hD := hD0.self (sz := s.heap.size)
  generalize hAe : va_A (cW ad T.1 (cc cI cJ cZ cMic cSrc cSt cAI cAJ ad T)) s.heap.size = A at hD hX ⊢
  have hA : ∀ q : Nat, s.heap.size ≤ q → A q := fun q h => by rw [← hAe]; exact Or.inr h
  have G : gC cI cJ cZ cMic cSrc cSt cAI cAJ D ad A s.heap s.heap [] T := ⟨hP, hD, va_S.rf⟩
  have E : cE p c cX11_zonePower s m ([.ref (ad o), .int a0] : List Value).toArray (Cond.code yX11_zonePower cX11_zonePower 2 (some .long) :: wsA) D RX11 (CT cI cJ cZ cMic cSrc cSt cAI cAJ) := ⟨hx, hb, hts, hown, hK⟩
  have htab : ∀ x ∈ c.exceptionTable.toList, False := fun x hx => htab x hx
  have hl := lv_entry ([.ref (ad o), .int a0]) (n := 2) (Nat.le_of_ble_eq_true rfl)
  rw [lg_entry_eq]
  generalize (lg_sl ([.ref (ad o), .int a0]) ++ List.replicate (2 - (lg_sl ([.ref (ad o), .int a0])).length) Slot.unset).toArray = ls at hl ⊢
  have hl : lv_has ls 2 [(0, .ref (ad o)), (1, .int a0)] := hl
  have hgl := GL.rf T
  have had : ∀ n, n < T.1 → ad n = ad n := fun _ _ => rfl
  have hT1 := s_X11_zonePower h
  have hcs := cs_okx hgl hT1
  have hcx := cs_okx1 hgl hT1
  refine w_cast (Nat.sub_self T.1).symm (Nat.sub_self (sg T)).symm ?_
  have cp0 := cpr0 hrc
  unfold g_X11_zonePower at h
  refine lv_aload_n hx hb dX11_zonePower_0 rfl (lv_at hl 0 rfl) ?_
  obtain ⟨g2, h⟩ := oif_some h
  rcases othr_t h with ⟨r0, eT3⟩ | ⟨r5, T3, eT3, h⟩
  · refine q_xvv (As := []) (rest := []) E G hA hX hN hml (x_X11_needCamera l hst D cI cJ cZ cMic cSrc cSt cAI cAJ ad T o eT3) (cwV 0 hts (gaV qA_728 qA_729 qA_730 qA_131 qA_731) rfl rfl rfl (by decide +kernel) ⟨Nat.le_of_ble_eq_true rfl, Nat.le_of_ble_eq_true rfl⟩) (oO_k g2).1 (cc_o11 (oO_k g2).2) rfl rfl hl.1 rfl (lv_room (Nat.le_of_ble_eq_true rfl)) dX11_zonePower_1 hcx (fun E9 ce q9 T9 H locs hp G hce hcv hcl => ?_)
    obtain ⟨hE, hT⟩ := hp
    subst hE
    rw [hT] at G
    exact vx_out (fun x hx => (htab x hx).elim) hlocks hce hcv hcl (fun t ht hvm => ⟨(T1, ad), trivial, ⟨⟨rfl, rfl, had⟩, by rw [ht]; exact G.1, va_K.moved hvm hK, G.2.1⟩, G.2.2.F ht⟩) G.2.2.2.2 hcx.1 hcx.2
  refine q_cvv (As := []) (rest := []) E G hA hX hN hml (u_X11_needCamera l hst D cI cJ cZ cMic cSrc cSt cAI cAJ ad T o eT3) (cwV 0 hts (gaV qA_728 qA_729 qA_730 qA_131 qA_731) rfl rfl rfl (by decide +kernel) ⟨Nat.le_of_ble_eq_true rfl, Nat.le_of_ble_eq_true rfl⟩) (oO_k g2).1 (cc_o11 (oO_k g2).2) rfl rfl hl.1 rfl (lv_room (Nat.le_of_ble_eq_true rfl)) dX11_zonePower_1 hcs (fun T4 H locs hq G => ?_)
  rw [hq] at G
  clear hq
  have cp1 := cpr_sp cp0 (s_X11_needCamera eT3)
  refine lv_iload_n hx hb dX11_zonePower_4 rfl (lv_at hl 1 rfl) ?_
  refine lv_aload_n hx hb dX11_zonePower_5 rfl (lv_at hl 0 rfl) ?_
  obtain ⟨g7, h⟩ := oif_some h
  obtain ⟨n8, en8, h⟩ := obind_some h
  have h_n8 : n8 < T.1 := by rw [← cp1.1]; exact cp1.2.2 _ _ _ en8
  refine c_get E G o 14 (v := .ref (ad n8)) (oO_k g7).1 (cc_o11 (oO_k g7).2) rfl (fun w h => .tail _ (iA_23 h)) (by decide) (.tail _ qA_675) rfl (by rw [en8]; rfl) dX11_zonePower_6 ?_
  clear en8
  obtain ⟨g9, h⟩ := oif_some h
  obtain ⟨n10, en10, h⟩ := obind_some h
  have h_n10 : n10 < T.1 := by rw [← cp1.1]; exact cp1.2.2 _ _ _ en10
  refine c_get E G n8 6 (v := .ref (ad n10)) (oO_k g9).1 (cc_o6 (oO_k g9).2) rfl (fun w h => .tail _ (iA_14 h)) (by decide) (.tail _ qA_695) rfl (by rw [en10]; rfl) dX11_zonePower_9 ?_
  clear en10
  obtain ⟨g11, h⟩ := oif_some h
  refine c_get E G n10 7 (oO_k g11).1 (cc_o1 (oO_k g11).2) rfl (fun w h => .tail _ (iA_15 h)) (by decide) (.tail _ qA_829) rfl rfl dX11_zonePower_12 ?_
  refine lv_topi (fun v12 ev12 => ?_)
  have h := elet_at ev12 h
  clear ev12
  rcases othr_t h with ⟨r0, eT13⟩ | ⟨r15, T13, eT13, h⟩
  · refine q_xsv (As := [.int a0, .int v12]) (rest := []) E G hA hX hN hml (x_X11_needIndex l hst D cI cJ cZ cMic cSrc cSt cAI cAJ ad T3 a0 v12 eT13) (cwS 2 hts (gaS qA_738 qA_739 qA_131 qA_740) rfl rfl rfl (by decide +kernel) ⟨Nat.le_of_ble_eq_true rfl, Nat.le_of_ble_eq_true rfl⟩) rfl hl.1 rfl (lv_room (Nat.le_of_ble_eq_true rfl)) dX11_zonePower_15 hcx (fun E9 ce q9 T9 H locs hp G hce hcv hcl => ?_)
    obtain ⟨hE, hT⟩ := hp
    subst hE
    rw [hT] at G
    exact vx_out (fun x hx => (htab x hx).elim) hlocks hce hcv hcl (fun t ht hvm => ⟨(T1, ad), trivial, ⟨⟨rfl, rfl, had⟩, by rw [ht]; exact G.1, va_K.moved hvm hK, G.2.1⟩, G.2.2.F ht⟩) G.2.2.2.2 hcx.1 hcx.2
  refine q_csv (As := [.int a0, .int v12]) (rest := []) E G hA hX hN hml (u_X11_needIndex l hst D cI cJ cZ cMic cSrc cSt cAI cAJ ad T3 a0 v12 eT13) (cwS 2 hts (gaS qA_738 qA_739 qA_131 qA_740) rfl rfl rfl (by decide +kernel) ⟨Nat.le_of_ble_eq_true rfl, Nat.le_of_ble_eq_true rfl⟩) rfl hl.1 rfl (lv_room (Nat.le_of_ble_eq_true rfl)) dX11_zonePower_15 hcs (fun T14 H locs hq G => ?_)
  rw [hq] at G
  clear hq
  have cp2 := cpr_sp cp1 (s_X11_needIndex eT13)
  refine lv_aload_n hx hb dX11_zonePower_18 rfl (lv_at hl 0 rfl) ?_
  obtain ⟨g17, h⟩ := oif_some h
  obtain ⟨r19, T18, eT18, h⟩ := obind2_some h
  obtain ⟨g20, h⟩ := oif_some h
  have hg2 := s_X11_powersNow eT18
  have hrc2 := hg2.2.2 cp2.2.2
  have hT2 := s_X11_zonePower_b22 _ _ _ _ h
  refine q_avr (As := []) (rest := []) E G hA hX hN hml (a_X11_powersNow l hst D cI cJ cZ cMic cSrc cSt cAI cAJ ad T13 o eT18 cp2.2.2 (by rw [cp2.1]; exact h_o)) (cwV 0 hts (gaV qA_799 qA_800 qA_801 qA_131 qA_802) rfl rfl rfl (by decide +kernel) ⟨Nat.le_of_ble_eq_true rfl, Nat.le_of_ble_eq_true rfl⟩) (oO_k g17).1 (cc_o11 (oO_k g17).2) rfl rfl hl.1 rfl (lv_room (Nat.le_of_ble_eq_true rfl)) dX11_zonePower_19 (cs_avx hgl cp2 hg2 hT2) (fun ad2 H locs hga G => ?_)
  refine w_cast (c2 := T18.1 - T.1) (s2 := sg T18 - sg T) (cs_f1 hgl cp2 hg2) (cs_f2 hgl cp2 hg2) ?_
  have h_new : r19 < T18.1 := Nat.le_of_ble_eq_true g20
  have hl := lv_sub hl [0, 1] rfl
  rw [show ad o = ad2 o from (hga o (by rw [cp2.1]; exact h_o)).symm] at hl
  exact b_X11_zonePower_b22 E hA hX hN hml hst htab hlocks (fun ad H locs t had G hvm h1 h2 => ⟨(T1, ad), trivial, ⟨⟨rfl, rfl, had⟩, (c_thrown G hK hvm h1 h2).1⟩, (c_thrown G hK hvm h1 h2).2⟩) _ _ _ _ _ _ _ _ h (GL.tr (gl_cpr hgl cp2) hg2) hrc2 (fun n hn => (hga n (by rw [cp2.1]; exact Nat.lt_of_lt_of_le hn hgl.1)).trans (had n hn)) h_new (Nat.lt_of_lt_of_le (by rw [cp2.1]; exact h_o) hg2.1) G hl
def g_X11_zoneBest_b41  (T : AT) (s0 : Nat) (s1 : Nat) (s2 : Nat) : Option (Nat × Int32 × AT) := oif (oO T s0 4 = true) <| obind (T.2.2.2.2 s0 1) fun n3 => oif (oO T s2 1 = true) <| obind2 (g_X1_bestIn T s2 s1 n3 (0 : Int32)) fun r7 T5 => some (0, r7, T5)
def g_X11_zoneBest (T : AT) (o : Nat) (a0 : Int32) : Option (Nat × Int32 × AT) := oif (oO T o 11 = true) <| othr (g_X11_needCamera T o) 0 fun r5 T3 => oif (oO T3 o 11 = true) <| obind (T3.2.2.2.2 o 14) fun n8 => oif (oO T3 n8 6 = true) <| obind (T3.2.2.2.2 n8 6) fun n10 => oif (oO T3 n10 1 = true) <| elet (T3.2.2.1 n10 7) fun v12 => othr (g_X11_needIndex T3 a0 v12) 0 fun r15 T13 => oif (oO T13 o 11 = true) <| obind (T13.2.2.2.2 o 14) fun n18 => oif (oO T13 n18 6 = true) <| obind (T13.2.2.2.2 n18 6) fun n20 => oif (oO T13 o 11 = true) <| obind (T13.2.2.2.2 o 14) fun n22 => oif (oO T13 n22 6 = true) <| obind (T13.2.2.2.2 n22 6) fun n24 => oif (oO T13 n24 1 = true) <| obind (T13.2.2.2.2 n24 6) fun n26 => oif (aA T13 n26 106 = true) <| oif (inb a0 (T13.2.1 n26).2 = true) <| obind (T13.2.2.2.2 n26 a0.toNatClampNeg) fun n29 => oif (oO T13 o 11 = true) <| obind2 (g_X11_powersNow T13 o) fun r32 T31 => oif (Nat.blt r32 T31.1 = true) <| g_X11_zoneBest_b41 T31 r32 n29 n20
set_option maxHeartbeats 4000000 in
set_option maxRecDepth 100000 in
theorem s_X11_zoneBest_b41 {e1 : Nat} {r1 : Int32} {T1 : AT} : ∀ (T : AT) (s0 : Nat) (s1 : Nat) (s2 : Nat), g_X11_zoneBest_b41 T s0 s1 s2 = some (e1, r1, T1) → GL T T1 := by
  intro T s0 s1 s2 h
  have p0 := GL.rf T
  unfold g_X11_zoneBest_b41 at h
  obtain ⟨g2, h⟩ := oif_some h
  obtain ⟨n3, en3, h⟩ := obind_some h
  obtain ⟨g4, h⟩ := oif_some h
  obtain ⟨r6, T5, eT5, h⟩ := obind2_some h
  have p1 : GL T T5 := GL.tr p0 (gl_sp (s_X1_bestIn eT5))
  rw [← (osome3 h).2.2]
  exact p1
set_option maxHeartbeats 4000000 in
set_option maxRecDepth 100000 in
theorem s_X11_zoneBest {T : AT} {o : Nat} {a0 : Int32} {e1 : Nat} {r1 : Int32} {T1 : AT} (h : g_X11_zoneBest T o a0 = some (e1, r1, T1)) : GL T T1 := by
  have p0 := GL.rf T
  unfold g_X11_zoneBest at h
  obtain ⟨g2, h⟩ := oif_some h
  rcases othr_s h with ⟨k9, r9, e9, -⟩ | ⟨r4, T3, eT3, h⟩
  · exact GL.tr p0 (gl_sp (s_X11_needCamera e9))
  have p1 : GL T T3 := GL.tr p0 (gl_sp (s_X11_needCamera eT3))
  obtain ⟨g5, h⟩ := oif_some h
  obtain ⟨n6, en6, h⟩ := obind_some h
  obtain ⟨g7, h⟩ := oif_some h
  obtain ⟨n8, en8, h⟩ := obind_some h
  obtain ⟨g9, h⟩ := oif_some h
  obtain ⟨v10, -, h⟩ := elet_some h
  rcases othr_s h with ⟨k9, r9, e9, -⟩ | ⟨r12, T11, eT11, h⟩
  · exact GL.tr p1 (gl_sp (s_X11_needIndex e9))
  have p2 : GL T T11 := GL.tr p1 (gl_sp (s_X11_needIndex eT11))
  obtain ⟨g13, h⟩ := oif_some h
  obtain ⟨n14, en14, h⟩ := obind_some h
  obtain ⟨g15, h⟩ := oif_some h
  obtain ⟨n16, en16, h⟩ := obind_some h
  obtain ⟨g17, h⟩ := oif_some h
  obtain ⟨n18, en18, h⟩ := obind_some h
  obtain ⟨g19, h⟩ := oif_some h
  obtain ⟨n20, en20, h⟩ := obind_some h
  obtain ⟨g21, h⟩ := oif_some h
  obtain ⟨n22, en22, h⟩ := obind_some h
  obtain ⟨g23, h⟩ := oif_some h
  obtain ⟨g24, h⟩ := oif_some h
  obtain ⟨n25, en25, h⟩ := obind_some h
  obtain ⟨g26, h⟩ := oif_some h
  obtain ⟨r28, T27, eT27, h⟩ := obind2_some h
  obtain ⟨g29, h⟩ := oif_some h
  have p3 : GL T T27 := GL.tr p2 (s_X11_powersNow eT27)
  exact GL.tr p3 (s_X11_zoneBest_b41 _ _ _ _ h)
set_option maxHeartbeats 4000000 in
set_option maxRecDepth 100000 in
theorem a_X11_zoneBest_b41 {p : Program} {l : Launch} {e : Env} {s : State} {m : MethodId} {args : Array Value} {below : List Frame} {meth : Method} {c : Code} {Q : State → Prop} {D : va_G} {A : Nat → Prop} {cI cJ cZ cMic cSrc cSt cAI cAJ : ClassId} {ad0 : Nat → Nat} {T0 : AT} {r1 : Int32} {T1 : AT} (E : cE p c cX11_zoneBest s m args (Cond.code yX11_zoneBest cX11_zoneBest 2 (some .int) :: wsA) D RX11 (CT cI cJ cZ cMic cSrc cSt cAI cAJ)) (hA : ∀ q : Nat, s.heap.size ≤ q → A q) (hX : xT A s) (hN : nX s) (hml : c.maxLocals = 2) (hst : l.stackTraces = false) (kr48 : ∀ (ad : Nat → Nat) (H : Heap) (locs : List Loc) (ls : Array Slot), (∀ n, n < T0.1 → ad n = ad0 n) → gC cI cJ cZ cMic cSrc cSt cAI cAJ D ad A s.heap H locs T1 → W p l e { frames := 7, cells := T1.1 - T0.1, slots := sg T1 - sg T0, locals := 149 } s m args below meth c H locs (T1.1 - T0.1) (sg T1 - sg T0) Q (F0 m 48 ls [.int r1])) : ∀ (T : AT) (ad : Nat → Nat) (H : Heap) (locs : List Loc) (ls : Array Slot) (s0 : Nat) (s1 : Nat) (s2 : Nat), g_X11_zoneBest_b41 T s0 s1 s2 = some (0, r1, T1) → GL T0 T → RC T → (∀ n, n < T0.1 → ad n = ad0 n) → s0 < T.1 → s1 < T.1 → s2 < T.1 → gC cI cJ cZ cMic cSrc cSt cAI cAJ D ad A s.heap H locs T → lv_has ls 2 [] → W p l e { frames := 7, cells := T1.1 - T0.1, slots := sg T1 - sg T0, locals := 149 } s m args below meth c H locs (T.1 - T0.1) (sg T - sg T0) Q (F0 m 41 ls [.ref (ad s0), .ref (ad s1), .ref (ad s2)]) := by
  have hx := E.1
  have hb := E.2.1
  have hts := E.2.2.1
  have hown := E.2.2.2.1
  have hK := E.2.2.2.2
  intro T ad H locs ls s0 s1 s2 h hgl hrc had h_s0 h_s1 h_s2 G hl
  have hT1 := s_X11_zoneBest_b41 _ _ _ _ h
  have hcs := cs_ok hgl hT1
  have cp0 := cpr0 hrc
  unfold g_X11_zoneBest_b41 at h
  obtain ⟨g2, h⟩ := oif_some h
  obtain ⟨n3, en3, h⟩ := obind_some h
  have h_n3 : n3 < T.1 := by rw [← cp0.1]; exact cp0.2.2 _ _ _ en3
  refine c_get E G s0 1 (v := .ref (ad n3)) (oO_k g2).1 (cc_o4 (oO_k g2).2) rfl (fun w h => .tail _ (iA_21 h)) (by decide) (.tail _ qA_798) rfl (by rw [en3]; rfl) dX11_zoneBest_41 ?_
  clear en3
  refine lv_iconst (v := 0) hx hb dX11_zoneBest_44 (by decide) ?_
  obtain ⟨g4, h⟩ := oif_some h
  obtain ⟨r7, T5, eT5, h⟩ := obind2_some h
  refine q_cvi (As := [.ref (ad s1), .ref (ad n3), .int 0]) (rest := []) E G hA hX hN hml (u_X1_bestIn l hst D cI cJ cZ cMic cSrc cSt cAI cAJ ad T s2 s1 n3 (0 : Int32) eT5) (cwV 3 hts (gaV qA_832 qA_116 qA_117 qA_37 qA_118) rfl rfl rfl (by decide +kernel) ⟨Nat.le_of_ble_eq_true rfl, Nat.le_of_ble_eq_true rfl⟩) (oO_k g4).1 (cc_o1 (oO_k g4).2) rfl rfl hl.1 rfl (lv_room (Nat.le_of_ble_eq_true rfl)) dX11_zoneBest_45 hcs (fun q8 T6 H locs hq G => ?_)
  obtain ⟨hq1, hq2⟩ := hq
  rw [hq2] at G
  refine lv_to hq1 ?_
  clear hq1 hq2
  have cp1 := cpr_sp cp0 (s_X1_bestIn eT5)
  rw [(osome3 h).2.2] at G
  refine w_cast (c2 := T1.1 - T0.1) (s2 := sg T1 - sg T0) (by rw [← (osome3 h).2.2, cp1.1] <;> rfl) (by rw [← (osome3 h).2.2, sg_cpr cp1] <;> rfl) ?_
  refine lv_to ((osome3 h).2.1) ?_
  exact kr48 ad _ _ _ had G
set_option maxHeartbeats 4000000 in
set_option maxRecDepth 100000 in
theorem a_X11_zoneBest (l : Launch) (hst : l.stackTraces = false) (D : va_G) (cI cJ cZ cMic cSrc cSt cAI cAJ : ClassId) (ad : Nat → Nat) (T : AT) (o : Nat) (a0 : Int32) {r1 : Int32} {T1 : AT} (h : g_X11_zoneBest T o a0 = some (0, r1, T1)) (hrc : RC T) (h_o : o < T.1) : kAi l yX11_zoneBest (Cond.code yX11_zoneBest cX11_zoneBest 2 (some .int) :: wsA) 7 149 cI cJ cZ cMic cSrc cSt cAI cAJ D ad T [.ref (ad o), .int a0] r1 T1 := by
  intro sz
  refine Met.ofW (cc := cX11_zoneBest) (maxL := 2) (ret := (some .int)) (by decide) rfl ?_
  intro p e s m args below meth c s₁ B hml hv
  obtain ⟨rfl, hsz, hP, hK, hD0, hX, hN⟩ := hv
  have hx := B.exec
  have hb := B.bytes
  have hr := B.returns
  have hts := atoms_spec (ws := (Cond.code yX11_zoneBest cX11_zoneBest 2 (some .int) :: wsA)) B.pre
  have hown : s.vm.findClass RX11 = some m.cls := findClass_of_methodNamed B.named
  have hlocks := B.notSynchronized
  subst hsz
  have hD := hD0.self (sz := s.heap.size)
  generalize hAe : va_A (cW ad T.1 (cc cI cJ cZ cMic cSrc cSt cAI cAJ ad T)) s.heap.size = A at hD hX ⊢
  have hA : ∀ q : Nat, s.heap.size ≤ q → A q := fun q h => by rw [← hAe]; exact Or.inr h
  have G : gC cI cJ cZ cMic cSrc cSt cAI cAJ D ad A s.heap s.heap [] T := ⟨hP, hD, va_S.rf⟩
  have E : cE p c cX11_zoneBest s m ([.ref (ad o), .int a0] : List Value).toArray (Cond.code yX11_zoneBest cX11_zoneBest 2 (some .int) :: wsA) D RX11 (CT cI cJ cZ cMic cSrc cSt cAI cAJ) := ⟨hx, hb, hts, hown, hK⟩
  have hl := lv_entry ([.ref (ad o), .int a0]) (n := 2) (Nat.le_of_ble_eq_true rfl)
  rw [lg_entry_eq]
  generalize (lg_sl ([.ref (ad o), .int a0]) ++ List.replicate (2 - (lg_sl ([.ref (ad o), .int a0])).length) Slot.unset).toArray = ls at hl ⊢
  have hl : lv_has ls 2 [(0, .ref (ad o)), (1, .int a0)] := hl
  have hgl := GL.rf T
  have had : ∀ n, n < T.1 → ad n = ad n := fun _ _ => rfl
  have hT1 := s_X11_zoneBest h
  have hcs := cs_ok hgl hT1
  refine w_cast (Nat.sub_self T.1).symm (Nat.sub_self (sg T)).symm ?_
  have cp0 := cpr0 hrc
  unfold g_X11_zoneBest at h
  refine lv_aload_n hx hb dX11_zoneBest_0 rfl (lv_at hl 0 rfl) ?_
  obtain ⟨g2, h⟩ := oif_some h
  obtain ⟨r5, T3, eT3, h⟩ := othr_n h
  refine q_cvv (As := []) (rest := []) E G hA hX hN hml (u_X11_needCamera l hst D cI cJ cZ cMic cSrc cSt cAI cAJ ad T o eT3) (cwV 0 hts (gaV qA_728 qA_729 qA_730 qA_131 qA_731) rfl rfl rfl (by decide +kernel) ⟨Nat.le_of_ble_eq_true rfl, Nat.le_of_ble_eq_true rfl⟩) (oO_k g2).1 (cc_o11 (oO_k g2).2) rfl rfl hl.1 rfl (lv_room (Nat.le_of_ble_eq_true rfl)) dX11_zoneBest_1 hcs (fun T4 H locs hq G => ?_)
  rw [hq] at G
  clear hq
  have cp1 := cpr_sp cp0 (s_X11_needCamera eT3)
  refine lv_iload_n hx hb dX11_zoneBest_4 rfl (lv_at hl 1 rfl) ?_
  refine lv_aload_n hx hb dX11_zoneBest_5 rfl (lv_at hl 0 rfl) ?_
  obtain ⟨g7, h⟩ := oif_some h
  obtain ⟨n8, en8, h⟩ := obind_some h
  have h_n8 : n8 < T.1 := by rw [← cp1.1]; exact cp1.2.2 _ _ _ en8
  refine c_get E G o 14 (v := .ref (ad n8)) (oO_k g7).1 (cc_o11 (oO_k g7).2) rfl (fun w h => .tail _ (iA_23 h)) (by decide) (.tail _ qA_675) rfl (by rw [en8]; rfl) dX11_zoneBest_6 ?_
  clear en8
  obtain ⟨g9, h⟩ := oif_some h
  obtain ⟨n10, en10, h⟩ := obind_some h
  have h_n10 : n10 < T.1 := by rw [← cp1.1]; exact cp1.2.2 _ _ _ en10
  refine c_get E G n8 6 (v := .ref (ad n10)) (oO_k g9).1 (cc_o6 (oO_k g9).2) rfl (fun w h => .tail _ (iA_14 h)) (by decide) (.tail _ qA_695) rfl (by rw [en10]; rfl) dX11_zoneBest_9 ?_
  clear en10
  obtain ⟨g11, h⟩ := oif_some h
  refine c_get E G n10 7 (oO_k g11).1 (cc_o1 (oO_k g11).2) rfl (fun w h => .tail _ (iA_15 h)) (by decide) (.tail _ qA_829) rfl rfl dX11_zoneBest_12 ?_
  refine lv_topi (fun v12 ev12 => ?_)
  have h := elet_at ev12 h
  clear ev12
  obtain ⟨r15, T13, eT13, h⟩ := othr_n h
  refine q_csv (As := [.int a0, .int v12]) (rest := []) E G hA hX hN hml (u_X11_needIndex l hst D cI cJ cZ cMic cSrc cSt cAI cAJ ad T3 a0 v12 eT13) (cwS 2 hts (gaS qA_738 qA_739 qA_131 qA_740) rfl rfl rfl (by decide +kernel) ⟨Nat.le_of_ble_eq_true rfl, Nat.le_of_ble_eq_true rfl⟩) rfl hl.1 rfl (lv_room (Nat.le_of_ble_eq_true rfl)) dX11_zoneBest_15 hcs (fun T14 H locs hq G => ?_)
  rw [hq] at G
  clear hq
  have cp2 := cpr_sp cp1 (s_X11_needIndex eT13)
  refine lv_aload_n hx hb dX11_zoneBest_18 rfl (lv_at hl 0 rfl) ?_
  obtain ⟨g17, h⟩ := oif_some h
  obtain ⟨n18, en18, h⟩ := obind_some h
  have h_n18 : n18 < T.1 := by rw [← cp2.1]; exact cp2.2.2 _ _ _ en18
  refine c_get E G o 14 (v := .ref (ad n18)) (oO_k g17).1 (cc_o11 (oO_k g17).2) rfl (fun w h => .tail _ (iA_23 h)) (by decide) (.tail _ qA_675) rfl (by rw [en18]; rfl) dX11_zoneBest_19 ?_
  clear en18
  obtain ⟨g19, h⟩ := oif_some h
  obtain ⟨n20, en20, h⟩ := obind_some h
  have h_n20 : n20 < T.1 := by rw [← cp2.1]; exact cp2.2.2 _ _ _ en20
  refine c_get E G n18 6 (v := .ref (ad n20)) (oO_k g19).1 (cc_o6 (oO_k g19).2) rfl (fun w h => .tail _ (iA_14 h)) (by decide) (.tail _ qA_695) rfl (by rw [en20]; rfl) dX11_zoneBest_22 ?_
  clear en20
  refine lv_aload_n hx hb dX11_zoneBest_25 rfl (lv_at hl 0 rfl) ?_
  obtain ⟨g21, h⟩ := oif_some h
  obtain ⟨n22, en22, h⟩ := obind_some h
  have h_n22 : n22 < T.1 := by rw [← cp2.1]; exact cp2.2.2 _ _ _ en22
  refine c_get E G o 14 (v := .ref (ad n22)) (oO_k g21).1 (cc_o11 (oO_k g21).2) rfl (fun w h => .tail _ (iA_23 h)) (by decide) (.tail _ qA_675) rfl (by rw [en22]; rfl) dX11_zoneBest_26 ?_
  clear en22
  obtain ⟨g23, h⟩ := oif_some h
  obtain ⟨n24, en24, h⟩ := obind_some h
  have h_n24 : n24 < T.1 := by rw [← cp2.1]; exact cp2.2.2 _ _ _ en24
  refine c_get E G n22 6 (v := .ref (ad n24)) (oO_k g23).1 (cc_o6 (oO_k g23).2) rfl (fun w h => .tail _ (iA_14 h)) (by decide) (.tail _ qA_695) rfl (by rw [en24]; rfl) dX11_zoneBest_29 ?_
  clear en24
  obtain ⟨g25, h⟩ := oif_some h
  obtain ⟨n26, en26, h⟩ := obind_some h
  have h_n26 : n26 < T.1 := by rw [← cp2.1]; exact cp2.2.2 _ _ _ en26
  refine c_get E G n24 6 (v := .ref (ad n26)) (oO_k g25).1 (cc_o1 (oO_k g25).2) rfl (fun w h => .tail _ (iA_15 h)) (by decide) (.tail _ qA_830) rfl (by rw [en26]; rfl) dX11_zoneBest_32 ?_
  clear en26
  refine lv_iload_n hx hb dX11_zoneBest_35 rfl (lv_at hl 1 rfl) ?_
  obtain ⟨g27, h⟩ := oif_some h
  obtain ⟨g28, h⟩ := oif_some h
  obtain ⟨n29, en29, h⟩ := obind_some h
  have h_n29 : n29 < T.1 := by rw [← cp2.1]; exact cp2.2.2 _ _ _ en29
  refine c_alda E G n26 6 (k := a0.toNatClampNeg) (v := .ref (ad n29)) (aA_k g27).1 (cc_a106 (aA_k g27).2.1) rfl (inb_k g28).1 (inb_k g28).2 (aA_k g27).2.2 (by show va_rf ((T13.2.2.2.2 n26 a0.toNatClampNeg).map ad) = _; rw [en29]; rfl) dX11_zoneBest_36 ?_
  clear en29
  refine lv_aload_n hx hb dX11_zoneBest_37 rfl (lv_at hl 0 rfl) ?_
  obtain ⟨g30, h⟩ := oif_some h
  obtain ⟨r32, T31, eT31, h⟩ := obind2_some h
  obtain ⟨g33, h⟩ := oif_some h
  have hg2 := s_X11_powersNow eT31
  have hrc2 := hg2.2.2 cp2.2.2
  have hT2 := s_X11_zoneBest_b41 _ _ _ _ h
  refine q_avr (As := []) (rest := [.ref (ad n29), .ref (ad n20)]) E G hA hX hN hml (a_X11_powersNow l hst D cI cJ cZ cMic cSrc cSt cAI cAJ ad T13 o eT31 cp2.2.2 (by rw [cp2.1]; exact h_o)) (cwV 0 hts (gaV qA_799 qA_800 qA_801 qA_131 qA_802) rfl rfl rfl (by decide +kernel) ⟨Nat.le_of_ble_eq_true rfl, Nat.le_of_ble_eq_true rfl⟩) (oO_k g30).1 (cc_o11 (oO_k g30).2) rfl rfl hl.1 rfl (lv_room (Nat.le_of_ble_eq_true rfl)) dX11_zoneBest_38 (cs_av hgl cp2 hg2 hT2) (fun ad2 H locs hga G => ?_)
  refine w_cast (c2 := T31.1 - T.1) (s2 := sg T31 - sg T) (cs_f1 hgl cp2 hg2) (cs_f2 hgl cp2 hg2) ?_
  have h_new : r32 < T31.1 := Nat.le_of_ble_eq_true g33
  have hl := lv_sub hl [] rfl
  refine w_st (st2 := [.ref (ad2 r32), .ref (ad2 n29), .ref (ad2 n20)]) (by rw [hga n29 (by rw [cp2.1]; exact h_n29), hga n20 (by rw [cp2.1]; exact h_n20)]) ?_
  exact a_X11_zoneBest_b41 E hA hX hN hml hst (fun ad H locs ls had G => W.iret (v := r1) hx hb hr (fun t ht hW => ⟨⟨r1, (T1, ad), rfl, ⟨rfl, rfl, had⟩, ⟨by rw [ht]; exact G.1, va_K.moved hW.alike hK, G.2.1⟩⟩, G.2.2.F ht⟩) G.2.2.2.2 dX11_zoneBest_48) _ _ _ _ _ _ _ _ h (GL.tr (gl_cpr hgl cp2) hg2) hrc2 (fun n hn => (hga n (by rw [cp2.1]; exact Nat.lt_of_lt_of_le hn hgl.1)).trans (had n hn)) h_new (Nat.lt_of_lt_of_le (by rw [cp2.1]; exact h_n29) hg2.1) (Nat.lt_of_lt_of_le (by rw [cp2.1]; exact h_n20) hg2.1) G hl
set_option maxHeartbeats 4000000 in
set_option maxRecDepth 100000 in
theorem b_X11_zoneBest_b41 {p : Program} {l : Launch} {e : Env} {s : State} {m : MethodId} {args : Array Value} {below : List Frame} {meth : Method} {c : Code} {Qc : Array Value → State → Outcome → State → Prop} {XC : String → State → State → Prop} {D : va_G} {A : Nat → Prop} {cI cJ cZ cMic cSrc cSt cAI cAJ : ClassId} {ad0 : Nat → Nat} {T0 : AT} {e1 : Nat} {r1 : Int32} {T1 : AT} (E : cE p c cX11_zoneBest s m args (Cond.code yX11_zoneBest cX11_zoneBest 2 (some .int) :: wsA) D RX11 (CT cI cJ cZ cMic cSrc cSt cAI cAJ)) (hA : ∀ q : Nat, s.heap.size ≤ q → A q) (hX : xT A s) (hN : nX s) (hml : c.maxLocals = 2) (hst : l.stackTraces = false) (htab : ∀ x ∈ c.exceptionTable.toList, False) (hlocks : meth.locks = false) (kx : ∀ (ad : Nat → Nat) (H : Heap) (locs : List Loc) (t : State), (∀ n, n < T0.1 → ad n = ad0 n) → gC cI cJ cZ cMic cSrc cSt cAI cAJ D ad A s.heap H locs T1 → s.vm.Alike t.vm → H.size ≤ t.heap.size → (∀ q, q < H.size → t.heap[q]? = H[q]?) → XC (exn e1) s t) : ∀ (T : AT) (ad : Nat → Nat) (H : Heap) (locs : List Loc) (ls : Array Slot) (s0 : Nat) (s1 : Nat) (s2 : Nat), g_X11_zoneBest_b41 T s0 s1 s2 = some (e1 + 1, r1, T1) → GL T0 T → RC T → (∀ n, n < T0.1 → ad n = ad0 n) → s0 < T.1 → s1 < T.1 → s2 < T.1 → gC cI cJ cZ cMic cSrc cSt cAI cAJ D ad A s.heap H locs T → lv_has ls 2 [] → W p l e { frames := 7, cells := T1.1 - T0.1 + 1, slots := sg T1 - sg T0 + 6, locals := 149 } s m args below meth c H locs (T.1 - T0.1) (sg T - sg T0) (vx_MQ below Qc XC args s (T1.1 - T0.1 + 1) (sg T1 - sg T0 + 6) A) (F0 m 41 ls [.ref (ad s0), .ref (ad s1), .ref (ad s2)]) := by
  have hx := E.1
  have hb := E.2.1
  have hts := E.2.2.1
  have hown := E.2.2.2.1
  have hK := E.2.2.2.2
  intro T ad H locs ls s0 s1 s2 h hgl hrc had h_s0 h_s1 h_s2 G hl
  have hT1 := s_X11_zoneBest_b41 _ _ _ _ h
  have hcs := cs_okx hgl hT1
  have hcx := cs_okx1 hgl hT1
  have cp0 := cpr0 hrc
  unfold g_X11_zoneBest_b41 at h
  obtain ⟨g2, h⟩ := oif_some h
  obtain ⟨n3, en3, h⟩ := obind_some h
  have h_n3 : n3 < T.1 := by rw [← cp0.1]; exact cp0.2.2 _ _ _ en3
  refine c_get E G s0 1 (v := .ref (ad n3)) (oO_k g2).1 (cc_o4 (oO_k g2).2) rfl (fun w h => .tail _ (iA_21 h)) (by decide) (.tail _ qA_798) rfl (by rw [en3]; rfl) dX11_zoneBest_41 ?_
  clear en3
  refine lv_iconst (v := 0) hx hb dX11_zoneBest_44 (by decide) ?_
  obtain ⟨g4, h⟩ := oif_some h
  obtain ⟨r7, T5, eT5, h⟩ := obind2_some h
  refine q_cvi (As := [.ref (ad s1), .ref (ad n3), .int 0]) (rest := []) E G hA hX hN hml (u_X1_bestIn l hst D cI cJ cZ cMic cSrc cSt cAI cAJ ad T s2 s1 n3 (0 : Int32) eT5) (cwV 3 hts (gaV qA_832 qA_116 qA_117 qA_37 qA_118) rfl rfl rfl (by decide +kernel) ⟨Nat.le_of_ble_eq_true rfl, Nat.le_of_ble_eq_true rfl⟩) (oO_k g4).1 (cc_o1 (oO_k g4).2) rfl rfl hl.1 rfl (lv_room (Nat.le_of_ble_eq_true rfl)) dX11_zoneBest_45 hcs (fun q8 T6 H locs hq G => ?_)
  obtain ⟨hq1, hq2⟩ := hq
  rw [hq2] at G
  refine lv_to hq1 ?_
  clear hq1 hq2
  have cp1 := cpr_sp cp0 (s_X1_bestIn eT5)
  exact (Nat.succ_ne_zero _ (congrArg Prod.fst (Option.some.inj h)).symm).elim
set_option maxHeartbeats 4000000 in
set_option maxRecDepth 100000 in
theorem b_X11_zoneBest (l : Launch) (hst : l.stackTraces = false) (D : va_G) (cI cJ cZ cMic cSrc cSt cAI cAJ : ClassId) (ad : Nat → Nat) (T : AT) (o : Nat) (a0 : Int32) {e1 : Nat} {r1 : Int32} {T1 : AT} (h : g_X11_zoneBest T o a0 = some (e1 + 1, r1, T1)) (hrc : RC T) (h_o : o < T.1) : kAXi l yX11_zoneBest (Cond.code yX11_zoneBest cX11_zoneBest 2 (some .int) :: wsA) 7 149 cI cJ cZ cMic cSrc cSt cAI cAJ D ad T [.ref (ad o), .int a0] e1 T1 := by
  intro sz
  refine vx_ofW (cc := cX11_zoneBest) (maxL := 2) (ret := (some .int)) (by decide) rfl ?_
  intro p e s m args below meth c s₁ B hml htab hv
  obtain ⟨rfl, hsz, hP, hK, hD0, hX, hN⟩ := hv
  have hx := B.exec
  have hb := B.bytes
  have hr := B.returns
  have hts := atoms_spec (ws := (Cond.code yX11_zoneBest cX11_zoneBest 2 (some .int) :: wsA)) B.pre
  have hown : s.vm.findClass RX11 = some m.cls := findClass_of_methodNamed B.named
  have hlocks := B.notSynchronized
  subst hsz
  have hD := hD0.self (sz := s.heap.size)
  generalize hAe : va_A (cW ad T.1 (cc cI cJ cZ cMic cSrc cSt cAI cAJ ad T)) s.heap.size = A at hD hX ⊢
  have hA : ∀ q : Nat, s.heap.size ≤ q → A q := fun q h => by rw [← hAe]; exact Or.inr h
  have G : gC cI cJ cZ cMic cSrc cSt cAI cAJ D ad A s.heap s.heap [] T := ⟨hP, hD, va_S.rf⟩
  have E : cE p c cX11_zoneBest s m ([.ref (ad o), .int a0] : List Value).toArray (Cond.code yX11_zoneBest cX11_zoneBest 2 (some .int) :: wsA) D RX11 (CT cI cJ cZ cMic cSrc cSt cAI cAJ) := ⟨hx, hb, hts, hown, hK⟩
  have htab : ∀ x ∈ c.exceptionTable.toList, False := fun x hx => htab x hx
  have hl := lv_entry ([.ref (ad o), .int a0]) (n := 2) (Nat.le_of_ble_eq_true rfl)
  rw [lg_entry_eq]
  generalize (lg_sl ([.ref (ad o), .int a0]) ++ List.replicate (2 - (lg_sl ([.ref (ad o), .int a0])).length) Slot.unset).toArray = ls at hl ⊢
  have hl : lv_has ls 2 [(0, .ref (ad o)), (1, .int a0)] := hl
  have hgl := GL.rf T
  have had : ∀ n, n < T.1 → ad n = ad n := fun _ _ => rfl
  have hT1 := s_X11_zoneBest h
  have hcs := cs_okx hgl hT1
  have hcx := cs_okx1 hgl hT1
  refine w_cast (Nat.sub_self T.1).symm (Nat.sub_self (sg T)).symm ?_
  have cp0 := cpr0 hrc
  unfold g_X11_zoneBest at h
  refine lv_aload_n hx hb dX11_zoneBest_0 rfl (lv_at hl 0 rfl) ?_
  obtain ⟨g2, h⟩ := oif_some h
  rcases othr_t h with ⟨r0, eT3⟩ | ⟨r5, T3, eT3, h⟩
  · refine q_xvv (As := []) (rest := []) E G hA hX hN hml (x_X11_needCamera l hst D cI cJ cZ cMic cSrc cSt cAI cAJ ad T o eT3) (cwV 0 hts (gaV qA_728 qA_729 qA_730 qA_131 qA_731) rfl rfl rfl (by decide +kernel) ⟨Nat.le_of_ble_eq_true rfl, Nat.le_of_ble_eq_true rfl⟩) (oO_k g2).1 (cc_o11 (oO_k g2).2) rfl rfl hl.1 rfl (lv_room (Nat.le_of_ble_eq_true rfl)) dX11_zoneBest_1 hcx (fun E9 ce q9 T9 H locs hp G hce hcv hcl => ?_)
    obtain ⟨hE, hT⟩ := hp
    subst hE
    rw [hT] at G
    exact vx_out (fun x hx => (htab x hx).elim) hlocks hce hcv hcl (fun t ht hvm => ⟨(T1, ad), trivial, ⟨⟨rfl, rfl, had⟩, by rw [ht]; exact G.1, va_K.moved hvm hK, G.2.1⟩, G.2.2.F ht⟩) G.2.2.2.2 hcx.1 hcx.2
  refine q_cvv (As := []) (rest := []) E G hA hX hN hml (u_X11_needCamera l hst D cI cJ cZ cMic cSrc cSt cAI cAJ ad T o eT3) (cwV 0 hts (gaV qA_728 qA_729 qA_730 qA_131 qA_731) rfl rfl rfl (by decide +kernel) ⟨Nat.le_of_ble_eq_true rfl, Nat.le_of_ble_eq_true rfl⟩) (oO_k g2).1 (cc_o11 (oO_k g2).2) rfl rfl hl.1 rfl (lv_room (Nat.le_of_ble_eq_true rfl)) dX11_zoneBest_1 hcs (fun T4 H locs hq G => ?_)
  rw [hq] at G
  clear hq
  have cp1 := cpr_sp cp0 (s_X11_needCamera eT3)
  refine lv_iload_n hx hb dX11_zoneBest_4 rfl (lv_at hl 1 rfl) ?_
  refine lv_aload_n hx hb dX11_zoneBest_5 rfl (lv_at hl 0 rfl) ?_
  obtain ⟨g7, h⟩ := oif_some h
  obtain ⟨n8, en8, h⟩ := obind_some h
  have h_n8 : n8 < T.1 := by rw [← cp1.1]; exact cp1.2.2 _ _ _ en8
  refine c_get E G o 14 (v := .ref (ad n8)) (oO_k g7).1 (cc_o11 (oO_k g7).2) rfl (fun w h => .tail _ (iA_23 h)) (by decide) (.tail _ qA_675) rfl (by rw [en8]; rfl) dX11_zoneBest_6 ?_
  clear en8
  obtain ⟨g9, h⟩ := oif_some h
  obtain ⟨n10, en10, h⟩ := obind_some h
  have h_n10 : n10 < T.1 := by rw [← cp1.1]; exact cp1.2.2 _ _ _ en10
  refine c_get E G n8 6 (v := .ref (ad n10)) (oO_k g9).1 (cc_o6 (oO_k g9).2) rfl (fun w h => .tail _ (iA_14 h)) (by decide) (.tail _ qA_695) rfl (by rw [en10]; rfl) dX11_zoneBest_9 ?_
  clear en10
  obtain ⟨g11, h⟩ := oif_some h
  refine c_get E G n10 7 (oO_k g11).1 (cc_o1 (oO_k g11).2) rfl (fun w h => .tail _ (iA_15 h)) (by decide) (.tail _ qA_829) rfl rfl dX11_zoneBest_12 ?_
  refine lv_topi (fun v12 ev12 => ?_)
  have h := elet_at ev12 h
  clear ev12
  rcases othr_t h with ⟨r0, eT13⟩ | ⟨r15, T13, eT13, h⟩
  · refine q_xsv (As := [.int a0, .int v12]) (rest := []) E G hA hX hN hml (x_X11_needIndex l hst D cI cJ cZ cMic cSrc cSt cAI cAJ ad T3 a0 v12 eT13) (cwS 2 hts (gaS qA_738 qA_739 qA_131 qA_740) rfl rfl rfl (by decide +kernel) ⟨Nat.le_of_ble_eq_true rfl, Nat.le_of_ble_eq_true rfl⟩) rfl hl.1 rfl (lv_room (Nat.le_of_ble_eq_true rfl)) dX11_zoneBest_15 hcx (fun E9 ce q9 T9 H locs hp G hce hcv hcl => ?_)
    obtain ⟨hE, hT⟩ := hp
    subst hE
    rw [hT] at G
    exact vx_out (fun x hx => (htab x hx).elim) hlocks hce hcv hcl (fun t ht hvm => ⟨(T1, ad), trivial, ⟨⟨rfl, rfl, had⟩, by rw [ht]; exact G.1, va_K.moved hvm hK, G.2.1⟩, G.2.2.F ht⟩) G.2.2.2.2 hcx.1 hcx.2
  refine q_csv (As := [.int a0, .int v12]) (rest := []) E G hA hX hN hml (u_X11_needIndex l hst D cI cJ cZ cMic cSrc cSt cAI cAJ ad T3 a0 v12 eT13) (cwS 2 hts (gaS qA_738 qA_739 qA_131 qA_740) rfl rfl rfl (by decide +kernel) ⟨Nat.le_of_ble_eq_true rfl, Nat.le_of_ble_eq_true rfl⟩) rfl hl.1 rfl (lv_room (Nat.le_of_ble_eq_true rfl)) dX11_zoneBest_15 hcs (fun T14 H locs hq G => ?_)
  rw [hq] at G
  clear hq
  have cp2 := cpr_sp cp1 (s_X11_needIndex eT13)
  refine lv_aload_n hx hb dX11_zoneBest_18 rfl (lv_at hl 0 rfl) ?_
  obtain ⟨g17, h⟩ := oif_some h
  obtain ⟨n18, en18, h⟩ := obind_some h
  have h_n18 : n18 < T.1 := by rw [← cp2.1]; exact cp2.2.2 _ _ _ en18
  refine c_get E G o 14 (v := .ref (ad n18)) (oO_k g17).1 (cc_o11 (oO_k g17).2) rfl (fun w h => .tail _ (iA_23 h)) (by decide) (.tail _ qA_675) rfl (by rw [en18]; rfl) dX11_zoneBest_19 ?_
  clear en18
  obtain ⟨g19, h⟩ := oif_some h
  obtain ⟨n20, en20, h⟩ := obind_some h
  have h_n20 : n20 < T.1 := by rw [← cp2.1]; exact cp2.2.2 _ _ _ en20
  refine c_get E G n18 6 (v := .ref (ad n20)) (oO_k g19).1 (cc_o6 (oO_k g19).2) rfl (fun w h => .tail _ (iA_14 h)) (by decide) (.tail _ qA_695) rfl (by rw [en20]; rfl) dX11_zoneBest_22 ?_
  clear en20
  refine lv_aload_n hx hb dX11_zoneBest_25 rfl (lv_at hl 0 rfl) ?_
  obtain ⟨g21, h⟩ := oif_some h
  obtain ⟨n22, en22, h⟩ := obind_some h
  have h_n22 : n22 < T.1 := by rw [← cp2.1]; exact cp2.2.2 _ _ _ en22
  refine c_get E G o 14 (v := .ref (ad n22)) (oO_k g21).1 (cc_o11 (oO_k g21).2) rfl (fun w h => .tail _ (iA_23 h)) (by decide) (.tail _ qA_675) rfl (by rw [en22]; rfl) dX11_zoneBest_26 ?_
  clear en22
  obtain ⟨g23, h⟩ := oif_some h
  obtain ⟨n24, en24, h⟩ := obind_some h
  have h_n24 : n24 < T.1 := by rw [← cp2.1]; exact cp2.2.2 _ _ _ en24
  refine c_get E G n22 6 (v := .ref (ad n24)) (oO_k g23).1 (cc_o6 (oO_k g23).2) rfl (fun w h => .tail _ (iA_14 h)) (by decide) (.tail _ qA_695) rfl (by rw [en24]; rfl) dX11_zoneBest_29 ?_
  clear en24
  obtain ⟨g25, h⟩ := oif_some h
  obtain ⟨n26, en26, h⟩ := obind_some h
  have h_n26 : n26 < T.1 := by rw [← cp2.1]; exact cp2.2.2 _ _ _ en26
  refine c_get E G n24 6 (v := .ref (ad n26)) (oO_k g25).1 (cc_o1 (oO_k g25).2) rfl (fun w h => .tail _ (iA_15 h)) (by decide) (.tail _ qA_830) rfl (by rw [en26]; rfl) dX11_zoneBest_32 ?_
  clear en26
  refine lv_iload_n hx hb dX11_zoneBest_35 rfl (lv_at hl 1 rfl) ?_
  obtain ⟨g27, h⟩ := oif_some h
  obtain ⟨g28, h⟩ := oif_some h
  obtain ⟨n29, en29, h⟩ := obind_some h
  have h_n29 : n29 < T.1 := by rw [← cp2.1]; exact cp2.2.2 _ _ _ en29
  refine c_alda E G n26 6 (k := a0.toNatClampNeg) (v := .ref (ad n29)) (aA_k g27).1 (cc_a106 (aA_k g27).2.1) rfl (inb_k g28).1 (inb_k g28).2 (aA_k g27).2.2 (by show va_rf ((T13.2.2.2.2 n26 a0.toNatClampNeg).map ad) = _; rw [en29]; rfl) dX11_zoneBest_36 ?_
  clear en29
  refine lv_aload_n hx hb dX11_zoneBest_37 rfl (lv_at hl 0 rfl) ?_
  obtain ⟨g30, h⟩ := oif_some h
  obtain ⟨r32, T31, eT31, h⟩ := obind2_some h
  obtain ⟨g33, h⟩ := oif_some h
  have hg2 := s_X11_powersNow eT31
  have hrc2 := hg2.2.2 cp2.2.2
  have hT2 := s_X11_zoneBest_b41 _ _ _ _ h
  refine q_avr (As := []) (rest := [.ref (ad n29), .ref (ad n20)]) E G hA hX hN hml (a_X11_powersNow l hst D cI cJ cZ cMic cSrc cSt cAI cAJ ad T13 o eT31 cp2.2.2 (by rw [cp2.1]; exact h_o)) (cwV 0 hts (gaV qA_799 qA_800 qA_801 qA_131 qA_802) rfl rfl rfl (by decide +kernel) ⟨Nat.le_of_ble_eq_true rfl, Nat.le_of_ble_eq_true rfl⟩) (oO_k g30).1 (cc_o11 (oO_k g30).2) rfl rfl hl.1 rfl (lv_room (Nat.le_of_ble_eq_true rfl)) dX11_zoneBest_38 (cs_avx hgl cp2 hg2 hT2) (fun ad2 H locs hga G => ?_)
  refine w_cast (c2 := T31.1 - T.1) (s2 := sg T31 - sg T) (cs_f1 hgl cp2 hg2) (cs_f2 hgl cp2 hg2) ?_
  have h_new : r32 < T31.1 := Nat.le_of_ble_eq_true g33
  have hl := lv_sub hl [] rfl
  refine w_st (st2 := [.ref (ad2 r32), .ref (ad2 n29), .ref (ad2 n20)]) (by rw [hga n29 (by rw [cp2.1]; exact h_n29), hga n20 (by rw [cp2.1]; exact h_n20)]) ?_
  exact b_X11_zoneBest_b41 E hA hX hN hml hst htab hlocks (fun ad H locs t had G hvm h1 h2 => ⟨(T1, ad), trivial, ⟨⟨rfl, rfl, had⟩, (c_thrown G hK hvm h1 h2).1⟩, (c_thrown G hK hvm h1 h2).2⟩) _ _ _ _ _ _ _ _ h (GL.tr (gl_cpr hgl cp2) hg2) hrc2 (fun n hn => (hga n (by rw [cp2.1]; exact Nat.lt_of_lt_of_le hn hgl.1)).trans (had n hn)) h_new (Nat.lt_of_lt_of_le (by rw [cp2.1]; exact h_n29) hg2.1) (Nat.lt_of_lt_of_le (by rw [cp2.1]; exact h_n20) hg2.1) G hl
def g_X11_contrast_b45  (T : AT) (s0 : UInt32) : Option (Nat × UInt32 × AT) := some (0, s0, T)
def g_X11_contrast_b8  (T : AT) (s0 : Nat) (l0 : Nat) : Option (Nat × UInt32 × AT) := oif (oO T l0 11 = true) <| obind (T.2.2.2.2 l0 14) fun n3 => oif (oO T n3 6 = true) <| obind (T.2.2.2.2 n3 6) fun n5 => oif (oO T n5 1 = true) <| obind2 (g_X1_cells T n5) fun r9 T7 => oif (oO T7 s0 4 = true) <| obind2 (g_X4_second T7 s0 r9) fun r14 T12 => if r14 = (-1) then (g_X11_contrast_b45 T12 FP.fconst0) else (oif (oO T12 s0 4 = true) <| obind (T12.2.2.2.2 s0 1) fun n18 => oif (oO T12 s0 4 = true) <| elet (T12.2.2.1 s0 2) fun v20 => oif (oO T12 n18 10 = true) <| obind2 (g_X10_ratio T12 n18 v20 r14) fun r24 T22 => g_X11_contrast_b45 T22 r24)
def g_X11_contrast (T : AT) (o : Nat) : Option (Nat × UInt32 × AT) := oif (oO T o 11 = true) <| othr (g_X11_needCamera T o) FP.fconst0 fun r5 T3 => oif (oO T3 o 11 = true) <| obind2 (g_X11_powersNow T3 o) fun r9 T8 => oif (Nat.blt r9 T8.1 = true) <| g_X11_contrast_b8 T8 r9 o
set_option maxHeartbeats 4000000 in
set_option maxRecDepth 100000 in
theorem s_X11_contrast_b45 {e1 : Nat} {r1 : UInt32} {T1 : AT} : ∀ (T : AT) (s0 : UInt32), g_X11_contrast_b45 T s0 = some (e1, r1, T1) → GL T T1 := by
  intro T s0 h
  have p0 := GL.rf T
  unfold g_X11_contrast_b45 at h
  rw [← (osome3 h).2.2]
  exact p0
set_option maxHeartbeats 4000000 in
set_option maxRecDepth 100000 in
theorem s_X11_contrast_b8 {e1 : Nat} {r1 : UInt32} {T1 : AT} : ∀ (T : AT) (s0 : Nat) (l0 : Nat), g_X11_contrast_b8 T s0 l0 = some (e1, r1, T1) → GL T T1 := by
  intro T s0 l0 h
  have p0 := GL.rf T
  unfold g_X11_contrast_b8 at h
  obtain ⟨g2, h⟩ := oif_some h
  obtain ⟨n3, en3, h⟩ := obind_some h
  obtain ⟨g4, h⟩ := oif_some h
  obtain ⟨n5, en5, h⟩ := obind_some h
  obtain ⟨g6, h⟩ := oif_some h
  obtain ⟨r8, T7, eT7, h⟩ := obind2_some h
  have p1 : GL T T7 := GL.tr p0 (gl_sp (s_X1_cells eT7))
  obtain ⟨g9, h⟩ := oif_some h
  obtain ⟨r11, T10, eT10, h⟩ := obind2_some h
  have p2 : GL T T10 := GL.tr p1 (gl_sp (s_X4_second eT10))
  rcases oif_or h with ⟨c12, h⟩ | ⟨c12, h⟩
  · have h := h
    exact GL.tr p2 (s_X11_contrast_b45 _ _ h)
  · have h := h
    obtain ⟨g13, h⟩ := oif_some h
    obtain ⟨n14, en14, h⟩ := obind_some h
    obtain ⟨g15, h⟩ := oif_some h
    obtain ⟨v16, -, h⟩ := elet_some h
    obtain ⟨g17, h⟩ := oif_some h
    obtain ⟨r19, T18, eT18, h⟩ := obind2_some h
    have p3 : GL T T18 := GL.tr p2 (gl_sp (s_X10_ratio eT18))
    exact GL.tr p3 (s_X11_contrast_b45 _ _ h)
set_option maxHeartbeats 4000000 in
set_option maxRecDepth 100000 in
theorem s_X11_contrast {T : AT} {o : Nat} {e1 : Nat} {r1 : UInt32} {T1 : AT} (h : g_X11_contrast T o = some (e1, r1, T1)) : GL T T1 := by
  have p0 := GL.rf T
  unfold g_X11_contrast at h
  obtain ⟨g2, h⟩ := oif_some h
  rcases othr_s h with ⟨k9, r9, e9, -⟩ | ⟨r4, T3, eT3, h⟩
  · exact GL.tr p0 (gl_sp (s_X11_needCamera e9))
  have p1 : GL T T3 := GL.tr p0 (gl_sp (s_X11_needCamera eT3))
  obtain ⟨g5, h⟩ := oif_some h
  obtain ⟨r7, T6, eT6, h⟩ := obind2_some h
  obtain ⟨g8, h⟩ := oif_some h
  have p2 : GL T T6 := GL.tr p1 (s_X11_powersNow eT6)
  exact GL.tr p2 (s_X11_contrast_b8 _ _ _ h)
set_option maxHeartbeats 4000000 in
set_option maxRecDepth 100000 in
theorem a_X11_contrast_b45 {p : Program} {l : Launch} {e : Env} {s : State} {m : MethodId} {args : Array Value} {below : List Frame} {meth : Method} {c : Code} {Q : State → Prop} {D : va_G} {A : Nat → Prop} {cI cJ cZ cMic cSrc cSt cAI cAJ : ClassId} {ad0 : Nat → Nat} {T0 : AT} {r1 : UInt32} {T1 : AT} (E : cE p c cX11_contrast s m args (Cond.code yX11_contrast cX11_contrast 3 (some .float) :: wsA) D RX11 (CT cI cJ cZ cMic cSrc cSt cAI cAJ)) (hA : ∀ q : Nat, s.heap.size ≤ q → A q) (hX : xT A s) (hN : nX s) (hml : c.maxLocals = 3) (hst : l.stackTraces = false) (kr45 : ∀ (ad : Nat → Nat) (H : Heap) (locs : List Loc) (ls : Array Slot), (∀ n, n < T0.1 → ad n = ad0 n) → gC cI cJ cZ cMic cSrc cSt cAI cAJ D ad A s.heap H locs T1 → W p l e { frames := 7, cells := T1.1 - T0.1, slots := sg T1 - sg T0, locals := 149 } s m args below meth c H locs (T1.1 - T0.1) (sg T1 - sg T0) Q (F0 m 45 ls [.float r1])) : ∀ (T : AT) (ad : Nat → Nat) (H : Heap) (locs : List Loc) (ls : Array Slot) (s0 : UInt32), g_X11_contrast_b45 T s0 = some (0, r1, T1) → GL T0 T → RC T → (∀ n, n < T0.1 → ad n = ad0 n) → gC cI cJ cZ cMic cSrc cSt cAI cAJ D ad A s.heap H locs T → lv_has ls 3 [] → W p l e { frames := 7, cells := T1.1 - T0.1, slots := sg T1 - sg T0, locals := 149 } s m args below meth c H locs (T.1 - T0.1) (sg T - sg T0) Q (F0 m 45 ls [.float s0]) := by
  have hx := E.1
  have hb := E.2.1
  have hts := E.2.2.1
  have hown := E.2.2.2.1
  have hK := E.2.2.2.2
  intro T ad H locs ls s0 h hgl hrc had G hl
  have hT1 := s_X11_contrast_b45 _ _ h
  have hcs := cs_ok hgl hT1
  have cp0 := cpr0 hrc
  unfold g_X11_contrast_b45 at h
  rw [(osome3 h).2.2] at G
  refine w_cast (c2 := T1.1 - T0.1) (s2 := sg T1 - sg T0) (by rw [← (osome3 h).2.2, cp0.1] <;> rfl) (by rw [← (osome3 h).2.2, sg_cpr cp0] <;> rfl) ?_
  refine lv_tof ((osome3 h).2.1) ?_
  exact kr45 ad _ _ _ had G
set_option maxHeartbeats 4000000 in
set_option maxRecDepth 100000 in
theorem a_X11_contrast_b8 {p : Program} {l : Launch} {e : Env} {s : State} {m : MethodId} {args : Array Value} {below : List Frame} {meth : Method} {c : Code} {Q : State → Prop} {D : va_G} {A : Nat → Prop} {cI cJ cZ cMic cSrc cSt cAI cAJ : ClassId} {ad0 : Nat → Nat} {T0 : AT} {r1 : UInt32} {T1 : AT} (E : cE p c cX11_contrast s m args (Cond.code yX11_contrast cX11_contrast 3 (some .float) :: wsA) D RX11 (CT cI cJ cZ cMic cSrc cSt cAI cAJ)) (hA : ∀ q : Nat, s.heap.size ≤ q → A q) (hX : xT A s) (hN : nX s) (hml : c.maxLocals = 3) (hst : l.stackTraces = false) (kr45 : ∀ (ad : Nat → Nat) (H : Heap) (locs : List Loc) (ls : Array Slot), (∀ n, n < T0.1 → ad n = ad0 n) → gC cI cJ cZ cMic cSrc cSt cAI cAJ D ad A s.heap H locs T1 → W p l e { frames := 7, cells := T1.1 - T0.1, slots := sg T1 - sg T0, locals := 149 } s m args below meth c H locs (T1.1 - T0.1) (sg T1 - sg T0) Q (F0 m 45 ls [.float r1])) : ∀ (T : AT) (ad : Nat → Nat) (H : Heap) (locs : List Loc) (ls : Array Slot) (s0 : Nat) (l0 : Nat), g_X11_contrast_b8 T s0 l0 = some (0, r1, T1) → GL T0 T → RC T → (∀ n, n < T0.1 → ad n = ad0 n) → s0 < T.1 → l0 < T.1 → gC cI cJ cZ cMic cSrc cSt cAI cAJ D ad A s.heap H locs T → lv_has ls 3 [(0, .ref (ad l0))] → W p l e { frames := 7, cells := T1.1 - T0.1, slots := sg T1 - sg T0, locals := 149 } s m args below meth c H locs (T.1 - T0.1) (sg T - sg T0) Q (F0 m 8 ls [.ref (ad s0)]) := by
  have hx := E.1
  have hb := E.2.1
  have hts := E.2.2.1
  have hown := E.2.2.2.1
  have hK := E.2.2.2.2
  intro T ad H locs ls s0 l0 h hgl hrc had h_s0 h_l0 G hl
  have hT1 := s_X11_contrast_b8 _ _ _ h
  have hcs := cs_ok hgl hT1
  have cp0 := cpr0 hrc
  unfold g_X11_contrast_b8 at h
  refine lv_astore_n (lv' := [(1, .ref (ad s0)), (0, .ref (ad l0))]) hx hb dX11_contrast_8 rfl hl (by decide) rfl (fun ls hl => ?_)
  refine lv_aload_n hx hb dX11_contrast_9 rfl (lv_at hl 0 rfl) ?_
  refine lv_aload_n hx hb dX11_contrast_10 rfl (lv_at hl 1 rfl) ?_
  obtain ⟨g2, h⟩ := oif_some h
  obtain ⟨n3, en3, h⟩ := obind_some h
  have h_n3 : n3 < T.1 := by rw [← cp0.1]; exact cp0.2.2 _ _ _ en3
  refine c_get E G l0 14 (v := .ref (ad n3)) (oO_k g2).1 (cc_o11 (oO_k g2).2) rfl (fun w h => .tail _ (iA_23 h)) (by decide) (.tail _ qA_675) rfl (by rw [en3]; rfl) dX11_contrast_11 ?_
  clear en3
  obtain ⟨g4, h⟩ := oif_some h
  obtain ⟨n5, en5, h⟩ := obind_some h
  have h_n5 : n5 < T.1 := by rw [← cp0.1]; exact cp0.2.2 _ _ _ en5
  refine c_get E G n3 6 (v := .ref (ad n5)) (oO_k g4).1 (cc_o6 (oO_k g4).2) rfl (fun w h => .tail _ (iA_14 h)) (by decide) (.tail _ qA_695) rfl (by rw [en5]; rfl) dX11_contrast_14 ?_
  clear en5
  obtain ⟨g6, h⟩ := oif_some h
  obtain ⟨r9, T7, eT7, h⟩ := obind2_some h
  refine q_cvi (As := []) (rest := [.ref (ad s0)]) E G hA hX hN hml (u_X1_cells l hst D cI cJ cZ cMic cSrc cSt cAI cAJ ad T n5 eT7) (cwV 0 hts (gaV qA_714 qA_35 qA_36 qA_37 qA_38) rfl rfl rfl (by decide +kernel) ⟨Nat.le_of_ble_eq_true rfl, Nat.le_of_ble_eq_true rfl⟩) (oO_k g6).1 (cc_o1 (oO_k g6).2) rfl rfl hl.1 rfl (lv_room (Nat.le_of_ble_eq_true rfl)) dX11_contrast_17 hcs (fun q10 T8 H locs hq G => ?_)
  obtain ⟨hq1, hq2⟩ := hq
  rw [hq2] at G
  refine lv_to hq1 ?_
  clear hq1 hq2
  have cp1 := cpr_sp cp0 (s_X1_cells eT7)
  obtain ⟨g11, h⟩ := oif_some h
  obtain ⟨r14, T12, eT12, h⟩ := obind2_some h
  refine q_cvi (As := [.int r9]) (rest := []) E G hA hX hN hml (u_X4_second l hst D cI cJ cZ cMic cSrc cSt cAI cAJ ad T7 s0 r9 eT12) (cwV 1 hts (gaV qA_834 qA_835 qA_836 qA_426 qA_437) rfl rfl rfl (by decide +kernel) ⟨Nat.le_of_ble_eq_true rfl, Nat.le_of_ble_eq_true rfl⟩) (oO_k g11).1 (cc_o4 (oO_k g11).2) rfl rfl hl.1 rfl (lv_room (Nat.le_of_ble_eq_true rfl)) dX11_contrast_20 hcs (fun q15 T13 H locs hq G => ?_)
  obtain ⟨hq1, hq2⟩ := hq
  rw [hq2] at G
  refine lv_to hq1 ?_
  clear hq1 hq2
  have cp2 := cpr_sp cp1 (s_X4_second eT12)
  refine lv_istore_n (lv' := [(2, .int r14), (1, .ref (ad s0)), (0, .ref (ad l0))]) hx hb dX11_contrast_23 rfl hl (by decide) rfl (fun ls hl => ?_)
  refine lv_iload_n hx hb dX11_contrast_24 rfl (lv_at hl 0 rfl) ?_
  refine lv_iconst (v := (-1)) hx hb dX11_contrast_25 (by decide) ?_
  refine lv_icmp_ne (tgt := 33) hx hb dX11_contrast_26 (by decide) (fun c16 => ?_) (fun c16 => ?_)
  · have h := oif_neg c16 h
    refine lv_aload_n hx hb dX11_contrast_33 rfl (lv_at hl 1 rfl) ?_
    obtain ⟨g17, h⟩ := oif_some h
    obtain ⟨n18, en18, h⟩ := obind_some h
    have h_n18 : n18 < T.1 := by rw [← cp2.1]; exact cp2.2.2 _ _ _ en18
    refine c_get E G s0 1 (v := .ref (ad n18)) (oO_k g17).1 (cc_o4 (oO_k g17).2) rfl (fun w h => .tail _ (iA_21 h)) (by decide) (.tail _ qA_798) rfl (by rw [en18]; rfl) dX11_contrast_34 ?_
    clear en18
    refine lv_aload_n hx hb dX11_contrast_37 rfl (lv_at hl 1 rfl) ?_
    obtain ⟨g19, h⟩ := oif_some h
    refine c_get E G s0 2 (oO_k g19).1 (cc_o4 (oO_k g19).2) rfl (fun w h => .tail _ (iA_21 h)) (by decide) (.tail _ qA_812) rfl rfl dX11_contrast_38 ?_
    refine lv_topi (fun v20 ev20 => ?_)
    have h := elet_at ev20 h
    clear ev20
    refine lv_iload_n hx hb dX11_contrast_41 rfl (lv_at hl 0 rfl) ?_
    obtain ⟨g21, h⟩ := oif_some h
    obtain ⟨r24, T22, eT22, h⟩ := obind2_some h
    refine q_cvf (As := [.int v20, .int r14]) (rest := []) E G hA hX hN hml (u_X10_ratio l hst D cI cJ cZ cMic cSrc cSt cAI cAJ ad T12 n18 v20 r14 eT22) (cwV 2 hts (gaV qA_837 qA_838 qA_839 qA_6 qA_634) rfl rfl rfl (by decide +kernel) ⟨Nat.le_of_ble_eq_true rfl, Nat.le_of_ble_eq_true rfl⟩) (oO_k g21).1 (cc_o10 (oO_k g21).2) rfl rfl hl.1 rfl (lv_room (Nat.le_of_ble_eq_true rfl)) dX11_contrast_42 hcs (fun q25 T23 H locs hq G => ?_)
    obtain ⟨hq1, hq2⟩ := hq
    rw [hq2] at G
    refine lv_tof hq1 ?_
    clear hq1 hq2
    have cp3 := cpr_sp cp2 (s_X10_ratio eT22)
    have hl := lv_sub hl [] rfl
    refine w_cast (c2 := T22.1 - T0.1) (s2 := sg T22 - sg T0) (by rw [cp3.1] <;> rfl) (by rw [sg_cpr cp3] <;> rfl) ?_
    exact a_X11_contrast_b45 E hA hX hN hml hst kr45 _ _ _ _ _ _ h (gl_cpr hgl cp3) cp3.2.2 had G hl
  · have h := oif_pos c16 h
    refine lv_fconst0 hx hb dX11_contrast_29 ?_
    refine lv_goto (tgt := 45) hx hb dX11_contrast_30 (by decide) ?_
    have hl := lv_sub hl [] rfl
    refine w_cast (c2 := T12.1 - T0.1) (s2 := sg T12 - sg T0) (by rw [cp2.1] <;> rfl) (by rw [sg_cpr cp2] <;> rfl) ?_
    exact a_X11_contrast_b45 E hA hX hN hml hst kr45 _ _ _ _ _ _ h (gl_cpr hgl cp2) cp2.2.2 had G hl
set_option maxHeartbeats 4000000 in
set_option maxRecDepth 100000 in
theorem a_X11_contrast (l : Launch) (hst : l.stackTraces = false) (D : va_G) (cI cJ cZ cMic cSrc cSt cAI cAJ : ClassId) (ad : Nat → Nat) (T : AT) (o : Nat) {r1 : UInt32} {T1 : AT} (h : g_X11_contrast T o = some (0, r1, T1)) (hrc : RC T) (h_o : o < T.1) : kAf l yX11_contrast (Cond.code yX11_contrast cX11_contrast 3 (some .float) :: wsA) 7 149 cI cJ cZ cMic cSrc cSt cAI cAJ D ad T [.ref (ad o)] r1 T1 := by
  intro sz
  refine Met.ofW (cc := cX11_contrast) (maxL := 3) (ret := (some .float)) (by decide) rfl ?_
  intro p e s m args below meth c s₁ B hml hv
  obtain ⟨rfl, hsz, hP, hK, hD0, hX, hN⟩ := hv
  have hx := B.exec
  have hb := B.bytes
  have hr := B.returns
  have hts := atoms_spec (ws := (Cond.code yX11_contrast cX11_contrast 3 (some .float) :: wsA)) B.pre
  have hown : s.vm.findClass RX11 = some m.cls := findClass_of_methodNamed B.named
  have hlocks := B.notSynchronized
  subst hsz
  have hD := hD0.self (sz := s.heap.size)
  generalize hAe : va_A (cW ad T.1 (cc cI cJ cZ cMic cSrc cSt cAI cAJ ad T)) s.heap.size = A at hD hX ⊢
  have hA : ∀ q : Nat, s.heap.size ≤ q → A q := fun q h => by rw [← hAe]; exact Or.inr h
  have G : gC cI cJ cZ cMic cSrc cSt cAI cAJ D ad A s.heap s.heap [] T := ⟨hP, hD, va_S.rf⟩
  have E : cE p c cX11_contrast s m ([.ref (ad o)] : List Value).toArray (Cond.code yX11_contrast cX11_contrast 3 (some .float) :: wsA) D RX11 (CT cI cJ cZ cMic cSrc cSt cAI cAJ) := ⟨hx, hb, hts, hown, hK⟩
  have hl := lv_entry ([.ref (ad o)]) (n := 3) (Nat.le_of_ble_eq_true rfl)
  rw [lg_entry_eq]
  generalize (lg_sl ([.ref (ad o)]) ++ List.replicate (3 - (lg_sl ([.ref (ad o)])).length) Slot.unset).toArray = ls at hl ⊢
  have hl : lv_has ls 3 [(0, .ref (ad o))] := hl
  have hgl := GL.rf T
  have had : ∀ n, n < T.1 → ad n = ad n := fun _ _ => rfl
  have hT1 := s_X11_contrast h
  have hcs := cs_ok hgl hT1
  refine w_cast (Nat.sub_self T.1).symm (Nat.sub_self (sg T)).symm ?_
  have cp0 := cpr0 hrc
  unfold g_X11_contrast at h
  refine lv_aload_n hx hb dX11_contrast_0 rfl (lv_at hl 0 rfl) ?_
  obtain ⟨g2, h⟩ := oif_some h
  obtain ⟨r5, T3, eT3, h⟩ := othr_n h
  refine q_cvv (As := []) (rest := []) E G hA hX hN hml (u_X11_needCamera l hst D cI cJ cZ cMic cSrc cSt cAI cAJ ad T o eT3) (cwV 0 hts (gaV qA_728 qA_729 qA_730 qA_131 qA_731) rfl rfl rfl (by decide +kernel) ⟨Nat.le_of_ble_eq_true rfl, Nat.le_of_ble_eq_true rfl⟩) (oO_k g2).1 (cc_o11 (oO_k g2).2) rfl rfl hl.1 rfl (lv_room (Nat.le_of_ble_eq_true rfl)) dX11_contrast_1 hcs (fun T4 H locs hq G => ?_)
  rw [hq] at G
  clear hq
  have cp1 := cpr_sp cp0 (s_X11_needCamera eT3)
  refine lv_aload_n hx hb dX11_contrast_4 rfl (lv_at hl 0 rfl) ?_
  obtain ⟨g7, h⟩ := oif_some h
  obtain ⟨r9, T8, eT8, h⟩ := obind2_some h
  obtain ⟨g10, h⟩ := oif_some h
  have hg2 := s_X11_powersNow eT8
  have hrc2 := hg2.2.2 cp1.2.2
  have hT2 := s_X11_contrast_b8 _ _ _ h
  refine q_avr (As := []) (rest := []) E G hA hX hN hml (a_X11_powersNow l hst D cI cJ cZ cMic cSrc cSt cAI cAJ ad T3 o eT8 cp1.2.2 (by rw [cp1.1]; exact h_o)) (cwV 0 hts (gaV qA_799 qA_800 qA_801 qA_131 qA_802) rfl rfl rfl (by decide +kernel) ⟨Nat.le_of_ble_eq_true rfl, Nat.le_of_ble_eq_true rfl⟩) (oO_k g7).1 (cc_o11 (oO_k g7).2) rfl rfl hl.1 rfl (lv_room (Nat.le_of_ble_eq_true rfl)) dX11_contrast_5 (cs_av hgl cp1 hg2 hT2) (fun ad2 H locs hga G => ?_)
  refine w_cast (c2 := T8.1 - T.1) (s2 := sg T8 - sg T) (cs_f1 hgl cp1 hg2) (cs_f2 hgl cp1 hg2) ?_
  have h_new : r9 < T8.1 := Nat.le_of_ble_eq_true g10
  have hl := lv_sub hl [0] rfl
  rw [show ad o = ad2 o from (hga o (by rw [cp1.1]; exact h_o)).symm] at hl
  exact a_X11_contrast_b8 E hA hX hN hml hst (fun ad H locs ls had G => W.fret (v := r1) hx hb hr (fun t ht hW => ⟨⟨r1, (T1, ad), rfl, ⟨rfl, rfl, had⟩, ⟨by rw [ht]; exact G.1, va_K.moved hW.alike hK, G.2.1⟩⟩, G.2.2.F ht⟩) G.2.2.2.2 dX11_contrast_45) _ _ _ _ _ _ _ h (GL.tr (gl_cpr hgl cp1) hg2) hrc2 (fun n hn => (hga n (by rw [cp1.1]; exact Nat.lt_of_lt_of_le hn hgl.1)).trans (had n hn)) h_new (Nat.lt_of_lt_of_le (by rw [cp1.1]; exact h_o) hg2.1) G hl
set_option maxHeartbeats 4000000 in
set_option maxRecDepth 100000 in
theorem b_X11_contrast_b45 {p : Program} {l : Launch} {e : Env} {s : State} {m : MethodId} {args : Array Value} {below : List Frame} {meth : Method} {c : Code} {Qc : Array Value → State → Outcome → State → Prop} {XC : String → State → State → Prop} {D : va_G} {A : Nat → Prop} {cI cJ cZ cMic cSrc cSt cAI cAJ : ClassId} {ad0 : Nat → Nat} {T0 : AT} {e1 : Nat} {r1 : UInt32} {T1 : AT} (E : cE p c cX11_contrast s m args (Cond.code yX11_contrast cX11_contrast 3 (some .float) :: wsA) D RX11 (CT cI cJ cZ cMic cSrc cSt cAI cAJ)) (hA : ∀ q : Nat, s.heap.size ≤ q → A q) (hX : xT A s) (hN : nX s) (hml : c.maxLocals = 3) (hst : l.stackTraces = false) (htab : ∀ x ∈ c.exceptionTable.toList, False) (hlocks : meth.locks = false) (kx : ∀ (ad : Nat → Nat) (H : Heap) (locs : List Loc) (t : State), (∀ n, n < T0.1 → ad n = ad0 n) → gC cI cJ cZ cMic cSrc cSt cAI cAJ D ad A s.heap H locs T1 → s.vm.Alike t.vm → H.size ≤ t.heap.size → (∀ q, q < H.size → t.heap[q]? = H[q]?) → XC (exn e1) s t) : ∀ (T : AT) (ad : Nat → Nat) (H : Heap) (locs : List Loc) (ls : Array Slot) (s0 : UInt32), g_X11_contrast_b45 T s0 = some (e1 + 1, r1, T1) → GL T0 T → RC T → (∀ n, n < T0.1 → ad n = ad0 n) → gC cI cJ cZ cMic cSrc cSt cAI cAJ D ad A s.heap H locs T → lv_has ls 3 [] → W p l e { frames := 7, cells := T1.1 - T0.1 + 1, slots := sg T1 - sg T0 + 6, locals := 149 } s m args below meth c H locs (T.1 - T0.1) (sg T - sg T0) (vx_MQ below Qc XC args s (T1.1 - T0.1 + 1) (sg T1 - sg T0 + 6) A) (F0 m 45 ls [.float s0]) := by
  have hx := E.1
  have hb := E.2.1
  have hts := E.2.2.1
  have hown := E.2.2.2.1
  have hK := E.2.2.2.2
  intro T ad H locs ls s0 h hgl hrc had G hl
  have hT1 := s_X11_contrast_b45 _ _ h
  have hcs := cs_okx hgl hT1
  have hcx := cs_okx1 hgl hT1
  have cp0 := cpr0 hrc
  unfold g_X11_contrast_b45 at h
  exact (Nat.succ_ne_zero _ (congrArg Prod.fst (Option.some.inj h)).symm).elim
set_option maxHeartbeats 4000000 in
set_option maxRecDepth 100000 in
theorem b_X11_contrast_b8 {p : Program} {l : Launch} {e : Env} {s : State} {m : MethodId} {args : Array Value} {below : List Frame} {meth : Method} {c : Code} {Qc : Array Value → State → Outcome → State → Prop} {XC : String → State → State → Prop} {D : va_G} {A : Nat → Prop} {cI cJ cZ cMic cSrc cSt cAI cAJ : ClassId} {ad0 : Nat → Nat} {T0 : AT} {e1 : Nat} {r1 : UInt32} {T1 : AT} (E : cE p c cX11_contrast s m args (Cond.code yX11_contrast cX11_contrast 3 (some .float) :: wsA) D RX11 (CT cI cJ cZ cMic cSrc cSt cAI cAJ)) (hA : ∀ q : Nat, s.heap.size ≤ q → A q) (hX : xT A s) (hN : nX s) (hml : c.maxLocals = 3) (hst : l.stackTraces = false) (htab : ∀ x ∈ c.exceptionTable.toList, False) (hlocks : meth.locks = false) (kx : ∀ (ad : Nat → Nat) (H : Heap) (locs : List Loc) (t : State), (∀ n, n < T0.1 → ad n = ad0 n) → gC cI cJ cZ cMic cSrc cSt cAI cAJ D ad A s.heap H locs T1 → s.vm.Alike t.vm → H.size ≤ t.heap.size → (∀ q, q < H.size → t.heap[q]? = H[q]?) → XC (exn e1) s t) : ∀ (T : AT) (ad : Nat → Nat) (H : Heap) (locs : List Loc) (ls : Array Slot) (s0 : Nat) (l0 : Nat), g_X11_contrast_b8 T s0 l0 = some (e1 + 1, r1, T1) → GL T0 T → RC T → (∀ n, n < T0.1 → ad n = ad0 n) → s0 < T.1 → l0 < T.1 → gC cI cJ cZ cMic cSrc cSt cAI cAJ D ad A s.heap H locs T → lv_has ls 3 [(0, .ref (ad l0))] → W p l e { frames := 7, cells := T1.1 - T0.1 + 1, slots := sg T1 - sg T0 + 6, locals := 149 } s m args below meth c H locs (T.1 - T0.1) (sg T - sg T0) (vx_MQ below Qc XC args s (T1.1 - T0.1 + 1) (sg T1 - sg T0 + 6) A) (F0 m 8 ls [.ref (ad s0)]) := by
  have hx := E.1
  have hb := E.2.1
  have hts := E.2.2.1
  have hown := E.2.2.2.1
  have hK := E.2.2.2.2
  intro T ad H locs ls s0 l0 h hgl hrc had h_s0 h_l0 G hl
  have hT1 := s_X11_contrast_b8 _ _ _ h
  have hcs := cs_okx hgl hT1
  have hcx := cs_okx1 hgl hT1
  have cp0 := cpr0 hrc
  unfold g_X11_contrast_b8 at h
  refine lv_astore_n (lv' := [(1, .ref (ad s0)), (0, .ref (ad l0))]) hx hb dX11_contrast_8 rfl hl (by decide) rfl (fun ls hl => ?_)
  refine lv_aload_n hx hb dX11_contrast_9 rfl (lv_at hl 0 rfl) ?_
  refine lv_aload_n hx hb dX11_contrast_10 rfl (lv_at hl 1 rfl) ?_
  obtain ⟨g2, h⟩ := oif_some h
  obtain ⟨n3, en3, h⟩ := obind_some h
  have h_n3 : n3 < T.1 := by rw [← cp0.1]; exact cp0.2.2 _ _ _ en3
  refine c_get E G l0 14 (v := .ref (ad n3)) (oO_k g2).1 (cc_o11 (oO_k g2).2) rfl (fun w h => .tail _ (iA_23 h)) (by decide) (.tail _ qA_675) rfl (by rw [en3]; rfl) dX11_contrast_11 ?_
  clear en3
  obtain ⟨g4, h⟩ := oif_some h
  obtain ⟨n5, en5, h⟩ := obind_some h
  have h_n5 : n5 < T.1 := by rw [← cp0.1]; exact cp0.2.2 _ _ _ en5
  refine c_get E G n3 6 (v := .ref (ad n5)) (oO_k g4).1 (cc_o6 (oO_k g4).2) rfl (fun w h => .tail _ (iA_14 h)) (by decide) (.tail _ qA_695) rfl (by rw [en5]; rfl) dX11_contrast_14 ?_
  clear en5
  obtain ⟨g6, h⟩ := oif_some h
  obtain ⟨r9, T7, eT7, h⟩ := obind2_some h
  refine q_cvi (As := []) (rest := [.ref (ad s0)]) E G hA hX hN hml (u_X1_cells l hst D cI cJ cZ cMic cSrc cSt cAI cAJ ad T n5 eT7) (cwV 0 hts (gaV qA_714 qA_35 qA_36 qA_37 qA_38) rfl rfl rfl (by decide +kernel) ⟨Nat.le_of_ble_eq_true rfl, Nat.le_of_ble_eq_true rfl⟩) (oO_k g6).1 (cc_o1 (oO_k g6).2) rfl rfl hl.1 rfl (lv_room (Nat.le_of_ble_eq_true rfl)) dX11_contrast_17 hcs (fun q10 T8 H locs hq G => ?_)
  obtain ⟨hq1, hq2⟩ := hq
  rw [hq2] at G
  refine lv_to hq1 ?_
  clear hq1 hq2
  have cp1 := cpr_sp cp0 (s_X1_cells eT7)
  obtain ⟨g11, h⟩ := oif_some h
  obtain ⟨r14, T12, eT12, h⟩ := obind2_some h
  refine q_cvi (As := [.int r9]) (rest := []) E G hA hX hN hml (u_X4_second l hst D cI cJ cZ cMic cSrc cSt cAI cAJ ad T7 s0 r9 eT12) (cwV 1 hts (gaV qA_834 qA_835 qA_836 qA_426 qA_437) rfl rfl rfl (by decide +kernel) ⟨Nat.le_of_ble_eq_true rfl, Nat.le_of_ble_eq_true rfl⟩) (oO_k g11).1 (cc_o4 (oO_k g11).2) rfl rfl hl.1 rfl (lv_room (Nat.le_of_ble_eq_true rfl)) dX11_contrast_20 hcs (fun q15 T13 H locs hq G => ?_)
  obtain ⟨hq1, hq2⟩ := hq
  rw [hq2] at G
  refine lv_to hq1 ?_
  clear hq1 hq2
  have cp2 := cpr_sp cp1 (s_X4_second eT12)
  refine lv_istore_n (lv' := [(2, .int r14), (1, .ref (ad s0)), (0, .ref (ad l0))]) hx hb dX11_contrast_23 rfl hl (by decide) rfl (fun ls hl => ?_)
  refine lv_iload_n hx hb dX11_contrast_24 rfl (lv_at hl 0 rfl) ?_
  refine lv_iconst (v := (-1)) hx hb dX11_contrast_25 (by decide) ?_
  refine lv_icmp_ne (tgt := 33) hx hb dX11_contrast_26 (by decide) (fun c16 => ?_) (fun c16 => ?_)
  · have h := oif_neg c16 h
    refine lv_aload_n hx hb dX11_contrast_33 rfl (lv_at hl 1 rfl) ?_
    obtain ⟨g17, h⟩ := oif_some h
    obtain ⟨n18, en18, h⟩ := obind_some h
    have h_n18 : n18 < T.1 := by rw [← cp2.1]; exact cp2.2.2 _ _ _ en18
    refine c_get E G s0 1 (v := .ref (ad n18)) (oO_k g17).1 (cc_o4 (oO_k g17).2) rfl (fun w h => .tail _ (iA_21 h)) (by decide) (.tail _ qA_798) rfl (by rw [en18]; rfl) dX11_contrast_34 ?_
    clear en18
    refine lv_aload_n hx hb dX11_contrast_37 rfl (lv_at hl 1 rfl) ?_
    obtain ⟨g19, h⟩ := oif_some h
    refine c_get E G s0 2 (oO_k g19).1 (cc_o4 (oO_k g19).2) rfl (fun w h => .tail _ (iA_21 h)) (by decide) (.tail _ qA_812) rfl rfl dX11_contrast_38 ?_
    refine lv_topi (fun v20 ev20 => ?_)
    have h := elet_at ev20 h
    clear ev20
    refine lv_iload_n hx hb dX11_contrast_41 rfl (lv_at hl 0 rfl) ?_
    obtain ⟨g21, h⟩ := oif_some h
    obtain ⟨r24, T22, eT22, h⟩ := obind2_some h
    refine q_cvf (As := [.int v20, .int r14]) (rest := []) E G hA hX hN hml (u_X10_ratio l hst D cI cJ cZ cMic cSrc cSt cAI cAJ ad T12 n18 v20 r14 eT22) (cwV 2 hts (gaV qA_837 qA_838 qA_839 qA_6 qA_634) rfl rfl rfl (by decide +kernel) ⟨Nat.le_of_ble_eq_true rfl, Nat.le_of_ble_eq_true rfl⟩) (oO_k g21).1 (cc_o10 (oO_k g21).2) rfl rfl hl.1 rfl (lv_room (Nat.le_of_ble_eq_true rfl)) dX11_contrast_42 hcs (fun q25 T23 H locs hq G => ?_)
    obtain ⟨hq1, hq2⟩ := hq
    rw [hq2] at G
    refine lv_tof hq1 ?_
    clear hq1 hq2
    have cp3 := cpr_sp cp2 (s_X10_ratio eT22)
    have hl := lv_sub hl [] rfl
    refine w_cast (c2 := T22.1 - T0.1) (s2 := sg T22 - sg T0) (by rw [cp3.1] <;> rfl) (by rw [sg_cpr cp3] <;> rfl) ?_
    exact b_X11_contrast_b45 E hA hX hN hml hst htab hlocks kx _ _ _ _ _ _ h (gl_cpr hgl cp3) cp3.2.2 had G hl
  · have h := oif_pos c16 h
    refine lv_fconst0 hx hb dX11_contrast_29 ?_
    refine lv_goto (tgt := 45) hx hb dX11_contrast_30 (by decide) ?_
    have hl := lv_sub hl [] rfl
    refine w_cast (c2 := T12.1 - T0.1) (s2 := sg T12 - sg T0) (by rw [cp2.1] <;> rfl) (by rw [sg_cpr cp2] <;> rfl) ?_
    exact b_X11_contrast_b45 E hA hX hN hml hst htab hlocks kx _ _ _ _ _ _ h (gl_cpr hgl cp2) cp2.2.2 had G hl
set_option maxHeartbeats 4000000 in
set_option maxRecDepth 100000 in
theorem b_X11_contrast (l : Launch) (hst : l.stackTraces = false) (D : va_G) (cI cJ cZ cMic cSrc cSt cAI cAJ : ClassId) (ad : Nat → Nat) (T : AT) (o : Nat) {e1 : Nat} {r1 : UInt32} {T1 : AT} (h : g_X11_contrast T o = some (e1 + 1, r1, T1)) (hrc : RC T) (h_o : o < T.1) : kAXf l yX11_contrast (Cond.code yX11_contrast cX11_contrast 3 (some .float) :: wsA) 7 149 cI cJ cZ cMic cSrc cSt cAI cAJ D ad T [.ref (ad o)] e1 T1 := by
  intro sz
  refine vx_ofW (cc := cX11_contrast) (maxL := 3) (ret := (some .float)) (by decide) rfl ?_
  intro p e s m args below meth c s₁ B hml htab hv
  obtain ⟨rfl, hsz, hP, hK, hD0, hX, hN⟩ := hv
  have hx := B.exec
  have hb := B.bytes
  have hr := B.returns
  have hts := atoms_spec (ws := (Cond.code yX11_contrast cX11_contrast 3 (some .float) :: wsA)) B.pre
  have hown : s.vm.findClass RX11 = some m.cls := findClass_of_methodNamed B.named
  have hlocks := B.notSynchronized
  subst hsz
  have hD := hD0.self (sz := s.heap.size)
  generalize hAe : va_A (cW ad T.1 (cc cI cJ cZ cMic cSrc cSt cAI cAJ ad T)) s.heap.size = A at hD hX ⊢
  have hA : ∀ q : Nat, s.heap.size ≤ q → A q := fun q h => by rw [← hAe]; exact Or.inr h
  have G : gC cI cJ cZ cMic cSrc cSt cAI cAJ D ad A s.heap s.heap [] T := ⟨hP, hD, va_S.rf⟩
  have E : cE p c cX11_contrast s m ([.ref (ad o)] : List Value).toArray (Cond.code yX11_contrast cX11_contrast 3 (some .float) :: wsA) D RX11 (CT cI cJ cZ cMic cSrc cSt cAI cAJ) := ⟨hx, hb, hts, hown, hK⟩
  have htab : ∀ x ∈ c.exceptionTable.toList, False := fun x hx => htab x hx
  have hl := lv_entry ([.ref (ad o)]) (n := 3) (Nat.le_of_ble_eq_true rfl)
  rw [lg_entry_eq]
  generalize (lg_sl ([.ref (ad o)]) ++ List.replicate (3 - (lg_sl ([.ref (ad o)])).length) Slot.unset).toArray = ls at hl ⊢
  have hl : lv_has ls 3 [(0, .ref (ad o))] := hl
  have hgl := GL.rf T
  have had : ∀ n, n < T.1 → ad n = ad n := fun _ _ => rfl
  have hT1 := s_X11_contrast h
  have hcs := cs_okx hgl hT1
  have hcx := cs_okx1 hgl hT1
  refine w_cast (Nat.sub_self T.1).symm (Nat.sub_self (sg T)).symm ?_
  have cp0 := cpr0 hrc
  unfold g_X11_contrast at h
  refine lv_aload_n hx hb dX11_contrast_0 rfl (lv_at hl 0 rfl) ?_
  obtain ⟨g2, h⟩ := oif_some h
  rcases othr_t h with ⟨r0, eT3⟩ | ⟨r5, T3, eT3, h⟩
  · refine q_xvv (As := []) (rest := []) E G hA hX hN hml (x_X11_needCamera l hst D cI cJ cZ cMic cSrc cSt cAI cAJ ad T o eT3) (cwV 0 hts (gaV qA_728 qA_729 qA_730 qA_131 qA_731) rfl rfl rfl (by decide +kernel) ⟨Nat.le_of_ble_eq_true rfl, Nat.le_of_ble_eq_true rfl⟩) (oO_k g2).1 (cc_o11 (oO_k g2).2) rfl rfl hl.1 rfl (lv_room (Nat.le_of_ble_eq_true rfl)) dX11_contrast_1 hcx (fun E9 ce q9 T9 H locs hp G hce hcv hcl => ?_)
    obtain ⟨hE, hT⟩ := hp
    subst hE
    rw [hT] at G
    exact vx_out (fun x hx => (htab x hx).elim) hlocks hce hcv hcl (fun t ht hvm => ⟨(T1, ad), trivial, ⟨⟨rfl, rfl, had⟩, by rw [ht]; exact G.1, va_K.moved hvm hK, G.2.1⟩, G.2.2.F ht⟩) G.2.2.2.2 hcx.1 hcx.2
  refine q_cvv (As := []) (rest := []) E G hA hX hN hml (u_X11_needCamera l hst D cI cJ cZ cMic cSrc cSt cAI cAJ ad T o eT3) (cwV 0 hts (gaV qA_728 qA_729 qA_730 qA_131 qA_731) rfl rfl rfl (by decide +kernel) ⟨Nat.le_of_ble_eq_true rfl, Nat.le_of_ble_eq_true rfl⟩) (oO_k g2).1 (cc_o11 (oO_k g2).2) rfl rfl hl.1 rfl (lv_room (Nat.le_of_ble_eq_true rfl)) dX11_contrast_1 hcs (fun T4 H locs hq G => ?_)
  rw [hq] at G
  clear hq
  have cp1 := cpr_sp cp0 (s_X11_needCamera eT3)
  refine lv_aload_n hx hb dX11_contrast_4 rfl (lv_at hl 0 rfl) ?_
  obtain ⟨g7, h⟩ := oif_some h
  obtain ⟨r9, T8, eT8, h⟩ := obind2_some h
  obtain ⟨g10, h⟩ := oif_some h
  have hg2 := s_X11_powersNow eT8
  have hrc2 := hg2.2.2 cp1.2.2
  have hT2 := s_X11_contrast_b8 _ _ _ h
  refine q_avr (As := []) (rest := []) E G hA hX hN hml (a_X11_powersNow l hst D cI cJ cZ cMic cSrc cSt cAI cAJ ad T3 o eT8 cp1.2.2 (by rw [cp1.1]; exact h_o)) (cwV 0 hts (gaV qA_799 qA_800 qA_801 qA_131 qA_802) rfl rfl rfl (by decide +kernel) ⟨Nat.le_of_ble_eq_true rfl, Nat.le_of_ble_eq_true rfl⟩) (oO_k g7).1 (cc_o11 (oO_k g7).2) rfl rfl hl.1 rfl (lv_room (Nat.le_of_ble_eq_true rfl)) dX11_contrast_5 (cs_avx hgl cp1 hg2 hT2) (fun ad2 H locs hga G => ?_)
  refine w_cast (c2 := T8.1 - T.1) (s2 := sg T8 - sg T) (cs_f1 hgl cp1 hg2) (cs_f2 hgl cp1 hg2) ?_
  have h_new : r9 < T8.1 := Nat.le_of_ble_eq_true g10
  have hl := lv_sub hl [0] rfl
  rw [show ad o = ad2 o from (hga o (by rw [cp1.1]; exact h_o)).symm] at hl
  exact b_X11_contrast_b8 E hA hX hN hml hst htab hlocks (fun ad H locs t had G hvm h1 h2 => ⟨(T1, ad), trivial, ⟨⟨rfl, rfl, had⟩, (c_thrown G hK hvm h1 h2).1⟩, (c_thrown G hK hvm h1 h2).2⟩) _ _ _ _ _ _ _ h (GL.tr (gl_cpr hgl cp1) hg2) hrc2 (fun n hn => (hga n (by rw [cp1.1]; exact Nat.lt_of_lt_of_le hn hgl.1)).trans (had n hn)) h_new (Nat.lt_of_lt_of_le (by rw [cp1.1]; exact h_o) hg2.1) G hl
def g_X11_confusion_b121 (k28 : AT → Nat → Int32 → Nat → Nat → Int32 → Int32 → Option (Int32 × AT)) (k46 : AT → Nat → Int32 → Nat → Nat → Int32 → Int32 → Int32 → Int32 → Option (Int32 × AT)) (T : AT) (l0 : Nat) (l3 : Int32) (l4 : Nat) (l5 : Nat) (l6 : Int32) (l7 : Int32) (l8 : Int32) (l9 : Int32) : Option (Int32 × AT) := elet (l9 + Int32.ofInt (1)) fun v2 => k46 T l0 l3 l4 l5 l6 l7 l8 v2
set_option maxHeartbeats 4000000 in
set_option maxRecDepth 100000 in
theorem u_X11_confusion_b121 {p : Program} {l : Launch} {e : Env} {s : State} {m : MethodId} {args : Array Value} {below : List Frame} {meth : Method} {c : Code} {Q : State → Prop} {D : va_G} {A : Nat → Prop} {cI cJ cZ cMic cSrc cSt cAI cAJ : ClassId} {ad : Nat → Nat} {r1 : Int32} {T1 : AT} (E : cE p c cX11_confusion s m args (Cond.code yX11_confusion cX11_confusion 11 (some .int) :: wsA) D RX11 (CT cI cJ cZ cMic cSrc cSt cAI cAJ)) (hA : ∀ q : Nat, s.heap.size ≤ q → A q) (hX : xT A s) (hN : nX s) (hml : c.maxLocals = 11) (hst : l.stackTraces = false) (kr144 : ∀ (H : Heap) (locs : List Loc) (ls : Array Slot), gC cI cJ cZ cMic cSrc cSt cAI cAJ D ad A s.heap H locs T1 → W p l e { frames := 2, cells := 0, slots := 0, locals := 21 } s m args below meth c H locs 0 0 Q (F0 m 144 ls [.int r1])) {k28 : AT → Nat → Int32 → Nat → Nat → Int32 → Int32 → Option (Int32 × AT)} {k46 : AT → Nat → Int32 → Nat → Nat → Int32 → Int32 → Int32 → Int32 → Option (Int32 × AT)} (hk28 : ∀ (T : AT) (H : Heap) (locs : List Loc) (ls : Array Slot) (l0 : Nat) (l3 : Int32) (l4 : Nat) (l5 : Nat) (l6 : Int32) (l7 : Int32), k28 T l0 l3 l4 l5 l6 l7 = some (r1, T1) → gC cI cJ cZ cMic cSrc cSt cAI cAJ D ad A s.heap H locs T → lv_has ls 11 [(0, .ref (ad l0)), (3, .int l3), (4, .ref (ad l4)), (5, .ref (ad l5)), (6, .int l6), (7, .int l7)] → W p l e { frames := 2, cells := 0, slots := 0, locals := 21 } s m args below meth c H locs 0 0 Q (F0 m 28 ls [])) (hk46 : ∀ (T : AT) (H : Heap) (locs : List Loc) (ls : Array Slot) (l0 : Nat) (l3 : Int32) (l4 : Nat) (l5 : Nat) (l6 : Int32) (l7 : Int32) (l8 : Int32) (l9 : Int32), k46 T l0 l3 l4 l5 l6 l7 l8 l9 = some (r1, T1) → gC cI cJ cZ cMic cSrc cSt cAI cAJ D ad A s.heap H locs T → lv_has ls 11 [(0, .ref (ad l0)), (3, .int l3), (4, .ref (ad l4)), (5, .ref (ad l5)), (6, .int l6), (7, .int l7), (8, .int l8), (9, .int l9)] → W p l e { frames := 2, cells := 0, slots := 0, locals := 21 } s m args below meth c H locs 0 0 Q (F0 m 46 ls [])) : ∀ (T : AT) (H : Heap) (locs : List Loc) (ls : Array Slot) (l0 : Nat) (l3 : Int32) (l4 : Nat) (l5 : Nat) (l6 : Int32) (l7 : Int32) (l8 : Int32) (l9 : Int32), g_X11_confusion_b121 k28 k46 T l0 l3 l4 l5 l6 l7 l8 l9 = some (r1, T1) → gC cI cJ cZ cMic cSrc cSt cAI cAJ D ad A s.heap H locs T → lv_has ls 11 [(0, .ref (ad l0)), (3, .int l3), (4, .ref (ad l4)), (5, .ref (ad l5)), (6, .int l6), (7, .int l7), (8, .int l8), (9, .int l9)] → W p l e { frames := 2, cells := 0, slots := 0, locals := 21 } s m args below meth c H locs 0 0 Q (F0 m 121 ls []) := by
  have hx := E.1
  have hb := E.2.1
  have hts := E.2.2.1
  have hown := E.2.2.2.1
  have hK := E.2.2.2.2
  intro T H locs ls l0 l3 l4 l5 l6 l7 l8 l9 h G hl
  unfold g_X11_confusion_b121 at h
  obtain ⟨v2, ev2, h⟩ := elet_some h
  refine lv_iinc (v := v2) (lv' := [(9, .int v2), (0, .ref (ad l0)), (3, .int l3), (4, .ref (ad l4)), (5, .ref (ad l5)), (6, .int l6), (7, .int l7), (8, .int l8)]) hx hb dX11_confusion_121 hl (k := 7) rfl ev2.symm (by decide) rfl (fun ls hl => ?_)
  refine lv_goto (tgt := 46) hx hb dX11_confusion_124 (by decide) ?_
  have hl := lv_sub hl [1, 2, 3, 4, 5, 6, 7, 0] rfl
  exact hk46 _ _ _ _ _ _ _ _ _ _ _ _ h G hl
def g_X11_confusion_b46 (k28 : AT → Nat → Int32 → Nat → Nat → Int32 → Int32 → Option (Int32 × AT)) : Nat → AT → Nat → Int32 → Nat → Nat → Int32 → Int32 → Int32 → Int32 → Option (Int32 × AT)
  | 0, _, _, _, _, _, _, _, _, _ => none
  | n + 1, T, l0, l3, l4, l5, l6, l7, l8, l9 => oif (oO T l0 11 = true) <| obind (T.2.2.2.2 l0 14) fun n3 => oif (oO T n3 6 = true) <| elet (T.2.2.1 n3 5) fun v5 => if v5 ≤ l9 then (elet (if l6 < l8 then l8 else l6) fun v7 => elet (l7 + Int32.ofInt (1)) fun v8 => k28 T l0 l3 l4 l5 v7 v8) else (oif (aA T l4 100 = true) <| oif (inb l7 (T.2.1 l4).2 = true) <| elet (T.2.2.1 l4 l7.toNatClampNeg) fun v11 => oif (aA T l5 100 = true) <| oif (inb l7 (T.2.1 l5).2 = true) <| elet (T.2.2.1 l5 l7.toNatClampNeg) fun v14 => elet (v11 - v14) fun v15 => oif (aA T l4 100 = true) <| oif (inb l9 (T.2.1 l4).2 = true) <| elet (T.2.2.1 l4 l9.toNatClampNeg) fun v18 => oif (aA T l5 100 = true) <| oif (inb l9 (T.2.1 l5).2 = true) <| elet (T.2.2.1 l5 l9.toNatClampNeg) fun v21 => elet (v18 - v21) fun v22 => elet (v15 - v22) fun v23 => oif (oO T l0 11 = true) <| obind (T.2.2.2.2 l0 6) fun n25 => oif (oO T n25 8 = true) <| obind (T.2.2.2.2 n25 3) fun n27 => oif (aA T n27 102 = true) <| oif (inb l7 (T.2.1 n27).2 = true) <| elet (T.2.2.1 n27 l7.toNatClampNeg) fun v30 => if v30 = 0 then (oif (oO T l0 11 = true) <| obind (T.2.2.2.2 l0 6) fun n33 => oif (oO T n33 8 = true) <| obind (T.2.2.2.2 n33 3) fun n35 => oif (aA T n35 102 = true) <| oif (inb l9 (T.2.1 n35).2 = true) <| elet (T.2.2.1 n35 l9.toNatClampNeg) fun v38 => if v38 = 0 then (obind (g_X11_remainder v23 l3) fun r40 => if r40 = 0 then (elet (l8 + Int32.ofInt (1)) fun v43 => g_X11_confusion_b121 k28 (g_X11_confusion_b46 k28 n) T l0 l3 l4 l5 l6 l7 v43 l9) else (g_X11_confusion_b121 k28 (g_X11_confusion_b46 k28 n) T l0 l3 l4 l5 l6 l7 l8 l9)) else (g_X11_confusion_b121 k28 (g_X11_confusion_b46 k28 n) T l0 l3 l4 l5 l6 l7 l8 l9)) else (g_X11_confusion_b121 k28 (g_X11_confusion_b46 k28 n) T l0 l3 l4 l5 l6 l7 l8 l9))
set_option maxHeartbeats 4000000 in
set_option maxRecDepth 100000 in
theorem u_X11_confusion_b46 {p : Program} {l : Launch} {e : Env} {s : State} {m : MethodId} {args : Array Value} {below : List Frame} {meth : Method} {c : Code} {Q : State → Prop} {D : va_G} {A : Nat → Prop} {cI cJ cZ cMic cSrc cSt cAI cAJ : ClassId} {ad : Nat → Nat} {r1 : Int32} {T1 : AT} (E : cE p c cX11_confusion s m args (Cond.code yX11_confusion cX11_confusion 11 (some .int) :: wsA) D RX11 (CT cI cJ cZ cMic cSrc cSt cAI cAJ)) (hA : ∀ q : Nat, s.heap.size ≤ q → A q) (hX : xT A s) (hN : nX s) (hml : c.maxLocals = 11) (hst : l.stackTraces = false) (kr144 : ∀ (H : Heap) (locs : List Loc) (ls : Array Slot), gC cI cJ cZ cMic cSrc cSt cAI cAJ D ad A s.heap H locs T1 → W p l e { frames := 2, cells := 0, slots := 0, locals := 21 } s m args below meth c H locs 0 0 Q (F0 m 144 ls [.int r1])) {k28 : AT → Nat → Int32 → Nat → Nat → Int32 → Int32 → Option (Int32 × AT)} (hk28 : ∀ (T : AT) (H : Heap) (locs : List Loc) (ls : Array Slot) (l0 : Nat) (l3 : Int32) (l4 : Nat) (l5 : Nat) (l6 : Int32) (l7 : Int32), k28 T l0 l3 l4 l5 l6 l7 = some (r1, T1) → gC cI cJ cZ cMic cSrc cSt cAI cAJ D ad A s.heap H locs T → lv_has ls 11 [(0, .ref (ad l0)), (3, .int l3), (4, .ref (ad l4)), (5, .ref (ad l5)), (6, .int l6), (7, .int l7)] → W p l e { frames := 2, cells := 0, slots := 0, locals := 21 } s m args below meth c H locs 0 0 Q (F0 m 28 ls [])) : ∀ n : Nat, ∀ (T : AT) (H : Heap) (locs : List Loc) (ls : Array Slot) (l0 : Nat) (l3 : Int32) (l4 : Nat) (l5 : Nat) (l6 : Int32) (l7 : Int32) (l8 : Int32) (l9 : Int32), g_X11_confusion_b46 k28 n T l0 l3 l4 l5 l6 l7 l8 l9 = some (r1, T1) → gC cI cJ cZ cMic cSrc cSt cAI cAJ D ad A s.heap H locs T → lv_has ls 11 [(0, .ref (ad l0)), (3, .int l3), (4, .ref (ad l4)), (5, .ref (ad l5)), (6, .int l6), (7, .int l7), (8, .int l8), (9, .int l9)] → W p l e { frames := 2, cells := 0, slots := 0, locals := 21 } s m args below meth c H locs 0 0 Q (F0 m 46 ls []) := by
  have hx := E.1
  have hb := E.2.1
  have hts := E.2.2.1
  have hown := E.2.2.2.1
  have hK := E.2.2.2.2
  intro n
  induction n with
  | zero =>
    intro T H locs ls l0 l3 l4 l5 l6 l7 l8 l9 h
    have h : (none : Option (Int32 × AT)) = some (r1, T1) := h
    cases h
  | succ n ih =>
    intro T H locs ls l0 l3 l4 l5 l6 l7 l8 l9 h G hl
    unfold g_X11_confusion_b46 at h
    refine lv_iload hx hb dX11_confusion_46 (lv_at hl 7 rfl) ?_
    refine lv_aload_n hx hb dX11_confusion_48 rfl (lv_at hl 0 rfl) ?_
    obtain ⟨g2, h⟩ := oif_some h
    obtain ⟨n3, en3, h⟩ := obind_some h
    refine c_get E G l0 14 (v := .ref (ad n3)) (oO_k g2).1 (cc_o11 (oO_k g2).2) rfl (fun w h => .tail _ (iA_23 h)) (by decide) (.tail _ qA_675) rfl (by rw [en3]; rfl) dX11_confusion_49 ?_
    clear en3
    obtain ⟨g4, h⟩ := oif_some h
    refine c_get E G n3 5 (oO_k g4).1 (cc_o6 (oO_k g4).2) rfl (fun w h => .tail _ (iA_14 h)) (by decide) (.tail _ qA_721) rfl rfl dX11_confusion_52 ?_
    refine lv_topi (fun v5 ev5 => ?_)
    have h := elet_at ev5 h
    clear ev5
    refine lv_icmp_ge (tgt := 127) hx hb dX11_confusion_55 (by decide) (fun c6 => ?_) (fun c6 => ?_)
    · have h := oif_pos c6 h
      refine lv_iload hx hb dX11_confusion_127 (lv_at hl 4 rfl) ?_
      refine lv_iload hx hb dX11_confusion_129 (lv_at hl 6 rfl) ?_
      refine va_mmax hx hb (hml.trans hl.1.symm) hown (hts _ (.tail _ qA_845)) (hts _ (.tail _ qA_17)) (hts _ (.tail _ qA_18)) (hts _ (.tail _ qA_19)) (Nat.le_of_ble_eq_true rfl) (Nat.le_of_ble_eq_true rfl) (Nat.zero_le _) (Nat.zero_le _) dX11_confusion_131 ?_
      refine lv_topi (fun v7 ev7 => ?_)
      have h := elet_at ev7 h
      clear ev7
      refine lv_istore (lv' := [(6, .int v7), (0, .ref (ad l0)), (3, .int l3), (4, .ref (ad l4)), (5, .ref (ad l5)), (7, .int l7), (8, .int l8), (9, .int l9)]) hx hb dX11_confusion_134 hl (by decide) rfl (fun ls hl => ?_)
      obtain ⟨v8, ev8, h⟩ := elet_some h
      refine lv_iinc (v := v8) (lv' := [(7, .int v8), (6, .int v7), (0, .ref (ad l0)), (3, .int l3), (4, .ref (ad l4)), (5, .ref (ad l5)), (8, .int l8), (9, .int l9)]) hx hb dX11_confusion_136 hl (k := 5) rfl ev8.symm (by decide) rfl (fun ls hl => ?_)
      refine lv_goto (tgt := 28) hx hb dX11_confusion_139 (by decide) ?_
      have hl := lv_sub hl [2, 3, 4, 5, 1, 0] rfl
      exact hk28 _ _ _ _ _ _ _ _ _ _ h G hl
    · have h := oif_neg c6 h
      refine lv_aload hx hb dX11_confusion_58 (lv_at hl 2 rfl) ?_
      refine lv_iload hx hb dX11_confusion_60 (lv_at hl 5 rfl) ?_
      obtain ⟨g9, h⟩ := oif_some h
      obtain ⟨g10, h⟩ := oif_some h
      refine c_iald E G l4 0 (k := l7.toNatClampNeg) (aA_k g9).1 (cc_a100 (aA_k g9).2.1) rfl (inb_k g10).1 (inb_k g10).2 (aA_k g9).2.2 dX11_confusion_62 ?_
      refine lv_topi (fun v11 ev11 => ?_)
      have h := elet_at ev11 h
      clear ev11
      refine lv_aload hx hb dX11_confusion_63 (lv_at hl 3 rfl) ?_
      refine lv_iload hx hb dX11_confusion_65 (lv_at hl 5 rfl) ?_
      obtain ⟨g12, h⟩ := oif_some h
      obtain ⟨g13, h⟩ := oif_some h
      refine c_iald E G l5 0 (k := l7.toNatClampNeg) (aA_k g12).1 (cc_a100 (aA_k g12).2.1) rfl (inb_k g13).1 (inb_k g13).2 (aA_k g12).2.2 dX11_confusion_67 ?_
      refine lv_topi (fun v14 ev14 => ?_)
      have h := elet_at ev14 h
      clear ev14
      refine lv_isub hx hb dX11_confusion_68 ?_
      refine lv_topi (fun v15 ev15 => ?_)
      have h := elet_at ev15 h
      clear ev15
      refine lv_aload hx hb dX11_confusion_69 (lv_at hl 2 rfl) ?_
      refine lv_iload hx hb dX11_confusion_71 (lv_at hl 7 rfl) ?_
      obtain ⟨g16, h⟩ := oif_some h
      obtain ⟨g17, h⟩ := oif_some h
      refine c_iald E G l4 0 (k := l9.toNatClampNeg) (aA_k g16).1 (cc_a100 (aA_k g16).2.1) rfl (inb_k g17).1 (inb_k g17).2 (aA_k g16).2.2 dX11_confusion_73 ?_
      refine lv_topi (fun v18 ev18 => ?_)
      have h := elet_at ev18 h
      clear ev18
      refine lv_aload hx hb dX11_confusion_74 (lv_at hl 3 rfl) ?_
      refine lv_iload hx hb dX11_confusion_76 (lv_at hl 7 rfl) ?_
      obtain ⟨g19, h⟩ := oif_some h
      obtain ⟨g20, h⟩ := oif_some h
      refine c_iald E G l5 0 (k := l9.toNatClampNeg) (aA_k g19).1 (cc_a100 (aA_k g19).2.1) rfl (inb_k g20).1 (inb_k g20).2 (aA_k g19).2.2 dX11_confusion_78 ?_
      refine lv_topi (fun v21 ev21 => ?_)
      have h := elet_at ev21 h
      clear ev21
      refine lv_isub hx hb dX11_confusion_79 ?_
      refine lv_topi (fun v22 ev22 => ?_)
      have h := elet_at ev22 h
      clear ev22
      refine lv_isub hx hb dX11_confusion_80 ?_
      refine lv_topi (fun v23 ev23 => ?_)
      have h := elet_at ev23 h
      clear ev23
      refine lv_istore (lv' := [(10, .int v23), (0, .ref (ad l0)), (3, .int l3), (4, .ref (ad l4)), (5, .ref (ad l5)), (6, .int l6), (7, .int l7), (8, .int l8), (9, .int l9)]) hx hb dX11_confusion_81 hl (by decide) rfl (fun ls hl => ?_)
      refine lv_aload_n hx hb dX11_confusion_83 rfl (lv_at hl 1 rfl) ?_
      obtain ⟨g24, h⟩ := oif_some h
      obtain ⟨n25, en25, h⟩ := obind_some h
      refine c_get E G l0 6 (v := .ref (ad n25)) (oO_k g24).1 (cc_o11 (oO_k g24).2) rfl (fun w h => .tail _ (iA_23 h)) (by decide) (.tail _ qA_664) rfl (by rw [en25]; rfl) dX11_confusion_84 ?_
      clear en25
      obtain ⟨g26, h⟩ := oif_some h
      obtain ⟨n27, en27, h⟩ := obind_some h
      refine c_get E G n25 3 (v := .ref (ad n27)) (oO_k g26).1 (cc_o8 (oO_k g26).2) rfl (fun w h => .tail _ (iA_16 h)) (by decide) (.tail _ qA_746) rfl (by rw [en27]; rfl) dX11_confusion_87 ?_
      clear en27
      refine lv_iload hx hb dX11_confusion_90 (lv_at hl 6 rfl) ?_
      obtain ⟨g28, h⟩ := oif_some h
      obtain ⟨g29, h⟩ := oif_some h
      refine c_zald E G n27 2 (k := l7.toNatClampNeg) (aA_k g28).1 (cc_a102 (aA_k g28).2.1) rfl (inb_k g29).1 (inb_k g29).2 (aA_k g28).2.2 dX11_confusion_92 ?_
      refine lv_topi (fun v30 ev30 => ?_)
      have h := elet_at ev30 h
      clear ev30
      refine lv_if_ne (tgt := 121) hx hb dX11_confusion_93 (by decide) (fun c31 => ?_) (fun c31 => ?_)
      · have h := oif_neg c31 h
        have hl := lv_sub hl [1, 2, 3, 4, 5, 6, 7, 8] rfl
        exact u_X11_confusion_b121 E hA hX hN hml hst kr144 hk28 ih _ _ _ _ _ _ _ _ _ _ _ _ h G hl
      · have h := oif_pos c31 h
        refine lv_aload_n hx hb dX11_confusion_96 rfl (lv_at hl 1 rfl) ?_
        obtain ⟨g32, h⟩ := oif_some h
        obtain ⟨n33, en33, h⟩ := obind_some h
        refine c_get E G l0 6 (v := .ref (ad n33)) (oO_k g32).1 (cc_o11 (oO_k g32).2) rfl (fun w h => .tail _ (iA_23 h)) (by decide) (.tail _ qA_664) rfl (by rw [en33]; rfl) dX11_confusion_97 ?_
        clear en33
        obtain ⟨g34, h⟩ := oif_some h
        obtain ⟨n35, en35, h⟩ := obind_some h
        refine c_get E G n33 3 (v := .ref (ad n35)) (oO_k g34).1 (cc_o8 (oO_k g34).2) rfl (fun w h => .tail _ (iA_16 h)) (by decide) (.tail _ qA_746) rfl (by rw [en35]; rfl) dX11_confusion_100 ?_
        clear en35
        refine lv_iload hx hb dX11_confusion_103 (lv_at hl 8 rfl) ?_
        obtain ⟨g36, h⟩ := oif_some h
        obtain ⟨g37, h⟩ := oif_some h
        refine c_zald E G n35 2 (k := l9.toNatClampNeg) (aA_k g36).1 (cc_a102 (aA_k g36).2.1) rfl (inb_k g37).1 (inb_k g37).2 (aA_k g36).2.2 dX11_confusion_105 ?_
        refine lv_topi (fun v38 ev38 => ?_)
        have h := elet_at ev38 h
        clear ev38
        refine lv_if_ne (tgt := 121) hx hb dX11_confusion_106 (by decide) (fun c39 => ?_) (fun c39 => ?_)
        · have h := oif_neg c39 h
          have hl := lv_sub hl [1, 2, 3, 4, 5, 6, 7, 8] rfl
          exact u_X11_confusion_b121 E hA hX hN hml hst kr144 hk28 ih _ _ _ _ _ _ _ _ _ _ _ _ h G hl
        · have h := oif_pos c39 h
          refine lv_iload hx hb dX11_confusion_109 (lv_at hl 0 rfl) ?_
          refine lv_iload_n hx hb dX11_confusion_111 rfl (lv_at hl 2 rfl) ?_
          obtain ⟨r40, er40, h⟩ := obind_some h
          refine q_sti (As := [.int v23, .int l3]) (rest := []) ⟨hx, hb, hml, hown, hts⟩ hN (u_X11_remainder l v23 l3 er40) (cwS 2 hts (gaS qA_846 qA_144 qA_131 qA_145) rfl rfl rfl (by decide +kernel) ⟨Nat.le_of_ble_eq_true rfl, Nat.le_of_ble_eq_true rfl⟩) rfl hl.1 rfl (lv_room (Nat.le_of_ble_eq_true rfl)) dX11_confusion_112 ⟨Nat.zero_le _, Nat.zero_le _⟩ (fun q41 hq => ?_)
          refine lv_to hq ?_
          clear hq er40
          refine lv_if_ne (tgt := 121) hx hb dX11_confusion_115 (by decide) (fun c42 => ?_) (fun c42 => ?_)
          · have h := oif_neg c42 h
            have hl := lv_sub hl [1, 2, 3, 4, 5, 6, 7, 8] rfl
            exact u_X11_confusion_b121 E hA hX hN hml hst kr144 hk28 ih _ _ _ _ _ _ _ _ _ _ _ _ h G hl
          · have h := oif_pos c42 h
            obtain ⟨v43, ev43, h⟩ := elet_some h
            refine lv_iinc (v := v43) (lv' := [(8, .int v43), (10, .int v23), (0, .ref (ad l0)), (3, .int l3), (4, .ref (ad l4)), (5, .ref (ad l5)), (6, .int l6), (7, .int l7), (9, .int l9)]) hx hb dX11_confusion_118 hl (k := 7) rfl ev43.symm (by decide) rfl (fun ls hl => ?_)
            have hl := lv_sub hl [2, 3, 4, 5, 6, 7, 0, 8] rfl
            exact u_X11_confusion_b121 E hA hX hN hml hst kr144 hk28 ih _ _ _ _ _ _ _ _ _ _ _ _ h G hl
def g_X11_confusion_b28  : Nat → AT → Nat → Int32 → Nat → Nat → Int32 → Int32 → Option (Int32 × AT)
  | 0, _, _, _, _, _, _, _ => none
  | n + 1, T, l0, l3, l4, l5, l6, l7 => oif (oO T l0 11 = true) <| obind (T.2.2.2.2 l0 14) fun n3 => oif (oO T n3 6 = true) <| elet (T.2.2.1 n3 5) fun v5 => if v5 ≤ l7 then (some (l6, T)) else (g_X11_confusion_b46 (g_X11_confusion_b28 n) 16384 T l0 l3 l4 l5 l6 l7 0 0)
set_option maxHeartbeats 4000000 in
set_option maxRecDepth 100000 in
theorem u_X11_confusion_b28 {p : Program} {l : Launch} {e : Env} {s : State} {m : MethodId} {args : Array Value} {below : List Frame} {meth : Method} {c : Code} {Q : State → Prop} {D : va_G} {A : Nat → Prop} {cI cJ cZ cMic cSrc cSt cAI cAJ : ClassId} {ad : Nat → Nat} {r1 : Int32} {T1 : AT} (E : cE p c cX11_confusion s m args (Cond.code yX11_confusion cX11_confusion 11 (some .int) :: wsA) D RX11 (CT cI cJ cZ cMic cSrc cSt cAI cAJ)) (hA : ∀ q : Nat, s.heap.size ≤ q → A q) (hX : xT A s) (hN : nX s) (hml : c.maxLocals = 11) (hst : l.stackTraces = false) (kr144 : ∀ (H : Heap) (locs : List Loc) (ls : Array Slot), gC cI cJ cZ cMic cSrc cSt cAI cAJ D ad A s.heap H locs T1 → W p l e { frames := 2, cells := 0, slots := 0, locals := 21 } s m args below meth c H locs 0 0 Q (F0 m 144 ls [.int r1])) : ∀ n : Nat, ∀ (T : AT) (H : Heap) (locs : List Loc) (ls : Array Slot) (l0 : Nat) (l3 : Int32) (l4 : Nat) (l5 : Nat) (l6 : Int32) (l7 : Int32), g_X11_confusion_b28 n T l0 l3 l4 l5 l6 l7 = some (r1, T1) → gC cI cJ cZ cMic cSrc cSt cAI cAJ D ad A s.heap H locs T → lv_has ls 11 [(0, .ref (ad l0)), (3, .int l3), (4, .ref (ad l4)), (5, .ref (ad l5)), (6, .int l6), (7, .int l7)] → W p l e { frames := 2, cells := 0, slots := 0, locals := 21 } s m args below meth c H locs 0 0 Q (F0 m 28 ls []) := by
  have hx := E.1
  have hb := E.2.1
  have hts := E.2.2.1
  have hown := E.2.2.2.1
  have hK := E.2.2.2.2
  intro n
  induction n with
  | zero =>
    intro T H locs ls l0 l3 l4 l5 l6 l7 h
    have h : (none : Option (Int32 × AT)) = some (r1, T1) := h
    cases h
  | succ n ih =>
    intro T H locs ls l0 l3 l4 l5 l6 l7 h G hl
    unfold g_X11_confusion_b28 at h
    refine lv_iload hx hb dX11_confusion_28 (lv_at hl 5 rfl) ?_
    refine lv_aload_n hx hb dX11_confusion_30 rfl (lv_at hl 0 rfl) ?_
    obtain ⟨g2, h⟩ := oif_some h
    obtain ⟨n3, en3, h⟩ := obind_some h
    refine c_get E G l0 14 (v := .ref (ad n3)) (oO_k g2).1 (cc_o11 (oO_k g2).2) rfl (fun w h => .tail _ (iA_23 h)) (by decide) (.tail _ qA_675) rfl (by rw [en3]; rfl) dX11_confusion_31 ?_
    clear en3
    obtain ⟨g4, h⟩ := oif_some h
    refine c_get E G n3 5 (oO_k g4).1 (cc_o6 (oO_k g4).2) rfl (fun w h => .tail _ (iA_14 h)) (by decide) (.tail _ qA_721) rfl rfl dX11_confusion_34 ?_
    refine lv_topi (fun v5 ev5 => ?_)
    have h := elet_at ev5 h
    clear ev5
    refine lv_icmp_ge (tgt := 142) hx hb dX11_confusion_37 (by decide) (fun c6 => ?_) (fun c6 => ?_)
    · have h := oif_pos c6 h
      refine lv_iload hx hb dX11_confusion_142 (lv_at hl 4 rfl) ?_
      rw [(osome2 h).2] at G
      refine lv_to (osome2 h).1 ?_
      exact kr144 _ _ _ G
    · have h := oif_neg c6 h
      refine lv_iconst (v := 0) hx hb dX11_confusion_40 (by decide) ?_
      refine lv_istore (lv' := [(8, .int 0), (0, .ref (ad l0)), (3, .int l3), (4, .ref (ad l4)), (5, .ref (ad l5)), (6, .int l6), (7, .int l7)]) hx hb dX11_confusion_41 hl (by decide) rfl (fun ls hl => ?_)
      refine lv_iconst (v := 0) hx hb dX11_confusion_43 (by decide) ?_
      refine lv_istore (lv' := [(9, .int 0), (8, .int 0), (0, .ref (ad l0)), (3, .int l3), (4, .ref (ad l4)), (5, .ref (ad l5)), (6, .int l6), (7, .int l7)]) hx hb dX11_confusion_44 hl (by decide) rfl (fun ls hl => ?_)
      have hl := lv_sub hl [2, 3, 4, 5, 6, 7, 1, 0] rfl
      exact u_X11_confusion_b46 E hA hX hN hml hst kr144 ih _ _ _ _ _ _ _ _ _ _ _ _ _ h G hl
def g_X11_confusion (T : AT) (o : Nat) (a0 : Int32) (a1 : Int32) (a2 : Int32) : Option (Int32 × AT) := oif (oO T o 11 = true) <| obind (T.2.2.2.2 o 14) fun n3 => oif (oO T n3 6 = true) <| obind (T.2.2.2.2 n3 17) fun n5 => oif (aA T n5 106 = true) <| oif (inb a0 (T.2.1 n5).2 = true) <| obind (T.2.2.2.2 n5 a0.toNatClampNeg) fun n8 => oif (oO T o 11 = true) <| obind (T.2.2.2.2 o 14) fun n10 => oif (oO T n10 6 = true) <| obind (T.2.2.2.2 n10 17) fun n12 => oif (aA T n12 106 = true) <| oif (inb a1 (T.2.1 n12).2 = true) <| obind (T.2.2.2.2 n12 a1.toNatClampNeg) fun n15 => g_X11_confusion_b28 16384 T o a2 n8 n15 0 0
set_option maxHeartbeats 4000000 in
set_option maxRecDepth 100000 in
theorem u_X11_confusion (l : Launch) (hst : l.stackTraces = false) (D : va_G) (cI cJ cZ cMic cSrc cSt cAI cAJ : ClassId) (ad : Nat → Nat) (T : AT) (o : Nat) (a0 : Int32) (a1 : Int32) (a2 : Int32) {r1 : Int32} {T1 : AT} (h : g_X11_confusion T o a0 a1 a2 = some (r1, T1)) : kCi l yX11_confusion (Cond.code yX11_confusion cX11_confusion 11 (some .int) :: wsA) 2 21 cI cJ cZ cMic cSrc cSt cAI cAJ D ad T [.ref (ad o), .int a0, .int a1, .int a2] (fun r T9 => r = r1 ∧ T9 = T1) := by
  intro sz
  refine Met.ofW (cc := cX11_confusion) (maxL := 11) (ret := (some .int)) (by decide) rfl ?_
  intro p e s m args below meth c s₁ B hml hv
  obtain ⟨rfl, hsz, hP, hK, hD0, hX, hN⟩ := hv
  have hx := B.exec
  have hb := B.bytes
  have hr := B.returns
  have hts := atoms_spec (ws := (Cond.code yX11_confusion cX11_confusion 11 (some .int) :: wsA)) B.pre
  have hown : s.vm.findClass RX11 = some m.cls := findClass_of_methodNamed B.named
  have hlocks := B.notSynchronized
  subst hsz
  have hD := hD0.self (sz := s.heap.size)
  generalize hAe : va_A (cW ad T.1 (cc cI cJ cZ cMic cSrc cSt cAI cAJ ad T)) s.heap.size = A at hD hX ⊢
  have hA : ∀ q : Nat, s.heap.size ≤ q → A q := fun q h => by rw [← hAe]; exact Or.inr h
  have G : gC cI cJ cZ cMic cSrc cSt cAI cAJ D ad A s.heap s.heap [] T := ⟨hP, hD, va_S.rf⟩
  have E : cE p c cX11_confusion s m ([.ref (ad o), .int a0, .int a1, .int a2] : List Value).toArray (Cond.code yX11_confusion cX11_confusion 11 (some .int) :: wsA) D RX11 (CT cI cJ cZ cMic cSrc cSt cAI cAJ) := ⟨hx, hb, hts, hown, hK⟩
  have hl := lv_entry ([.ref (ad o), .int a0, .int a1, .int a2]) (n := 11) (Nat.le_of_ble_eq_true rfl)
  rw [lg_entry_eq]
  generalize (lg_sl ([.ref (ad o), .int a0, .int a1, .int a2]) ++ List.replicate (11 - (lg_sl ([.ref (ad o), .int a0, .int a1, .int a2])).length) Slot.unset).toArray = ls at hl ⊢
  have hl : lv_has ls 11 [(0, .ref (ad o)), (1, .int a0), (2, .int a1), (3, .int a2)] := hl
  unfold g_X11_confusion at h
  refine lv_aload_n hx hb dX11_confusion_0 rfl (lv_at hl 0 rfl) ?_
  obtain ⟨g2, h⟩ := oif_some h
  obtain ⟨n3, en3, h⟩ := obind_some h
  refine c_get E G o 14 (v := .ref (ad n3)) (oO_k g2).1 (cc_o11 (oO_k g2).2) rfl (fun w h => .tail _ (iA_23 h)) (by decide) (.tail _ qA_675) rfl (by rw [en3]; rfl) dX11_confusion_1 ?_
  clear en3
  obtain ⟨g4, h⟩ := oif_some h
  obtain ⟨n5, en5, h⟩ := obind_some h
  refine c_get E G n3 17 (v := .ref (ad n5)) (oO_k g4).1 (cc_o6 (oO_k g4).2) rfl (fun w h => .tail _ (iA_14 h)) (by decide) (.tail _ qA_778) rfl (by rw [en5]; rfl) dX11_confusion_4 ?_
  clear en5
  refine lv_iload_n hx hb dX11_confusion_7 rfl (lv_at hl 1 rfl) ?_
  obtain ⟨g6, h⟩ := oif_some h
  obtain ⟨g7, h⟩ := oif_some h
  obtain ⟨n8, en8, h⟩ := obind_some h
  refine c_alda E G n5 6 (k := a0.toNatClampNeg) (v := .ref (ad n8)) (aA_k g6).1 (cc_a106 (aA_k g6).2.1) rfl (inb_k g7).1 (inb_k g7).2 (aA_k g6).2.2 (by show va_rf ((T.2.2.2.2 n5 a0.toNatClampNeg).map ad) = _; rw [en8]; rfl) dX11_confusion_8 ?_
  clear en8
  refine lv_astore (lv' := [(4, .ref (ad n8)), (0, .ref (ad o)), (1, .int a0), (2, .int a1), (3, .int a2)]) hx hb dX11_confusion_9 hl (by decide) rfl (fun ls hl => ?_)
  refine lv_aload_n hx hb dX11_confusion_11 rfl (lv_at hl 1 rfl) ?_
  obtain ⟨g9, h⟩ := oif_some h
  obtain ⟨n10, en10, h⟩ := obind_some h
  refine c_get E G o 14 (v := .ref (ad n10)) (oO_k g9).1 (cc_o11 (oO_k g9).2) rfl (fun w h => .tail _ (iA_23 h)) (by decide) (.tail _ qA_675) rfl (by rw [en10]; rfl) dX11_confusion_12 ?_
  clear en10
  obtain ⟨g11, h⟩ := oif_some h
  obtain ⟨n12, en12, h⟩ := obind_some h
  refine c_get E G n10 17 (v := .ref (ad n12)) (oO_k g11).1 (cc_o6 (oO_k g11).2) rfl (fun w h => .tail _ (iA_14 h)) (by decide) (.tail _ qA_778) rfl (by rw [en12]; rfl) dX11_confusion_15 ?_
  clear en12
  refine lv_iload_n hx hb dX11_confusion_18 rfl (lv_at hl 3 rfl) ?_
  obtain ⟨g13, h⟩ := oif_some h
  obtain ⟨g14, h⟩ := oif_some h
  obtain ⟨n15, en15, h⟩ := obind_some h
  refine c_alda E G n12 6 (k := a1.toNatClampNeg) (v := .ref (ad n15)) (aA_k g13).1 (cc_a106 (aA_k g13).2.1) rfl (inb_k g14).1 (inb_k g14).2 (aA_k g13).2.2 (by show va_rf ((T.2.2.2.2 n12 a1.toNatClampNeg).map ad) = _; rw [en15]; rfl) dX11_confusion_19 ?_
  clear en15
  refine lv_astore (lv' := [(5, .ref (ad n15)), (4, .ref (ad n8)), (0, .ref (ad o)), (1, .int a0), (2, .int a1), (3, .int a2)]) hx hb dX11_confusion_20 hl (by decide) rfl (fun ls hl => ?_)
  refine lv_iconst (v := 0) hx hb dX11_confusion_22 (by decide) ?_
  refine lv_istore (lv' := [(6, .int 0), (5, .ref (ad n15)), (4, .ref (ad n8)), (0, .ref (ad o)), (1, .int a0), (2, .int a1), (3, .int a2)]) hx hb dX11_confusion_23 hl (by decide) rfl (fun ls hl => ?_)
  refine lv_iconst (v := 0) hx hb dX11_confusion_25 (by decide) ?_
  refine lv_istore (lv' := [(7, .int 0), (6, .int 0), (5, .ref (ad n15)), (4, .ref (ad n8)), (0, .ref (ad o)), (1, .int a0), (2, .int a1), (3, .int a2)]) hx hb dX11_confusion_26 hl (by decide) rfl (fun ls hl => ?_)
  have hl := lv_sub hl [4, 7, 3, 2, 1, 0] rfl
  exact u_X11_confusion_b28 E hA hX hN hml hst (fun H locs ls G => W.iret (v := r1) hx hb hr (fun t ht hW => ⟨⟨r1, T1, rfl, ⟨rfl, rfl⟩, ⟨by rw [ht]; exact G.1, va_K.moved hW.alike hK, G.2.1⟩⟩, G.2.2.F ht⟩) G.2.2.2.2 dX11_confusion_144) _ _ _ _ _ _ _ _ _ _ _ h G hl
set_option maxHeartbeats 4000000 in
set_option maxRecDepth 100000 in
theorem s_X11_confusion_b121 {r1 : Int32} {T1 : AT} {k28 : AT → Nat → Int32 → Nat → Nat → Int32 → Int32 → Option (Int32 × AT)} {k46 : AT → Nat → Int32 → Nat → Nat → Int32 → Int32 → Int32 → Int32 → Option (Int32 × AT)} (hk28 : ∀ (T : AT) (l0 : Nat) (l3 : Int32) (l4 : Nat) (l5 : Nat) (l6 : Int32) (l7 : Int32), k28 T l0 l3 l4 l5 l6 l7 = some (r1, T1) → SP T T1) (hk46 : ∀ (T : AT) (l0 : Nat) (l3 : Int32) (l4 : Nat) (l5 : Nat) (l6 : Int32) (l7 : Int32) (l8 : Int32) (l9 : Int32), k46 T l0 l3 l4 l5 l6 l7 l8 l9 = some (r1, T1) → SP T T1) : ∀ (T : AT) (l0 : Nat) (l3 : Int32) (l4 : Nat) (l5 : Nat) (l6 : Int32) (l7 : Int32) (l8 : Int32) (l9 : Int32), g_X11_confusion_b121 k28 k46 T l0 l3 l4 l5 l6 l7 l8 l9 = some (r1, T1) → SP T T1 := by
  intro T l0 l3 l4 l5 l6 l7 l8 l9 h
  have p0 := SP.rf T
  unfold g_X11_confusion_b121 at h
  obtain ⟨v2, ev2, h⟩ := elet_some h
  exact SP.tr p0 (hk46 _ _ _ _ _ _ _ _ _ h)
set_option maxHeartbeats 4000000 in
set_option maxRecDepth 100000 in
theorem s_X11_confusion_b46 {r1 : Int32} {T1 : AT} {k28 : AT → Nat → Int32 → Nat → Nat → Int32 → Int32 → Option (Int32 × AT)} (hk28 : ∀ (T : AT) (l0 : Nat) (l3 : Int32) (l4 : Nat) (l5 : Nat) (l6 : Int32) (l7 : Int32), k28 T l0 l3 l4 l5 l6 l7 = some (r1, T1) → SP T T1) : ∀ n : Nat, ∀ (T : AT) (l0 : Nat) (l3 : Int32) (l4 : Nat) (l5 : Nat) (l6 : Int32) (l7 : Int32) (l8 : Int32) (l9 : Int32), g_X11_confusion_b46 k28 n T l0 l3 l4 l5 l6 l7 l8 l9 = some (r1, T1) → SP T T1 := by
  intro n
  induction n with
  | zero =>
    intro T l0 l3 l4 l5 l6 l7 l8 l9 h
    have h : (none : Option (Int32 × AT)) = some (r1, T1) := h
    cases h
  | succ n ih =>
    intro T l0 l3 l4 l5 l6 l7 l8 l9 h
    have p0 := SP.rf T
    unfold g_X11_confusion_b46 at h
    obtain ⟨g2, h⟩ := oif_some h
    obtain ⟨n3, en3, h⟩ := obind_some h
    obtain ⟨g4, h⟩ := oif_some h
    obtain ⟨v5, -, h⟩ := elet_some h
    rcases oif_or h with ⟨c6, h⟩ | ⟨c6, h⟩
    · have h := h
      obtain ⟨v7, -, h⟩ := elet_some h
      obtain ⟨v8, ev8, h⟩ := elet_some h
      exact SP.tr p0 (hk28 _ _ _ _ _ _ _ h)
    · have h := h
      obtain ⟨g9, h⟩ := oif_some h
      obtain ⟨g10, h⟩ := oif_some h
      obtain ⟨v11, -, h⟩ := elet_some h
      obtain ⟨g12, h⟩ := oif_some h
      obtain ⟨g13, h⟩ := oif_some h
      obtain ⟨v14, -, h⟩ := elet_some h
      obtain ⟨v15, -, h⟩ := elet_some h
      obtain ⟨g16, h⟩ := oif_some h
      obtain ⟨g17, h⟩ := oif_some h
      obtain ⟨v18, -, h⟩ := elet_some h
      obtain ⟨g19, h⟩ := oif_some h
      obtain ⟨g20, h⟩ := oif_some h
      obtain ⟨v21, -, h⟩ := elet_some h
      obtain ⟨v22, -, h⟩ := elet_some h
      obtain ⟨v23, -, h⟩ := elet_some h
      obtain ⟨g24, h⟩ := oif_some h
      obtain ⟨n25, en25, h⟩ := obind_some h
      obtain ⟨g26, h⟩ := oif_some h
      obtain ⟨n27, en27, h⟩ := obind_some h
      obtain ⟨g28, h⟩ := oif_some h
      obtain ⟨g29, h⟩ := oif_some h
      obtain ⟨v30, -, h⟩ := elet_some h
      rcases oif_or h with ⟨c31, h⟩ | ⟨c31, h⟩
      · have h := h
        obtain ⟨g32, h⟩ := oif_some h
        obtain ⟨n33, en33, h⟩ := obind_some h
        obtain ⟨g34, h⟩ := oif_some h
        obtain ⟨n35, en35, h⟩ := obind_some h
        obtain ⟨g36, h⟩ := oif_some h
        obtain ⟨g37, h⟩ := oif_some h
        obtain ⟨v38, -, h⟩ := elet_some h
        rcases oif_or h with ⟨c39, h⟩ | ⟨c39, h⟩
        · have h := h
          obtain ⟨r40, -, h⟩ := obind_some h
          rcases oif_or h with ⟨c41, h⟩ | ⟨c41, h⟩
          · have h := h
            obtain ⟨v42, ev42, h⟩ := elet_some h
            exact SP.tr p0 (s_X11_confusion_b121 hk28 ih _ _ _ _ _ _ _ _ _ h)
          · have h := h
            exact SP.tr p0 (s_X11_confusion_b121 hk28 ih _ _ _ _ _ _ _ _ _ h)
        · have h := h
          exact SP.tr p0 (s_X11_confusion_b121 hk28 ih _ _ _ _ _ _ _ _ _ h)
      · have h := h
        exact SP.tr p0 (s_X11_confusion_b121 hk28 ih _ _ _ _ _ _ _ _ _ h)
set_option maxHeartbeats 4000000 in
set_option maxRecDepth 100000 in
theorem s_X11_confusion_b28 {r1 : Int32} {T1 : AT} : ∀ n : Nat, ∀ (T : AT) (l0 : Nat) (l3 : Int32) (l4 : Nat) (l5 : Nat) (l6 : Int32) (l7 : Int32), g_X11_confusion_b28 n T l0 l3 l4 l5 l6 l7 = some (r1, T1) → SP T T1 := by
  intro n
  induction n with
  | zero =>
    intro T l0 l3 l4 l5 l6 l7 h
    have h : (none : Option (Int32 × AT)) = some (r1, T1) := h
    cases h
  | succ n ih =>
    intro T l0 l3 l4 l5 l6 l7 h
    have p0 := SP.rf T
    unfold g_X11_confusion_b28 at h
    obtain ⟨g2, h⟩ := oif_some h
    obtain ⟨n3, en3, h⟩ := obind_some h
    obtain ⟨g4, h⟩ := oif_some h
    obtain ⟨v5, -, h⟩ := elet_some h
    rcases oif_or h with ⟨c6, h⟩ | ⟨c6, h⟩
    · have h := h
      rw [← (osome2 h).2]
      exact p0
    · have h := h
      exact SP.tr p0 (s_X11_confusion_b46 ih _ _ _ _ _ _ _ _ _ _ h)
set_option maxHeartbeats 4000000 in
set_option maxRecDepth 100000 in
theorem s_X11_confusion {T : AT} {o : Nat} {a0 : Int32} {a1 : Int32} {a2 : Int32} {r1 : Int32} {T1 : AT} (h : g_X11_confusion T o a0 a1 a2 = some (r1, T1)) : SP T T1 := by
  have p0 := SP.rf T
  unfold g_X11_confusion at h
  obtain ⟨g2, h⟩ := oif_some h
  obtain ⟨n3, en3, h⟩ := obind_some h
  obtain ⟨g4, h⟩ := oif_some h
  obtain ⟨n5, en5, h⟩ := obind_some h
  obtain ⟨g6, h⟩ := oif_some h
  obtain ⟨g7, h⟩ := oif_some h
  obtain ⟨n8, en8, h⟩ := obind_some h
  obtain ⟨g9, h⟩ := oif_some h
  obtain ⟨n10, en10, h⟩ := obind_some h
  obtain ⟨g11, h⟩ := oif_some h
  obtain ⟨n12, en12, h⟩ := obind_some h
  obtain ⟨g13, h⟩ := oif_some h
  obtain ⟨g14, h⟩ := oif_some h
  obtain ⟨n15, en15, h⟩ := obind_some h
  exact SP.tr p0 (s_X11_confusion_b28 _ _ _ _ _ _ _ _ h)
def g_X11_alias (T : AT) (o : Nat) (a0 : Int32) (a1 : Int32) (a2 : Int32) : Option (Nat × Int32 × AT) := oif (oO T o 11 = true) <| othr (g_X11_needCamera T o) 0 fun r5 T3 => oif (oO T3 o 11 = true) <| othr (g_X11_needCell T3 o a0) 0 fun r10 T8 => oif (oO T8 o 11 = true) <| othr (g_X11_needCell T8 o a1) 0 fun r15 T13 => othr (g_X11_needRange T13 a2 (2 : Int32) (99 : Int32)) 0 fun r19 T17 => oif (oO T17 o 11 = true) <| obind2 (g_X11_confusion T17 o a0 a1 a2) fun r24 T22 => some (0, r24, T22)
set_option maxHeartbeats 4000000 in
set_option maxRecDepth 100000 in
theorem u_X11_alias (l : Launch) (hst : l.stackTraces = false) (D : va_G) (cI cJ cZ cMic cSrc cSt cAI cAJ : ClassId) (ad : Nat → Nat) (T : AT) (o : Nat) (a0 : Int32) (a1 : Int32) (a2 : Int32) {r1 : Int32} {T1 : AT} (h : g_X11_alias T o a0 a1 a2 = some (0, r1, T1)) : kCi l yX11_alias (Cond.code yX11_alias cX11_alias 4 (some .int) :: wsA) 8 123 cI cJ cZ cMic cSrc cSt cAI cAJ D ad T [.ref (ad o), .int a0, .int a1, .int a2] (fun r T9 => r = r1 ∧ T9 = T1) := by
  intro sz
  refine Met.ofW (cc := cX11_alias) (maxL := 4) (ret := (some .int)) (by decide) rfl ?_
  intro p e s m args below meth c s₁ B hml hv
  obtain ⟨rfl, hsz, hP, hK, hD0, hX, hN⟩ := hv
  have hx := B.exec
  have hb := B.bytes
  have hr := B.returns
  have hts := atoms_spec (ws := (Cond.code yX11_alias cX11_alias 4 (some .int) :: wsA)) B.pre
  have hown : s.vm.findClass RX11 = some m.cls := findClass_of_methodNamed B.named
  have hlocks := B.notSynchronized
  subst hsz
  have hD := hD0.self (sz := s.heap.size)
  generalize hAe : va_A (cW ad T.1 (cc cI cJ cZ cMic cSrc cSt cAI cAJ ad T)) s.heap.size = A at hD hX ⊢
  have hA : ∀ q : Nat, s.heap.size ≤ q → A q := fun q h => by rw [← hAe]; exact Or.inr h
  have G : gC cI cJ cZ cMic cSrc cSt cAI cAJ D ad A s.heap s.heap [] T := ⟨hP, hD, va_S.rf⟩
  have E : cE p c cX11_alias s m ([.ref (ad o), .int a0, .int a1, .int a2] : List Value).toArray (Cond.code yX11_alias cX11_alias 4 (some .int) :: wsA) D RX11 (CT cI cJ cZ cMic cSrc cSt cAI cAJ) := ⟨hx, hb, hts, hown, hK⟩
  have hl := lv_entry ([.ref (ad o), .int a0, .int a1, .int a2]) (n := 4) (Nat.le_of_ble_eq_true rfl)
  rw [lg_entry_eq]
  generalize (lg_sl ([.ref (ad o), .int a0, .int a1, .int a2]) ++ List.replicate (4 - (lg_sl ([.ref (ad o), .int a0, .int a1, .int a2])).length) Slot.unset).toArray = ls at hl ⊢
  have hl : lv_has ls 4 [(0, .ref (ad o)), (1, .int a0), (2, .int a1), (3, .int a2)] := hl
  unfold g_X11_alias at h
  refine lv_aload_n hx hb dX11_alias_0 rfl (lv_at hl 0 rfl) ?_
  obtain ⟨g2, h⟩ := oif_some h
  obtain ⟨r5, T3, eT3, h⟩ := othr_n h
  refine q_cvv (As := []) (rest := []) E G hA hX hN hml (u_X11_needCamera l hst D cI cJ cZ cMic cSrc cSt cAI cAJ ad T o eT3) (cwV 0 hts (gaV qA_728 qA_729 qA_730 qA_131 qA_731) rfl rfl rfl (by decide +kernel) ⟨Nat.le_of_ble_eq_true rfl, Nat.le_of_ble_eq_true rfl⟩) (oO_k g2).1 (cc_o11 (oO_k g2).2) rfl rfl hl.1 rfl (lv_room (Nat.le_of_ble_eq_true rfl)) dX11_alias_1 ⟨Nat.zero_le _, Nat.zero_le _⟩ (fun T4 H locs hq G => ?_)
  rw [hq] at G
  clear hq eT3
  refine lv_aload_n hx hb dX11_alias_4 rfl (lv_at hl 0 rfl) ?_
  refine lv_iload_n hx hb dX11_alias_5 rfl (lv_at hl 1 rfl) ?_
  obtain ⟨g7, h⟩ := oif_some h
  obtain ⟨r10, T8, eT8, h⟩ := othr_n h
  refine q_cvv (As := [.int a0]) (rest := []) E G hA hX hN hml (u_X11_needCell l hst D cI cJ cZ cMic cSrc cSt cAI cAJ ad T3 o a0 eT8) (cwV 1 hts (gaV qA_752 qA_753 qA_754 qA_131 qA_755) rfl rfl rfl (by decide +kernel) ⟨Nat.le_of_ble_eq_true rfl, Nat.le_of_ble_eq_true rfl⟩) (oO_k g7).1 (cc_o11 (oO_k g7).2) rfl rfl hl.1 rfl (lv_room (Nat.le_of_ble_eq_true rfl)) dX11_alias_6 ⟨Nat.zero_le _, Nat.zero_le _⟩ (fun T9 H locs hq G => ?_)
  rw [hq] at G
  clear hq eT8
  refine lv_aload_n hx hb dX11_alias_9 rfl (lv_at hl 0 rfl) ?_
  refine lv_iload_n hx hb dX11_alias_10 rfl (lv_at hl 2 rfl) ?_
  obtain ⟨g12, h⟩ := oif_some h
  obtain ⟨r15, T13, eT13, h⟩ := othr_n h
  refine q_cvv (As := [.int a1]) (rest := []) E G hA hX hN hml (u_X11_needCell l hst D cI cJ cZ cMic cSrc cSt cAI cAJ ad T8 o a1 eT13) (cwV 1 hts (gaV qA_752 qA_753 qA_754 qA_131 qA_755) rfl rfl rfl (by decide +kernel) ⟨Nat.le_of_ble_eq_true rfl, Nat.le_of_ble_eq_true rfl⟩) (oO_k g12).1 (cc_o11 (oO_k g12).2) rfl rfl hl.1 rfl (lv_room (Nat.le_of_ble_eq_true rfl)) dX11_alias_11 ⟨Nat.zero_le _, Nat.zero_le _⟩ (fun T14 H locs hq G => ?_)
  rw [hq] at G
  clear hq eT13
  refine lv_iload_n hx hb dX11_alias_14 rfl (lv_at hl 3 rfl) ?_
  refine lv_iconst (v := 2) hx hb dX11_alias_15 (by decide) ?_
  refine lv_bipush (v := 99) hx hb dX11_alias_16 (by decide) ?_
  obtain ⟨r19, T17, eT17, h⟩ := othr_n h
  refine q_csv (As := [.int a2, .int 2, .int 99]) (rest := []) E G hA hX hN hml (u_X11_needRange l hst D cI cJ cZ cMic cSrc cSt cAI cAJ ad T13 a2 (2 : Int32) (99 : Int32) eT17) (cwS 3 hts (gaS qA_741 qA_742 qA_131 qA_743) rfl rfl rfl (by decide +kernel) ⟨Nat.le_of_ble_eq_true rfl, Nat.le_of_ble_eq_true rfl⟩) rfl hl.1 rfl (lv_room (Nat.le_of_ble_eq_true rfl)) dX11_alias_18 ⟨Nat.zero_le _, Nat.zero_le _⟩ (fun T18 H locs hq G => ?_)
  rw [hq] at G
  clear hq eT17
  refine lv_aload_n hx hb dX11_alias_21 rfl (lv_at hl 0 rfl) ?_
  refine lv_iload_n hx hb dX11_alias_22 rfl (lv_at hl 1 rfl) ?_
  refine lv_iload_n hx hb dX11_alias_23 rfl (lv_at hl 2 rfl) ?_
  refine lv_iload_n hx hb dX11_alias_24 rfl (lv_at hl 3 rfl) ?_
  obtain ⟨g21, h⟩ := oif_some h
  obtain ⟨r24, T22, eT22, h⟩ := obind2_some h
  refine q_cvi (As := [.int a0, .int a1, .int a2]) (rest := []) E G hA hX hN hml (u_X11_confusion l hst D cI cJ cZ cMic cSrc cSt cAI cAJ ad T17 o a0 a1 a2 eT22) (cwV 3 hts (gaV qA_841 qA_842 qA_843 qA_131 qA_844) rfl rfl rfl (by decide +kernel) ⟨Nat.le_of_ble_eq_true rfl, Nat.le_of_ble_eq_true rfl⟩) (oO_k g21).1 (cc_o11 (oO_k g21).2) rfl rfl hl.1 rfl (lv_room (Nat.le_of_ble_eq_true rfl)) dX11_alias_25 ⟨Nat.zero_le _, Nat.zero_le _⟩ (fun q25 T23 H locs hq G => ?_)
  obtain ⟨hq1, hq2⟩ := hq
  rw [hq2] at G
  refine lv_to hq1 ?_
  clear hq1 hq2 eT22
  exact W.iret (v := r24) hx hb hr (fun t ht hW => ⟨⟨r24, T22, rfl, (osome3 h).2, ⟨by rw [ht]; exact G.1, va_K.moved hW.alike hK, G.2.1⟩⟩, G.2.2.F ht⟩) G.2.2.2.2 dX11_alias_28
set_option maxHeartbeats 4000000 in
set_option maxRecDepth 100000 in
theorem s_X11_alias {T : AT} {o : Nat} {a0 : Int32} {a1 : Int32} {a2 : Int32} {e1 : Nat} {r1 : Int32} {T1 : AT} (h : g_X11_alias T o a0 a1 a2 = some (e1, r1, T1)) : SP T T1 := by
  have p0 := SP.rf T
  unfold g_X11_alias at h
  obtain ⟨g2, h⟩ := oif_some h
  rcases othr_s h with ⟨k9, r9, e9, -⟩ | ⟨r4, T3, eT3, h⟩
  · exact SP.tr p0 (s_X11_needCamera e9)
  have p1 : SP T T3 := SP.tr p0 (s_X11_needCamera eT3)
  obtain ⟨g5, h⟩ := oif_some h
  rcases othr_s h with ⟨k9, r9, e9, -⟩ | ⟨r7, T6, eT6, h⟩
  · exact SP.tr p1 (s_X11_needCell e9)
  have p2 : SP T T6 := SP.tr p1 (s_X11_needCell eT6)
  obtain ⟨g8, h⟩ := oif_some h
  rcases othr_s h with ⟨k9, r9, e9, -⟩ | ⟨r10, T9, eT9, h⟩
  · exact SP.tr p2 (s_X11_needCell e9)
  have p3 : SP T T9 := SP.tr p2 (s_X11_needCell eT9)
  rcases othr_s h with ⟨k9, r9, e9, -⟩ | ⟨r12, T11, eT11, h⟩
  · exact SP.tr p3 (s_X11_needRange e9)
  have p4 : SP T T11 := SP.tr p3 (s_X11_needRange eT11)
  obtain ⟨g13, h⟩ := oif_some h
  obtain ⟨r15, T14, eT14, h⟩ := obind2_some h
  have p5 : SP T T14 := SP.tr p4 (s_X11_confusion eT14)
  rw [← (osome3 h).2.2]
  exact p5
set_option maxHeartbeats 4000000 in
set_option maxRecDepth 100000 in
theorem x_X11_alias (l : Launch) (hst : l.stackTraces = false) (D : va_G) (cI cJ cZ cMic cSrc cSt cAI cAJ : ClassId) (ad : Nat → Nat) (T : AT) (o : Nat) (a0 : Int32) (a1 : Int32) (a2 : Int32) {e1 : Nat} {r1 : Int32} {T1 : AT} (h : g_X11_alias T o a0 a1 a2 = some (e1 + 1, r1, T1)) : kXi l yX11_alias (Cond.code yX11_alias cX11_alias 4 (some .int) :: wsA) 8 123 cI cJ cZ cMic cSrc cSt cAI cAJ D ad T [.ref (ad o), .int a0, .int a1, .int a2] e1 T1 := by
  intro sz
  refine vx_ofW (cc := cX11_alias) (maxL := 4) (ret := (some .int)) (by decide) rfl ?_
  intro p e s m args below meth c s₁ B hml htab hv
  obtain ⟨rfl, hsz, hP, hK, hD0, hX, hN⟩ := hv
  have hx := B.exec
  have hb := B.bytes
  have hr := B.returns
  have hts := atoms_spec (ws := (Cond.code yX11_alias cX11_alias 4 (some .int) :: wsA)) B.pre
  have hown : s.vm.findClass RX11 = some m.cls := findClass_of_methodNamed B.named
  have hlocks := B.notSynchronized
  subst hsz
  have hD := hD0.self (sz := s.heap.size)
  generalize hAe : va_A (cW ad T.1 (cc cI cJ cZ cMic cSrc cSt cAI cAJ ad T)) s.heap.size = A at hD hX ⊢
  have hA : ∀ q : Nat, s.heap.size ≤ q → A q := fun q h => by rw [← hAe]; exact Or.inr h
  have G : gC cI cJ cZ cMic cSrc cSt cAI cAJ D ad A s.heap s.heap [] T := ⟨hP, hD, va_S.rf⟩
  have E : cE p c cX11_alias s m ([.ref (ad o), .int a0, .int a1, .int a2] : List Value).toArray (Cond.code yX11_alias cX11_alias 4 (some .int) :: wsA) D RX11 (CT cI cJ cZ cMic cSrc cSt cAI cAJ) := ⟨hx, hb, hts, hown, hK⟩
  have htab : ∀ x ∈ c.exceptionTable.toList, False := fun x hx => htab x hx
  have hl := lv_entry ([.ref (ad o), .int a0, .int a1, .int a2]) (n := 4) (Nat.le_of_ble_eq_true rfl)
  rw [lg_entry_eq]
  generalize (lg_sl ([.ref (ad o), .int a0, .int a1, .int a2]) ++ List.replicate (4 - (lg_sl ([.ref (ad o), .int a0, .int a1, .int a2])).length) Slot.unset).toArray = ls at hl ⊢
  have hl : lv_has ls 4 [(0, .ref (ad o)), (1, .int a0), (2, .int a1), (3, .int a2)] := hl
  unfold g_X11_alias at h
  refine lv_aload_n hx hb dX11_alias_0 rfl (lv_at hl 0 rfl) ?_
  obtain ⟨g2, h⟩ := oif_some h
  rcases othr_t h with ⟨r0, eT3⟩ | ⟨r5, T3, eT3, h⟩
  · refine q_xvv (As := []) (rest := []) E G hA hX hN hml (x_X11_needCamera l hst D cI cJ cZ cMic cSrc cSt cAI cAJ ad T o eT3) (cwV 0 hts (gaV qA_728 qA_729 qA_730 qA_131 qA_731) rfl rfl rfl (by decide +kernel) ⟨Nat.le_of_ble_eq_true rfl, Nat.le_of_ble_eq_true rfl⟩) (oO_k g2).1 (cc_o11 (oO_k g2).2) rfl rfl hl.1 rfl (lv_room (Nat.le_of_ble_eq_true rfl)) dX11_alias_1 ⟨Nat.le_of_ble_eq_true rfl, Nat.le_of_ble_eq_true rfl⟩ (fun E9 ce q9 T9 H locs hp G hce hcv hcl => ?_)
    obtain ⟨hE, hT⟩ := hp
    subst hE
    rw [hT] at G
    exact vx_out (fun x hx => (htab x hx).elim) hlocks hce hcv hcl (fun t ht hvm => ⟨T1, trivial, ⟨⟨rfl, rfl⟩, by rw [ht]; exact G.1, va_K.moved hvm hK, G.2.1⟩, G.2.2.F ht⟩) G.2.2.2.2 (Nat.le_refl _) (Nat.le_refl _)
  refine q_cvv (As := []) (rest := []) E G hA hX hN hml (u_X11_needCamera l hst D cI cJ cZ cMic cSrc cSt cAI cAJ ad T o eT3) (cwV 0 hts (gaV qA_728 qA_729 qA_730 qA_131 qA_731) rfl rfl rfl (by decide +kernel) ⟨Nat.le_of_ble_eq_true rfl, Nat.le_of_ble_eq_true rfl⟩) (oO_k g2).1 (cc_o11 (oO_k g2).2) rfl rfl hl.1 rfl (lv_room (Nat.le_of_ble_eq_true rfl)) dX11_alias_1 ⟨Nat.zero_le _, Nat.zero_le _⟩ (fun T4 H locs hq G => ?_)
  rw [hq] at G
  clear hq eT3
  refine lv_aload_n hx hb dX11_alias_4 rfl (lv_at hl 0 rfl) ?_
  refine lv_iload_n hx hb dX11_alias_5 rfl (lv_at hl 1 rfl) ?_
  obtain ⟨g7, h⟩ := oif_some h
  rcases othr_t h with ⟨r0, eT8⟩ | ⟨r10, T8, eT8, h⟩
  · refine q_xvv (As := [.int a0]) (rest := []) E G hA hX hN hml (x_X11_needCell l hst D cI cJ cZ cMic cSrc cSt cAI cAJ ad T3 o a0 eT8) (cwV 1 hts (gaV qA_752 qA_753 qA_754 qA_131 qA_755) rfl rfl rfl (by decide +kernel) ⟨Nat.le_of_ble_eq_true rfl, Nat.le_of_ble_eq_true rfl⟩) (oO_k g7).1 (cc_o11 (oO_k g7).2) rfl rfl hl.1 rfl (lv_room (Nat.le_of_ble_eq_true rfl)) dX11_alias_6 ⟨Nat.le_of_ble_eq_true rfl, Nat.le_of_ble_eq_true rfl⟩ (fun E9 ce q9 T9 H locs hp G hce hcv hcl => ?_)
    obtain ⟨hE, hT⟩ := hp
    subst hE
    rw [hT] at G
    exact vx_out (fun x hx => (htab x hx).elim) hlocks hce hcv hcl (fun t ht hvm => ⟨T1, trivial, ⟨⟨rfl, rfl⟩, by rw [ht]; exact G.1, va_K.moved hvm hK, G.2.1⟩, G.2.2.F ht⟩) G.2.2.2.2 (Nat.le_refl _) (Nat.le_refl _)
  refine q_cvv (As := [.int a0]) (rest := []) E G hA hX hN hml (u_X11_needCell l hst D cI cJ cZ cMic cSrc cSt cAI cAJ ad T3 o a0 eT8) (cwV 1 hts (gaV qA_752 qA_753 qA_754 qA_131 qA_755) rfl rfl rfl (by decide +kernel) ⟨Nat.le_of_ble_eq_true rfl, Nat.le_of_ble_eq_true rfl⟩) (oO_k g7).1 (cc_o11 (oO_k g7).2) rfl rfl hl.1 rfl (lv_room (Nat.le_of_ble_eq_true rfl)) dX11_alias_6 ⟨Nat.zero_le _, Nat.zero_le _⟩ (fun T9 H locs hq G => ?_)
  rw [hq] at G
  clear hq eT8
  refine lv_aload_n hx hb dX11_alias_9 rfl (lv_at hl 0 rfl) ?_
  refine lv_iload_n hx hb dX11_alias_10 rfl (lv_at hl 2 rfl) ?_
  obtain ⟨g12, h⟩ := oif_some h
  rcases othr_t h with ⟨r0, eT13⟩ | ⟨r15, T13, eT13, h⟩
  · refine q_xvv (As := [.int a1]) (rest := []) E G hA hX hN hml (x_X11_needCell l hst D cI cJ cZ cMic cSrc cSt cAI cAJ ad T8 o a1 eT13) (cwV 1 hts (gaV qA_752 qA_753 qA_754 qA_131 qA_755) rfl rfl rfl (by decide +kernel) ⟨Nat.le_of_ble_eq_true rfl, Nat.le_of_ble_eq_true rfl⟩) (oO_k g12).1 (cc_o11 (oO_k g12).2) rfl rfl hl.1 rfl (lv_room (Nat.le_of_ble_eq_true rfl)) dX11_alias_11 ⟨Nat.le_of_ble_eq_true rfl, Nat.le_of_ble_eq_true rfl⟩ (fun E9 ce q9 T9 H locs hp G hce hcv hcl => ?_)
    obtain ⟨hE, hT⟩ := hp
    subst hE
    rw [hT] at G
    exact vx_out (fun x hx => (htab x hx).elim) hlocks hce hcv hcl (fun t ht hvm => ⟨T1, trivial, ⟨⟨rfl, rfl⟩, by rw [ht]; exact G.1, va_K.moved hvm hK, G.2.1⟩, G.2.2.F ht⟩) G.2.2.2.2 (Nat.le_refl _) (Nat.le_refl _)
  refine q_cvv (As := [.int a1]) (rest := []) E G hA hX hN hml (u_X11_needCell l hst D cI cJ cZ cMic cSrc cSt cAI cAJ ad T8 o a1 eT13) (cwV 1 hts (gaV qA_752 qA_753 qA_754 qA_131 qA_755) rfl rfl rfl (by decide +kernel) ⟨Nat.le_of_ble_eq_true rfl, Nat.le_of_ble_eq_true rfl⟩) (oO_k g12).1 (cc_o11 (oO_k g12).2) rfl rfl hl.1 rfl (lv_room (Nat.le_of_ble_eq_true rfl)) dX11_alias_11 ⟨Nat.zero_le _, Nat.zero_le _⟩ (fun T14 H locs hq G => ?_)
  rw [hq] at G
  clear hq eT13
  refine lv_iload_n hx hb dX11_alias_14 rfl (lv_at hl 3 rfl) ?_
  refine lv_iconst (v := 2) hx hb dX11_alias_15 (by decide) ?_
  refine lv_bipush (v := 99) hx hb dX11_alias_16 (by decide) ?_
  rcases othr_t h with ⟨r0, eT17⟩ | ⟨r19, T17, eT17, h⟩
  · refine q_xsv (As := [.int a2, .int 2, .int 99]) (rest := []) E G hA hX hN hml (x_X11_needRange l hst D cI cJ cZ cMic cSrc cSt cAI cAJ ad T13 a2 (2 : Int32) (99 : Int32) eT17) (cwS 3 hts (gaS qA_741 qA_742 qA_131 qA_743) rfl rfl rfl (by decide +kernel) ⟨Nat.le_of_ble_eq_true rfl, Nat.le_of_ble_eq_true rfl⟩) rfl hl.1 rfl (lv_room (Nat.le_of_ble_eq_true rfl)) dX11_alias_18 ⟨Nat.le_of_ble_eq_true rfl, Nat.le_of_ble_eq_true rfl⟩ (fun E9 ce q9 T9 H locs hp G hce hcv hcl => ?_)
    obtain ⟨hE, hT⟩ := hp
    subst hE
    rw [hT] at G
    exact vx_out (fun x hx => (htab x hx).elim) hlocks hce hcv hcl (fun t ht hvm => ⟨T1, trivial, ⟨⟨rfl, rfl⟩, by rw [ht]; exact G.1, va_K.moved hvm hK, G.2.1⟩, G.2.2.F ht⟩) G.2.2.2.2 (Nat.le_refl _) (Nat.le_refl _)
  refine q_csv (As := [.int a2, .int 2, .int 99]) (rest := []) E G hA hX hN hml (u_X11_needRange l hst D cI cJ cZ cMic cSrc cSt cAI cAJ ad T13 a2 (2 : Int32) (99 : Int32) eT17) (cwS 3 hts (gaS qA_741 qA_742 qA_131 qA_743) rfl rfl rfl (by decide +kernel) ⟨Nat.le_of_ble_eq_true rfl, Nat.le_of_ble_eq_true rfl⟩) rfl hl.1 rfl (lv_room (Nat.le_of_ble_eq_true rfl)) dX11_alias_18 ⟨Nat.zero_le _, Nat.zero_le _⟩ (fun T18 H locs hq G => ?_)
  rw [hq] at G
  clear hq eT17
  refine lv_aload_n hx hb dX11_alias_21 rfl (lv_at hl 0 rfl) ?_
  refine lv_iload_n hx hb dX11_alias_22 rfl (lv_at hl 1 rfl) ?_
  refine lv_iload_n hx hb dX11_alias_23 rfl (lv_at hl 2 rfl) ?_
  refine lv_iload_n hx hb dX11_alias_24 rfl (lv_at hl 3 rfl) ?_
  obtain ⟨g21, h⟩ := oif_some h
  obtain ⟨r24, T22, eT22, h⟩ := obind2_some h
  refine q_cvi (As := [.int a0, .int a1, .int a2]) (rest := []) E G hA hX hN hml (u_X11_confusion l hst D cI cJ cZ cMic cSrc cSt cAI cAJ ad T17 o a0 a1 a2 eT22) (cwV 3 hts (gaV qA_841 qA_842 qA_843 qA_131 qA_844) rfl rfl rfl (by decide +kernel) ⟨Nat.le_of_ble_eq_true rfl, Nat.le_of_ble_eq_true rfl⟩) (oO_k g21).1 (cc_o11 (oO_k g21).2) rfl rfl hl.1 rfl (lv_room (Nat.le_of_ble_eq_true rfl)) dX11_alias_25 ⟨Nat.zero_le _, Nat.zero_le _⟩ (fun q25 T23 H locs hq G => ?_)
  obtain ⟨hq1, hq2⟩ := hq
  rw [hq2] at G
  refine lv_to hq1 ?_
  clear hq1 hq2 eT22
  exact (Nat.succ_ne_zero _ (congrArg Prod.fst (Option.some.inj h)).symm).elim
def g_X11_marksAlias_b63  (T : AT) (s0 : Int32) : Option (Int32 × AT) := oif (s0 = 0 ∨ s0 = 1) <| some (s0, T)
set_option maxHeartbeats 4000000 in
set_option maxRecDepth 100000 in
theorem u_X11_marksAlias_b63 {p : Program} {l : Launch} {e : Env} {s : State} {m : MethodId} {args : Array Value} {below : List Frame} {meth : Method} {c : Code} {Q : State → Prop} {D : va_G} {A : Nat → Prop} {cI cJ cZ cMic cSrc cSt cAI cAJ : ClassId} {ad : Nat → Nat} {r1 : Int32} {T1 : AT} (E : cE p c cX11_marksAlias s m args (Cond.code yX11_marksAlias cX11_marksAlias 6 (some .boolean) :: wsA) D RX11 (CT cI cJ cZ cMic cSrc cSt cAI cAJ)) (hA : ∀ q : Nat, s.heap.size ≤ q → A q) (hX : xT A s) (hN : nX s) (hml : c.maxLocals = 6) (hst : l.stackTraces = false) (kr63 : ∀ (H : Heap) (locs : List Loc) (ls : Array Slot), (r1 = 0 ∨ r1 = 1) → gC cI cJ cZ cMic cSrc cSt cAI cAJ D ad A s.heap H locs T1 → W p l e { frames := 5, cells := 0, slots := 0, locals := 93 } s m args below meth c H locs 0 0 Q (F0 m 63 ls [.int r1])) : ∀ (T : AT) (H : Heap) (locs : List Loc) (ls : Array Slot) (s0 : Int32), g_X11_marksAlias_b63 T s0 = some (r1, T1) → gC cI cJ cZ cMic cSrc cSt cAI cAJ D ad A s.heap H locs T → lv_has ls 6 [] → W p l e { frames := 5, cells := 0, slots := 0, locals := 93 } s m args below meth c H locs 0 0 Q (F0 m 63 ls [.int s0]) := by
  have hx := E.1
  have hb := E.2.1
  have hts := E.2.2.1
  have hown := E.2.2.2.1
  have hK := E.2.2.2.2
  intro T H locs ls s0 h G hl
  unfold g_X11_marksAlias_b63 at h
  obtain ⟨gz, h⟩ := oif_some h
  have gr : r1 = 0 ∨ r1 = 1 := by rw [← (osome2 h).1]; exact gz
  rw [(osome2 h).2] at G
  refine lv_to (osome2 h).1 ?_
  exact kr63 _ _ _ gr G
def g_X11_marksAlias_b62  (T : AT)  : Option (Int32 × AT) := g_X11_marksAlias_b63 T 0
set_option maxHeartbeats 4000000 in
set_option maxRecDepth 100000 in
theorem u_X11_marksAlias_b62 {p : Program} {l : Launch} {e : Env} {s : State} {m : MethodId} {args : Array Value} {below : List Frame} {meth : Method} {c : Code} {Q : State → Prop} {D : va_G} {A : Nat → Prop} {cI cJ cZ cMic cSrc cSt cAI cAJ : ClassId} {ad : Nat → Nat} {r1 : Int32} {T1 : AT} (E : cE p c cX11_marksAlias s m args (Cond.code yX11_marksAlias cX11_marksAlias 6 (some .boolean) :: wsA) D RX11 (CT cI cJ cZ cMic cSrc cSt cAI cAJ)) (hA : ∀ q : Nat, s.heap.size ≤ q → A q) (hX : xT A s) (hN : nX s) (hml : c.maxLocals = 6) (hst : l.stackTraces = false) (kr63 : ∀ (H : Heap) (locs : List Loc) (ls : Array Slot), (r1 = 0 ∨ r1 = 1) → gC cI cJ cZ cMic cSrc cSt cAI cAJ D ad A s.heap H locs T1 → W p l e { frames := 5, cells := 0, slots := 0, locals := 93 } s m args below meth c H locs 0 0 Q (F0 m 63 ls [.int r1])) : ∀ (T : AT) (H : Heap) (locs : List Loc) (ls : Array Slot), g_X11_marksAlias_b62 T = some (r1, T1) → gC cI cJ cZ cMic cSrc cSt cAI cAJ D ad A s.heap H locs T → lv_has ls 6 [] → W p l e { frames := 5, cells := 0, slots := 0, locals := 93 } s m args below meth c H locs 0 0 Q (F0 m 62 ls []) := by
  have hx := E.1
  have hb := E.2.1
  have hts := E.2.2.1
  have hown := E.2.2.2.1
  have hK := E.2.2.2.2
  intro T H locs ls h G hl
  unfold g_X11_marksAlias_b62 at h
  refine lv_iconst (v := 0) hx hb dX11_marksAlias_62 (by decide) ?_
  have hl := lv_sub hl [] rfl
  exact u_X11_marksAlias_b63 E hA hX hN hml hst kr63 _ _ _ _ _ h G hl
def g_X11_marksAlias (T : AT) (o : Nat) (a0 : Nat) (a1 : Int32) (a2 : Int32) (a3 : Int32) : Option (Int32 × AT) := oif (oO T o 11 = true) <| obind (T.2.2.2.2 o 6) fun n3 => oif (oO T n3 8 = true) <| obind2 (g_X8_activeMics T n3) fun r7 T5 => oif (oO T5 a0 4 = true) <| elet (T5.2.2.1 a0 2) fun v10 => if a1 = v10 then (g_X11_marksAlias_b62 T5) else (if r7 ≤ 0 then (g_X11_marksAlias_b62 T5) else (oif (oO T5 o 11 = true) <| obind (T5.2.2.2.2 o 14) fun n14 => oif (oO T5 n14 6 = true) <| obind (T5.2.2.2.2 n14 6) fun n16 => oif (oO T5 a0 4 = true) <| obind2 (g_X4_standsOut T5 a0 a1 n16) fun r20 T18 => if r20 = 0 then (g_X11_marksAlias_b62 T18) else (oif (oO T18 a0 4 = true) <| elet (T18.2.2.1 a0 2) fun v24 => oif (oO T18 o 11 = true) <| obind2 (g_X11_confusion T18 o a1 v24 a2) fun r28 T26 => elet (100 * r28) fun v30 => elet (a3 * r7) fun v31 => if v30 < v31 then (g_X11_marksAlias_b62 T26) else (g_X11_marksAlias_b63 T26 1))))
set_option maxHeartbeats 4000000 in
set_option maxRecDepth 100000 in
theorem u_X11_marksAlias (l : Launch) (hst : l.stackTraces = false) (D : va_G) (cI cJ cZ cMic cSrc cSt cAI cAJ : ClassId) (ad : Nat → Nat) (T : AT) (o : Nat) (a0 : Nat) (a1 : Int32) (a2 : Int32) (a3 : Int32) {r1 : Int32} {T1 : AT} (h : g_X11_marksAlias T o a0 a1 a2 a3 = some (r1, T1)) : kCi l yX11_marksAlias (Cond.code yX11_marksAlias cX11_marksAlias 6 (some .boolean) :: wsA) 5 93 cI cJ cZ cMic cSrc cSt cAI cAJ D ad T [.ref (ad o), .ref (ad a0), .int a1, .int a2, .int a3] (fun r T9 => r = r1 ∧ T9 = T1) := by
  intro sz
  refine Met.ofW (cc := cX11_marksAlias) (maxL := 6) (ret := (some .boolean)) (by decide) rfl ?_
  intro p e s m args below meth c s₁ B hml hv
  obtain ⟨rfl, hsz, hP, hK, hD0, hX, hN⟩ := hv
  have hx := B.exec
  have hb := B.bytes
  have hr := B.returns
  have hts := atoms_spec (ws := (Cond.code yX11_marksAlias cX11_marksAlias 6 (some .boolean) :: wsA)) B.pre
  have hown : s.vm.findClass RX11 = some m.cls := findClass_of_methodNamed B.named
  have hlocks := B.notSynchronized
  subst hsz
  have hD := hD0.self (sz := s.heap.size)
  generalize hAe : va_A (cW ad T.1 (cc cI cJ cZ cMic cSrc cSt cAI cAJ ad T)) s.heap.size = A at hD hX ⊢
  have hA : ∀ q : Nat, s.heap.size ≤ q → A q := fun q h => by rw [← hAe]; exact Or.inr h
  have G : gC cI cJ cZ cMic cSrc cSt cAI cAJ D ad A s.heap s.heap [] T := ⟨hP, hD, va_S.rf⟩
  have E : cE p c cX11_marksAlias s m ([.ref (ad o), .ref (ad a0), .int a1, .int a2, .int a3] : List Value).toArray (Cond.code yX11_marksAlias cX11_marksAlias 6 (some .boolean) :: wsA) D RX11 (CT cI cJ cZ cMic cSrc cSt cAI cAJ) := ⟨hx, hb, hts, hown, hK⟩
  have hl := lv_entry ([.ref (ad o), .ref (ad a0), .int a1, .int a2, .int a3]) (n := 6) (Nat.le_of_ble_eq_true rfl)
  rw [lg_entry_eq]
  generalize (lg_sl ([.ref (ad o), .ref (ad a0), .int a1, .int a2, .int a3]) ++ List.replicate (6 - (lg_sl ([.ref (ad o), .ref (ad a0), .int a1, .int a2, .int a3])).length) Slot.unset).toArray = ls at hl ⊢
  have hl : lv_has ls 6 [(0, .ref (ad o)), (1, .ref (ad a0)), (2, .int a1), (3, .int a2), (4, .int a3)] := hl
  unfold g_X11_marksAlias at h
  refine lv_aload_n hx hb dX11_marksAlias_0 rfl (lv_at hl 0 rfl) ?_
  obtain ⟨g2, h⟩ := oif_some h
  obtain ⟨n3, en3, h⟩ := obind_some h
  refine c_get E G o 6 (v := .ref (ad n3)) (oO_k g2).1 (cc_o11 (oO_k g2).2) rfl (fun w h => .tail _ (iA_23 h)) (by decide) (.tail _ qA_664) rfl (by rw [en3]; rfl) dX11_marksAlias_1 ?_
  clear en3
  obtain ⟨g4, h⟩ := oif_some h
  obtain ⟨r7, T5, eT5, h⟩ := obind2_some h
  refine q_cvi (As := []) (rest := []) E G hA hX hN hml (u_X8_activeMics l hst D cI cJ cZ cMic cSrc cSt cAI cAJ ad T n3 eT5) (cwV 0 hts (gaV qA_852 qA_853 qA_854 qA_47 qA_614) rfl rfl rfl (by decide +kernel) ⟨Nat.le_of_ble_eq_true rfl, Nat.le_of_ble_eq_true rfl⟩) (oO_k g4).1 (cc_o8 (oO_k g4).2) rfl rfl hl.1 rfl (lv_room (Nat.le_of_ble_eq_true rfl)) dX11_marksAlias_4 ⟨Nat.zero_le _, Nat.zero_le _⟩ (fun q8 T6 H locs hq G => ?_)
  obtain ⟨hq1, hq2⟩ := hq
  rw [hq2] at G
  refine lv_to hq1 ?_
  clear hq1 hq2 eT5
  refine lv_istore (lv' := [(5, .int r7), (0, .ref (ad o)), (1, .ref (ad a0)), (2, .int a1), (3, .int a2), (4, .int a3)]) hx hb dX11_marksAlias_7 hl (by decide) rfl (fun ls hl => ?_)
  refine lv_iload_n hx hb dX11_marksAlias_9 rfl (lv_at hl 3 rfl) ?_
  refine lv_aload_n hx hb dX11_marksAlias_10 rfl (lv_at hl 2 rfl) ?_
  obtain ⟨g9, h⟩ := oif_some h
  refine c_get E G a0 2 (oO_k g9).1 (cc_o4 (oO_k g9).2) rfl (fun w h => .tail _ (iA_21 h)) (by decide) (.tail _ qA_812) rfl rfl dX11_marksAlias_11 ?_
  refine lv_topi (fun v10 ev10 => ?_)
  have h := elet_at ev10 h
  clear ev10
  refine lv_icmp_eq (tgt := 62) hx hb dX11_marksAlias_14 (by decide) (fun c11 => ?_) (fun c11 => ?_)
  · have h := oif_pos c11 h
    have hl := lv_sub hl [] rfl
    exact u_X11_marksAlias_b62 E hA hX hN hml hst (fun H locs ls gz G => W.zret (v := r1) hx hb hr (nar01 gz) (fun t ht hW => ⟨⟨r1, T1, rfl, ⟨rfl, rfl⟩, ⟨by rw [ht]; exact G.1, va_K.moved hW.alike hK, G.2.1⟩⟩, G.2.2.F ht⟩) G.2.2.2.2 dX11_marksAlias_63) _ _ _ _ h G hl
  · have h := oif_neg c11 h
    refine lv_iload hx hb dX11_marksAlias_17 (lv_at hl 0 rfl) ?_
    refine lv_if_le (tgt := 62) hx hb dX11_marksAlias_19 (by decide) (fun c12 => ?_) (fun c12 => ?_)
    · have h := oif_pos c12 h
      have hl := lv_sub hl [] rfl
      exact u_X11_marksAlias_b62 E hA hX hN hml hst (fun H locs ls gz G => W.zret (v := r1) hx hb hr (nar01 gz) (fun t ht hW => ⟨⟨r1, T1, rfl, ⟨rfl, rfl⟩, ⟨by rw [ht]; exact G.1, va_K.moved hW.alike hK, G.2.1⟩⟩, G.2.2.F ht⟩) G.2.2.2.2 dX11_marksAlias_63) _ _ _ _ h G hl
    · have h := oif_neg c12 h
      refine lv_aload_n hx hb dX11_marksAlias_22 rfl (lv_at hl 2 rfl) ?_
      refine lv_iload_n hx hb dX11_marksAlias_23 rfl (lv_at hl 3 rfl) ?_
      refine lv_aload_n hx hb dX11_marksAlias_24 rfl (lv_at hl 1 rfl) ?_
      obtain ⟨g13, h⟩ := oif_some h
      obtain ⟨n14, en14, h⟩ := obind_some h
      refine c_get E G o 14 (v := .ref (ad n14)) (oO_k g13).1 (cc_o11 (oO_k g13).2) rfl (fun w h => .tail _ (iA_23 h)) (by decide) (.tail _ qA_675) rfl (by rw [en14]; rfl) dX11_marksAlias_25 ?_
      clear en14
      obtain ⟨g15, h⟩ := oif_some h
      obtain ⟨n16, en16, h⟩ := obind_some h
      refine c_get E G n14 6 (v := .ref (ad n16)) (oO_k g15).1 (cc_o6 (oO_k g15).2) rfl (fun w h => .tail _ (iA_14 h)) (by decide) (.tail _ qA_695) rfl (by rw [en16]; rfl) dX11_marksAlias_28 ?_
      clear en16
      obtain ⟨g17, h⟩ := oif_some h
      obtain ⟨r20, T18, eT18, h⟩ := obind2_some h
      refine q_cvi (As := [.int a1, .ref (ad n16)]) (rest := []) E G hA hX hN hml (u_X4_standsOut l hst D cI cJ cZ cMic cSrc cSt cAI cAJ ad T5 a0 a1 n16 eT18) (cwV 2 hts (gaV qA_827 qA_424 qA_425 qA_426 qA_427) rfl rfl rfl (by decide +kernel) ⟨Nat.le_of_ble_eq_true rfl, Nat.le_of_ble_eq_true rfl⟩) (oO_k g17).1 (cc_o4 (oO_k g17).2) rfl rfl hl.1 rfl (lv_room (Nat.le_of_ble_eq_true rfl)) dX11_marksAlias_31 ⟨Nat.zero_le _, Nat.zero_le _⟩ (fun q21 T19 H locs hq G => ?_)
      obtain ⟨hq1, hq2⟩ := hq
      rw [hq2] at G
      refine lv_to hq1 ?_
      clear hq1 hq2 eT18
      refine lv_if_eq (tgt := 62) hx hb dX11_marksAlias_34 (by decide) (fun c22 => ?_) (fun c22 => ?_)
      · have h := oif_pos c22 h
        have hl := lv_sub hl [] rfl
        exact u_X11_marksAlias_b62 E hA hX hN hml hst (fun H locs ls gz G => W.zret (v := r1) hx hb hr (nar01 gz) (fun t ht hW => ⟨⟨r1, T1, rfl, ⟨rfl, rfl⟩, ⟨by rw [ht]; exact G.1, va_K.moved hW.alike hK, G.2.1⟩⟩, G.2.2.F ht⟩) G.2.2.2.2 dX11_marksAlias_63) _ _ _ _ h G hl
      · have h := oif_neg c22 h
        refine lv_bipush (v := 100) hx hb dX11_marksAlias_37 (by decide) ?_
        refine lv_aload_n hx hb dX11_marksAlias_39 rfl (lv_at hl 1 rfl) ?_
        refine lv_iload_n hx hb dX11_marksAlias_40 rfl (lv_at hl 3 rfl) ?_
        refine lv_aload_n hx hb dX11_marksAlias_41 rfl (lv_at hl 2 rfl) ?_
        obtain ⟨g23, h⟩ := oif_some h
        refine c_get E G a0 2 (oO_k g23).1 (cc_o4 (oO_k g23).2) rfl (fun w h => .tail _ (iA_21 h)) (by decide) (.tail _ qA_812) rfl rfl dX11_marksAlias_42 ?_
        refine lv_topi (fun v24 ev24 => ?_)
        have h := elet_at ev24 h
        clear ev24
        refine lv_iload_n hx hb dX11_marksAlias_45 rfl (lv_at hl 4 rfl) ?_
        obtain ⟨g25, h⟩ := oif_some h
        obtain ⟨r28, T26, eT26, h⟩ := obind2_some h
        refine q_cvi (As := [.int a1, .int v24, .int a2]) (rest := [.int 100]) E G hA hX hN hml (u_X11_confusion l hst D cI cJ cZ cMic cSrc cSt cAI cAJ ad T18 o a1 v24 a2 eT26) (cwV 3 hts (gaV qA_841 qA_842 qA_843 qA_131 qA_844) rfl rfl rfl (by decide +kernel) ⟨Nat.le_of_ble_eq_true rfl, Nat.le_of_ble_eq_true rfl⟩) (oO_k g25).1 (cc_o11 (oO_k g25).2) rfl rfl hl.1 rfl (lv_room (Nat.le_of_ble_eq_true rfl)) dX11_marksAlias_46 ⟨Nat.zero_le _, Nat.zero_le _⟩ (fun q29 T27 H locs hq G => ?_)
        obtain ⟨hq1, hq2⟩ := hq
        rw [hq2] at G
        refine lv_to hq1 ?_
        clear hq1 hq2 eT26
        refine lv_imul hx hb dX11_marksAlias_49 ?_
        refine lv_topi (fun v30 ev30 => ?_)
        have h := elet_at ev30 h
        clear ev30
        refine lv_iload hx hb dX11_marksAlias_50 (lv_at hl 5 rfl) ?_
        refine lv_iload hx hb dX11_marksAlias_52 (lv_at hl 0 rfl) ?_
        refine lv_imul hx hb dX11_marksAlias_54 ?_
        refine lv_topi (fun v31 ev31 => ?_)
        have h := elet_at ev31 h
        clear ev31
        refine lv_icmp_lt (tgt := 62) hx hb dX11_marksAlias_55 (by decide) (fun c32 => ?_) (fun c32 => ?_)
        · have h := oif_pos c32 h
          have hl := lv_sub hl [] rfl
          exact u_X11_marksAlias_b62 E hA hX hN hml hst (fun H locs ls gz G => W.zret (v := r1) hx hb hr (nar01 gz) (fun t ht hW => ⟨⟨r1, T1, rfl, ⟨rfl, rfl⟩, ⟨by rw [ht]; exact G.1, va_K.moved hW.alike hK, G.2.1⟩⟩, G.2.2.F ht⟩) G.2.2.2.2 dX11_marksAlias_63) _ _ _ _ h G hl
        · have h := oif_neg c32 h
          refine lv_iconst (v := 1) hx hb dX11_marksAlias_58 (by decide) ?_
          refine lv_goto (tgt := 63) hx hb dX11_marksAlias_59 (by decide) ?_
          have hl := lv_sub hl [] rfl
          exact u_X11_marksAlias_b63 E hA hX hN hml hst (fun H locs ls gz G => W.zret (v := r1) hx hb hr (nar01 gz) (fun t ht hW => ⟨⟨r1, T1, rfl, ⟨rfl, rfl⟩, ⟨by rw [ht]; exact G.1, va_K.moved hW.alike hK, G.2.1⟩⟩, G.2.2.F ht⟩) G.2.2.2.2 dX11_marksAlias_63) _ _ _ _ _ h G hl
set_option maxHeartbeats 4000000 in
set_option maxRecDepth 100000 in
theorem s_X11_marksAlias_b63 {r1 : Int32} {T1 : AT} : ∀ (T : AT) (s0 : Int32), g_X11_marksAlias_b63 T s0 = some (r1, T1) → SP T T1 := by
  intro T s0 h
  have p0 := SP.rf T
  unfold g_X11_marksAlias_b63 at h
  obtain ⟨gz, h⟩ := oif_some h
  rw [← (osome2 h).2]
  exact p0
set_option maxHeartbeats 4000000 in
set_option maxRecDepth 100000 in
theorem s_X11_marksAlias_b62 {r1 : Int32} {T1 : AT} : ∀ (T : AT), g_X11_marksAlias_b62 T = some (r1, T1) → SP T T1 := by
  intro T h
  have p0 := SP.rf T
  unfold g_X11_marksAlias_b62 at h
  exact SP.tr p0 (s_X11_marksAlias_b63 _ _ h)
set_option maxHeartbeats 4000000 in
set_option maxRecDepth 100000 in
theorem s_X11_marksAlias {T : AT} {o : Nat} {a0 : Nat} {a1 : Int32} {a2 : Int32} {a3 : Int32} {r1 : Int32} {T1 : AT} (h : g_X11_marksAlias T o a0 a1 a2 a3 = some (r1, T1)) : SP T T1 := by
  have p0 := SP.rf T
  unfold g_X11_marksAlias at h
  obtain ⟨g2, h⟩ := oif_some h
  obtain ⟨n3, en3, h⟩ := obind_some h
  obtain ⟨g4, h⟩ := oif_some h
  obtain ⟨r6, T5, eT5, h⟩ := obind2_some h
  have p1 : SP T T5 := SP.tr p0 (s_X8_activeMics eT5)
  obtain ⟨g7, h⟩ := oif_some h
  obtain ⟨v8, -, h⟩ := elet_some h
  rcases oif_or h with ⟨c9, h⟩ | ⟨c9, h⟩
  · have h := h
    exact SP.tr p1 (s_X11_marksAlias_b62 _ h)
  · have h := h
    rcases oif_or h with ⟨c10, h⟩ | ⟨c10, h⟩
    · have h := h
      exact SP.tr p1 (s_X11_marksAlias_b62 _ h)
    · have h := h
      obtain ⟨g11, h⟩ := oif_some h
      obtain ⟨n12, en12, h⟩ := obind_some h
      obtain ⟨g13, h⟩ := oif_some h
      obtain ⟨n14, en14, h⟩ := obind_some h
      obtain ⟨g15, h⟩ := oif_some h
      obtain ⟨r17, T16, eT16, h⟩ := obind2_some h
      have p2 : SP T T16 := SP.tr p1 (s_X4_standsOut eT16)
      rcases oif_or h with ⟨c18, h⟩ | ⟨c18, h⟩
      · have h := h
        exact SP.tr p2 (s_X11_marksAlias_b62 _ h)
      · have h := h
        obtain ⟨g19, h⟩ := oif_some h
        obtain ⟨v20, -, h⟩ := elet_some h
        obtain ⟨g21, h⟩ := oif_some h
        obtain ⟨r23, T22, eT22, h⟩ := obind2_some h
        have p3 : SP T T22 := SP.tr p2 (s_X11_confusion eT22)
        obtain ⟨v24, -, h⟩ := elet_some h
        obtain ⟨v25, -, h⟩ := elet_some h
        rcases oif_or h with ⟨c26, h⟩ | ⟨c26, h⟩
        · have h := h
          exact SP.tr p3 (s_X11_marksAlias_b62 _ h)
        · have h := h
          exact SP.tr p3 (s_X11_marksAlias_b63 _ _ h)
def g_X11_isAlias_b28  (T : AT) (s0 : Nat) (s1 : Nat) (l1 : Int32) (l2 : Int32) (l3 : Int32) : Option (Nat × Int32 × AT) := oif (oO T s1 11 = true) <| obind2 (g_X11_marksAlias T s1 s0 l1 l2 l3) fun r5 T3 => oif (r5 = 0 ∨ r5 = 1) <| some (0, r5, T3)
def g_X11_isAlias (T : AT) (o : Nat) (a0 : Int32) (a1 : Int32) (a2 : Int32) : Option (Nat × Int32 × AT) := oif (oO T o 11 = true) <| othr (g_X11_needCamera T o) 0 fun r5 T3 => oif (oO T3 o 11 = true) <| othr (g_X11_needCell T3 o a0) 0 fun r10 T8 => othr (g_X11_needRange T8 a1 (2 : Int32) (99 : Int32)) 0 fun r14 T12 => othr (g_X11_needRange T12 a2 (1 : Int32) (100 : Int32)) 0 fun r18 T16 => oif (oO T16 o 11 = true) <| obind2 (g_X11_powersNow T16 o) fun r22 T21 => oif (Nat.blt r22 T21.1 = true) <| g_X11_isAlias_b28 T21 r22 o a0 a1 a2
set_option maxHeartbeats 4000000 in
set_option maxRecDepth 100000 in
theorem s_X11_isAlias_b28 {e1 : Nat} {r1 : Int32} {T1 : AT} : ∀ (T : AT) (s0 : Nat) (s1 : Nat) (l1 : Int32) (l2 : Int32) (l3 : Int32), g_X11_isAlias_b28 T s0 s1 l1 l2 l3 = some (e1, r1, T1) → GL T T1 := by
  intro T s0 s1 l1 l2 l3 h
  have p0 := GL.rf T
  unfold g_X11_isAlias_b28 at h
  obtain ⟨g2, h⟩ := oif_some h
  obtain ⟨r4, T3, eT3, h⟩ := obind2_some h
  have p1 : GL T T3 := GL.tr p0 (gl_sp (s_X11_marksAlias eT3))
  obtain ⟨gz, h⟩ := oif_some h
  rw [← (osome3 h).2.2]
  exact p1
set_option maxHeartbeats 4000000 in
set_option maxRecDepth 100000 in
theorem s_X11_isAlias {T : AT} {o : Nat} {a0 : Int32} {a1 : Int32} {a2 : Int32} {e1 : Nat} {r1 : Int32} {T1 : AT} (h : g_X11_isAlias T o a0 a1 a2 = some (e1, r1, T1)) : GL T T1 := by
  have p0 := GL.rf T
  unfold g_X11_isAlias at h
  obtain ⟨g2, h⟩ := oif_some h
  rcases othr_s h with ⟨k9, r9, e9, -⟩ | ⟨r4, T3, eT3, h⟩
  · exact GL.tr p0 (gl_sp (s_X11_needCamera e9))
  have p1 : GL T T3 := GL.tr p0 (gl_sp (s_X11_needCamera eT3))
  obtain ⟨g5, h⟩ := oif_some h
  rcases othr_s h with ⟨k9, r9, e9, -⟩ | ⟨r7, T6, eT6, h⟩
  · exact GL.tr p1 (gl_sp (s_X11_needCell e9))
  have p2 : GL T T6 := GL.tr p1 (gl_sp (s_X11_needCell eT6))
  rcases othr_s h with ⟨k9, r9, e9, -⟩ | ⟨r9, T8, eT8, h⟩
  · exact GL.tr p2 (gl_sp (s_X11_needRange e9))
  have p3 : GL T T8 := GL.tr p2 (gl_sp (s_X11_needRange eT8))
  rcases othr_s h with ⟨k9, r9, e9, -⟩ | ⟨r11, T10, eT10, h⟩
  · exact GL.tr p3 (gl_sp (s_X11_needRange e9))
  have p4 : GL T T10 := GL.tr p3 (gl_sp (s_X11_needRange eT10))
  obtain ⟨g12, h⟩ := oif_some h
  obtain ⟨r14, T13, eT13, h⟩ := obind2_some h
  obtain ⟨g15, h⟩ := oif_some h
  have p5 : GL T T13 := GL.tr p4 (s_X11_powersNow eT13)
  exact GL.tr p5 (s_X11_isAlias_b28 _ _ _ _ _ _ h)
set_option maxHeartbeats 4000000 in
set_option maxRecDepth 100000 in
theorem a_X11_isAlias_b28 {p : Program} {l : Launch} {e : Env} {s : State} {m : MethodId} {args : Array Value} {below : List Frame} {meth : Method} {c : Code} {Q : State → Prop} {D : va_G} {A : Nat → Prop} {cI cJ cZ cMic cSrc cSt cAI cAJ : ClassId} {ad0 : Nat → Nat} {T0 : AT} {r1 : Int32} {T1 : AT} (E : cE p c cX11_isAlias s m args (Cond.code yX11_isAlias cX11_isAlias 4 (some .boolean) :: wsA) D RX11 (CT cI cJ cZ cMic cSrc cSt cAI cAJ)) (hA : ∀ q : Nat, s.heap.size ≤ q → A q) (hX : xT A s) (hN : nX s) (hml : c.maxLocals = 4) (hst : l.stackTraces = false) (kr34 : ∀ (ad : Nat → Nat) (H : Heap) (locs : List Loc) (ls : Array Slot), (r1 = 0 ∨ r1 = 1) → (∀ n, n < T0.1 → ad n = ad0 n) → gC cI cJ cZ cMic cSrc cSt cAI cAJ D ad A s.heap H locs T1 → W p l e { frames := 8, cells := T1.1 - T0.1, slots := sg T1 - sg T0, locals := 149 } s m args below meth c H locs (T1.1 - T0.1) (sg T1 - sg T0) Q (F0 m 34 ls [.int r1])) : ∀ (T : AT) (ad : Nat → Nat) (H : Heap) (locs : List Loc) (ls : Array Slot) (s0 : Nat) (s1 : Nat) (l1 : Int32) (l2 : Int32) (l3 : Int32), g_X11_isAlias_b28 T s0 s1 l1 l2 l3 = some (0, r1, T1) → GL T0 T → RC T → (∀ n, n < T0.1 → ad n = ad0 n) → s0 < T.1 → s1 < T.1 → gC cI cJ cZ cMic cSrc cSt cAI cAJ D ad A s.heap H locs T → lv_has ls 4 [(1, .int l1), (2, .int l2), (3, .int l3)] → W p l e { frames := 8, cells := T1.1 - T0.1, slots := sg T1 - sg T0, locals := 149 } s m args below meth c H locs (T.1 - T0.1) (sg T - sg T0) Q (F0 m 28 ls [.ref (ad s0), .ref (ad s1)]) := by
  have hx := E.1
  have hb := E.2.1
  have hts := E.2.2.1
  have hown := E.2.2.2.1
  have hK := E.2.2.2.2
  intro T ad H locs ls s0 s1 l1 l2 l3 h hgl hrc had h_s0 h_s1 G hl
  have hT1 := s_X11_isAlias_b28 _ _ _ _ _ _ h
  have hcs := cs_ok hgl hT1
  have cp0 := cpr0 hrc
  unfold g_X11_isAlias_b28 at h
  refine lv_iload_n hx hb dX11_isAlias_28 rfl (lv_at hl 0 rfl) ?_
  refine lv_iload_n hx hb dX11_isAlias_29 rfl (lv_at hl 1 rfl) ?_
  refine lv_iload_n hx hb dX11_isAlias_30 rfl (lv_at hl 2 rfl) ?_
  obtain ⟨g2, h⟩ := oif_some h
  obtain ⟨r5, T3, eT3, h⟩ := obind2_some h
  refine q_cvi (As := [.ref (ad s0), .int l1, .int l2, .int l3]) (rest := []) E G hA hX hN hml (u_X11_marksAlias l hst D cI cJ cZ cMic cSrc cSt cAI cAJ ad T s1 s0 l1 l2 l3 eT3) (cwV 4 hts (gaV qA_848 qA_849 qA_850 qA_131 qA_851) rfl rfl rfl (by decide +kernel) ⟨Nat.le_of_ble_eq_true rfl, Nat.le_of_ble_eq_true rfl⟩) (oO_k g2).1 (cc_o11 (oO_k g2).2) rfl rfl hl.1 rfl (lv_room (Nat.le_of_ble_eq_true rfl)) dX11_isAlias_31 hcs (fun q6 T4 H locs hq G => ?_)
  obtain ⟨hq1, hq2⟩ := hq
  rw [hq2] at G
  refine lv_to hq1 ?_
  clear hq1 hq2
  have cp1 := cpr_sp cp0 (s_X11_marksAlias eT3)
  obtain ⟨gz, h⟩ := oif_some h
  rw [(osome3 h).2.2] at G
  refine w_cast (c2 := T1.1 - T0.1) (s2 := sg T1 - sg T0) (by rw [← (osome3 h).2.2, cp1.1] <;> rfl) (by rw [← (osome3 h).2.2, sg_cpr cp1] <;> rfl) ?_
  have gr : r1 = 0 ∨ r1 = 1 := by rw [← (osome3 h).2.1]; exact gz
  refine lv_to ((osome3 h).2.1) ?_
  exact kr34 ad _ _ _ gr had G
set_option maxHeartbeats 4000000 in
set_option maxRecDepth 100000 in
theorem a_X11_isAlias (l : Launch) (hst : l.stackTraces = false) (D : va_G) (cI cJ cZ cMic cSrc cSt cAI cAJ : ClassId) (ad : Nat → Nat) (T : AT) (o : Nat) (a0 : Int32) (a1 : Int32) (a2 : Int32) {r1 : Int32} {T1 : AT} (h : g_X11_isAlias T o a0 a1 a2 = some (0, r1, T1)) (hrc : RC T) (h_o : o < T.1) : kAi l yX11_isAlias (Cond.code yX11_isAlias cX11_isAlias 4 (some .boolean) :: wsA) 8 149 cI cJ cZ cMic cSrc cSt cAI cAJ D ad T [.ref (ad o), .int a0, .int a1, .int a2] r1 T1 := by
  intro sz
  refine Met.ofW (cc := cX11_isAlias) (maxL := 4) (ret := (some .boolean)) (by decide) rfl ?_
  intro p e s m args below meth c s₁ B hml hv
  obtain ⟨rfl, hsz, hP, hK, hD0, hX, hN⟩ := hv
  have hx := B.exec
  have hb := B.bytes
  have hr := B.returns
  have hts := atoms_spec (ws := (Cond.code yX11_isAlias cX11_isAlias 4 (some .boolean) :: wsA)) B.pre
  have hown : s.vm.findClass RX11 = some m.cls := findClass_of_methodNamed B.named
  have hlocks := B.notSynchronized
  subst hsz
  have hD := hD0.self (sz := s.heap.size)
  generalize hAe : va_A (cW ad T.1 (cc cI cJ cZ cMic cSrc cSt cAI cAJ ad T)) s.heap.size = A at hD hX ⊢
  have hA : ∀ q : Nat, s.heap.size ≤ q → A q := fun q h => by rw [← hAe]; exact Or.inr h
  have G : gC cI cJ cZ cMic cSrc cSt cAI cAJ D ad A s.heap s.heap [] T := ⟨hP, hD, va_S.rf⟩
  have E : cE p c cX11_isAlias s m ([.ref (ad o), .int a0, .int a1, .int a2] : List Value).toArray (Cond.code yX11_isAlias cX11_isAlias 4 (some .boolean) :: wsA) D RX11 (CT cI cJ cZ cMic cSrc cSt cAI cAJ) := ⟨hx, hb, hts, hown, hK⟩
  have hl := lv_entry ([.ref (ad o), .int a0, .int a1, .int a2]) (n := 4) (Nat.le_of_ble_eq_true rfl)
  rw [lg_entry_eq]
  generalize (lg_sl ([.ref (ad o), .int a0, .int a1, .int a2]) ++ List.replicate (4 - (lg_sl ([.ref (ad o), .int a0, .int a1, .int a2])).length) Slot.unset).toArray = ls at hl ⊢
  have hl : lv_has ls 4 [(0, .ref (ad o)), (1, .int a0), (2, .int a1), (3, .int a2)] := hl
  have hgl := GL.rf T
  have had : ∀ n, n < T.1 → ad n = ad n := fun _ _ => rfl
  have hT1 := s_X11_isAlias h
  have hcs := cs_ok hgl hT1
  refine w_cast (Nat.sub_self T.1).symm (Nat.sub_self (sg T)).symm ?_
  have cp0 := cpr0 hrc
  unfold g_X11_isAlias at h
  refine lv_aload_n hx hb dX11_isAlias_0 rfl (lv_at hl 0 rfl) ?_
  obtain ⟨g2, h⟩ := oif_some h
  obtain ⟨r5, T3, eT3, h⟩ := othr_n h
  refine q_cvv (As := []) (rest := []) E G hA hX hN hml (u_X11_needCamera l hst D cI cJ cZ cMic cSrc cSt cAI cAJ ad T o eT3) (cwV 0 hts (gaV qA_728 qA_729 qA_730 qA_131 qA_731) rfl rfl rfl (by decide +kernel) ⟨Nat.le_of_ble_eq_true rfl, Nat.le_of_ble_eq_true rfl⟩) (oO_k g2).1 (cc_o11 (oO_k g2).2) rfl rfl hl.1 rfl (lv_room (Nat.le_of_ble_eq_true rfl)) dX11_isAlias_1 hcs (fun T4 H locs hq G => ?_)
  rw [hq] at G
  clear hq
  have cp1 := cpr_sp cp0 (s_X11_needCamera eT3)
  refine lv_aload_n hx hb dX11_isAlias_4 rfl (lv_at hl 0 rfl) ?_
  refine lv_iload_n hx hb dX11_isAlias_5 rfl (lv_at hl 1 rfl) ?_
  obtain ⟨g7, h⟩ := oif_some h
  obtain ⟨r10, T8, eT8, h⟩ := othr_n h
  refine q_cvv (As := [.int a0]) (rest := []) E G hA hX hN hml (u_X11_needCell l hst D cI cJ cZ cMic cSrc cSt cAI cAJ ad T3 o a0 eT8) (cwV 1 hts (gaV qA_752 qA_753 qA_754 qA_131 qA_755) rfl rfl rfl (by decide +kernel) ⟨Nat.le_of_ble_eq_true rfl, Nat.le_of_ble_eq_true rfl⟩) (oO_k g7).1 (cc_o11 (oO_k g7).2) rfl rfl hl.1 rfl (lv_room (Nat.le_of_ble_eq_true rfl)) dX11_isAlias_6 hcs (fun T9 H locs hq G => ?_)
  rw [hq] at G
  clear hq
  have cp2 := cpr_sp cp1 (s_X11_needCell eT8)
  refine lv_iload_n hx hb dX11_isAlias_9 rfl (lv_at hl 2 rfl) ?_
  refine lv_iconst (v := 2) hx hb dX11_isAlias_10 (by decide) ?_
  refine lv_bipush (v := 99) hx hb dX11_isAlias_11 (by decide) ?_
  obtain ⟨r14, T12, eT12, h⟩ := othr_n h
  refine q_csv (As := [.int a1, .int 2, .int 99]) (rest := []) E G hA hX hN hml (u_X11_needRange l hst D cI cJ cZ cMic cSrc cSt cAI cAJ ad T8 a1 (2 : Int32) (99 : Int32) eT12) (cwS 3 hts (gaS qA_741 qA_742 qA_131 qA_743) rfl rfl rfl (by decide +kernel) ⟨Nat.le_of_ble_eq_true rfl, Nat.le_of_ble_eq_true rfl⟩) rfl hl.1 rfl (lv_room (Nat.le_of_ble_eq_true rfl)) dX11_isAlias_13 hcs (fun T13 H locs hq G => ?_)
  rw [hq] at G
  clear hq
  have cp3 := cpr_sp cp2 (s_X11_needRange eT12)
  refine lv_iload_n hx hb dX11_isAlias_16 rfl (lv_at hl 3 rfl) ?_
  refine lv_iconst (v := 1) hx hb dX11_isAlias_17 (by decide) ?_
  refine lv_bipush (v := 100) hx hb dX11_isAlias_18 (by decide) ?_
  obtain ⟨r18, T16, eT16, h⟩ := othr_n h
  refine q_csv (As := [.int a2, .int 1, .int 100]) (rest := []) E G hA hX hN hml (u_X11_needRange l hst D cI cJ cZ cMic cSrc cSt cAI cAJ ad T12 a2 (1 : Int32) (100 : Int32) eT16) (cwS 3 hts (gaS qA_741 qA_742 qA_131 qA_743) rfl rfl rfl (by decide +kernel) ⟨Nat.le_of_ble_eq_true rfl, Nat.le_of_ble_eq_true rfl⟩) rfl hl.1 rfl (lv_room (Nat.le_of_ble_eq_true rfl)) dX11_isAlias_20 hcs (fun T17 H locs hq G => ?_)
  rw [hq] at G
  clear hq
  have cp4 := cpr_sp cp3 (s_X11_needRange eT16)
  refine lv_aload_n hx hb dX11_isAlias_23 rfl (lv_at hl 0 rfl) ?_
  refine lv_aload_n hx hb dX11_isAlias_24 rfl (lv_at hl 0 rfl) ?_
  obtain ⟨g20, h⟩ := oif_some h
  obtain ⟨r22, T21, eT21, h⟩ := obind2_some h
  obtain ⟨g23, h⟩ := oif_some h
  have hg2 := s_X11_powersNow eT21
  have hrc2 := hg2.2.2 cp4.2.2
  have hT2 := s_X11_isAlias_b28 _ _ _ _ _ _ h
  refine q_avr (As := []) (rest := [.ref (ad o)]) E G hA hX hN hml (a_X11_powersNow l hst D cI cJ cZ cMic cSrc cSt cAI cAJ ad T16 o eT21 cp4.2.2 (by rw [cp4.1]; exact h_o)) (cwV 0 hts (gaV qA_799 qA_800 qA_801 qA_131 qA_802) rfl rfl rfl (by decide +kernel) ⟨Nat.le_of_ble_eq_true rfl, Nat.le_of_ble_eq_true rfl⟩) (oO_k g20).1 (cc_o11 (oO_k g20).2) rfl rfl hl.1 rfl (lv_room (Nat.le_of_ble_eq_true rfl)) dX11_isAlias_25 (cs_av hgl cp4 hg2 hT2) (fun ad2 H locs hga G => ?_)
  refine w_cast (c2 := T21.1 - T.1) (s2 := sg T21 - sg T) (cs_f1 hgl cp4 hg2) (cs_f2 hgl cp4 hg2) ?_
  have h_new : r22 < T21.1 := Nat.le_of_ble_eq_true g23
  have hl := lv_sub hl [1, 2, 3] rfl
  refine w_st (st2 := [.ref (ad2 r22), .ref (ad2 o)]) (by rw [hga o (by rw [cp4.1]; exact h_o)]) ?_
  exact a_X11_isAlias_b28 E hA hX hN hml hst (fun ad H locs ls gz had G => W.zret (v := r1) hx hb hr (nar01 gz) (fun t ht hW => ⟨⟨r1, (T1, ad), rfl, ⟨rfl, rfl, had⟩, ⟨by rw [ht]; exact G.1, va_K.moved hW.alike hK, G.2.1⟩⟩, G.2.2.F ht⟩) G.2.2.2.2 dX11_isAlias_34) _ _ _ _ _ _ _ _ _ _ h (GL.tr (gl_cpr hgl cp4) hg2) hrc2 (fun n hn => (hga n (by rw [cp4.1]; exact Nat.lt_of_lt_of_le hn hgl.1)).trans (had n hn)) h_new (Nat.lt_of_lt_of_le (by rw [cp4.1]; exact h_o) hg2.1) G hl
set_option maxHeartbeats 4000000 in
set_option maxRecDepth 100000 in
theorem b_X11_isAlias_b28 {p : Program} {l : Launch} {e : Env} {s : State} {m : MethodId} {args : Array Value} {below : List Frame} {meth : Method} {c : Code} {Qc : Array Value → State → Outcome → State → Prop} {XC : String → State → State → Prop} {D : va_G} {A : Nat → Prop} {cI cJ cZ cMic cSrc cSt cAI cAJ : ClassId} {ad0 : Nat → Nat} {T0 : AT} {e1 : Nat} {r1 : Int32} {T1 : AT} (E : cE p c cX11_isAlias s m args (Cond.code yX11_isAlias cX11_isAlias 4 (some .boolean) :: wsA) D RX11 (CT cI cJ cZ cMic cSrc cSt cAI cAJ)) (hA : ∀ q : Nat, s.heap.size ≤ q → A q) (hX : xT A s) (hN : nX s) (hml : c.maxLocals = 4) (hst : l.stackTraces = false) (htab : ∀ x ∈ c.exceptionTable.toList, False) (hlocks : meth.locks = false) (kx : ∀ (ad : Nat → Nat) (H : Heap) (locs : List Loc) (t : State), (∀ n, n < T0.1 → ad n = ad0 n) → gC cI cJ cZ cMic cSrc cSt cAI cAJ D ad A s.heap H locs T1 → s.vm.Alike t.vm → H.size ≤ t.heap.size → (∀ q, q < H.size → t.heap[q]? = H[q]?) → XC (exn e1) s t) : ∀ (T : AT) (ad : Nat → Nat) (H : Heap) (locs : List Loc) (ls : Array Slot) (s0 : Nat) (s1 : Nat) (l1 : Int32) (l2 : Int32) (l3 : Int32), g_X11_isAlias_b28 T s0 s1 l1 l2 l3 = some (e1 + 1, r1, T1) → GL T0 T → RC T → (∀ n, n < T0.1 → ad n = ad0 n) → s0 < T.1 → s1 < T.1 → gC cI cJ cZ cMic cSrc cSt cAI cAJ D ad A s.heap H locs T → lv_has ls 4 [(1, .int l1), (2, .int l2), (3, .int l3)] → W p l e { frames := 8, cells := T1.1 - T0.1 + 1, slots := sg T1 - sg T0 + 6, locals := 149 } s m args below meth c H locs (T.1 - T0.1) (sg T - sg T0) (vx_MQ below Qc XC args s (T1.1 - T0.1 + 1) (sg T1 - sg T0 + 6) A) (F0 m 28 ls [.ref (ad s0), .ref (ad s1)]) := by
  have hx := E.1
  have hb := E.2.1
  have hts := E.2.2.1
  have hown := E.2.2.2.1
  have hK := E.2.2.2.2
  intro T ad H locs ls s0 s1 l1 l2 l3 h hgl hrc had h_s0 h_s1 G hl
  have hT1 := s_X11_isAlias_b28 _ _ _ _ _ _ h
  have hcs := cs_okx hgl hT1
  have hcx := cs_okx1 hgl hT1
  have cp0 := cpr0 hrc
  unfold g_X11_isAlias_b28 at h
  refine lv_iload_n hx hb dX11_isAlias_28 rfl (lv_at hl 0 rfl) ?_
  refine lv_iload_n hx hb dX11_isAlias_29 rfl (lv_at hl 1 rfl) ?_
  refine lv_iload_n hx hb dX11_isAlias_30 rfl (lv_at hl 2 rfl) ?_
  obtain ⟨g2, h⟩ := oif_some h
  obtain ⟨r5, T3, eT3, h⟩ := obind2_some h
  refine q_cvi (As := [.ref (ad s0), .int l1, .int l2, .int l3]) (rest := []) E G hA hX hN hml (u_X11_marksAlias l hst D cI cJ cZ cMic cSrc cSt cAI cAJ ad T s1 s0 l1 l2 l3 eT3) (cwV 4 hts (gaV qA_848 qA_849 qA_850 qA_131 qA_851) rfl rfl rfl (by decide +kernel) ⟨Nat.le_of_ble_eq_true rfl, Nat.le_of_ble_eq_true rfl⟩) (oO_k g2).1 (cc_o11 (oO_k g2).2) rfl rfl hl.1 rfl (lv_room (Nat.le_of_ble_eq_true rfl)) dX11_isAlias_31 hcs (fun q6 T4 H locs hq G => ?_)
  obtain ⟨hq1, hq2⟩ := hq
  rw [hq2] at G
  refine lv_to hq1 ?_
  clear hq1 hq2
  have cp1 := cpr_sp cp0 (s_X11_marksAlias eT3)
  obtain ⟨gz, h⟩ := oif_some h
  exact (Nat.succ_ne_zero _ (congrArg Prod.fst (Option.some.inj h)).symm).elim
set_option maxHeartbeats 4000000 in
set_option maxRecDepth 100000 in
theorem b_X11_isAlias (l : Launch) (hst : l.stackTraces = false) (D : va_G) (cI cJ cZ cMic cSrc cSt cAI cAJ : ClassId) (ad : Nat → Nat) (T : AT) (o : Nat) (a0 : Int32) (a1 : Int32) (a2 : Int32) {e1 : Nat} {r1 : Int32} {T1 : AT} (h : g_X11_isAlias T o a0 a1 a2 = some (e1 + 1, r1, T1)) (hrc : RC T) (h_o : o < T.1) : kAXi l yX11_isAlias (Cond.code yX11_isAlias cX11_isAlias 4 (some .boolean) :: wsA) 8 149 cI cJ cZ cMic cSrc cSt cAI cAJ D ad T [.ref (ad o), .int a0, .int a1, .int a2] e1 T1 := by
  intro sz
  refine vx_ofW (cc := cX11_isAlias) (maxL := 4) (ret := (some .boolean)) (by decide) rfl ?_
  intro p e s m args below meth c s₁ B hml htab hv
  obtain ⟨rfl, hsz, hP, hK, hD0, hX, hN⟩ := hv
  have hx := B.exec
  have hb := B.bytes
  have hr := B.returns
  have hts := atoms_spec (ws := (Cond.code yX11_isAlias cX11_isAlias 4 (some .boolean) :: wsA)) B.pre
  have hown : s.vm.findClass RX11 = some m.cls := findClass_of_methodNamed B.named
  have hlocks := B.notSynchronized
  subst hsz
  have hD := hD0.self (sz := s.heap.size)
  generalize hAe : va_A (cW ad T.1 (cc cI cJ cZ cMic cSrc cSt cAI cAJ ad T)) s.heap.size = A at hD hX ⊢
  have hA : ∀ q : Nat, s.heap.size ≤ q → A q := fun q h => by rw [← hAe]; exact Or.inr h
  have G : gC cI cJ cZ cMic cSrc cSt cAI cAJ D ad A s.heap s.heap [] T := ⟨hP, hD, va_S.rf⟩
  have E : cE p c cX11_isAlias s m ([.ref (ad o), .int a0, .int a1, .int a2] : List Value).toArray (Cond.code yX11_isAlias cX11_isAlias 4 (some .boolean) :: wsA) D RX11 (CT cI cJ cZ cMic cSrc cSt cAI cAJ) := ⟨hx, hb, hts, hown, hK⟩
  have htab : ∀ x ∈ c.exceptionTable.toList, False := fun x hx => htab x hx
  have hl := lv_entry ([.ref (ad o), .int a0, .int a1, .int a2]) (n := 4) (Nat.le_of_ble_eq_true rfl)
  rw [lg_entry_eq]
  generalize (lg_sl ([.ref (ad o), .int a0, .int a1, .int a2]) ++ List.replicate (4 - (lg_sl ([.ref (ad o), .int a0, .int a1, .int a2])).length) Slot.unset).toArray = ls at hl ⊢
  have hl : lv_has ls 4 [(0, .ref (ad o)), (1, .int a0), (2, .int a1), (3, .int a2)] := hl
  have hgl := GL.rf T
  have had : ∀ n, n < T.1 → ad n = ad n := fun _ _ => rfl
  have hT1 := s_X11_isAlias h
  have hcs := cs_okx hgl hT1
  have hcx := cs_okx1 hgl hT1
  refine w_cast (Nat.sub_self T.1).symm (Nat.sub_self (sg T)).symm ?_
  have cp0 := cpr0 hrc
  unfold g_X11_isAlias at h
  refine lv_aload_n hx hb dX11_isAlias_0 rfl (lv_at hl 0 rfl) ?_
  obtain ⟨g2, h⟩ := oif_some h
  rcases othr_t h with ⟨r0, eT3⟩ | ⟨r5, T3, eT3, h⟩
  · refine q_xvv (As := []) (rest := []) E G hA hX hN hml (x_X11_needCamera l hst D cI cJ cZ cMic cSrc cSt cAI cAJ ad T o eT3) (cwV 0 hts (gaV qA_728 qA_729 qA_730 qA_131 qA_731) rfl rfl rfl (by decide +kernel) ⟨Nat.le_of_ble_eq_true rfl, Nat.le_of_ble_eq_true rfl⟩) (oO_k g2).1 (cc_o11 (oO_k g2).2) rfl rfl hl.1 rfl (lv_room (Nat.le_of_ble_eq_true rfl)) dX11_isAlias_1 hcx (fun E9 ce q9 T9 H locs hp G hce hcv hcl => ?_)
    obtain ⟨hE, hT⟩ := hp
    subst hE
    rw [hT] at G
    exact vx_out (fun x hx => (htab x hx).elim) hlocks hce hcv hcl (fun t ht hvm => ⟨(T1, ad), trivial, ⟨⟨rfl, rfl, had⟩, by rw [ht]; exact G.1, va_K.moved hvm hK, G.2.1⟩, G.2.2.F ht⟩) G.2.2.2.2 hcx.1 hcx.2
  refine q_cvv (As := []) (rest := []) E G hA hX hN hml (u_X11_needCamera l hst D cI cJ cZ cMic cSrc cSt cAI cAJ ad T o eT3) (cwV 0 hts (gaV qA_728 qA_729 qA_730 qA_131 qA_731) rfl rfl rfl (by decide +kernel) ⟨Nat.le_of_ble_eq_true rfl, Nat.le_of_ble_eq_true rfl⟩) (oO_k g2).1 (cc_o11 (oO_k g2).2) rfl rfl hl.1 rfl (lv_room (Nat.le_of_ble_eq_true rfl)) dX11_isAlias_1 hcs (fun T4 H locs hq G => ?_)
  rw [hq] at G
  clear hq
  have cp1 := cpr_sp cp0 (s_X11_needCamera eT3)
  refine lv_aload_n hx hb dX11_isAlias_4 rfl (lv_at hl 0 rfl) ?_
  refine lv_iload_n hx hb dX11_isAlias_5 rfl (lv_at hl 1 rfl) ?_
  obtain ⟨g7, h⟩ := oif_some h
  rcases othr_t h with ⟨r0, eT8⟩ | ⟨r10, T8, eT8, h⟩
  · refine q_xvv (As := [.int a0]) (rest := []) E G hA hX hN hml (x_X11_needCell l hst D cI cJ cZ cMic cSrc cSt cAI cAJ ad T3 o a0 eT8) (cwV 1 hts (gaV qA_752 qA_753 qA_754 qA_131 qA_755) rfl rfl rfl (by decide +kernel) ⟨Nat.le_of_ble_eq_true rfl, Nat.le_of_ble_eq_true rfl⟩) (oO_k g7).1 (cc_o11 (oO_k g7).2) rfl rfl hl.1 rfl (lv_room (Nat.le_of_ble_eq_true rfl)) dX11_isAlias_6 hcx (fun E9 ce q9 T9 H locs hp G hce hcv hcl => ?_)
    obtain ⟨hE, hT⟩ := hp
    subst hE
    rw [hT] at G
    exact vx_out (fun x hx => (htab x hx).elim) hlocks hce hcv hcl (fun t ht hvm => ⟨(T1, ad), trivial, ⟨⟨rfl, rfl, had⟩, by rw [ht]; exact G.1, va_K.moved hvm hK, G.2.1⟩, G.2.2.F ht⟩) G.2.2.2.2 hcx.1 hcx.2
  refine q_cvv (As := [.int a0]) (rest := []) E G hA hX hN hml (u_X11_needCell l hst D cI cJ cZ cMic cSrc cSt cAI cAJ ad T3 o a0 eT8) (cwV 1 hts (gaV qA_752 qA_753 qA_754 qA_131 qA_755) rfl rfl rfl (by decide +kernel) ⟨Nat.le_of_ble_eq_true rfl, Nat.le_of_ble_eq_true rfl⟩) (oO_k g7).1 (cc_o11 (oO_k g7).2) rfl rfl hl.1 rfl (lv_room (Nat.le_of_ble_eq_true rfl)) dX11_isAlias_6 hcs (fun T9 H locs hq G => ?_)
  rw [hq] at G
  clear hq
  have cp2 := cpr_sp cp1 (s_X11_needCell eT8)
  refine lv_iload_n hx hb dX11_isAlias_9 rfl (lv_at hl 2 rfl) ?_
  refine lv_iconst (v := 2) hx hb dX11_isAlias_10 (by decide) ?_
  refine lv_bipush (v := 99) hx hb dX11_isAlias_11 (by decide) ?_
  rcases othr_t h with ⟨r0, eT12⟩ | ⟨r14, T12, eT12, h⟩
  · refine q_xsv (As := [.int a1, .int 2, .int 99]) (rest := []) E G hA hX hN hml (x_X11_needRange l hst D cI cJ cZ cMic cSrc cSt cAI cAJ ad T8 a1 (2 : Int32) (99 : Int32) eT12) (cwS 3 hts (gaS qA_741 qA_742 qA_131 qA_743) rfl rfl rfl (by decide +kernel) ⟨Nat.le_of_ble_eq_true rfl, Nat.le_of_ble_eq_true rfl⟩) rfl hl.1 rfl (lv_room (Nat.le_of_ble_eq_true rfl)) dX11_isAlias_13 hcx (fun E9 ce q9 T9 H locs hp G hce hcv hcl => ?_)
    obtain ⟨hE, hT⟩ := hp
    subst hE
    rw [hT] at G
    exact vx_out (fun x hx => (htab x hx).elim) hlocks hce hcv hcl (fun t ht hvm => ⟨(T1, ad), trivial, ⟨⟨rfl, rfl, had⟩, by rw [ht]; exact G.1, va_K.moved hvm hK, G.2.1⟩, G.2.2.F ht⟩) G.2.2.2.2 hcx.1 hcx.2
  refine q_csv (As := [.int a1, .int 2, .int 99]) (rest := []) E G hA hX hN hml (u_X11_needRange l hst D cI cJ cZ cMic cSrc cSt cAI cAJ ad T8 a1 (2 : Int32) (99 : Int32) eT12) (cwS 3 hts (gaS qA_741 qA_742 qA_131 qA_743) rfl rfl rfl (by decide +kernel) ⟨Nat.le_of_ble_eq_true rfl, Nat.le_of_ble_eq_true rfl⟩) rfl hl.1 rfl (lv_room (Nat.le_of_ble_eq_true rfl)) dX11_isAlias_13 hcs (fun T13 H locs hq G => ?_)
  rw [hq] at G
  clear hq
  have cp3 := cpr_sp cp2 (s_X11_needRange eT12)
  refine lv_iload_n hx hb dX11_isAlias_16 rfl (lv_at hl 3 rfl) ?_
  refine lv_iconst (v := 1) hx hb dX11_isAlias_17 (by decide) ?_
  refine lv_bipush (v := 100) hx hb dX11_isAlias_18 (by decide) ?_
  rcases othr_t h with ⟨r0, eT16⟩ | ⟨r18, T16, eT16, h⟩
  · refine q_xsv (As := [.int a2, .int 1, .int 100]) (rest := []) E G hA hX hN hml (x_X11_needRange l hst D cI cJ cZ cMic cSrc cSt cAI cAJ ad T12 a2 (1 : Int32) (100 : Int32) eT16) (cwS 3 hts (gaS qA_741 qA_742 qA_131 qA_743) rfl rfl rfl (by decide +kernel) ⟨Nat.le_of_ble_eq_true rfl, Nat.le_of_ble_eq_true rfl⟩) rfl hl.1 rfl (lv_room (Nat.le_of_ble_eq_true rfl)) dX11_isAlias_20 hcx (fun E9 ce q9 T9 H locs hp G hce hcv hcl => ?_)
    obtain ⟨hE, hT⟩ := hp
    subst hE
    rw [hT] at G
    exact vx_out (fun x hx => (htab x hx).elim) hlocks hce hcv hcl (fun t ht hvm => ⟨(T1, ad), trivial, ⟨⟨rfl, rfl, had⟩, by rw [ht]; exact G.1, va_K.moved hvm hK, G.2.1⟩, G.2.2.F ht⟩) G.2.2.2.2 hcx.1 hcx.2
  refine q_csv (As := [.int a2, .int 1, .int 100]) (rest := []) E G hA hX hN hml (u_X11_needRange l hst D cI cJ cZ cMic cSrc cSt cAI cAJ ad T12 a2 (1 : Int32) (100 : Int32) eT16) (cwS 3 hts (gaS qA_741 qA_742 qA_131 qA_743) rfl rfl rfl (by decide +kernel) ⟨Nat.le_of_ble_eq_true rfl, Nat.le_of_ble_eq_true rfl⟩) rfl hl.1 rfl (lv_room (Nat.le_of_ble_eq_true rfl)) dX11_isAlias_20 hcs (fun T17 H locs hq G => ?_)
  rw [hq] at G
  clear hq
  have cp4 := cpr_sp cp3 (s_X11_needRange eT16)
  refine lv_aload_n hx hb dX11_isAlias_23 rfl (lv_at hl 0 rfl) ?_
  refine lv_aload_n hx hb dX11_isAlias_24 rfl (lv_at hl 0 rfl) ?_
  obtain ⟨g20, h⟩ := oif_some h
  obtain ⟨r22, T21, eT21, h⟩ := obind2_some h
  obtain ⟨g23, h⟩ := oif_some h
  have hg2 := s_X11_powersNow eT21
  have hrc2 := hg2.2.2 cp4.2.2
  have hT2 := s_X11_isAlias_b28 _ _ _ _ _ _ h
  refine q_avr (As := []) (rest := [.ref (ad o)]) E G hA hX hN hml (a_X11_powersNow l hst D cI cJ cZ cMic cSrc cSt cAI cAJ ad T16 o eT21 cp4.2.2 (by rw [cp4.1]; exact h_o)) (cwV 0 hts (gaV qA_799 qA_800 qA_801 qA_131 qA_802) rfl rfl rfl (by decide +kernel) ⟨Nat.le_of_ble_eq_true rfl, Nat.le_of_ble_eq_true rfl⟩) (oO_k g20).1 (cc_o11 (oO_k g20).2) rfl rfl hl.1 rfl (lv_room (Nat.le_of_ble_eq_true rfl)) dX11_isAlias_25 (cs_avx hgl cp4 hg2 hT2) (fun ad2 H locs hga G => ?_)
  refine w_cast (c2 := T21.1 - T.1) (s2 := sg T21 - sg T) (cs_f1 hgl cp4 hg2) (cs_f2 hgl cp4 hg2) ?_
  have h_new : r22 < T21.1 := Nat.le_of_ble_eq_true g23
  have hl := lv_sub hl [1, 2, 3] rfl
  refine w_st (st2 := [.ref (ad2 r22), .ref (ad2 o)]) (by rw [hga o (by rw [cp4.1]; exact h_o)]) ?_
  exact b_X11_isAlias_b28 E hA hX hN hml hst htab hlocks (fun ad H locs t had G hvm h1 h2 => ⟨(T1, ad), trivial, ⟨⟨rfl, rfl, had⟩, (c_thrown G hK hvm h1 h2).1⟩, (c_thrown G hK hvm h1 h2).2⟩) _ _ _ _ _ _ _ _ _ _ h (GL.tr (gl_cpr hgl cp4) hg2) hrc2 (fun n hn => (hga n (by rw [cp4.1]; exact Nat.lt_of_lt_of_le hn hgl.1)).trans (had n hn)) h_new (Nat.lt_of_lt_of_le (by rw [cp4.1]; exact h_o) hg2.1) G hl
def g_X11_aliases_b59 (k29 : AT → Nat → Int32 → Int32 → Nat → Int32 → Int32 → Option (Nat × Int32 × AT)) (T : AT) (l0 : Nat) (l1 : Int32) (l2 : Int32) (l3 : Nat) (l4 : Int32) (l5 : Int32) : Option (Nat × Int32 × AT) := elet (l5 + Int32.ofInt (1)) fun v2 => k29 T l0 l1 l2 l3 l4 v2
def g_X11_aliases_b29  : Nat → AT → Nat → Int32 → Int32 → Nat → Int32 → Int32 → Option (Nat × Int32 × AT)
  | 0, _, _, _, _, _, _, _ => none
  | n + 1, T, l0, l1, l2, l3, l4, l5 => oif (oO T l0 11 = true) <| obind (T.2.2.2.2 l0 14) fun n3 => oif (oO T n3 6 = true) <| obind (T.2.2.2.2 n3 6) fun n5 => oif (oO T n5 1 = true) <| obind2 (g_X1_cells T n5) fun r9 T7 => if r9 ≤ l5 then (some (0, l4, T7)) else (oif (oO T7 l0 11 = true) <| obind2 (g_X11_marksAlias T7 l0 l3 l5 l1 l2) fun r15 T13 => if r15 = 0 then (g_X11_aliases_b59 (g_X11_aliases_b29 n) T13 l0 l1 l2 l3 l4 l5) else (elet (l4 + Int32.ofInt (1)) fun v18 => g_X11_aliases_b59 (g_X11_aliases_b29 n) T13 l0 l1 l2 l3 v18 l5))
def g_X11_aliases_b22  (T : AT) (s0 : Nat) (l0 : Nat) (l1 : Int32) (l2 : Int32) : Option (Nat × Int32 × AT) := g_X11_aliases_b29 16384 T l0 l1 l2 s0 0 0
def g_X11_aliases (T : AT) (o : Nat) (a0 : Int32) (a1 : Int32) : Option (Nat × Int32 × AT) := oif (oO T o 11 = true) <| othr (g_X11_needCamera T o) 0 fun r5 T3 => othr (g_X11_needRange T3 a0 (2 : Int32) (99 : Int32)) 0 fun r9 T7 => othr (g_X11_needRange T7 a1 (1 : Int32) (100 : Int32)) 0 fun r13 T11 => oif (oO T11 o 11 = true) <| obind2 (g_X11_powersNow T11 o) fun r17 T16 => oif (Nat.blt r17 T16.1 = true) <| g_X11_aliases_b22 T16 r17 o a0 a1
set_option maxHeartbeats 4000000 in
set_option maxRecDepth 100000 in
theorem s_X11_aliases_b59 {e1 : Nat} {r1 : Int32} {T1 : AT} {k29 : AT → Nat → Int32 → Int32 → Nat → Int32 → Int32 → Option (Nat × Int32 × AT)} (hk29 : ∀ (T : AT) (l0 : Nat) (l1 : Int32) (l2 : Int32) (l3 : Nat) (l4 : Int32) (l5 : Int32), k29 T l0 l1 l2 l3 l4 l5 = some (e1, r1, T1) → GL T T1) : ∀ (T : AT) (l0 : Nat) (l1 : Int32) (l2 : Int32) (l3 : Nat) (l4 : Int32) (l5 : Int32), g_X11_aliases_b59 k29 T l0 l1 l2 l3 l4 l5 = some (e1, r1, T1) → GL T T1 := by
  intro T l0 l1 l2 l3 l4 l5 h
  have p0 := GL.rf T
  unfold g_X11_aliases_b59 at h
  obtain ⟨v2, ev2, h⟩ := elet_some h
  exact GL.tr p0 (hk29 _ _ _ _ _ _ _ h)
set_option maxHeartbeats 4000000 in
set_option maxRecDepth 100000 in
theorem s_X11_aliases_b29 {e1 : Nat} {r1 : Int32} {T1 : AT} : ∀ n : Nat, ∀ (T : AT) (l0 : Nat) (l1 : Int32) (l2 : Int32) (l3 : Nat) (l4 : Int32) (l5 : Int32), g_X11_aliases_b29 n T l0 l1 l2 l3 l4 l5 = some (e1, r1, T1) → GL T T1 := by
  intro n
  induction n with
  | zero =>
    intro T l0 l1 l2 l3 l4 l5 h
    have h : (none : Option (Nat × Int32 × AT)) = some (e1, r1, T1) := h
    cases h
  | succ n ih =>
    intro T l0 l1 l2 l3 l4 l5 h
    have p0 := GL.rf T
    unfold g_X11_aliases_b29 at h
    obtain ⟨g2, h⟩ := oif_some h
    obtain ⟨n3, en3, h⟩ := obind_some h
    obtain ⟨g4, h⟩ := oif_some h
    obtain ⟨n5, en5, h⟩ := obind_some h
    obtain ⟨g6, h⟩ := oif_some h
    obtain ⟨r8, T7, eT7, h⟩ := obind2_some h
    have p1 : GL T T7 := GL.tr p0 (gl_sp (s_X1_cells eT7))
    rcases oif_or h with ⟨c9, h⟩ | ⟨c9, h⟩
    · have h := h
      rw [← (osome3 h).2.2]
      exact p1
    · have h := h
      obtain ⟨g10, h⟩ := oif_some h
      obtain ⟨r12, T11, eT11, h⟩ := obind2_some h
      have p2 : GL T T11 := GL.tr p1 (gl_sp (s_X11_marksAlias eT11))
      rcases oif_or h with ⟨c13, h⟩ | ⟨c13, h⟩
      · have h := h
        exact GL.tr p2 (s_X11_aliases_b59 ih _ _ _ _ _ _ _ h)
      · have h := h
        obtain ⟨v14, ev14, h⟩ := elet_some h
        exact GL.tr p2 (s_X11_aliases_b59 ih _ _ _ _ _ _ _ h)
set_option maxHeartbeats 4000000 in
set_option maxRecDepth 100000 in
theorem s_X11_aliases_b22 {e1 : Nat} {r1 : Int32} {T1 : AT} : ∀ (T : AT) (s0 : Nat) (l0 : Nat) (l1 : Int32) (l2 : Int32), g_X11_aliases_b22 T s0 l0 l1 l2 = some (e1, r1, T1) → GL T T1 := by
  intro T s0 l0 l1 l2 h
  have p0 := GL.rf T
  unfold g_X11_aliases_b22 at h
  exact GL.tr p0 (s_X11_aliases_b29 _ _ _ _ _ _ _ _ h)
set_option maxHeartbeats 4000000 in
set_option maxRecDepth 100000 in
theorem s_X11_aliases {T : AT} {o : Nat} {a0 : Int32} {a1 : Int32} {e1 : Nat} {r1 : Int32} {T1 : AT} (h : g_X11_aliases T o a0 a1 = some (e1, r1, T1)) : GL T T1 := by
  have p0 := GL.rf T
  unfold g_X11_aliases at h
  obtain ⟨g2, h⟩ := oif_some h
  rcases othr_s h with ⟨k9, r9, e9, -⟩ | ⟨r4, T3, eT3, h⟩
  · exact GL.tr p0 (gl_sp (s_X11_needCamera e9))
  have p1 : GL T T3 := GL.tr p0 (gl_sp (s_X11_needCamera eT3))
  rcases othr_s h with ⟨k9, r9, e9, -⟩ | ⟨r6, T5, eT5, h⟩
  · exact GL.tr p1 (gl_sp (s_X11_needRange e9))
  have p2 : GL T T5 := GL.tr p1 (gl_sp (s_X11_needRange eT5))
  rcases othr_s h with ⟨k9, r9, e9, -⟩ | ⟨r8, T7, eT7, h⟩
  · exact GL.tr p2 (gl_sp (s_X11_needRange e9))
  have p3 : GL T T7 := GL.tr p2 (gl_sp (s_X11_needRange eT7))
  obtain ⟨g9, h⟩ := oif_some h
  obtain ⟨r11, T10, eT10, h⟩ := obind2_some h
  obtain ⟨g12, h⟩ := oif_some h
  have p4 : GL T T10 := GL.tr p3 (s_X11_powersNow eT10)
  exact GL.tr p4 (s_X11_aliases_b22 _ _ _ _ _ h)
set_option maxHeartbeats 4000000 in
set_option maxRecDepth 100000 in
theorem a_X11_aliases_b59 {p : Program} {l : Launch} {e : Env} {s : State} {m : MethodId} {args : Array Value} {below : List Frame} {meth : Method} {c : Code} {Q : State → Prop} {D : va_G} {A : Nat → Prop} {cI cJ cZ cMic cSrc cSt cAI cAJ : ClassId} {ad0 : Nat → Nat} {T0 : AT} {r1 : Int32} {T1 : AT} (E : cE p c cX11_aliases s m args (Cond.code yX11_aliases cX11_aliases 6 (some .int) :: wsA) D RX11 (CT cI cJ cZ cMic cSrc cSt cAI cAJ)) (hA : ∀ q : Nat, s.heap.size ≤ q → A q) (hX : xT A s) (hN : nX s) (hml : c.maxLocals = 6) (hst : l.stackTraces = false) (kr67 : ∀ (ad : Nat → Nat) (H : Heap) (locs : List Loc) (ls : Array Slot), (∀ n, n < T0.1 → ad n = ad0 n) → gC cI cJ cZ cMic cSrc cSt cAI cAJ D ad A s.heap H locs T1 → W p l e { frames := 7, cells := T1.1 - T0.1, slots := sg T1 - sg T0, locals := 149 } s m args below meth c H locs (T1.1 - T0.1) (sg T1 - sg T0) Q (F0 m 67 ls [.int r1])) {k29 : AT → Nat → Int32 → Int32 → Nat → Int32 → Int32 → Option (Nat × Int32 × AT)} (hs29 : ∀ (T : AT) (l0 : Nat) (l1 : Int32) (l2 : Int32) (l3 : Nat) (l4 : Int32) (l5 : Int32), k29 T l0 l1 l2 l3 l4 l5 = some (0, r1, T1) → GL T T1) (hk29 : ∀ (T : AT) (ad : Nat → Nat) (H : Heap) (locs : List Loc) (ls : Array Slot) (l0 : Nat) (l1 : Int32) (l2 : Int32) (l3 : Nat) (l4 : Int32) (l5 : Int32), k29 T l0 l1 l2 l3 l4 l5 = some (0, r1, T1) → GL T0 T → RC T → (∀ n, n < T0.1 → ad n = ad0 n) → l0 < T.1 → l3 < T.1 → gC cI cJ cZ cMic cSrc cSt cAI cAJ D ad A s.heap H locs T → lv_has ls 6 [(0, .ref (ad l0)), (1, .int l1), (2, .int l2), (3, .ref (ad l3)), (4, .int l4), (5, .int l5)] → W p l e { frames := 7, cells := T1.1 - T0.1, slots := sg T1 - sg T0, locals := 149 } s m args below meth c H locs (T.1 - T0.1) (sg T - sg T0) Q (F0 m 29 ls [])) : ∀ (T : AT) (ad : Nat → Nat) (H : Heap) (locs : List Loc) (ls : Array Slot) (l0 : Nat) (l1 : Int32) (l2 : Int32) (l3 : Nat) (l4 : Int32) (l5 : Int32), g_X11_aliases_b59 k29 T l0 l1 l2 l3 l4 l5 = some (0, r1, T1) → GL T0 T → RC T → (∀ n, n < T0.1 → ad n = ad0 n) → l0 < T.1 → l3 < T.1 → gC cI cJ cZ cMic cSrc cSt cAI cAJ D ad A s.heap H locs T → lv_has ls 6 [(0, .ref (ad l0)), (1, .int l1), (2, .int l2), (3, .ref (ad l3)), (4, .int l4), (5, .int l5)] → W p l e { frames := 7, cells := T1.1 - T0.1, slots := sg T1 - sg T0, locals := 149 } s m args below meth c H locs (T.1 - T0.1) (sg T - sg T0) Q (F0 m 59 ls []) := by
  have hx := E.1
  have hb := E.2.1
  have hts := E.2.2.1
  have hown := E.2.2.2.1
  have hK := E.2.2.2.2
  intro T ad H locs ls l0 l1 l2 l3 l4 l5 h hgl hrc had h_l0 h_l3 G hl
  have hT1 := s_X11_aliases_b59 hs29 _ _ _ _ _ _ _ h
  have hcs := cs_ok hgl hT1
  have cp0 := cpr0 hrc
  unfold g_X11_aliases_b59 at h
  obtain ⟨v2, ev2, h⟩ := elet_some h
  refine lv_iinc (v := v2) (lv' := [(5, .int v2), (0, .ref (ad l0)), (1, .int l1), (2, .int l2), (3, .ref (ad l3)), (4, .int l4)]) hx hb dX11_aliases_59 hl (k := 5) rfl ev2.symm (by decide) rfl (fun ls hl => ?_)
  refine lv_goto (tgt := 29) hx hb dX11_aliases_62 (by decide) ?_
  have hl := lv_sub hl [1, 2, 3, 4, 5, 0] rfl
  refine w_cast (c2 := T.1 - T0.1) (s2 := sg T - sg T0) (by rw [cp0.1] <;> rfl) (by rw [sg_cpr cp0] <;> rfl) ?_
  exact hk29 _ _ _ _ _ _ _ _ _ _ _ h (gl_cpr hgl cp0) cp0.2.2 had (by rw [cp0.1]; exact h_l0) (by rw [cp0.1]; exact h_l3) G hl
set_option maxHeartbeats 4000000 in
set_option maxRecDepth 100000 in
theorem a_X11_aliases_b29 {p : Program} {l : Launch} {e : Env} {s : State} {m : MethodId} {args : Array Value} {below : List Frame} {meth : Method} {c : Code} {Q : State → Prop} {D : va_G} {A : Nat → Prop} {cI cJ cZ cMic cSrc cSt cAI cAJ : ClassId} {ad0 : Nat → Nat} {T0 : AT} {r1 : Int32} {T1 : AT} (E : cE p c cX11_aliases s m args (Cond.code yX11_aliases cX11_aliases 6 (some .int) :: wsA) D RX11 (CT cI cJ cZ cMic cSrc cSt cAI cAJ)) (hA : ∀ q : Nat, s.heap.size ≤ q → A q) (hX : xT A s) (hN : nX s) (hml : c.maxLocals = 6) (hst : l.stackTraces = false) (kr67 : ∀ (ad : Nat → Nat) (H : Heap) (locs : List Loc) (ls : Array Slot), (∀ n, n < T0.1 → ad n = ad0 n) → gC cI cJ cZ cMic cSrc cSt cAI cAJ D ad A s.heap H locs T1 → W p l e { frames := 7, cells := T1.1 - T0.1, slots := sg T1 - sg T0, locals := 149 } s m args below meth c H locs (T1.1 - T0.1) (sg T1 - sg T0) Q (F0 m 67 ls [.int r1])) : ∀ n : Nat, ∀ (T : AT) (ad : Nat → Nat) (H : Heap) (locs : List Loc) (ls : Array Slot) (l0 : Nat) (l1 : Int32) (l2 : Int32) (l3 : Nat) (l4 : Int32) (l5 : Int32), g_X11_aliases_b29 n T l0 l1 l2 l3 l4 l5 = some (0, r1, T1) → GL T0 T → RC T → (∀ n, n < T0.1 → ad n = ad0 n) → l0 < T.1 → l3 < T.1 → gC cI cJ cZ cMic cSrc cSt cAI cAJ D ad A s.heap H locs T → lv_has ls 6 [(0, .ref (ad l0)), (1, .int l1), (2, .int l2), (3, .ref (ad l3)), (4, .int l4), (5, .int l5)] → W p l e { frames := 7, cells := T1.1 - T0.1, slots := sg T1 - sg T0, locals := 149 } s m args below meth c H locs (T.1 - T0.1) (sg T - sg T0) Q (F0 m 29 ls []) := by
  have hx := E.1
  have hb := E.2.1
  have hts := E.2.2.1
  have hown := E.2.2.2.1
  have hK := E.2.2.2.2
  intro n
  induction n with
  | zero =>
    intro T ad H locs ls l0 l1 l2 l3 l4 l5 h
    have h : (none : Option (Nat × Int32 × AT)) = some (0, r1, T1) := h
    cases h
  | succ n ih =>
    intro T ad H locs ls l0 l1 l2 l3 l4 l5 h hgl hrc had h_l0 h_l3 G hl
    have hT1 := s_X11_aliases_b29 _ _ _ _ _ _ _ _ h
    have hcs := cs_ok hgl hT1
    have cp0 := cpr0 hrc
    unfold g_X11_aliases_b29 at h
    refine lv_iload hx hb dX11_aliases_29 (lv_at hl 5 rfl) ?_
    refine lv_aload_n hx hb dX11_aliases_31 rfl (lv_at hl 0 rfl) ?_
    obtain ⟨g2, h⟩ := oif_some h
    obtain ⟨n3, en3, h⟩ := obind_some h
    have h_n3 : n3 < T.1 := by rw [← cp0.1]; exact cp0.2.2 _ _ _ en3
    refine c_get E G l0 14 (v := .ref (ad n3)) (oO_k g2).1 (cc_o11 (oO_k g2).2) rfl (fun w h => .tail _ (iA_23 h)) (by decide) (.tail _ qA_675) rfl (by rw [en3]; rfl) dX11_aliases_32 ?_
    clear en3
    obtain ⟨g4, h⟩ := oif_some h
    obtain ⟨n5, en5, h⟩ := obind_some h
    have h_n5 : n5 < T.1 := by rw [← cp0.1]; exact cp0.2.2 _ _ _ en5
    refine c_get E G n3 6 (v := .ref (ad n5)) (oO_k g4).1 (cc_o6 (oO_k g4).2) rfl (fun w h => .tail _ (iA_14 h)) (by decide) (.tail _ qA_695) rfl (by rw [en5]; rfl) dX11_aliases_35 ?_
    clear en5
    obtain ⟨g6, h⟩ := oif_some h
    obtain ⟨r9, T7, eT7, h⟩ := obind2_some h
    refine q_cvi (As := []) (rest := [.int l5]) E G hA hX hN hml (u_X1_cells l hst D cI cJ cZ cMic cSrc cSt cAI cAJ ad T n5 eT7) (cwV 0 hts (gaV qA_714 qA_35 qA_36 qA_37 qA_38) rfl rfl rfl (by decide +kernel) ⟨Nat.le_of_ble_eq_true rfl, Nat.le_of_ble_eq_true rfl⟩) (oO_k g6).1 (cc_o1 (oO_k g6).2) rfl rfl hl.1 rfl (lv_room (Nat.le_of_ble_eq_true rfl)) dX11_aliases_38 hcs (fun q10 T8 H locs hq G => ?_)
    obtain ⟨hq1, hq2⟩ := hq
    rw [hq2] at G
    refine lv_to hq1 ?_
    clear hq1 hq2
    have cp1 := cpr_sp cp0 (s_X1_cells eT7)
    refine lv_icmp_ge (tgt := 65) hx hb dX11_aliases_41 (by decide) (fun c11 => ?_) (fun c11 => ?_)
    · have h := oif_pos c11 h
      refine lv_iload hx hb dX11_aliases_65 (lv_at hl 4 rfl) ?_
      rw [(osome3 h).2.2] at G
      refine w_cast (c2 := T1.1 - T0.1) (s2 := sg T1 - sg T0) (by rw [← (osome3 h).2.2, cp1.1] <;> rfl) (by rw [← (osome3 h).2.2, sg_cpr cp1] <;> rfl) ?_
      refine lv_to ((osome3 h).2.1) ?_
      exact kr67 ad _ _ _ had G
    · have h := oif_neg c11 h
      refine lv_aload_n hx hb dX11_aliases_44 rfl (lv_at hl 0 rfl) ?_
      refine lv_aload_n hx hb dX11_aliases_45 rfl (lv_at hl 3 rfl) ?_
      refine lv_iload hx hb dX11_aliases_46 (lv_at hl 5 rfl) ?_
      refine lv_iload_n hx hb dX11_aliases_48 rfl (lv_at hl 1 rfl) ?_
      refine lv_iload_n hx hb dX11_aliases_49 rfl (lv_at hl 2 rfl) ?_
      obtain ⟨g12, h⟩ := oif_some h
      obtain ⟨r15, T13, eT13, h⟩ := obind2_some h
      refine q_cvi (As := [.ref (ad l3), .int l5, .int l1, .int l2]) (rest := []) E G hA hX hN hml (u_X11_marksAlias l hst D cI cJ cZ cMic cSrc cSt cAI cAJ ad T7 l0 l3 l5 l1 l2 eT13) (cwV 4 hts (gaV qA_848 qA_849 qA_850 qA_131 qA_851) rfl rfl rfl (by decide +kernel) ⟨Nat.le_of_ble_eq_true rfl, Nat.le_of_ble_eq_true rfl⟩) (oO_k g12).1 (cc_o11 (oO_k g12).2) rfl rfl hl.1 rfl (lv_room (Nat.le_of_ble_eq_true rfl)) dX11_aliases_50 hcs (fun q16 T14 H locs hq G => ?_)
      obtain ⟨hq1, hq2⟩ := hq
      rw [hq2] at G
      refine lv_to hq1 ?_
      clear hq1 hq2
      have cp2 := cpr_sp cp1 (s_X11_marksAlias eT13)
      refine lv_if_eq (tgt := 59) hx hb dX11_aliases_53 (by decide) (fun c17 => ?_) (fun c17 => ?_)
      · have h := oif_pos c17 h
        have hl := lv_sub hl [0, 1, 2, 3, 4, 5] rfl
        refine w_cast (c2 := T13.1 - T0.1) (s2 := sg T13 - sg T0) (by rw [cp2.1] <;> rfl) (by rw [sg_cpr cp2] <;> rfl) ?_
        exact a_X11_aliases_b59 E hA hX hN hml hst kr67 (s_X11_aliases_b29 n) ih _ _ _ _ _ _ _ _ _ _ _ h (gl_cpr hgl cp2) cp2.2.2 had (by rw [cp2.1]; exact h_l0) (by rw [cp2.1]; exact h_l3) G hl
      · have h := oif_neg c17 h
        obtain ⟨v18, ev18, h⟩ := elet_some h
        refine lv_iinc (v := v18) (lv' := [(4, .int v18), (0, .ref (ad l0)), (1, .int l1), (2, .int l2), (3, .ref (ad l3)), (5, .int l5)]) hx hb dX11_aliases_56 hl (k := 4) rfl ev18.symm (by decide) rfl (fun ls hl => ?_)
        have hl := lv_sub hl [1, 2, 3, 4, 0, 5] rfl
        refine w_cast (c2 := T13.1 - T0.1) (s2 := sg T13 - sg T0) (by rw [cp2.1] <;> rfl) (by rw [sg_cpr cp2] <;> rfl) ?_
        exact a_X11_aliases_b59 E hA hX hN hml hst kr67 (s_X11_aliases_b29 n) ih _ _ _ _ _ _ _ _ _ _ _ h (gl_cpr hgl cp2) cp2.2.2 had (by rw [cp2.1]; exact h_l0) (by rw [cp2.1]; exact h_l3) G hl
set_option maxHeartbeats 4000000 in
set_option maxRecDepth 100000 in
theorem a_X11_aliases_b22 {p : Program} {l : Launch} {e : Env} {s : State} {m : MethodId} {args : Array Value} {below : List Frame} {meth : Method} {c : Code} {Q : State → Prop} {D : va_G} {A : Nat → Prop} {cI cJ cZ cMic cSrc cSt cAI cAJ : ClassId} {ad0 : Nat → Nat} {T0 : AT} {r1 : Int32} {T1 : AT} (E : cE p c cX11_aliases s m args (Cond.code yX11_aliases cX11_aliases 6 (some .int) :: wsA) D RX11 (CT cI cJ cZ cMic cSrc cSt cAI cAJ)) (hA : ∀ q : Nat, s.heap.size ≤ q → A q) (hX : xT A s) (hN : nX s) (hml : c.maxLocals = 6) (hst : l.stackTraces = false) (kr67 : ∀ (ad : Nat → Nat) (H : Heap) (locs : List Loc) (ls : Array Slot), (∀ n, n < T0.1 → ad n = ad0 n) → gC cI cJ cZ cMic cSrc cSt cAI cAJ D ad A s.heap H locs T1 → W p l e { frames := 7, cells := T1.1 - T0.1, slots := sg T1 - sg T0, locals := 149 } s m args below meth c H locs (T1.1 - T0.1) (sg T1 - sg T0) Q (F0 m 67 ls [.int r1])) : ∀ (T : AT) (ad : Nat → Nat) (H : Heap) (locs : List Loc) (ls : Array Slot) (s0 : Nat) (l0 : Nat) (l1 : Int32) (l2 : Int32), g_X11_aliases_b22 T s0 l0 l1 l2 = some (0, r1, T1) → GL T0 T → RC T → (∀ n, n < T0.1 → ad n = ad0 n) → s0 < T.1 → l0 < T.1 → gC cI cJ cZ cMic cSrc cSt cAI cAJ D ad A s.heap H locs T → lv_has ls 6 [(0, .ref (ad l0)), (1, .int l1), (2, .int l2)] → W p l e { frames := 7, cells := T1.1 - T0.1, slots := sg T1 - sg T0, locals := 149 } s m args below meth c H locs (T.1 - T0.1) (sg T - sg T0) Q (F0 m 22 ls [.ref (ad s0)]) := by
  have hx := E.1
  have hb := E.2.1
  have hts := E.2.2.1
  have hown := E.2.2.2.1
  have hK := E.2.2.2.2
  intro T ad H locs ls s0 l0 l1 l2 h hgl hrc had h_s0 h_l0 G hl
  have hT1 := s_X11_aliases_b22 _ _ _ _ _ h
  have hcs := cs_ok hgl hT1
  have cp0 := cpr0 hrc
  unfold g_X11_aliases_b22 at h
  refine lv_astore_n (lv' := [(3, .ref (ad s0)), (0, .ref (ad l0)), (1, .int l1), (2, .int l2)]) hx hb dX11_aliases_22 rfl hl (by decide) rfl (fun ls hl => ?_)
  refine lv_iconst (v := 0) hx hb dX11_aliases_23 (by decide) ?_
  refine lv_istore (lv' := [(4, .int 0), (3, .ref (ad s0)), (0, .ref (ad l0)), (1, .int l1), (2, .int l2)]) hx hb dX11_aliases_24 hl (by decide) rfl (fun ls hl => ?_)
  refine lv_iconst (v := 0) hx hb dX11_aliases_26 (by decide) ?_
  refine lv_istore (lv' := [(5, .int 0), (4, .int 0), (3, .ref (ad s0)), (0, .ref (ad l0)), (1, .int l1), (2, .int l2)]) hx hb dX11_aliases_27 hl (by decide) rfl (fun ls hl => ?_)
  have hl := lv_sub hl [3, 4, 5, 2, 1, 0] rfl
  refine w_cast (c2 := T.1 - T0.1) (s2 := sg T - sg T0) (by rw [cp0.1] <;> rfl) (by rw [sg_cpr cp0] <;> rfl) ?_
  exact a_X11_aliases_b29 E hA hX hN hml hst kr67 _ _ _ _ _ _ _ _ _ _ _ _ h (gl_cpr hgl cp0) cp0.2.2 had (by rw [cp0.1]; exact h_l0) (by rw [cp0.1]; exact h_s0) G hl
set_option maxHeartbeats 4000000 in
set_option maxRecDepth 100000 in
theorem a_X11_aliases (l : Launch) (hst : l.stackTraces = false) (D : va_G) (cI cJ cZ cMic cSrc cSt cAI cAJ : ClassId) (ad : Nat → Nat) (T : AT) (o : Nat) (a0 : Int32) (a1 : Int32) {r1 : Int32} {T1 : AT} (h : g_X11_aliases T o a0 a1 = some (0, r1, T1)) (hrc : RC T) (h_o : o < T.1) : kAi l yX11_aliases (Cond.code yX11_aliases cX11_aliases 6 (some .int) :: wsA) 7 149 cI cJ cZ cMic cSrc cSt cAI cAJ D ad T [.ref (ad o), .int a0, .int a1] r1 T1 := by
  intro sz
  refine Met.ofW (cc := cX11_aliases) (maxL := 6) (ret := (some .int)) (by decide) rfl ?_
  intro p e s m args below meth c s₁ B hml hv
  obtain ⟨rfl, hsz, hP, hK, hD0, hX, hN⟩ := hv
  have hx := B.exec
  have hb := B.bytes
  have hr := B.returns
  have hts := atoms_spec (ws := (Cond.code yX11_aliases cX11_aliases 6 (some .int) :: wsA)) B.pre
  have hown : s.vm.findClass RX11 = some m.cls := findClass_of_methodNamed B.named
  have hlocks := B.notSynchronized
  subst hsz
  have hD := hD0.self (sz := s.heap.size)
  generalize hAe : va_A (cW ad T.1 (cc cI cJ cZ cMic cSrc cSt cAI cAJ ad T)) s.heap.size = A at hD hX ⊢
  have hA : ∀ q : Nat, s.heap.size ≤ q → A q := fun q h => by rw [← hAe]; exact Or.inr h
  have G : gC cI cJ cZ cMic cSrc cSt cAI cAJ D ad A s.heap s.heap [] T := ⟨hP, hD, va_S.rf⟩
  have E : cE p c cX11_aliases s m ([.ref (ad o), .int a0, .int a1] : List Value).toArray (Cond.code yX11_aliases cX11_aliases 6 (some .int) :: wsA) D RX11 (CT cI cJ cZ cMic cSrc cSt cAI cAJ) := ⟨hx, hb, hts, hown, hK⟩
  have hl := lv_entry ([.ref (ad o), .int a0, .int a1]) (n := 6) (Nat.le_of_ble_eq_true rfl)
  rw [lg_entry_eq]
  generalize (lg_sl ([.ref (ad o), .int a0, .int a1]) ++ List.replicate (6 - (lg_sl ([.ref (ad o), .int a0, .int a1])).length) Slot.unset).toArray = ls at hl ⊢
  have hl : lv_has ls 6 [(0, .ref (ad o)), (1, .int a0), (2, .int a1)] := hl
  have hgl := GL.rf T
  have had : ∀ n, n < T.1 → ad n = ad n := fun _ _ => rfl
  have hT1 := s_X11_aliases h
  have hcs := cs_ok hgl hT1
  refine w_cast (Nat.sub_self T.1).symm (Nat.sub_self (sg T)).symm ?_
  have cp0 := cpr0 hrc
  unfold g_X11_aliases at h
  refine lv_aload_n hx hb dX11_aliases_0 rfl (lv_at hl 0 rfl) ?_
  obtain ⟨g2, h⟩ := oif_some h
  obtain ⟨r5, T3, eT3, h⟩ := othr_n h
  refine q_cvv (As := []) (rest := []) E G hA hX hN hml (u_X11_needCamera l hst D cI cJ cZ cMic cSrc cSt cAI cAJ ad T o eT3) (cwV 0 hts (gaV qA_728 qA_729 qA_730 qA_131 qA_731) rfl rfl rfl (by decide +kernel) ⟨Nat.le_of_ble_eq_true rfl, Nat.le_of_ble_eq_true rfl⟩) (oO_k g2).1 (cc_o11 (oO_k g2).2) rfl rfl hl.1 rfl (lv_room (Nat.le_of_ble_eq_true rfl)) dX11_aliases_1 hcs (fun T4 H locs hq G => ?_)
  rw [hq] at G
  clear hq
  have cp1 := cpr_sp cp0 (s_X11_needCamera eT3)
  refine lv_iload_n hx hb dX11_aliases_4 rfl (lv_at hl 1 rfl) ?_
  refine lv_iconst (v := 2) hx hb dX11_aliases_5 (by decide) ?_
  refine lv_bipush (v := 99) hx hb dX11_aliases_6 (by decide) ?_
  obtain ⟨r9, T7, eT7, h⟩ := othr_n h
  refine q_csv (As := [.int a0, .int 2, .int 99]) (rest := []) E G hA hX hN hml (u_X11_needRange l hst D cI cJ cZ cMic cSrc cSt cAI cAJ ad T3 a0 (2 : Int32) (99 : Int32) eT7) (cwS 3 hts (gaS qA_741 qA_742 qA_131 qA_743) rfl rfl rfl (by decide +kernel) ⟨Nat.le_of_ble_eq_true rfl, Nat.le_of_ble_eq_true rfl⟩) rfl hl.1 rfl (lv_room (Nat.le_of_ble_eq_true rfl)) dX11_aliases_8 hcs (fun T8 H locs hq G => ?_)
  rw [hq] at G
  clear hq
  have cp2 := cpr_sp cp1 (s_X11_needRange eT7)
  refine lv_iload_n hx hb dX11_aliases_11 rfl (lv_at hl 2 rfl) ?_
  refine lv_iconst (v := 1) hx hb dX11_aliases_12 (by decide) ?_
  refine lv_bipush (v := 100) hx hb dX11_aliases_13 (by decide) ?_
  obtain ⟨r13, T11, eT11, h⟩ := othr_n h
  refine q_csv (As := [.int a1, .int 1, .int 100]) (rest := []) E G hA hX hN hml (u_X11_needRange l hst D cI cJ cZ cMic cSrc cSt cAI cAJ ad T7 a1 (1 : Int32) (100 : Int32) eT11) (cwS 3 hts (gaS qA_741 qA_742 qA_131 qA_743) rfl rfl rfl (by decide +kernel) ⟨Nat.le_of_ble_eq_true rfl, Nat.le_of_ble_eq_true rfl⟩) rfl hl.1 rfl (lv_room (Nat.le_of_ble_eq_true rfl)) dX11_aliases_15 hcs (fun T12 H locs hq G => ?_)
  rw [hq] at G
  clear hq
  have cp3 := cpr_sp cp2 (s_X11_needRange eT11)
  refine lv_aload_n hx hb dX11_aliases_18 rfl (lv_at hl 0 rfl) ?_
  obtain ⟨g15, h⟩ := oif_some h
  obtain ⟨r17, T16, eT16, h⟩ := obind2_some h
  obtain ⟨g18, h⟩ := oif_some h
  have hg2 := s_X11_powersNow eT16
  have hrc2 := hg2.2.2 cp3.2.2
  have hT2 := s_X11_aliases_b22 _ _ _ _ _ h
  refine q_avr (As := []) (rest := []) E G hA hX hN hml (a_X11_powersNow l hst D cI cJ cZ cMic cSrc cSt cAI cAJ ad T11 o eT16 cp3.2.2 (by rw [cp3.1]; exact h_o)) (cwV 0 hts (gaV qA_799 qA_800 qA_801 qA_131 qA_802) rfl rfl rfl (by decide +kernel) ⟨Nat.le_of_ble_eq_true rfl, Nat.le_of_ble_eq_true rfl⟩) (oO_k g15).1 (cc_o11 (oO_k g15).2) rfl rfl hl.1 rfl (lv_room (Nat.le_of_ble_eq_true rfl)) dX11_aliases_19 (cs_av hgl cp3 hg2 hT2) (fun ad2 H locs hga G => ?_)
  refine w_cast (c2 := T16.1 - T.1) (s2 := sg T16 - sg T) (cs_f1 hgl cp3 hg2) (cs_f2 hgl cp3 hg2) ?_
  have h_new : r17 < T16.1 := Nat.le_of_ble_eq_true g18
  have hl := lv_sub hl [0, 1, 2] rfl
  rw [show ad o = ad2 o from (hga o (by rw [cp3.1]; exact h_o)).symm] at hl
  exact a_X11_aliases_b22 E hA hX hN hml hst (fun ad H locs ls had G => W.iret (v := r1) hx hb hr (fun t ht hW => ⟨⟨r1, (T1, ad), rfl, ⟨rfl, rfl, had⟩, ⟨by rw [ht]; exact G.1, va_K.moved hW.alike hK, G.2.1⟩⟩, G.2.2.F ht⟩) G.2.2.2.2 dX11_aliases_67) _ _ _ _ _ _ _ _ _ h (GL.tr (gl_cpr hgl cp3) hg2) hrc2 (fun n hn => (hga n (by rw [cp3.1]; exact Nat.lt_of_lt_of_le hn hgl.1)).trans (had n hn)) h_new (Nat.lt_of_lt_of_le (by rw [cp3.1]; exact h_o) hg2.1) G hl
set_option maxHeartbeats 4000000 in
set_option maxRecDepth 100000 in
theorem b_X11_aliases_b59 {p : Program} {l : Launch} {e : Env} {s : State} {m : MethodId} {args : Array Value} {below : List Frame} {meth : Method} {c : Code} {Qc : Array Value → State → Outcome → State → Prop} {XC : String → State → State → Prop} {D : va_G} {A : Nat → Prop} {cI cJ cZ cMic cSrc cSt cAI cAJ : ClassId} {ad0 : Nat → Nat} {T0 : AT} {e1 : Nat} {r1 : Int32} {T1 : AT} (E : cE p c cX11_aliases s m args (Cond.code yX11_aliases cX11_aliases 6 (some .int) :: wsA) D RX11 (CT cI cJ cZ cMic cSrc cSt cAI cAJ)) (hA : ∀ q : Nat, s.heap.size ≤ q → A q) (hX : xT A s) (hN : nX s) (hml : c.maxLocals = 6) (hst : l.stackTraces = false) (htab : ∀ x ∈ c.exceptionTable.toList, False) (hlocks : meth.locks = false) (kx : ∀ (ad : Nat → Nat) (H : Heap) (locs : List Loc) (t : State), (∀ n, n < T0.1 → ad n = ad0 n) → gC cI cJ cZ cMic cSrc cSt cAI cAJ D ad A s.heap H locs T1 → s.vm.Alike t.vm → H.size ≤ t.heap.size → (∀ q, q < H.size → t.heap[q]? = H[q]?) → XC (exn e1) s t) {k29 : AT → Nat → Int32 → Int32 → Nat → Int32 → Int32 → Option (Nat × Int32 × AT)} (hs29 : ∀ (T : AT) (l0 : Nat) (l1 : Int32) (l2 : Int32) (l3 : Nat) (l4 : Int32) (l5 : Int32), k29 T l0 l1 l2 l3 l4 l5 = some (e1 + 1, r1, T1) → GL T T1) (hk29 : ∀ (T : AT) (ad : Nat → Nat) (H : Heap) (locs : List Loc) (ls : Array Slot) (l0 : Nat) (l1 : Int32) (l2 : Int32) (l3 : Nat) (l4 : Int32) (l5 : Int32), k29 T l0 l1 l2 l3 l4 l5 = some (e1 + 1, r1, T1) → GL T0 T → RC T → (∀ n, n < T0.1 → ad n = ad0 n) → l0 < T.1 → l3 < T.1 → gC cI cJ cZ cMic cSrc cSt cAI cAJ D ad A s.heap H locs T → lv_has ls 6 [(0, .ref (ad l0)), (1, .int l1), (2, .int l2), (3, .ref (ad l3)), (4, .int l4), (5, .int l5)] → W p l e { frames := 7, cells := T1.1 - T0.1 + 1, slots := sg T1 - sg T0 + 6, locals := 149 } s m args below meth c H locs (T.1 - T0.1) (sg T - sg T0) (vx_MQ below Qc XC args s (T1.1 - T0.1 + 1) (sg T1 - sg T0 + 6) A) (F0 m 29 ls [])) : ∀ (T : AT) (ad : Nat → Nat) (H : Heap) (locs : List Loc) (ls : Array Slot) (l0 : Nat) (l1 : Int32) (l2 : Int32) (l3 : Nat) (l4 : Int32) (l5 : Int32), g_X11_aliases_b59 k29 T l0 l1 l2 l3 l4 l5 = some (e1 + 1, r1, T1) → GL T0 T → RC T → (∀ n, n < T0.1 → ad n = ad0 n) → l0 < T.1 → l3 < T.1 → gC cI cJ cZ cMic cSrc cSt cAI cAJ D ad A s.heap H locs T → lv_has ls 6 [(0, .ref (ad l0)), (1, .int l1), (2, .int l2), (3, .ref (ad l3)), (4, .int l4), (5, .int l5)] → W p l e { frames := 7, cells := T1.1 - T0.1 + 1, slots := sg T1 - sg T0 + 6, locals := 149 } s m args below meth c H locs (T.1 - T0.1) (sg T - sg T0) (vx_MQ below Qc XC args s (T1.1 - T0.1 + 1) (sg T1 - sg T0 + 6) A) (F0 m 59 ls []) := by
  have hx := E.1
  have hb := E.2.1
  have hts := E.2.2.1
  have hown := E.2.2.2.1
  have hK := E.2.2.2.2
  intro T ad H locs ls l0 l1 l2 l3 l4 l5 h hgl hrc had h_l0 h_l3 G hl
  have hT1 := s_X11_aliases_b59 hs29 _ _ _ _ _ _ _ h
  have hcs := cs_okx hgl hT1
  have hcx := cs_okx1 hgl hT1
  have cp0 := cpr0 hrc
  unfold g_X11_aliases_b59 at h
  obtain ⟨v2, ev2, h⟩ := elet_some h
  refine lv_iinc (v := v2) (lv' := [(5, .int v2), (0, .ref (ad l0)), (1, .int l1), (2, .int l2), (3, .ref (ad l3)), (4, .int l4)]) hx hb dX11_aliases_59 hl (k := 5) rfl ev2.symm (by decide) rfl (fun ls hl => ?_)
  refine lv_goto (tgt := 29) hx hb dX11_aliases_62 (by decide) ?_
  have hl := lv_sub hl [1, 2, 3, 4, 5, 0] rfl
  refine w_cast (c2 := T.1 - T0.1) (s2 := sg T - sg T0) (by rw [cp0.1] <;> rfl) (by rw [sg_cpr cp0] <;> rfl) ?_
  exact hk29 _ _ _ _ _ _ _ _ _ _ _ h (gl_cpr hgl cp0) cp0.2.2 had (by rw [cp0.1]; exact h_l0) (by rw [cp0.1]; exact h_l3) G hl
set_option maxHeartbeats 4000000 in
set_option maxRecDepth 100000 in
theorem b_X11_aliases_b29 {p : Program} {l : Launch} {e : Env} {s : State} {m : MethodId} {args : Array Value} {below : List Frame} {meth : Method} {c : Code} {Qc : Array Value → State → Outcome → State → Prop} {XC : String → State → State → Prop} {D : va_G} {A : Nat → Prop} {cI cJ cZ cMic cSrc cSt cAI cAJ : ClassId} {ad0 : Nat → Nat} {T0 : AT} {e1 : Nat} {r1 : Int32} {T1 : AT} (E : cE p c cX11_aliases s m args (Cond.code yX11_aliases cX11_aliases 6 (some .int) :: wsA) D RX11 (CT cI cJ cZ cMic cSrc cSt cAI cAJ)) (hA : ∀ q : Nat, s.heap.size ≤ q → A q) (hX : xT A s) (hN : nX s) (hml : c.maxLocals = 6) (hst : l.stackTraces = false) (htab : ∀ x ∈ c.exceptionTable.toList, False) (hlocks : meth.locks = false) (kx : ∀ (ad : Nat → Nat) (H : Heap) (locs : List Loc) (t : State), (∀ n, n < T0.1 → ad n = ad0 n) → gC cI cJ cZ cMic cSrc cSt cAI cAJ D ad A s.heap H locs T1 → s.vm.Alike t.vm → H.size ≤ t.heap.size → (∀ q, q < H.size → t.heap[q]? = H[q]?) → XC (exn e1) s t) : ∀ n : Nat, ∀ (T : AT) (ad : Nat → Nat) (H : Heap) (locs : List Loc) (ls : Array Slot) (l0 : Nat) (l1 : Int32) (l2 : Int32) (l3 : Nat) (l4 : Int32) (l5 : Int32), g_X11_aliases_b29 n T l0 l1 l2 l3 l4 l5 = some (e1 + 1, r1, T1) → GL T0 T → RC T → (∀ n, n < T0.1 → ad n = ad0 n) → l0 < T.1 → l3 < T.1 → gC cI cJ cZ cMic cSrc cSt cAI cAJ D ad A s.heap H locs T → lv_has ls 6 [(0, .ref (ad l0)), (1, .int l1), (2, .int l2), (3, .ref (ad l3)), (4, .int l4), (5, .int l5)] → W p l e { frames := 7, cells := T1.1 - T0.1 + 1, slots := sg T1 - sg T0 + 6, locals := 149 } s m args below meth c H locs (T.1 - T0.1) (sg T - sg T0) (vx_MQ below Qc XC args s (T1.1 - T0.1 + 1) (sg T1 - sg T0 + 6) A) (F0 m 29 ls []) := by
  have hx := E.1
  have hb := E.2.1
  have hts := E.2.2.1
  have hown := E.2.2.2.1
  have hK := E.2.2.2.2
  intro n
  induction n with
  | zero =>
    intro T ad H locs ls l0 l1 l2 l3 l4 l5 h
    have h : (none : Option (Nat × Int32 × AT)) = some (e1 + 1, r1, T1) := h
    cases h
  | succ n ih =>
    intro T ad H locs ls l0 l1 l2 l3 l4 l5 h hgl hrc had h_l0 h_l3 G hl
    have hT1 := s_X11_aliases_b29 _ _ _ _ _ _ _ _ h
    have hcs := cs_okx hgl hT1
    have hcx := cs_okx1 hgl hT1
    have cp0 := cpr0 hrc
    unfold g_X11_aliases_b29 at h
    refine lv_iload hx hb dX11_aliases_29 (lv_at hl 5 rfl) ?_
    refine lv_aload_n hx hb dX11_aliases_31 rfl (lv_at hl 0 rfl) ?_
    obtain ⟨g2, h⟩ := oif_some h
    obtain ⟨n3, en3, h⟩ := obind_some h
    have h_n3 : n3 < T.1 := by rw [← cp0.1]; exact cp0.2.2 _ _ _ en3
    refine c_get E G l0 14 (v := .ref (ad n3)) (oO_k g2).1 (cc_o11 (oO_k g2).2) rfl (fun w h => .tail _ (iA_23 h)) (by decide) (.tail _ qA_675) rfl (by rw [en3]; rfl) dX11_aliases_32 ?_
    clear en3
    obtain ⟨g4, h⟩ := oif_some h
    obtain ⟨n5, en5, h⟩ := obind_some h
    have h_n5 : n5 < T.1 := by rw [← cp0.1]; exact cp0.2.2 _ _ _ en5
    refine c_get E G n3 6 (v := .ref (ad n5)) (oO_k g4).1 (cc_o6 (oO_k g4).2) rfl (fun w h => .tail _ (iA_14 h)) (by decide) (.tail _ qA_695) rfl (by rw [en5]; rfl) dX11_aliases_35 ?_
    clear en5
    obtain ⟨g6, h⟩ := oif_some h
    obtain ⟨r9, T7, eT7, h⟩ := obind2_some h
    refine q_cvi (As := []) (rest := [.int l5]) E G hA hX hN hml (u_X1_cells l hst D cI cJ cZ cMic cSrc cSt cAI cAJ ad T n5 eT7) (cwV 0 hts (gaV qA_714 qA_35 qA_36 qA_37 qA_38) rfl rfl rfl (by decide +kernel) ⟨Nat.le_of_ble_eq_true rfl, Nat.le_of_ble_eq_true rfl⟩) (oO_k g6).1 (cc_o1 (oO_k g6).2) rfl rfl hl.1 rfl (lv_room (Nat.le_of_ble_eq_true rfl)) dX11_aliases_38 hcs (fun q10 T8 H locs hq G => ?_)
    obtain ⟨hq1, hq2⟩ := hq
    rw [hq2] at G
    refine lv_to hq1 ?_
    clear hq1 hq2
    have cp1 := cpr_sp cp0 (s_X1_cells eT7)
    refine lv_icmp_ge (tgt := 65) hx hb dX11_aliases_41 (by decide) (fun c11 => ?_) (fun c11 => ?_)
    · have h := oif_pos c11 h
      refine lv_iload hx hb dX11_aliases_65 (lv_at hl 4 rfl) ?_
      exact (Nat.succ_ne_zero _ (congrArg Prod.fst (Option.some.inj h)).symm).elim
    · have h := oif_neg c11 h
      refine lv_aload_n hx hb dX11_aliases_44 rfl (lv_at hl 0 rfl) ?_
      refine lv_aload_n hx hb dX11_aliases_45 rfl (lv_at hl 3 rfl) ?_
      refine lv_iload hx hb dX11_aliases_46 (lv_at hl 5 rfl) ?_
      refine lv_iload_n hx hb dX11_aliases_48 rfl (lv_at hl 1 rfl) ?_
      refine lv_iload_n hx hb dX11_aliases_49 rfl (lv_at hl 2 rfl) ?_
      obtain ⟨g12, h⟩ := oif_some h
      obtain ⟨r15, T13, eT13, h⟩ := obind2_some h
      refine q_cvi (As := [.ref (ad l3), .int l5, .int l1, .int l2]) (rest := []) E G hA hX hN hml (u_X11_marksAlias l hst D cI cJ cZ cMic cSrc cSt cAI cAJ ad T7 l0 l3 l5 l1 l2 eT13) (cwV 4 hts (gaV qA_848 qA_849 qA_850 qA_131 qA_851) rfl rfl rfl (by decide +kernel) ⟨Nat.le_of_ble_eq_true rfl, Nat.le_of_ble_eq_true rfl⟩) (oO_k g12).1 (cc_o11 (oO_k g12).2) rfl rfl hl.1 rfl (lv_room (Nat.le_of_ble_eq_true rfl)) dX11_aliases_50 hcs (fun q16 T14 H locs hq G => ?_)
      obtain ⟨hq1, hq2⟩ := hq
      rw [hq2] at G
      refine lv_to hq1 ?_
      clear hq1 hq2
      have cp2 := cpr_sp cp1 (s_X11_marksAlias eT13)
      refine lv_if_eq (tgt := 59) hx hb dX11_aliases_53 (by decide) (fun c17 => ?_) (fun c17 => ?_)
      · have h := oif_pos c17 h
        have hl := lv_sub hl [0, 1, 2, 3, 4, 5] rfl
        refine w_cast (c2 := T13.1 - T0.1) (s2 := sg T13 - sg T0) (by rw [cp2.1] <;> rfl) (by rw [sg_cpr cp2] <;> rfl) ?_
        exact b_X11_aliases_b59 E hA hX hN hml hst htab hlocks kx (s_X11_aliases_b29 n) ih _ _ _ _ _ _ _ _ _ _ _ h (gl_cpr hgl cp2) cp2.2.2 had (by rw [cp2.1]; exact h_l0) (by rw [cp2.1]; exact h_l3) G hl
      · have h := oif_neg c17 h
        obtain ⟨v18, ev18, h⟩ := elet_some h
        refine lv_iinc (v := v18) (lv' := [(4, .int v18), (0, .ref (ad l0)), (1, .int l1), (2, .int l2), (3, .ref (ad l3)), (5, .int l5)]) hx hb dX11_aliases_56 hl (k := 4) rfl ev18.symm (by decide) rfl (fun ls hl => ?_)
        have hl := lv_sub hl [1, 2, 3, 4, 0, 5] rfl
        refine w_cast (c2 := T13.1 - T0.1) (s2 := sg T13 - sg T0) (by rw [cp2.1] <;> rfl) (by rw [sg_cpr cp2] <;> rfl) ?_
        exact b_X11_aliases_b59 E hA hX hN hml hst htab hlocks kx (s_X11_aliases_b29 n) ih _ _ _ _ _ _ _ _ _ _ _ h (gl_cpr hgl cp2) cp2.2.2 had (by rw [cp2.1]; exact h_l0) (by rw [cp2.1]; exact h_l3) G hl
set_option maxHeartbeats 4000000 in
set_option maxRecDepth 100000 in
theorem b_X11_aliases_b22 {p : Program} {l : Launch} {e : Env} {s : State} {m : MethodId} {args : Array Value} {below : List Frame} {meth : Method} {c : Code} {Qc : Array Value → State → Outcome → State → Prop} {XC : String → State → State → Prop} {D : va_G} {A : Nat → Prop} {cI cJ cZ cMic cSrc cSt cAI cAJ : ClassId} {ad0 : Nat → Nat} {T0 : AT} {e1 : Nat} {r1 : Int32} {T1 : AT} (E : cE p c cX11_aliases s m args (Cond.code yX11_aliases cX11_aliases 6 (some .int) :: wsA) D RX11 (CT cI cJ cZ cMic cSrc cSt cAI cAJ)) (hA : ∀ q : Nat, s.heap.size ≤ q → A q) (hX : xT A s) (hN : nX s) (hml : c.maxLocals = 6) (hst : l.stackTraces = false) (htab : ∀ x ∈ c.exceptionTable.toList, False) (hlocks : meth.locks = false) (kx : ∀ (ad : Nat → Nat) (H : Heap) (locs : List Loc) (t : State), (∀ n, n < T0.1 → ad n = ad0 n) → gC cI cJ cZ cMic cSrc cSt cAI cAJ D ad A s.heap H locs T1 → s.vm.Alike t.vm → H.size ≤ t.heap.size → (∀ q, q < H.size → t.heap[q]? = H[q]?) → XC (exn e1) s t) : ∀ (T : AT) (ad : Nat → Nat) (H : Heap) (locs : List Loc) (ls : Array Slot) (s0 : Nat) (l0 : Nat) (l1 : Int32) (l2 : Int32), g_X11_aliases_b22 T s0 l0 l1 l2 = some (e1 + 1, r1, T1) → GL T0 T → RC T → (∀ n, n < T0.1 → ad n = ad0 n) → s0 < T.1 → l0 < T.1 → gC cI cJ cZ cMic cSrc cSt cAI cAJ D ad A s.heap H locs T → lv_has ls 6 [(0, .ref (ad l0)), (1, .int l1), (2, .int l2)] → W p l e { frames := 7, cells := T1.1 - T0.1 + 1, slots := sg T1 - sg T0 + 6, locals := 149 } s m args below meth c H locs (T.1 - T0.1) (sg T - sg T0) (vx_MQ below Qc XC args s (T1.1 - T0.1 + 1) (sg T1 - sg T0 + 6) A) (F0 m 22 ls [.ref (ad s0)]) := by
  have hx := E.1
  have hb := E.2.1
  have hts := E.2.2.1
  have hown := E.2.2.2.1
  have hK := E.2.2.2.2
  intro T ad H locs ls s0 l0 l1 l2 h hgl hrc had h_s0 h_l0 G hl
  have hT1 := s_X11_aliases_b22 _ _ _ _ _ h
  have hcs := cs_okx hgl hT1
  have hcx := cs_okx1 hgl hT1
  have cp0 := cpr0 hrc
  unfold g_X11_aliases_b22 at h
  refine lv_astore_n (lv' := [(3, .ref (ad s0)), (0, .ref (ad l0)), (1, .int l1), (2, .int l2)]) hx hb dX11_aliases_22 rfl hl (by decide) rfl (fun ls hl => ?_)
  refine lv_iconst (v := 0) hx hb dX11_aliases_23 (by decide) ?_
  refine lv_istore (lv' := [(4, .int 0), (3, .ref (ad s0)), (0, .ref (ad l0)), (1, .int l1), (2, .int l2)]) hx hb dX11_aliases_24 hl (by decide) rfl (fun ls hl => ?_)
  refine lv_iconst (v := 0) hx hb dX11_aliases_26 (by decide) ?_
  refine lv_istore (lv' := [(5, .int 0), (4, .int 0), (3, .ref (ad s0)), (0, .ref (ad l0)), (1, .int l1), (2, .int l2)]) hx hb dX11_aliases_27 hl (by decide) rfl (fun ls hl => ?_)
  have hl := lv_sub hl [3, 4, 5, 2, 1, 0] rfl
  refine w_cast (c2 := T.1 - T0.1) (s2 := sg T - sg T0) (by rw [cp0.1] <;> rfl) (by rw [sg_cpr cp0] <;> rfl) ?_
  exact b_X11_aliases_b29 E hA hX hN hml hst htab hlocks kx _ _ _ _ _ _ _ _ _ _ _ _ h (gl_cpr hgl cp0) cp0.2.2 had (by rw [cp0.1]; exact h_l0) (by rw [cp0.1]; exact h_s0) G hl
set_option maxHeartbeats 4000000 in
set_option maxRecDepth 100000 in
theorem b_X11_aliases (l : Launch) (hst : l.stackTraces = false) (D : va_G) (cI cJ cZ cMic cSrc cSt cAI cAJ : ClassId) (ad : Nat → Nat) (T : AT) (o : Nat) (a0 : Int32) (a1 : Int32) {e1 : Nat} {r1 : Int32} {T1 : AT} (h : g_X11_aliases T o a0 a1 = some (e1 + 1, r1, T1)) (hrc : RC T) (h_o : o < T.1) : kAXi l yX11_aliases (Cond.code yX11_aliases cX11_aliases 6 (some .int) :: wsA) 7 149 cI cJ cZ cMic cSrc cSt cAI cAJ D ad T [.ref (ad o), .int a0, .int a1] e1 T1 := by
  intro sz
  refine vx_ofW (cc := cX11_aliases) (maxL := 6) (ret := (some .int)) (by decide) rfl ?_
  intro p e s m args below meth c s₁ B hml htab hv
  obtain ⟨rfl, hsz, hP, hK, hD0, hX, hN⟩ := hv
  have hx := B.exec
  have hb := B.bytes
  have hr := B.returns
  have hts := atoms_spec (ws := (Cond.code yX11_aliases cX11_aliases 6 (some .int) :: wsA)) B.pre
  have hown : s.vm.findClass RX11 = some m.cls := findClass_of_methodNamed B.named
  have hlocks := B.notSynchronized
  subst hsz
  have hD := hD0.self (sz := s.heap.size)
  generalize hAe : va_A (cW ad T.1 (cc cI cJ cZ cMic cSrc cSt cAI cAJ ad T)) s.heap.size = A at hD hX ⊢
  have hA : ∀ q : Nat, s.heap.size ≤ q → A q := fun q h => by rw [← hAe]; exact Or.inr h
  have G : gC cI cJ cZ cMic cSrc cSt cAI cAJ D ad A s.heap s.heap [] T := ⟨hP, hD, va_S.rf⟩
  have E : cE p c cX11_aliases s m ([.ref (ad o), .int a0, .int a1] : List Value).toArray (Cond.code yX11_aliases cX11_aliases 6 (some .int) :: wsA) D RX11 (CT cI cJ cZ cMic cSrc cSt cAI cAJ) := ⟨hx, hb, hts, hown, hK⟩
  have htab : ∀ x ∈ c.exceptionTable.toList, False := fun x hx => htab x hx
  have hl := lv_entry ([.ref (ad o), .int a0, .int a1]) (n := 6) (Nat.le_of_ble_eq_true rfl)
  rw [lg_entry_eq]
  generalize (lg_sl ([.ref (ad o), .int a0, .int a1]) ++ List.replicate (6 - (lg_sl ([.ref (ad o), .int a0, .int a1])).length) Slot.unset).toArray = ls at hl ⊢
  have hl : lv_has ls 6 [(0, .ref (ad o)), (1, .int a0), (2, .int a1)] := hl
  have hgl := GL.rf T
  have had : ∀ n, n < T.1 → ad n = ad n := fun _ _ => rfl
  have hT1 := s_X11_aliases h
  have hcs := cs_okx hgl hT1
  have hcx := cs_okx1 hgl hT1
  refine w_cast (Nat.sub_self T.1).symm (Nat.sub_self (sg T)).symm ?_
  have cp0 := cpr0 hrc
  unfold g_X11_aliases at h
  refine lv_aload_n hx hb dX11_aliases_0 rfl (lv_at hl 0 rfl) ?_
  obtain ⟨g2, h⟩ := oif_some h
  rcases othr_t h with ⟨r0, eT3⟩ | ⟨r5, T3, eT3, h⟩
  · refine q_xvv (As := []) (rest := []) E G hA hX hN hml (x_X11_needCamera l hst D cI cJ cZ cMic cSrc cSt cAI cAJ ad T o eT3) (cwV 0 hts (gaV qA_728 qA_729 qA_730 qA_131 qA_731) rfl rfl rfl (by decide +kernel) ⟨Nat.le_of_ble_eq_true rfl, Nat.le_of_ble_eq_true rfl⟩) (oO_k g2).1 (cc_o11 (oO_k g2).2) rfl rfl hl.1 rfl (lv_room (Nat.le_of_ble_eq_true rfl)) dX11_aliases_1 hcx (fun E9 ce q9 T9 H locs hp G hce hcv hcl => ?_)
    obtain ⟨hE, hT⟩ := hp
    subst hE
    rw [hT] at G
    exact vx_out (fun x hx => (htab x hx).elim) hlocks hce hcv hcl (fun t ht hvm => ⟨(T1, ad), trivial, ⟨⟨rfl, rfl, had⟩, by rw [ht]; exact G.1, va_K.moved hvm hK, G.2.1⟩, G.2.2.F ht⟩) G.2.2.2.2 hcx.1 hcx.2
  refine q_cvv (As := []) (rest := []) E G hA hX hN hml (u_X11_needCamera l hst D cI cJ cZ cMic cSrc cSt cAI cAJ ad T o eT3) (cwV 0 hts (gaV qA_728 qA_729 qA_730 qA_131 qA_731) rfl rfl rfl (by decide +kernel) ⟨Nat.le_of_ble_eq_true rfl, Nat.le_of_ble_eq_true rfl⟩) (oO_k g2).1 (cc_o11 (oO_k g2).2) rfl rfl hl.1 rfl (lv_room (Nat.le_of_ble_eq_true rfl)) dX11_aliases_1 hcs (fun T4 H locs hq G => ?_)
  rw [hq] at G
  clear hq
  have cp1 := cpr_sp cp0 (s_X11_needCamera eT3)
  refine lv_iload_n hx hb dX11_aliases_4 rfl (lv_at hl 1 rfl) ?_
  refine lv_iconst (v := 2) hx hb dX11_aliases_5 (by decide) ?_
  refine lv_bipush (v := 99) hx hb dX11_aliases_6 (by decide) ?_
  rcases othr_t h with ⟨r0, eT7⟩ | ⟨r9, T7, eT7, h⟩
  · refine q_xsv (As := [.int a0, .int 2, .int 99]) (rest := []) E G hA hX hN hml (x_X11_needRange l hst D cI cJ cZ cMic cSrc cSt cAI cAJ ad T3 a0 (2 : Int32) (99 : Int32) eT7) (cwS 3 hts (gaS qA_741 qA_742 qA_131 qA_743) rfl rfl rfl (by decide +kernel) ⟨Nat.le_of_ble_eq_true rfl, Nat.le_of_ble_eq_true rfl⟩) rfl hl.1 rfl (lv_room (Nat.le_of_ble_eq_true rfl)) dX11_aliases_8 hcx (fun E9 ce q9 T9 H locs hp G hce hcv hcl => ?_)
    obtain ⟨hE, hT⟩ := hp
    subst hE
    rw [hT] at G
    exact vx_out (fun x hx => (htab x hx).elim) hlocks hce hcv hcl (fun t ht hvm => ⟨(T1, ad), trivial, ⟨⟨rfl, rfl, had⟩, by rw [ht]; exact G.1, va_K.moved hvm hK, G.2.1⟩, G.2.2.F ht⟩) G.2.2.2.2 hcx.1 hcx.2
  refine q_csv (As := [.int a0, .int 2, .int 99]) (rest := []) E G hA hX hN hml (u_X11_needRange l hst D cI cJ cZ cMic cSrc cSt cAI cAJ ad T3 a0 (2 : Int32) (99 : Int32) eT7) (cwS 3 hts (gaS qA_741 qA_742 qA_131 qA_743) rfl rfl rfl (by decide +kernel) ⟨Nat.le_of_ble_eq_true rfl, Nat.le_of_ble_eq_true rfl⟩) rfl hl.1 rfl (lv_room (Nat.le_of_ble_eq_true rfl)) dX11_aliases_8 hcs (fun T8 H locs hq G => ?_)
  rw [hq] at G
  clear hq
  have cp2 := cpr_sp cp1 (s_X11_needRange eT7)
  refine lv_iload_n hx hb dX11_aliases_11 rfl (lv_at hl 2 rfl) ?_
  refine lv_iconst (v := 1) hx hb dX11_aliases_12 (by decide) ?_
  refine lv_bipush (v := 100) hx hb dX11_aliases_13 (by decide) ?_
  rcases othr_t h with ⟨r0, eT11⟩ | ⟨r13, T11, eT11, h⟩
  · refine q_xsv (As := [.int a1, .int 1, .int 100]) (rest := []) E G hA hX hN hml (x_X11_needRange l hst D cI cJ cZ cMic cSrc cSt cAI cAJ ad T7 a1 (1 : Int32) (100 : Int32) eT11) (cwS 3 hts (gaS qA_741 qA_742 qA_131 qA_743) rfl rfl rfl (by decide +kernel) ⟨Nat.le_of_ble_eq_true rfl, Nat.le_of_ble_eq_true rfl⟩) rfl hl.1 rfl (lv_room (Nat.le_of_ble_eq_true rfl)) dX11_aliases_15 hcx (fun E9 ce q9 T9 H locs hp G hce hcv hcl => ?_)
    obtain ⟨hE, hT⟩ := hp
    subst hE
    rw [hT] at G
    exact vx_out (fun x hx => (htab x hx).elim) hlocks hce hcv hcl (fun t ht hvm => ⟨(T1, ad), trivial, ⟨⟨rfl, rfl, had⟩, by rw [ht]; exact G.1, va_K.moved hvm hK, G.2.1⟩, G.2.2.F ht⟩) G.2.2.2.2 hcx.1 hcx.2
  refine q_csv (As := [.int a1, .int 1, .int 100]) (rest := []) E G hA hX hN hml (u_X11_needRange l hst D cI cJ cZ cMic cSrc cSt cAI cAJ ad T7 a1 (1 : Int32) (100 : Int32) eT11) (cwS 3 hts (gaS qA_741 qA_742 qA_131 qA_743) rfl rfl rfl (by decide +kernel) ⟨Nat.le_of_ble_eq_true rfl, Nat.le_of_ble_eq_true rfl⟩) rfl hl.1 rfl (lv_room (Nat.le_of_ble_eq_true rfl)) dX11_aliases_15 hcs (fun T12 H locs hq G => ?_)
  rw [hq] at G
  clear hq
  have cp3 := cpr_sp cp2 (s_X11_needRange eT11)
  refine lv_aload_n hx hb dX11_aliases_18 rfl (lv_at hl 0 rfl) ?_
  obtain ⟨g15, h⟩ := oif_some h
  obtain ⟨r17, T16, eT16, h⟩ := obind2_some h
  obtain ⟨g18, h⟩ := oif_some h
  have hg2 := s_X11_powersNow eT16
  have hrc2 := hg2.2.2 cp3.2.2
  have hT2 := s_X11_aliases_b22 _ _ _ _ _ h
  refine q_avr (As := []) (rest := []) E G hA hX hN hml (a_X11_powersNow l hst D cI cJ cZ cMic cSrc cSt cAI cAJ ad T11 o eT16 cp3.2.2 (by rw [cp3.1]; exact h_o)) (cwV 0 hts (gaV qA_799 qA_800 qA_801 qA_131 qA_802) rfl rfl rfl (by decide +kernel) ⟨Nat.le_of_ble_eq_true rfl, Nat.le_of_ble_eq_true rfl⟩) (oO_k g15).1 (cc_o11 (oO_k g15).2) rfl rfl hl.1 rfl (lv_room (Nat.le_of_ble_eq_true rfl)) dX11_aliases_19 (cs_avx hgl cp3 hg2 hT2) (fun ad2 H locs hga G => ?_)
  refine w_cast (c2 := T16.1 - T.1) (s2 := sg T16 - sg T) (cs_f1 hgl cp3 hg2) (cs_f2 hgl cp3 hg2) ?_
  have h_new : r17 < T16.1 := Nat.le_of_ble_eq_true g18
  have hl := lv_sub hl [0, 1, 2] rfl
  rw [show ad o = ad2 o from (hga o (by rw [cp3.1]; exact h_o)).symm] at hl
  exact b_X11_aliases_b22 E hA hX hN hml hst htab hlocks (fun ad H locs t had G hvm h1 h2 => ⟨(T1, ad), trivial, ⟨⟨rfl, rfl, had⟩, (c_thrown G hK hvm h1 h2).1⟩, (c_thrown G hK hvm h1 h2).2⟩) _ _ _ _ _ _ _ _ _ h (GL.tr (gl_cpr hgl cp3) hg2) hrc2 (fun n hn => (hga n (by rw [cp3.1]; exact Nat.lt_of_lt_of_le hn hgl.1)).trans (had n hn)) h_new (Nat.lt_of_lt_of_le (by rw [cp3.1]; exact h_o) hg2.1) G hl
end
section
/-! 11ko.cd14.lean.txt -/
def g_X11_blockPower_b58  (T : AT) (l0 : Nat) : Option (Nat × Int64 × AT) := oif (oO T l0 11 = true) <| obind (T.2.2.2.2 l0 12) fun n3 => oif (oO T n3 10 = true) <| obind2 (g_X10_value T n3 (0 : Int32)) fun r7 T5 => some (0, r7, T5)
def g_X11_blockPower (T : AT) (o : Nat) (a0 : Int32) (a1 : Int32) (a2 : Int32) : Option (Nat × Int64 × AT) := oif (oO T o 11 = true) <| othr (g_X11_needCamera T o) 0 fun r5 T3 => oif (oO T3 o 11 = true) <| othr (g_X11_needCell T3 o a0) 0 fun r10 T8 => oif (oO T8 o 11 = true) <| obind (T8.2.2.2.2 o 14) fun n13 => oif (oO T8 n13 6 = true) <| elet (T8.2.2.1 n13 2) fun v15 => elet (v15 - 1) fun v16 => othr (g_X11_needRange T8 a1 (0 : Int32) v16) 0 fun r19 T17 => oif (oO T17 o 11 = true) <| obind (T17.2.2.2.2 o 14) fun n22 => oif (oO T17 n22 6 = true) <| elet (T17.2.2.1 n22 2) fun v24 => othr (g_X11_needRange T17 a2 (1 : Int32) v24) 0 fun r27 T25 => oif (oO T25 o 11 = true) <| obind (T25.2.2.2.2 o 6) fun n30 => oif (oO T25 o 11 = true) <| obind (T25.2.2.2.2 o 14) fun n32 => oif (oO T25 n32 6 = true) <| obind (T25.2.2.2.2 n32 17) fun n34 => oif (aA T25 n34 106 = true) <| oif (inb a0 (T25.2.1 n34).2 = true) <| obind (T25.2.2.2.2 n34 a0.toNatClampNeg) fun n37 => oif (oO T25 o 11 = true) <| obind (T25.2.2.2.2 o 12) fun n39 => oif (oO T25 n30 8 = true) <| obind (g_X8_blockPowerOf T25 n30 n37 a1 a2 n39 (0 : Int32)) fun T41 => g_X11_blockPower_b58 T41 o
set_option maxHeartbeats 4000000 in
set_option maxRecDepth 100000 in
theorem s_X11_blockPower_b58 {e1 : Nat} {r1 : Int64} {T1 : AT} : ∀ (T : AT) (l0 : Nat), g_X11_blockPower_b58 T l0 = some (e1, r1, T1) → GL T T1 := by
  intro T l0 h
  have p0 := GL.rf T
  unfold g_X11_blockPower_b58 at h
  obtain ⟨g2, h⟩ := oif_some h
  obtain ⟨n3, en3, h⟩ := obind_some h
  obtain ⟨g4, h⟩ := oif_some h
  obtain ⟨r6, T5, eT5, h⟩ := obind2_some h
  have p1 : GL T T5 := GL.tr p0 (gl_sp (s_X10_value eT5))
  rw [← (osome3 h).2.2]
  exact p1
set_option maxHeartbeats 4000000 in
set_option maxRecDepth 100000 in
theorem s_X11_blockPower {T : AT} {o : Nat} {a0 : Int32} {a1 : Int32} {a2 : Int32} {e1 : Nat} {r1 : Int64} {T1 : AT} (h : g_X11_blockPower T o a0 a1 a2 = some (e1, r1, T1)) : GL T T1 := by
  have p0 := GL.rf T
  unfold g_X11_blockPower at h
  obtain ⟨g2, h⟩ := oif_some h
  rcases othr_s h with ⟨k9, r9, e9, -⟩ | ⟨r4, T3, eT3, h⟩
  · exact GL.tr p0 (gl_sp (s_X11_needCamera e9))
  have p1 : GL T T3 := GL.tr p0 (gl_sp (s_X11_needCamera eT3))
  obtain ⟨g5, h⟩ := oif_some h
  rcases othr_s h with ⟨k9, r9, e9, -⟩ | ⟨r7, T6, eT6, h⟩
  · exact GL.tr p1 (gl_sp (s_X11_needCell e9))
  have p2 : GL T T6 := GL.tr p1 (gl_sp (s_X11_needCell eT6))
  obtain ⟨g8, h⟩ := oif_some h
  obtain ⟨n9, en9, h⟩ := obind_some h
  obtain ⟨g10, h⟩ := oif_some h
  obtain ⟨v11, -, h⟩ := elet_some h
  obtain ⟨v12, -, h⟩ := elet_some h
  rcases othr_s h with ⟨k9, r9, e9, -⟩ | ⟨r14, T13, eT13, h⟩
  · exact GL.tr p2 (gl_sp (s_X11_needRange e9))
  have p3 : GL T T13 := GL.tr p2 (gl_sp (s_X11_needRange eT13))
  obtain ⟨g15, h⟩ := oif_some h
  obtain ⟨n16, en16, h⟩ := obind_some h
  obtain ⟨g17, h⟩ := oif_some h
  obtain ⟨v18, -, h⟩ := elet_some h
  rcases othr_s h with ⟨k9, r9, e9, -⟩ | ⟨r20, T19, eT19, h⟩
  · exact GL.tr p3 (gl_sp (s_X11_needRange e9))
  have p4 : GL T T19 := GL.tr p3 (gl_sp (s_X11_needRange eT19))
  obtain ⟨g21, h⟩ := oif_some h
  obtain ⟨n22, en22, h⟩ := obind_some h
  obtain ⟨g23, h⟩ := oif_some h
  obtain ⟨n24, en24, h⟩ := obind_some h
  obtain ⟨g25, h⟩ := oif_some h
  obtain ⟨n26, en26, h⟩ := obind_some h
  obtain ⟨g27, h⟩ := oif_some h
  obtain ⟨g28, h⟩ := oif_some h
  obtain ⟨n29, en29, h⟩ := obind_some h
  obtain ⟨g30, h⟩ := oif_some h
  obtain ⟨n31, en31, h⟩ := obind_some h
  obtain ⟨g32, h⟩ := oif_some h
  obtain ⟨T33, eT33, h⟩ := obind_some h
  have p5 : GL T T33 := GL.tr p4 (s_X8_blockPowerOf eT33)
  exact GL.tr p5 (s_X11_blockPower_b58 _ _ h)
set_option maxHeartbeats 4000000 in
set_option maxRecDepth 100000 in
theorem a_X11_blockPower_b58 {p : Program} {l : Launch} {e : Env} {s : State} {m : MethodId} {args : Array Value} {below : List Frame} {meth : Method} {c : Code} {Q : State → Prop} {D : va_G} {A : Nat → Prop} {cI cJ cZ cMic cSrc cSt cAI cAJ : ClassId} {ad0 : Nat → Nat} {T0 : AT} {r1 : Int64} {T1 : AT} (E : cE p c cX11_blockPower s m args (Cond.code yX11_blockPower cX11_blockPower 4 (some .long) :: wsA) D RX11 (CT cI cJ cZ cMic cSrc cSt cAI cAJ)) (hA : ∀ q : Nat, s.heap.size ≤ q → A q) (hX : xT A s) (hN : nX s) (hml : c.maxLocals = 4) (hst : l.stackTraces = false) (kr66 : ∀ (ad : Nat → Nat) (H : Heap) (locs : List Loc) (ls : Array Slot), (∀ n, n < T0.1 → ad n = ad0 n) → gC cI cJ cZ cMic cSrc cSt cAI cAJ D ad A s.heap H locs T1 → W p l e { frames := 8, cells := T1.1 - T0.1, slots := sg T1 - sg T0, locals := 123 } s m args below meth c H locs (T1.1 - T0.1) (sg T1 - sg T0) Q (F0 m 66 ls [.long r1])) : ∀ (T : AT) (ad : Nat → Nat) (H : Heap) (locs : List Loc) (ls : Array Slot) (l0 : Nat), g_X11_blockPower_b58 T l0 = some (0, r1, T1) → GL T0 T → RC T → (∀ n, n < T0.1 → ad n = ad0 n) → l0 < T.1 → gC cI cJ cZ cMic cSrc cSt cAI cAJ D ad A s.heap H locs T → lv_has ls 4 [(0, .ref (ad l0))] → W p l e { frames := 8, cells := T1.1 - T0.1, slots := sg T1 - sg T0, locals := 123 } s m args below meth c H locs (T.1 - T0.1) (sg T - sg T0) Q (F0 m 58 ls []) := by
  have hx := E.1
  have hb := E.2.1
  have hts := E.2.2.1
  have hown := E.2.2.2.1
  have hK := E.2.2.2.2
  intro T ad H locs ls l0 h hgl hrc had h_l0 G hl
  have hT1 := s_X11_blockPower_b58 _ _ h
  have hcs := cs_ok hgl hT1
  have cp0 := cpr0 hrc
  unfold g_X11_blockPower_b58 at h
  refine lv_aload_n hx hb dX11_blockPower_58 rfl (lv_at hl 0 rfl) ?_
  obtain ⟨g2, h⟩ := oif_some h
  obtain ⟨n3, en3, h⟩ := obind_some h
  have h_n3 : n3 < T.1 := by rw [← cp0.1]; exact cp0.2.2 _ _ _ en3
  refine c_get E G l0 12 (v := .ref (ad n3)) (oO_k g2).1 (cc_o11 (oO_k g2).2) rfl (fun w h => .tail _ (iA_23 h)) (by decide) (.tail _ qA_671) rfl (by rw [en3]; rfl) dX11_blockPower_59 ?_
  clear en3
  refine lv_iconst (v := 0) hx hb dX11_blockPower_62 (by decide) ?_
  obtain ⟨g4, h⟩ := oif_some h
  obtain ⟨r7, T5, eT5, h⟩ := obind2_some h
  refine q_cvl (As := [.int 0]) (rest := []) E G hA hX hN hml (u_X10_value l hst D cI cJ cZ cMic cSrc cSt cAI cAJ ad T n3 (0 : Int32) eT5) (cwV 1 hts (gaV qA_791 qA_792 qA_793 qA_6 qA_633) rfl rfl rfl (by decide +kernel) ⟨Nat.le_of_ble_eq_true rfl, Nat.le_of_ble_eq_true rfl⟩) (oO_k g4).1 (cc_o10 (oO_k g4).2) rfl rfl hl.1 rfl (lv_room (Nat.le_of_ble_eq_true rfl)) dX11_blockPower_63 hcs (fun q8 T6 H locs hq G => ?_)
  obtain ⟨hq1, hq2⟩ := hq
  rw [hq2] at G
  refine lv_tol hq1 ?_
  clear hq1 hq2
  have cp1 := cpr_sp cp0 (s_X10_value eT5)
  rw [(osome3 h).2.2] at G
  refine w_cast (c2 := T1.1 - T0.1) (s2 := sg T1 - sg T0) (by rw [← (osome3 h).2.2, cp1.1] <;> rfl) (by rw [← (osome3 h).2.2, sg_cpr cp1] <;> rfl) ?_
  refine lv_tol ((osome3 h).2.1) ?_
  exact kr66 ad _ _ _ had G
set_option maxHeartbeats 4000000 in
set_option maxRecDepth 100000 in
theorem a_X11_blockPower (l : Launch) (hst : l.stackTraces = false) (D : va_G) (cI cJ cZ cMic cSrc cSt cAI cAJ : ClassId) (ad : Nat → Nat) (T : AT) (o : Nat) (a0 : Int32) (a1 : Int32) (a2 : Int32) {r1 : Int64} {T1 : AT} (h : g_X11_blockPower T o a0 a1 a2 = some (0, r1, T1)) (hrc : RC T) (h_o : o < T.1) : kAl l yX11_blockPower (Cond.code yX11_blockPower cX11_blockPower 4 (some .long) :: wsA) 8 123 cI cJ cZ cMic cSrc cSt cAI cAJ D ad T [.ref (ad o), .int a0, .int a1, .int a2] r1 T1 := by
  intro sz
  refine Met.ofW (cc := cX11_blockPower) (maxL := 4) (ret := (some .long)) (by decide) rfl ?_
  intro p e s m args below meth c s₁ B hml hv
  obtain ⟨rfl, hsz, hP, hK, hD0, hX, hN⟩ := hv
  have hx := B.exec
  have hb := B.bytes
  have hr := B.returns
  have hts := atoms_spec (ws := (Cond.code yX11_blockPower cX11_blockPower 4 (some .long) :: wsA)) B.pre
  have hown : s.vm.findClass RX11 = some m.cls := findClass_of_methodNamed B.named
  have hlocks := B.notSynchronized
  subst hsz
  have hD := hD0.self (sz := s.heap.size)
  generalize hAe : va_A (cW ad T.1 (cc cI cJ cZ cMic cSrc cSt cAI cAJ ad T)) s.heap.size = A at hD hX ⊢
  have hA : ∀ q : Nat, s.heap.size ≤ q → A q := fun q h => by rw [← hAe]; exact Or.inr h
  have G : gC cI cJ cZ cMic cSrc cSt cAI cAJ D ad A s.heap s.heap [] T := ⟨hP, hD, va_S.rf⟩
  have E : cE p c cX11_blockPower s m ([.ref (ad o), .int a0, .int a1, .int a2] : List Value).toArray (Cond.code yX11_blockPower cX11_blockPower 4 (some .long) :: wsA) D RX11 (CT cI cJ cZ cMic cSrc cSt cAI cAJ) := ⟨hx, hb, hts, hown, hK⟩
  have hl := lv_entry ([.ref (ad o), .int a0, .int a1, .int a2]) (n := 4) (Nat.le_of_ble_eq_true rfl)
  rw [lg_entry_eq]
  generalize (lg_sl ([.ref (ad o), .int a0, .int a1, .int a2]) ++ List.replicate (4 - (lg_sl ([.ref (ad o), .int a0, .int a1, .int a2])).length) Slot.unset).toArray = ls at hl ⊢
  have hl : lv_has ls 4 [(0, .ref (ad o)), (1, .int a0), (2, .int a1), (3, .int a2)] := hl
  have hgl := GL.rf T
  have had : ∀ n, n < T.1 → ad n = ad n := fun _ _ => rfl
  have hT1 := s_X11_blockPower h
  have hcs := cs_ok hgl hT1
  refine w_cast (Nat.sub_self T.1).symm (Nat.sub_self (sg T)).symm ?_
  have cp0 := cpr0 hrc
  unfold g_X11_blockPower at h
  refine lv_aload_n hx hb dX11_blockPower_0 rfl (lv_at hl 0 rfl) ?_
  obtain ⟨g2, h⟩ := oif_some h
  obtain ⟨r5, T3, eT3, h⟩ := othr_n h
  refine q_cvv (As := []) (rest := []) E G hA hX hN hml (u_X11_needCamera l hst D cI cJ cZ cMic cSrc cSt cAI cAJ ad T o eT3) (cwV 0 hts (gaV qA_728 qA_729 qA_730 qA_131 qA_731) rfl rfl rfl (by decide +kernel) ⟨Nat.le_of_ble_eq_true rfl, Nat.le_of_ble_eq_true rfl⟩) (oO_k g2).1 (cc_o11 (oO_k g2).2) rfl rfl hl.1 rfl (lv_room (Nat.le_of_ble_eq_true rfl)) dX11_blockPower_1 hcs (fun T4 H locs hq G => ?_)
  rw [hq] at G
  clear hq
  have cp1 := cpr_sp cp0 (s_X11_needCamera eT3)
  refine lv_aload_n hx hb dX11_blockPower_4 rfl (lv_at hl 0 rfl) ?_
  refine lv_iload_n hx hb dX11_blockPower_5 rfl (lv_at hl 1 rfl) ?_
  obtain ⟨g7, h⟩ := oif_some h
  obtain ⟨r10, T8, eT8, h⟩ := othr_n h
  refine q_cvv (As := [.int a0]) (rest := []) E G hA hX hN hml (u_X11_needCell l hst D cI cJ cZ cMic cSrc cSt cAI cAJ ad T3 o a0 eT8) (cwV 1 hts (gaV qA_752 qA_753 qA_754 qA_131 qA_755) rfl rfl rfl (by decide +kernel) ⟨Nat.le_of_ble_eq_true rfl, Nat.le_of_ble_eq_true rfl⟩) (oO_k g7).1 (cc_o11 (oO_k g7).2) rfl rfl hl.1 rfl (lv_room (Nat.le_of_ble_eq_true rfl)) dX11_blockPower_6 hcs (fun T9 H locs hq G => ?_)
  rw [hq] at G
  clear hq
  have cp2 := cpr_sp cp1 (s_X11_needCell eT8)
  refine lv_iload_n hx hb dX11_blockPower_9 rfl (lv_at hl 2 rfl) ?_
  refine lv_iconst (v := 0) hx hb dX11_blockPower_10 (by decide) ?_
  refine lv_aload_n hx hb dX11_blockPower_11 rfl (lv_at hl 0 rfl) ?_
  obtain ⟨g12, h⟩ := oif_some h
  obtain ⟨n13, en13, h⟩ := obind_some h
  have h_n13 : n13 < T.1 := by rw [← cp2.1]; exact cp2.2.2 _ _ _ en13
  refine c_get E G o 14 (v := .ref (ad n13)) (oO_k g12).1 (cc_o11 (oO_k g12).2) rfl (fun w h => .tail _ (iA_23 h)) (by decide) (.tail _ qA_675) rfl (by rw [en13]; rfl) dX11_blockPower_12 ?_
  clear en13
  obtain ⟨g14, h⟩ := oif_some h
  refine c_get E G n13 2 (oO_k g14).1 (cc_o6 (oO_k g14).2) rfl (fun w h => .tail _ (iA_14 h)) (by decide) (.tail _ qA_761) rfl rfl dX11_blockPower_15 ?_
  refine lv_topi (fun v15 ev15 => ?_)
  have h := elet_at ev15 h
  clear ev15
  refine lv_iconst (v := 1) hx hb dX11_blockPower_18 (by decide) ?_
  refine lv_isub hx hb dX11_blockPower_19 ?_
  refine lv_topi (fun v16 ev16 => ?_)
  have h := elet_at ev16 h
  clear ev16
  obtain ⟨r19, T17, eT17, h⟩ := othr_n h
  refine q_csv (As := [.int a1, .int 0, .int v16]) (rest := []) E G hA hX hN hml (u_X11_needRange l hst D cI cJ cZ cMic cSrc cSt cAI cAJ ad T8 a1 (0 : Int32) v16 eT17) (cwS 3 hts (gaS qA_741 qA_742 qA_131 qA_743) rfl rfl rfl (by decide +kernel) ⟨Nat.le_of_ble_eq_true rfl, Nat.le_of_ble_eq_true rfl⟩) rfl hl.1 rfl (lv_room (Nat.le_of_ble_eq_true rfl)) dX11_blockPower_20 hcs (fun T18 H locs hq G => ?_)
  rw [hq] at G
  clear hq
  have cp3 := cpr_sp cp2 (s_X11_needRange eT17)
  refine lv_iload_n hx hb dX11_blockPower_23 rfl (lv_at hl 3 rfl) ?_
  refine lv_iconst (v := 1) hx hb dX11_blockPower_24 (by decide) ?_
  refine lv_aload_n hx hb dX11_blockPower_25 rfl (lv_at hl 0 rfl) ?_
  obtain ⟨g21, h⟩ := oif_some h
  obtain ⟨n22, en22, h⟩ := obind_some h
  have h_n22 : n22 < T.1 := by rw [← cp3.1]; exact cp3.2.2 _ _ _ en22
  refine c_get E G o 14 (v := .ref (ad n22)) (oO_k g21).1 (cc_o11 (oO_k g21).2) rfl (fun w h => .tail _ (iA_23 h)) (by decide) (.tail _ qA_675) rfl (by rw [en22]; rfl) dX11_blockPower_26 ?_
  clear en22
  obtain ⟨g23, h⟩ := oif_some h
  refine c_get E G n22 2 (oO_k g23).1 (cc_o6 (oO_k g23).2) rfl (fun w h => .tail _ (iA_14 h)) (by decide) (.tail _ qA_761) rfl rfl dX11_blockPower_29 ?_
  refine lv_topi (fun v24 ev24 => ?_)
  have h := elet_at ev24 h
  clear ev24
  obtain ⟨r27, T25, eT25, h⟩ := othr_n h
  refine q_csv (As := [.int a2, .int 1, .int v24]) (rest := []) E G hA hX hN hml (u_X11_needRange l hst D cI cJ cZ cMic cSrc cSt cAI cAJ ad T17 a2 (1 : Int32) v24 eT25) (cwS 3 hts (gaS qA_741 qA_742 qA_131 qA_743) rfl rfl rfl (by decide +kernel) ⟨Nat.le_of_ble_eq_true rfl, Nat.le_of_ble_eq_true rfl⟩) rfl hl.1 rfl (lv_room (Nat.le_of_ble_eq_true rfl)) dX11_blockPower_32 hcs (fun T26 H locs hq G => ?_)
  rw [hq] at G
  clear hq
  have cp4 := cpr_sp cp3 (s_X11_needRange eT25)
  refine lv_aload_n hx hb dX11_blockPower_35 rfl (lv_at hl 0 rfl) ?_
  obtain ⟨g29, h⟩ := oif_some h
  obtain ⟨n30, en30, h⟩ := obind_some h
  have h_n30 : n30 < T.1 := by rw [← cp4.1]; exact cp4.2.2 _ _ _ en30
  refine c_get E G o 6 (v := .ref (ad n30)) (oO_k g29).1 (cc_o11 (oO_k g29).2) rfl (fun w h => .tail _ (iA_23 h)) (by decide) (.tail _ qA_664) rfl (by rw [en30]; rfl) dX11_blockPower_36 ?_
  clear en30
  refine lv_aload_n hx hb dX11_blockPower_39 rfl (lv_at hl 0 rfl) ?_
  obtain ⟨g31, h⟩ := oif_some h
  obtain ⟨n32, en32, h⟩ := obind_some h
  have h_n32 : n32 < T.1 := by rw [← cp4.1]; exact cp4.2.2 _ _ _ en32
  refine c_get E G o 14 (v := .ref (ad n32)) (oO_k g31).1 (cc_o11 (oO_k g31).2) rfl (fun w h => .tail _ (iA_23 h)) (by decide) (.tail _ qA_675) rfl (by rw [en32]; rfl) dX11_blockPower_40 ?_
  clear en32
  obtain ⟨g33, h⟩ := oif_some h
  obtain ⟨n34, en34, h⟩ := obind_some h
  have h_n34 : n34 < T.1 := by rw [← cp4.1]; exact cp4.2.2 _ _ _ en34
  refine c_get E G n32 17 (v := .ref (ad n34)) (oO_k g33).1 (cc_o6 (oO_k g33).2) rfl (fun w h => .tail _ (iA_14 h)) (by decide) (.tail _ qA_778) rfl (by rw [en34]; rfl) dX11_blockPower_43 ?_
  clear en34
  refine lv_iload_n hx hb dX11_blockPower_46 rfl (lv_at hl 1 rfl) ?_
  obtain ⟨g35, h⟩ := oif_some h
  obtain ⟨g36, h⟩ := oif_some h
  obtain ⟨n37, en37, h⟩ := obind_some h
  have h_n37 : n37 < T.1 := by rw [← cp4.1]; exact cp4.2.2 _ _ _ en37
  refine c_alda E G n34 6 (k := a0.toNatClampNeg) (v := .ref (ad n37)) (aA_k g35).1 (cc_a106 (aA_k g35).2.1) rfl (inb_k g36).1 (inb_k g36).2 (aA_k g35).2.2 (by show va_rf ((T25.2.2.2.2 n34 a0.toNatClampNeg).map ad) = _; rw [en37]; rfl) dX11_blockPower_47 ?_
  clear en37
  refine lv_iload_n hx hb dX11_blockPower_48 rfl (lv_at hl 2 rfl) ?_
  refine lv_iload_n hx hb dX11_blockPower_49 rfl (lv_at hl 3 rfl) ?_
  refine lv_aload_n hx hb dX11_blockPower_50 rfl (lv_at hl 0 rfl) ?_
  obtain ⟨g38, h⟩ := oif_some h
  obtain ⟨n39, en39, h⟩ := obind_some h
  have h_n39 : n39 < T.1 := by rw [← cp4.1]; exact cp4.2.2 _ _ _ en39
  refine c_get E G o 12 (v := .ref (ad n39)) (oO_k g38).1 (cc_o11 (oO_k g38).2) rfl (fun w h => .tail _ (iA_23 h)) (by decide) (.tail _ qA_671) rfl (by rw [en39]; rfl) dX11_blockPower_51 ?_
  clear en39
  refine lv_iconst (v := 0) hx hb dX11_blockPower_54 (by decide) ?_
  obtain ⟨g40, h⟩ := oif_some h
  obtain ⟨T41, eT41, h⟩ := obind_some h
  have hg2 := s_X8_blockPowerOf eT41
  have hrc2 := hg2.2.2 cp4.2.2
  have hT2 := s_X11_blockPower_b58 _ _ h
  refine q_avv (As := [.ref (ad n37), .int a1, .int a2, .ref (ad n39), .int 0]) (rest := []) E G hA hX hN hml (a_X8_blockPowerOf l hst D cI cJ cZ cMic cSrc cSt cAI cAJ ad T25 n30 n37 a1 a2 n39 (0 : Int32) eT41 cp4.2.2 (by rw [cp4.1]; exact h_n30) (by rw [cp4.1]; exact h_n37) (by rw [cp4.1]; exact h_n39)) (cwV 5 hts (gaV qA_857 qA_45 qA_46 qA_47 qA_48) rfl rfl rfl (by decide +kernel) ⟨Nat.le_of_ble_eq_true rfl, Nat.le_of_ble_eq_true rfl⟩) (oO_k g40).1 (cc_o8 (oO_k g40).2) rfl rfl hl.1 rfl (lv_room (Nat.le_of_ble_eq_true rfl)) dX11_blockPower_55 (cs_av hgl cp4 hg2 hT2) (fun ad2 H locs hga G => ?_)
  refine w_cast (c2 := T41.1 - T.1) (s2 := sg T41 - sg T) (cs_f1 hgl cp4 hg2) (cs_f2 hgl cp4 hg2) ?_
  have hl := lv_sub hl [0] rfl
  rw [show ad o = ad2 o from (hga o (by rw [cp4.1]; exact h_o)).symm] at hl
  exact a_X11_blockPower_b58 E hA hX hN hml hst (fun ad H locs ls had G => W.lret (v := r1) hx hb hr (fun t ht hW => ⟨⟨r1, (T1, ad), rfl, ⟨rfl, rfl, had⟩, ⟨by rw [ht]; exact G.1, va_K.moved hW.alike hK, G.2.1⟩⟩, G.2.2.F ht⟩) G.2.2.2.2 dX11_blockPower_66) _ _ _ _ _ _ h (GL.tr (gl_cpr hgl cp4) hg2) hrc2 (fun n hn => (hga n (by rw [cp4.1]; exact Nat.lt_of_lt_of_le hn hgl.1)).trans (had n hn)) (Nat.lt_of_lt_of_le (by rw [cp4.1]; exact h_o) hg2.1) G hl
set_option maxHeartbeats 4000000 in
set_option maxRecDepth 100000 in
theorem b_X11_blockPower_b58 {p : Program} {l : Launch} {e : Env} {s : State} {m : MethodId} {args : Array Value} {below : List Frame} {meth : Method} {c : Code} {Qc : Array Value → State → Outcome → State → Prop} {XC : String → State → State → Prop} {D : va_G} {A : Nat → Prop} {cI cJ cZ cMic cSrc cSt cAI cAJ : ClassId} {ad0 : Nat → Nat} {T0 : AT} {e1 : Nat} {r1 : Int64} {T1 : AT} (E : cE p c cX11_blockPower s m args (Cond.code yX11_blockPower cX11_blockPower 4 (some .long) :: wsA) D RX11 (CT cI cJ cZ cMic cSrc cSt cAI cAJ)) (hA : ∀ q : Nat, s.heap.size ≤ q → A q) (hX : xT A s) (hN : nX s) (hml : c.maxLocals = 4) (hst : l.stackTraces = false) (htab : ∀ x ∈ c.exceptionTable.toList, False) (hlocks : meth.locks = false) (kx : ∀ (ad : Nat → Nat) (H : Heap) (locs : List Loc) (t : State), (∀ n, n < T0.1 → ad n = ad0 n) → gC cI cJ cZ cMic cSrc cSt cAI cAJ D ad A s.heap H locs T1 → s.vm.Alike t.vm → H.size ≤ t.heap.size → (∀ q, q < H.size → t.heap[q]? = H[q]?) → XC (exn e1) s t) : ∀ (T : AT) (ad : Nat → Nat) (H : Heap) (locs : List Loc) (ls : Array Slot) (l0 : Nat), g_X11_blockPower_b58 T l0 = some (e1 + 1, r1, T1) → GL T0 T → RC T → (∀ n, n < T0.1 → ad n = ad0 n) → l0 < T.1 → gC cI cJ cZ cMic cSrc cSt cAI cAJ D ad A s.heap H locs T → lv_has ls 4 [(0, .ref (ad l0))] → W p l e { frames := 8, cells := T1.1 - T0.1 + 1, slots := sg T1 - sg T0 + 6, locals := 123 } s m args below meth c H locs (T.1 - T0.1) (sg T - sg T0) (vx_MQ below Qc XC args s (T1.1 - T0.1 + 1) (sg T1 - sg T0 + 6) A) (F0 m 58 ls []) := by
  have hx := E.1
  have hb := E.2.1
  have hts := E.2.2.1
  have hown := E.2.2.2.1
  have hK := E.2.2.2.2
  intro T ad H locs ls l0 h hgl hrc had h_l0 G hl
  have hT1 := s_X11_blockPower_b58 _ _ h
  have hcs := cs_okx hgl hT1
  have hcx := cs_okx1 hgl hT1
  have cp0 := cpr0 hrc
  unfold g_X11_blockPower_b58 at h
  refine lv_aload_n hx hb dX11_blockPower_58 rfl (lv_at hl 0 rfl) ?_
  obtain ⟨g2, h⟩ := oif_some h
  obtain ⟨n3, en3, h⟩ := obind_some h
  have h_n3 : n3 < T.1 := by rw [← cp0.1]; exact cp0.2.2 _ _ _ en3
  refine c_get E G l0 12 (v := .ref (ad n3)) (oO_k g2).1 (cc_o11 (oO_k g2).2) rfl (fun w h => .tail _ (iA_23 h)) (by decide) (.tail _ qA_671) rfl (by rw [en3]; rfl) dX11_blockPower_59 ?_
  clear en3
  refine lv_iconst (v := 0) hx hb dX11_blockPower_62 (by decide) ?_
  obtain ⟨g4, h⟩ := oif_some h
  obtain ⟨r7, T5, eT5, h⟩ := obind2_some h
  refine q_cvl (As := [.int 0]) (rest := []) E G hA hX hN hml (u_X10_value l hst D cI cJ cZ cMic cSrc cSt cAI cAJ ad T n3 (0 : Int32) eT5) (cwV 1 hts (gaV qA_791 qA_792 qA_793 qA_6 qA_633) rfl rfl rfl (by decide +kernel) ⟨Nat.le_of_ble_eq_true rfl, Nat.le_of_ble_eq_true rfl⟩) (oO_k g4).1 (cc_o10 (oO_k g4).2) rfl rfl hl.1 rfl (lv_room (Nat.le_of_ble_eq_true rfl)) dX11_blockPower_63 hcs (fun q8 T6 H locs hq G => ?_)
  obtain ⟨hq1, hq2⟩ := hq
  rw [hq2] at G
  refine lv_tol hq1 ?_
  clear hq1 hq2
  have cp1 := cpr_sp cp0 (s_X10_value eT5)
  exact (Nat.succ_ne_zero _ (congrArg Prod.fst (Option.some.inj h)).symm).elim
set_option maxHeartbeats 4000000 in
set_option maxRecDepth 100000 in
theorem b_X11_blockPower (l : Launch) (hst : l.stackTraces = false) (D : va_G) (cI cJ cZ cMic cSrc cSt cAI cAJ : ClassId) (ad : Nat → Nat) (T : AT) (o : Nat) (a0 : Int32) (a1 : Int32) (a2 : Int32) {e1 : Nat} {r1 : Int64} {T1 : AT} (h : g_X11_blockPower T o a0 a1 a2 = some (e1 + 1, r1, T1)) (hrc : RC T) (h_o : o < T.1) : kAXl l yX11_blockPower (Cond.code yX11_blockPower cX11_blockPower 4 (some .long) :: wsA) 8 123 cI cJ cZ cMic cSrc cSt cAI cAJ D ad T [.ref (ad o), .int a0, .int a1, .int a2] e1 T1 := by
  intro sz
  refine vx_ofW (cc := cX11_blockPower) (maxL := 4) (ret := (some .long)) (by decide) rfl ?_
  intro p e s m args below meth c s₁ B hml htab hv
  obtain ⟨rfl, hsz, hP, hK, hD0, hX, hN⟩ := hv
  have hx := B.exec
  have hb := B.bytes
  have hr := B.returns
  have hts := atoms_spec (ws := (Cond.code yX11_blockPower cX11_blockPower 4 (some .long) :: wsA)) B.pre
  have hown : s.vm.findClass RX11 = some m.cls := findClass_of_methodNamed B.named
  have hlocks := B.notSynchronized
  subst hsz
  have hD := hD0.self (sz := s.heap.size)
  generalize hAe : va_A (cW ad T.1 (cc cI cJ cZ cMic cSrc cSt cAI cAJ ad T)) s.heap.size = A at hD hX ⊢
  have hA : ∀ q : Nat, s.heap.size ≤ q → A q := fun q h => by rw [← hAe]; exact Or.inr h
  have G : gC cI cJ cZ cMic cSrc cSt cAI cAJ D ad A s.heap s.heap [] T := ⟨hP, hD, va_S.rf⟩
  have E : cE p c cX11_blockPower s m ([.ref (ad o), .int a0, .int a1, .int a2] : List Value).toArray (Cond.code yX11_blockPower cX11_blockPower 4 (some .long) :: wsA) D RX11 (CT cI cJ cZ cMic cSrc cSt cAI cAJ) := ⟨hx, hb, hts, hown, hK⟩
  have htab : ∀ x ∈ c.exceptionTable.toList, False := fun x hx => htab x hx
  have hl := lv_entry ([.ref (ad o), .int a0, .int a1, .int a2]) (n := 4) (Nat.le_of_ble_eq_true rfl)
  rw [lg_entry_eq]
  generalize (lg_sl ([.ref (ad o), .int a0, .int a1, .int a2]) ++ List.replicate (4 - (lg_sl ([.ref (ad o), .int a0, .int a1, .int a2])).length) Slot.unset).toArray = ls at hl ⊢
  have hl : lv_has ls 4 [(0, .ref (ad o)), (1, .int a0), (2, .int a1), (3, .int a2)] := hl
  have hgl := GL.rf T
  have had : ∀ n, n < T.1 → ad n = ad n := fun _ _ => rfl
  have hT1 := s_X11_blockPower h
  have hcs := cs_okx hgl hT1
  have hcx := cs_okx1 hgl hT1
  refine w_cast (Nat.sub_self T.1).symm (Nat.sub_self (sg T)).symm ?_
  have cp0 := cpr0 hrc
  unfold g_X11_blockPower at h
  refine lv_aload_n hx hb dX11_blockPower_0 rfl (lv_at hl 0 rfl) ?_
  obtain ⟨g2, h⟩ := oif_some h
  rcases othr_t h with ⟨r0, eT3⟩ | ⟨r5, T3, eT3, h⟩
  · refine q_xvv (As := []) (rest := []) E G hA hX hN hml (x_X11_needCamera l hst D cI cJ cZ cMic cSrc cSt cAI cAJ ad T o eT3) (cwV 0 hts (gaV qA_728 qA_729 qA_730 qA_131 qA_731) rfl rfl rfl (by decide +kernel) ⟨Nat.le_of_ble_eq_true rfl, Nat.le_of_ble_eq_true rfl⟩) (oO_k g2).1 (cc_o11 (oO_k g2).2) rfl rfl hl.1 rfl (lv_room (Nat.le_of_ble_eq_true rfl)) dX11_blockPower_1 hcx (fun E9 ce q9 T9 H locs hp G hce hcv hcl => ?_)
    obtain ⟨hE, hT⟩ := hp
    subst hE
    rw [hT] at G
    exact vx_out (fun x hx => (htab x hx).elim) hlocks hce hcv hcl (fun t ht hvm => ⟨(T1, ad), trivial, ⟨⟨rfl, rfl, had⟩, by rw [ht]; exact G.1, va_K.moved hvm hK, G.2.1⟩, G.2.2.F ht⟩) G.2.2.2.2 hcx.1 hcx.2
  refine q_cvv (As := []) (rest := []) E G hA hX hN hml (u_X11_needCamera l hst D cI cJ cZ cMic cSrc cSt cAI cAJ ad T o eT3) (cwV 0 hts (gaV qA_728 qA_729 qA_730 qA_131 qA_731) rfl rfl rfl (by decide +kernel) ⟨Nat.le_of_ble_eq_true rfl, Nat.le_of_ble_eq_true rfl⟩) (oO_k g2).1 (cc_o11 (oO_k g2).2) rfl rfl hl.1 rfl (lv_room (Nat.le_of_ble_eq_true rfl)) dX11_blockPower_1 hcs (fun T4 H locs hq G => ?_)
  rw [hq] at G
  clear hq
  have cp1 := cpr_sp cp0 (s_X11_needCamera eT3)
  refine lv_aload_n hx hb dX11_blockPower_4 rfl (lv_at hl 0 rfl) ?_
  refine lv_iload_n hx hb dX11_blockPower_5 rfl (lv_at hl 1 rfl) ?_
  obtain ⟨g7, h⟩ := oif_some h
  rcases othr_t h with ⟨r0, eT8⟩ | ⟨r10, T8, eT8, h⟩
  · refine q_xvv (As := [.int a0]) (rest := []) E G hA hX hN hml (x_X11_needCell l hst D cI cJ cZ cMic cSrc cSt cAI cAJ ad T3 o a0 eT8) (cwV 1 hts (gaV qA_752 qA_753 qA_754 qA_131 qA_755) rfl rfl rfl (by decide +kernel) ⟨Nat.le_of_ble_eq_true rfl, Nat.le_of_ble_eq_true rfl⟩) (oO_k g7).1 (cc_o11 (oO_k g7).2) rfl rfl hl.1 rfl (lv_room (Nat.le_of_ble_eq_true rfl)) dX11_blockPower_6 hcx (fun E9 ce q9 T9 H locs hp G hce hcv hcl => ?_)
    obtain ⟨hE, hT⟩ := hp
    subst hE
    rw [hT] at G
    exact vx_out (fun x hx => (htab x hx).elim) hlocks hce hcv hcl (fun t ht hvm => ⟨(T1, ad), trivial, ⟨⟨rfl, rfl, had⟩, by rw [ht]; exact G.1, va_K.moved hvm hK, G.2.1⟩, G.2.2.F ht⟩) G.2.2.2.2 hcx.1 hcx.2
  refine q_cvv (As := [.int a0]) (rest := []) E G hA hX hN hml (u_X11_needCell l hst D cI cJ cZ cMic cSrc cSt cAI cAJ ad T3 o a0 eT8) (cwV 1 hts (gaV qA_752 qA_753 qA_754 qA_131 qA_755) rfl rfl rfl (by decide +kernel) ⟨Nat.le_of_ble_eq_true rfl, Nat.le_of_ble_eq_true rfl⟩) (oO_k g7).1 (cc_o11 (oO_k g7).2) rfl rfl hl.1 rfl (lv_room (Nat.le_of_ble_eq_true rfl)) dX11_blockPower_6 hcs (fun T9 H locs hq G => ?_)
  rw [hq] at G
  clear hq
  have cp2 := cpr_sp cp1 (s_X11_needCell eT8)
  refine lv_iload_n hx hb dX11_blockPower_9 rfl (lv_at hl 2 rfl) ?_
  refine lv_iconst (v := 0) hx hb dX11_blockPower_10 (by decide) ?_
  refine lv_aload_n hx hb dX11_blockPower_11 rfl (lv_at hl 0 rfl) ?_
  obtain ⟨g12, h⟩ := oif_some h
  obtain ⟨n13, en13, h⟩ := obind_some h
  have h_n13 : n13 < T.1 := by rw [← cp2.1]; exact cp2.2.2 _ _ _ en13
  refine c_get E G o 14 (v := .ref (ad n13)) (oO_k g12).1 (cc_o11 (oO_k g12).2) rfl (fun w h => .tail _ (iA_23 h)) (by decide) (.tail _ qA_675) rfl (by rw [en13]; rfl) dX11_blockPower_12 ?_
  clear en13
  obtain ⟨g14, h⟩ := oif_some h
  refine c_get E G n13 2 (oO_k g14).1 (cc_o6 (oO_k g14).2) rfl (fun w h => .tail _ (iA_14 h)) (by decide) (.tail _ qA_761) rfl rfl dX11_blockPower_15 ?_
  refine lv_topi (fun v15 ev15 => ?_)
  have h := elet_at ev15 h
  clear ev15
  refine lv_iconst (v := 1) hx hb dX11_blockPower_18 (by decide) ?_
  refine lv_isub hx hb dX11_blockPower_19 ?_
  refine lv_topi (fun v16 ev16 => ?_)
  have h := elet_at ev16 h
  clear ev16
  rcases othr_t h with ⟨r0, eT17⟩ | ⟨r19, T17, eT17, h⟩
  · refine q_xsv (As := [.int a1, .int 0, .int v16]) (rest := []) E G hA hX hN hml (x_X11_needRange l hst D cI cJ cZ cMic cSrc cSt cAI cAJ ad T8 a1 (0 : Int32) v16 eT17) (cwS 3 hts (gaS qA_741 qA_742 qA_131 qA_743) rfl rfl rfl (by decide +kernel) ⟨Nat.le_of_ble_eq_true rfl, Nat.le_of_ble_eq_true rfl⟩) rfl hl.1 rfl (lv_room (Nat.le_of_ble_eq_true rfl)) dX11_blockPower_20 hcx (fun E9 ce q9 T9 H locs hp G hce hcv hcl => ?_)
    obtain ⟨hE, hT⟩ := hp
    subst hE
    rw [hT] at G
    exact vx_out (fun x hx => (htab x hx).elim) hlocks hce hcv hcl (fun t ht hvm => ⟨(T1, ad), trivial, ⟨⟨rfl, rfl, had⟩, by rw [ht]; exact G.1, va_K.moved hvm hK, G.2.1⟩, G.2.2.F ht⟩) G.2.2.2.2 hcx.1 hcx.2
  refine q_csv (As := [.int a1, .int 0, .int v16]) (rest := []) E G hA hX hN hml (u_X11_needRange l hst D cI cJ cZ cMic cSrc cSt cAI cAJ ad T8 a1 (0 : Int32) v16 eT17) (cwS 3 hts (gaS qA_741 qA_742 qA_131 qA_743) rfl rfl rfl (by decide +kernel) ⟨Nat.le_of_ble_eq_true rfl, Nat.le_of_ble_eq_true rfl⟩) rfl hl.1 rfl (lv_room (Nat.le_of_ble_eq_true rfl)) dX11_blockPower_20 hcs (fun T18 H locs hq G => ?_)
  rw [hq] at G
  clear hq
  have cp3 := cpr_sp cp2 (s_X11_needRange eT17)
  refine lv_iload_n hx hb dX11_blockPower_23 rfl (lv_at hl 3 rfl) ?_
  refine lv_iconst (v := 1) hx hb dX11_blockPower_24 (by decide) ?_
  refine lv_aload_n hx hb dX11_blockPower_25 rfl (lv_at hl 0 rfl) ?_
  obtain ⟨g21, h⟩ := oif_some h
  obtain ⟨n22, en22, h⟩ := obind_some h
  have h_n22 : n22 < T.1 := by rw [← cp3.1]; exact cp3.2.2 _ _ _ en22
  refine c_get E G o 14 (v := .ref (ad n22)) (oO_k g21).1 (cc_o11 (oO_k g21).2) rfl (fun w h => .tail _ (iA_23 h)) (by decide) (.tail _ qA_675) rfl (by rw [en22]; rfl) dX11_blockPower_26 ?_
  clear en22
  obtain ⟨g23, h⟩ := oif_some h
  refine c_get E G n22 2 (oO_k g23).1 (cc_o6 (oO_k g23).2) rfl (fun w h => .tail _ (iA_14 h)) (by decide) (.tail _ qA_761) rfl rfl dX11_blockPower_29 ?_
  refine lv_topi (fun v24 ev24 => ?_)
  have h := elet_at ev24 h
  clear ev24
  rcases othr_t h with ⟨r0, eT25⟩ | ⟨r27, T25, eT25, h⟩
  · refine q_xsv (As := [.int a2, .int 1, .int v24]) (rest := []) E G hA hX hN hml (x_X11_needRange l hst D cI cJ cZ cMic cSrc cSt cAI cAJ ad T17 a2 (1 : Int32) v24 eT25) (cwS 3 hts (gaS qA_741 qA_742 qA_131 qA_743) rfl rfl rfl (by decide +kernel) ⟨Nat.le_of_ble_eq_true rfl, Nat.le_of_ble_eq_true rfl⟩) rfl hl.1 rfl (lv_room (Nat.le_of_ble_eq_true rfl)) dX11_blockPower_32 hcx (fun E9 ce q9 T9 H locs hp G hce hcv hcl => ?_)
    obtain ⟨hE, hT⟩ := hp
    subst hE
    rw [hT] at G
    exact vx_out (fun x hx => (htab x hx).elim) hlocks hce hcv hcl (fun t ht hvm => ⟨(T1, ad), trivial, ⟨⟨rfl, rfl, had⟩, by rw [ht]; exact G.1, va_K.moved hvm hK, G.2.1⟩, G.2.2.F ht⟩) G.2.2.2.2 hcx.1 hcx.2
  refine q_csv (As := [.int a2, .int 1, .int v24]) (rest := []) E G hA hX hN hml (u_X11_needRange l hst D cI cJ cZ cMic cSrc cSt cAI cAJ ad T17 a2 (1 : Int32) v24 eT25) (cwS 3 hts (gaS qA_741 qA_742 qA_131 qA_743) rfl rfl rfl (by decide +kernel) ⟨Nat.le_of_ble_eq_true rfl, Nat.le_of_ble_eq_true rfl⟩) rfl hl.1 rfl (lv_room (Nat.le_of_ble_eq_true rfl)) dX11_blockPower_32 hcs (fun T26 H locs hq G => ?_)
  rw [hq] at G
  clear hq
  have cp4 := cpr_sp cp3 (s_X11_needRange eT25)
  refine lv_aload_n hx hb dX11_blockPower_35 rfl (lv_at hl 0 rfl) ?_
  obtain ⟨g29, h⟩ := oif_some h
  obtain ⟨n30, en30, h⟩ := obind_some h
  have h_n30 : n30 < T.1 := by rw [← cp4.1]; exact cp4.2.2 _ _ _ en30
  refine c_get E G o 6 (v := .ref (ad n30)) (oO_k g29).1 (cc_o11 (oO_k g29).2) rfl (fun w h => .tail _ (iA_23 h)) (by decide) (.tail _ qA_664) rfl (by rw [en30]; rfl) dX11_blockPower_36 ?_
  clear en30
  refine lv_aload_n hx hb dX11_blockPower_39 rfl (lv_at hl 0 rfl) ?_
  obtain ⟨g31, h⟩ := oif_some h
  obtain ⟨n32, en32, h⟩ := obind_some h
  have h_n32 : n32 < T.1 := by rw [← cp4.1]; exact cp4.2.2 _ _ _ en32
  refine c_get E G o 14 (v := .ref (ad n32)) (oO_k g31).1 (cc_o11 (oO_k g31).2) rfl (fun w h => .tail _ (iA_23 h)) (by decide) (.tail _ qA_675) rfl (by rw [en32]; rfl) dX11_blockPower_40 ?_
  clear en32
  obtain ⟨g33, h⟩ := oif_some h
  obtain ⟨n34, en34, h⟩ := obind_some h
  have h_n34 : n34 < T.1 := by rw [← cp4.1]; exact cp4.2.2 _ _ _ en34
  refine c_get E G n32 17 (v := .ref (ad n34)) (oO_k g33).1 (cc_o6 (oO_k g33).2) rfl (fun w h => .tail _ (iA_14 h)) (by decide) (.tail _ qA_778) rfl (by rw [en34]; rfl) dX11_blockPower_43 ?_
  clear en34
  refine lv_iload_n hx hb dX11_blockPower_46 rfl (lv_at hl 1 rfl) ?_
  obtain ⟨g35, h⟩ := oif_some h
  obtain ⟨g36, h⟩ := oif_some h
  obtain ⟨n37, en37, h⟩ := obind_some h
  have h_n37 : n37 < T.1 := by rw [← cp4.1]; exact cp4.2.2 _ _ _ en37
  refine c_alda E G n34 6 (k := a0.toNatClampNeg) (v := .ref (ad n37)) (aA_k g35).1 (cc_a106 (aA_k g35).2.1) rfl (inb_k g36).1 (inb_k g36).2 (aA_k g35).2.2 (by show va_rf ((T25.2.2.2.2 n34 a0.toNatClampNeg).map ad) = _; rw [en37]; rfl) dX11_blockPower_47 ?_
  clear en37
  refine lv_iload_n hx hb dX11_blockPower_48 rfl (lv_at hl 2 rfl) ?_
  refine lv_iload_n hx hb dX11_blockPower_49 rfl (lv_at hl 3 rfl) ?_
  refine lv_aload_n hx hb dX11_blockPower_50 rfl (lv_at hl 0 rfl) ?_
  obtain ⟨g38, h⟩ := oif_some h
  obtain ⟨n39, en39, h⟩ := obind_some h
  have h_n39 : n39 < T.1 := by rw [← cp4.1]; exact cp4.2.2 _ _ _ en39
  refine c_get E G o 12 (v := .ref (ad n39)) (oO_k g38).1 (cc_o11 (oO_k g38).2) rfl (fun w h => .tail _ (iA_23 h)) (by decide) (.tail _ qA_671) rfl (by rw [en39]; rfl) dX11_blockPower_51 ?_
  clear en39
  refine lv_iconst (v := 0) hx hb dX11_blockPower_54 (by decide) ?_
  obtain ⟨g40, h⟩ := oif_some h
  obtain ⟨T41, eT41, h⟩ := obind_some h
  have hg2 := s_X8_blockPowerOf eT41
  have hrc2 := hg2.2.2 cp4.2.2
  have hT2 := s_X11_blockPower_b58 _ _ h
  refine q_avv (As := [.ref (ad n37), .int a1, .int a2, .ref (ad n39), .int 0]) (rest := []) E G hA hX hN hml (a_X8_blockPowerOf l hst D cI cJ cZ cMic cSrc cSt cAI cAJ ad T25 n30 n37 a1 a2 n39 (0 : Int32) eT41 cp4.2.2 (by rw [cp4.1]; exact h_n30) (by rw [cp4.1]; exact h_n37) (by rw [cp4.1]; exact h_n39)) (cwV 5 hts (gaV qA_857 qA_45 qA_46 qA_47 qA_48) rfl rfl rfl (by decide +kernel) ⟨Nat.le_of_ble_eq_true rfl, Nat.le_of_ble_eq_true rfl⟩) (oO_k g40).1 (cc_o8 (oO_k g40).2) rfl rfl hl.1 rfl (lv_room (Nat.le_of_ble_eq_true rfl)) dX11_blockPower_55 (cs_avx hgl cp4 hg2 hT2) (fun ad2 H locs hga G => ?_)
  refine w_cast (c2 := T41.1 - T.1) (s2 := sg T41 - sg T) (cs_f1 hgl cp4 hg2) (cs_f2 hgl cp4 hg2) ?_
  have hl := lv_sub hl [0] rfl
  rw [show ad o = ad2 o from (hga o (by rw [cp4.1]; exact h_o)).symm] at hl
  exact b_X11_blockPower_b58 E hA hX hN hml hst htab hlocks (fun ad H locs t had G hvm h1 h2 => ⟨(T1, ad), trivial, ⟨⟨rfl, rfl, had⟩, (c_thrown G hK hvm h1 h2).1⟩, (c_thrown G hK hvm h1 h2).2⟩) _ _ _ _ _ _ h (GL.tr (gl_cpr hgl cp4) hg2) hrc2 (fun n hn => (hga n (by rw [cp4.1]; exact Nat.lt_of_lt_of_le hn hgl.1)).trans (had n hn)) (Nat.lt_of_lt_of_le (by rw [cp4.1]; exact h_o) hg2.1) G hl
def g_X11_blockBest_b47  (T : AT) (s0 : Int32) : Option (Nat × Int32 × AT) := some (0, s0, T)
def g_X11_blockBest (T : AT) (o : Nat) (a0 : Int32) (a1 : Int32) : Option (Nat × Int32 × AT) := oif (oO T o 11 = true) <| othr (g_X11_needCamera T o) 0 fun r5 T3 => oif (oO T3 o 11 = true) <| obind (T3.2.2.2.2 o 14) fun n8 => oif (oO T3 n8 6 = true) <| elet (T3.2.2.1 n8 2) fun v10 => elet (v10 - 1) fun v11 => othr (g_X11_needRange T3 a0 (0 : Int32) v11) 0 fun r14 T12 => oif (oO T12 o 11 = true) <| obind (T12.2.2.2.2 o 14) fun n17 => oif (oO T12 n17 6 = true) <| elet (T12.2.2.1 n17 2) fun v19 => othr (g_X11_needRange T12 a1 (1 : Int32) v19) 0 fun r22 T20 => oif (oO T20 o 11 = true) <| obind (T20.2.2.2.2 o 3) fun n25 => oif (oO T20 o 11 = true) <| obind (T20.2.2.2.2 o 14) fun n27 => oif (oO T20 o 11 = true) <| obind (T20.2.2.2.2 o 6) fun n29 => oif (oO T20 n25 0 = true) <| obind2 (g_X0_bestOf T20 n25 n27 n29 a0 a1) fun r32 T31 => g_X11_blockBest_b47 T31 r32
set_option maxHeartbeats 4000000 in
set_option maxRecDepth 100000 in
theorem s_X11_blockBest_b47 {e1 : Nat} {r1 : Int32} {T1 : AT} : ∀ (T : AT) (s0 : Int32), g_X11_blockBest_b47 T s0 = some (e1, r1, T1) → GL T T1 := by
  intro T s0 h
  have p0 := GL.rf T
  unfold g_X11_blockBest_b47 at h
  rw [← (osome3 h).2.2]
  exact p0
set_option maxHeartbeats 4000000 in
set_option maxRecDepth 100000 in
theorem s_X11_blockBest {T : AT} {o : Nat} {a0 : Int32} {a1 : Int32} {e1 : Nat} {r1 : Int32} {T1 : AT} (h : g_X11_blockBest T o a0 a1 = some (e1, r1, T1)) : GL T T1 := by
  have p0 := GL.rf T
  unfold g_X11_blockBest at h
  obtain ⟨g2, h⟩ := oif_some h
  rcases othr_s h with ⟨k9, r9, e9, -⟩ | ⟨r4, T3, eT3, h⟩
  · exact GL.tr p0 (gl_sp (s_X11_needCamera e9))
  have p1 : GL T T3 := GL.tr p0 (gl_sp (s_X11_needCamera eT3))
  obtain ⟨g5, h⟩ := oif_some h
  obtain ⟨n6, en6, h⟩ := obind_some h
  obtain ⟨g7, h⟩ := oif_some h
  obtain ⟨v8, -, h⟩ := elet_some h
  obtain ⟨v9, -, h⟩ := elet_some h
  rcases othr_s h with ⟨k9, r9, e9, -⟩ | ⟨r11, T10, eT10, h⟩
  · exact GL.tr p1 (gl_sp (s_X11_needRange e9))
  have p2 : GL T T10 := GL.tr p1 (gl_sp (s_X11_needRange eT10))
  obtain ⟨g12, h⟩ := oif_some h
  obtain ⟨n13, en13, h⟩ := obind_some h
  obtain ⟨g14, h⟩ := oif_some h
  obtain ⟨v15, -, h⟩ := elet_some h
  rcases othr_s h with ⟨k9, r9, e9, -⟩ | ⟨r17, T16, eT16, h⟩
  · exact GL.tr p2 (gl_sp (s_X11_needRange e9))
  have p3 : GL T T16 := GL.tr p2 (gl_sp (s_X11_needRange eT16))
  obtain ⟨g18, h⟩ := oif_some h
  obtain ⟨n19, en19, h⟩ := obind_some h
  obtain ⟨g20, h⟩ := oif_some h
  obtain ⟨n21, en21, h⟩ := obind_some h
  obtain ⟨g22, h⟩ := oif_some h
  obtain ⟨n23, en23, h⟩ := obind_some h
  obtain ⟨g24, h⟩ := oif_some h
  obtain ⟨r26, T25, eT25, h⟩ := obind2_some h
  have p4 : GL T T25 := GL.tr p3 (s_X0_bestOf eT25)
  exact GL.tr p4 (s_X11_blockBest_b47 _ _ h)
set_option maxHeartbeats 4000000 in
set_option maxRecDepth 100000 in
theorem a_X11_blockBest_b47 {p : Program} {l : Launch} {e : Env} {s : State} {m : MethodId} {args : Array Value} {below : List Frame} {meth : Method} {c : Code} {Q : State → Prop} {D : va_G} {A : Nat → Prop} {cI cJ cZ cMic cSrc cSt cAI cAJ : ClassId} {ad0 : Nat → Nat} {T0 : AT} {r1 : Int32} {T1 : AT} (E : cE p c cX11_blockBest s m args (Cond.code yX11_blockBest cX11_blockBest 3 (some .int) :: wsA) D RX11 (CT cI cJ cZ cMic cSrc cSt cAI cAJ)) (hA : ∀ q : Nat, s.heap.size ≤ q → A q) (hX : xT A s) (hN : nX s) (hml : c.maxLocals = 3) (hst : l.stackTraces = false) (kr47 : ∀ (ad : Nat → Nat) (H : Heap) (locs : List Loc) (ls : Array Slot), (∀ n, n < T0.1 → ad n = ad0 n) → gC cI cJ cZ cMic cSrc cSt cAI cAJ D ad A s.heap H locs T1 → W p l e { frames := 7, cells := T1.1 - T0.1, slots := sg T1 - sg T0, locals := 155 } s m args below meth c H locs (T1.1 - T0.1) (sg T1 - sg T0) Q (F0 m 47 ls [.int r1])) : ∀ (T : AT) (ad : Nat → Nat) (H : Heap) (locs : List Loc) (ls : Array Slot) (s0 : Int32), g_X11_blockBest_b47 T s0 = some (0, r1, T1) → GL T0 T → RC T → (∀ n, n < T0.1 → ad n = ad0 n) → gC cI cJ cZ cMic cSrc cSt cAI cAJ D ad A s.heap H locs T → lv_has ls 3 [] → W p l e { frames := 7, cells := T1.1 - T0.1, slots := sg T1 - sg T0, locals := 155 } s m args below meth c H locs (T.1 - T0.1) (sg T - sg T0) Q (F0 m 47 ls [.int s0]) := by
  have hx := E.1
  have hb := E.2.1
  have hts := E.2.2.1
  have hown := E.2.2.2.1
  have hK := E.2.2.2.2
  intro T ad H locs ls s0 h hgl hrc had G hl
  have hT1 := s_X11_blockBest_b47 _ _ h
  have hcs := cs_ok hgl hT1
  have cp0 := cpr0 hrc
  unfold g_X11_blockBest_b47 at h
  rw [(osome3 h).2.2] at G
  refine w_cast (c2 := T1.1 - T0.1) (s2 := sg T1 - sg T0) (by rw [← (osome3 h).2.2, cp0.1] <;> rfl) (by rw [← (osome3 h).2.2, sg_cpr cp0] <;> rfl) ?_
  refine lv_to ((osome3 h).2.1) ?_
  exact kr47 ad _ _ _ had G
set_option maxHeartbeats 4000000 in
set_option maxRecDepth 100000 in
theorem a_X11_blockBest (l : Launch) (hst : l.stackTraces = false) (D : va_G) (cI cJ cZ cMic cSrc cSt cAI cAJ : ClassId) (ad : Nat → Nat) (T : AT) (o : Nat) (a0 : Int32) (a1 : Int32) {r1 : Int32} {T1 : AT} (h : g_X11_blockBest T o a0 a1 = some (0, r1, T1)) (hrc : RC T) (h_o : o < T.1) : kAi l yX11_blockBest (Cond.code yX11_blockBest cX11_blockBest 3 (some .int) :: wsA) 7 155 cI cJ cZ cMic cSrc cSt cAI cAJ D ad T [.ref (ad o), .int a0, .int a1] r1 T1 := by
  intro sz
  refine Met.ofW (cc := cX11_blockBest) (maxL := 3) (ret := (some .int)) (by decide) rfl ?_
  intro p e s m args below meth c s₁ B hml hv
  obtain ⟨rfl, hsz, hP, hK, hD0, hX, hN⟩ := hv
  have hx := B.exec
  have hb := B.bytes
  have hr := B.returns
  have hts := atoms_spec (ws := (Cond.code yX11_blockBest cX11_blockBest 3 (some .int) :: wsA)) B.pre
  have hown : s.vm.findClass RX11 = some m.cls := findClass_of_methodNamed B.named
  have hlocks := B.notSynchronized
  subst hsz
  have hD := hD0.self (sz := s.heap.size)
  generalize hAe : va_A (cW ad T.1 (cc cI cJ cZ cMic cSrc cSt cAI cAJ ad T)) s.heap.size = A at hD hX ⊢
  have hA : ∀ q : Nat, s.heap.size ≤ q → A q := fun q h => by rw [← hAe]; exact Or.inr h
  have G : gC cI cJ cZ cMic cSrc cSt cAI cAJ D ad A s.heap s.heap [] T := ⟨hP, hD, va_S.rf⟩
  have E : cE p c cX11_blockBest s m ([.ref (ad o), .int a0, .int a1] : List Value).toArray (Cond.code yX11_blockBest cX11_blockBest 3 (some .int) :: wsA) D RX11 (CT cI cJ cZ cMic cSrc cSt cAI cAJ) := ⟨hx, hb, hts, hown, hK⟩
  have hl := lv_entry ([.ref (ad o), .int a0, .int a1]) (n := 3) (Nat.le_of_ble_eq_true rfl)
  rw [lg_entry_eq]
  generalize (lg_sl ([.ref (ad o), .int a0, .int a1]) ++ List.replicate (3 - (lg_sl ([.ref (ad o), .int a0, .int a1])).length) Slot.unset).toArray = ls at hl ⊢
  have hl : lv_has ls 3 [(0, .ref (ad o)), (1, .int a0), (2, .int a1)] := hl
  have hgl := GL.rf T
  have had : ∀ n, n < T.1 → ad n = ad n := fun _ _ => rfl
  have hT1 := s_X11_blockBest h
  have hcs := cs_ok hgl hT1
  refine w_cast (Nat.sub_self T.1).symm (Nat.sub_self (sg T)).symm ?_
  have cp0 := cpr0 hrc
  unfold g_X11_blockBest at h
  refine lv_aload_n hx hb dX11_blockBest_0 rfl (lv_at hl 0 rfl) ?_
  obtain ⟨g2, h⟩ := oif_some h
  obtain ⟨r5, T3, eT3, h⟩ := othr_n h
  refine q_cvv (As := []) (rest := []) E G hA hX hN hml (u_X11_needCamera l hst D cI cJ cZ cMic cSrc cSt cAI cAJ ad T o eT3) (cwV 0 hts (gaV qA_728 qA_729 qA_730 qA_131 qA_731) rfl rfl rfl (by decide +kernel) ⟨Nat.le_of_ble_eq_true rfl, Nat.le_of_ble_eq_true rfl⟩) (oO_k g2).1 (cc_o11 (oO_k g2).2) rfl rfl hl.1 rfl (lv_room (Nat.le_of_ble_eq_true rfl)) dX11_blockBest_1 hcs (fun T4 H locs hq G => ?_)
  rw [hq] at G
  clear hq
  have cp1 := cpr_sp cp0 (s_X11_needCamera eT3)
  refine lv_iload_n hx hb dX11_blockBest_4 rfl (lv_at hl 1 rfl) ?_
  refine lv_iconst (v := 0) hx hb dX11_blockBest_5 (by decide) ?_
  refine lv_aload_n hx hb dX11_blockBest_6 rfl (lv_at hl 0 rfl) ?_
  obtain ⟨g7, h⟩ := oif_some h
  obtain ⟨n8, en8, h⟩ := obind_some h
  have h_n8 : n8 < T.1 := by rw [← cp1.1]; exact cp1.2.2 _ _ _ en8
  refine c_get E G o 14 (v := .ref (ad n8)) (oO_k g7).1 (cc_o11 (oO_k g7).2) rfl (fun w h => .tail _ (iA_23 h)) (by decide) (.tail _ qA_675) rfl (by rw [en8]; rfl) dX11_blockBest_7 ?_
  clear en8
  obtain ⟨g9, h⟩ := oif_some h
  refine c_get E G n8 2 (oO_k g9).1 (cc_o6 (oO_k g9).2) rfl (fun w h => .tail _ (iA_14 h)) (by decide) (.tail _ qA_761) rfl rfl dX11_blockBest_10 ?_
  refine lv_topi (fun v10 ev10 => ?_)
  have h := elet_at ev10 h
  clear ev10
  refine lv_iconst (v := 1) hx hb dX11_blockBest_13 (by decide) ?_
  refine lv_isub hx hb dX11_blockBest_14 ?_
  refine lv_topi (fun v11 ev11 => ?_)
  have h := elet_at ev11 h
  clear ev11
  obtain ⟨r14, T12, eT12, h⟩ := othr_n h
  refine q_csv (As := [.int a0, .int 0, .int v11]) (rest := []) E G hA hX hN hml (u_X11_needRange l hst D cI cJ cZ cMic cSrc cSt cAI cAJ ad T3 a0 (0 : Int32) v11 eT12) (cwS 3 hts (gaS qA_741 qA_742 qA_131 qA_743) rfl rfl rfl (by decide +kernel) ⟨Nat.le_of_ble_eq_true rfl, Nat.le_of_ble_eq_true rfl⟩) rfl hl.1 rfl (lv_room (Nat.le_of_ble_eq_true rfl)) dX11_blockBest_15 hcs (fun T13 H locs hq G => ?_)
  rw [hq] at G
  clear hq
  have cp2 := cpr_sp cp1 (s_X11_needRange eT12)
  refine lv_iload_n hx hb dX11_blockBest_18 rfl (lv_at hl 2 rfl) ?_
  refine lv_iconst (v := 1) hx hb dX11_blockBest_19 (by decide) ?_
  refine lv_aload_n hx hb dX11_blockBest_20 rfl (lv_at hl 0 rfl) ?_
  obtain ⟨g16, h⟩ := oif_some h
  obtain ⟨n17, en17, h⟩ := obind_some h
  have h_n17 : n17 < T.1 := by rw [← cp2.1]; exact cp2.2.2 _ _ _ en17
  refine c_get E G o 14 (v := .ref (ad n17)) (oO_k g16).1 (cc_o11 (oO_k g16).2) rfl (fun w h => .tail _ (iA_23 h)) (by decide) (.tail _ qA_675) rfl (by rw [en17]; rfl) dX11_blockBest_21 ?_
  clear en17
  obtain ⟨g18, h⟩ := oif_some h
  refine c_get E G n17 2 (oO_k g18).1 (cc_o6 (oO_k g18).2) rfl (fun w h => .tail _ (iA_14 h)) (by decide) (.tail _ qA_761) rfl rfl dX11_blockBest_24 ?_
  refine lv_topi (fun v19 ev19 => ?_)
  have h := elet_at ev19 h
  clear ev19
  obtain ⟨r22, T20, eT20, h⟩ := othr_n h
  refine q_csv (As := [.int a1, .int 1, .int v19]) (rest := []) E G hA hX hN hml (u_X11_needRange l hst D cI cJ cZ cMic cSrc cSt cAI cAJ ad T12 a1 (1 : Int32) v19 eT20) (cwS 3 hts (gaS qA_741 qA_742 qA_131 qA_743) rfl rfl rfl (by decide +kernel) ⟨Nat.le_of_ble_eq_true rfl, Nat.le_of_ble_eq_true rfl⟩) rfl hl.1 rfl (lv_room (Nat.le_of_ble_eq_true rfl)) dX11_blockBest_27 hcs (fun T21 H locs hq G => ?_)
  rw [hq] at G
  clear hq
  have cp3 := cpr_sp cp2 (s_X11_needRange eT20)
  refine lv_aload_n hx hb dX11_blockBest_30 rfl (lv_at hl 0 rfl) ?_
  obtain ⟨g24, h⟩ := oif_some h
  obtain ⟨n25, en25, h⟩ := obind_some h
  have h_n25 : n25 < T.1 := by rw [← cp3.1]; exact cp3.2.2 _ _ _ en25
  refine c_get E G o 3 (v := .ref (ad n25)) (oO_k g24).1 (cc_o11 (oO_k g24).2) rfl (fun w h => .tail _ (iA_23 h)) (by decide) (.tail _ qA_657) rfl (by rw [en25]; rfl) dX11_blockBest_31 ?_
  clear en25
  refine lv_aload_n hx hb dX11_blockBest_34 rfl (lv_at hl 0 rfl) ?_
  obtain ⟨g26, h⟩ := oif_some h
  obtain ⟨n27, en27, h⟩ := obind_some h
  have h_n27 : n27 < T.1 := by rw [← cp3.1]; exact cp3.2.2 _ _ _ en27
  refine c_get E G o 14 (v := .ref (ad n27)) (oO_k g26).1 (cc_o11 (oO_k g26).2) rfl (fun w h => .tail _ (iA_23 h)) (by decide) (.tail _ qA_675) rfl (by rw [en27]; rfl) dX11_blockBest_35 ?_
  clear en27
  refine lv_aload_n hx hb dX11_blockBest_38 rfl (lv_at hl 0 rfl) ?_
  obtain ⟨g28, h⟩ := oif_some h
  obtain ⟨n29, en29, h⟩ := obind_some h
  have h_n29 : n29 < T.1 := by rw [← cp3.1]; exact cp3.2.2 _ _ _ en29
  refine c_get E G o 6 (v := .ref (ad n29)) (oO_k g28).1 (cc_o11 (oO_k g28).2) rfl (fun w h => .tail _ (iA_23 h)) (by decide) (.tail _ qA_664) rfl (by rw [en29]; rfl) dX11_blockBest_39 ?_
  clear en29
  refine lv_iload_n hx hb dX11_blockBest_42 rfl (lv_at hl 1 rfl) ?_
  refine lv_iload_n hx hb dX11_blockBest_43 rfl (lv_at hl 2 rfl) ?_
  obtain ⟨g30, h⟩ := oif_some h
  obtain ⟨r32, T31, eT31, h⟩ := obind2_some h
  have hg2 := s_X0_bestOf eT31
  have hrc2 := hg2.2.2 cp3.2.2
  have hT2 := s_X11_blockBest_b47 _ _ h
  refine q_avi (As := [.ref (ad n27), .ref (ad n29), .int a0, .int a1]) (rest := []) E G hA hX hN hml (a_X0_bestOf l hst D cI cJ cZ cMic cSrc cSt cAI cAJ ad T20 n25 n27 n29 a0 a1 eT31 cp3.2.2 (by rw [cp3.1]; exact h_n25) (by rw [cp3.1]; exact h_n27) (by rw [cp3.1]; exact h_n29)) (cwV 4 hts (gaV qA_859 qA_860 qA_861 qA_31 qA_21) rfl rfl rfl (by decide +kernel) ⟨Nat.le_of_ble_eq_true rfl, Nat.le_of_ble_eq_true rfl⟩) (oO_k g30).1 (cc_o0 (oO_k g30).2) rfl rfl hl.1 rfl (lv_room (Nat.le_of_ble_eq_true rfl)) dX11_blockBest_44 (cs_av hgl cp3 hg2 hT2) (fun ad2 H locs hga G => ?_)
  refine w_cast (c2 := T31.1 - T.1) (s2 := sg T31 - sg T) (cs_f1 hgl cp3 hg2) (cs_f2 hgl cp3 hg2) ?_
  have hl := lv_sub hl [] rfl
  exact a_X11_blockBest_b47 E hA hX hN hml hst (fun ad H locs ls had G => W.iret (v := r1) hx hb hr (fun t ht hW => ⟨⟨r1, (T1, ad), rfl, ⟨rfl, rfl, had⟩, ⟨by rw [ht]; exact G.1, va_K.moved hW.alike hK, G.2.1⟩⟩, G.2.2.F ht⟩) G.2.2.2.2 dX11_blockBest_47) _ _ _ _ _ _ h (GL.tr (gl_cpr hgl cp3) hg2) hrc2 (fun n hn => (hga n (by rw [cp3.1]; exact Nat.lt_of_lt_of_le hn hgl.1)).trans (had n hn)) G hl
set_option maxHeartbeats 4000000 in
set_option maxRecDepth 100000 in
theorem b_X11_blockBest_b47 {p : Program} {l : Launch} {e : Env} {s : State} {m : MethodId} {args : Array Value} {below : List Frame} {meth : Method} {c : Code} {Qc : Array Value → State → Outcome → State → Prop} {XC : String → State → State → Prop} {D : va_G} {A : Nat → Prop} {cI cJ cZ cMic cSrc cSt cAI cAJ : ClassId} {ad0 : Nat → Nat} {T0 : AT} {e1 : Nat} {r1 : Int32} {T1 : AT} (E : cE p c cX11_blockBest s m args (Cond.code yX11_blockBest cX11_blockBest 3 (some .int) :: wsA) D RX11 (CT cI cJ cZ cMic cSrc cSt cAI cAJ)) (hA : ∀ q : Nat, s.heap.size ≤ q → A q) (hX : xT A s) (hN : nX s) (hml : c.maxLocals = 3) (hst : l.stackTraces = false) (htab : ∀ x ∈ c.exceptionTable.toList, False) (hlocks : meth.locks = false) (kx : ∀ (ad : Nat → Nat) (H : Heap) (locs : List Loc) (t : State), (∀ n, n < T0.1 → ad n = ad0 n) → gC cI cJ cZ cMic cSrc cSt cAI cAJ D ad A s.heap H locs T1 → s.vm.Alike t.vm → H.size ≤ t.heap.size → (∀ q, q < H.size → t.heap[q]? = H[q]?) → XC (exn e1) s t) : ∀ (T : AT) (ad : Nat → Nat) (H : Heap) (locs : List Loc) (ls : Array Slot) (s0 : Int32), g_X11_blockBest_b47 T s0 = some (e1 + 1, r1, T1) → GL T0 T → RC T → (∀ n, n < T0.1 → ad n = ad0 n) → gC cI cJ cZ cMic cSrc cSt cAI cAJ D ad A s.heap H locs T → lv_has ls 3 [] → W p l e { frames := 7, cells := T1.1 - T0.1 + 1, slots := sg T1 - sg T0 + 6, locals := 155 } s m args below meth c H locs (T.1 - T0.1) (sg T - sg T0) (vx_MQ below Qc XC args s (T1.1 - T0.1 + 1) (sg T1 - sg T0 + 6) A) (F0 m 47 ls [.int s0]) := by
  have hx := E.1
  have hb := E.2.1
  have hts := E.2.2.1
  have hown := E.2.2.2.1
  have hK := E.2.2.2.2
  intro T ad H locs ls s0 h hgl hrc had G hl
  have hT1 := s_X11_blockBest_b47 _ _ h
  have hcs := cs_okx hgl hT1
  have hcx := cs_okx1 hgl hT1
  have cp0 := cpr0 hrc
  unfold g_X11_blockBest_b47 at h
  exact (Nat.succ_ne_zero _ (congrArg Prod.fst (Option.some.inj h)).symm).elim
set_option maxHeartbeats 4000000 in
set_option maxRecDepth 100000 in
theorem b_X11_blockBest (l : Launch) (hst : l.stackTraces = false) (D : va_G) (cI cJ cZ cMic cSrc cSt cAI cAJ : ClassId) (ad : Nat → Nat) (T : AT) (o : Nat) (a0 : Int32) (a1 : Int32) {e1 : Nat} {r1 : Int32} {T1 : AT} (h : g_X11_blockBest T o a0 a1 = some (e1 + 1, r1, T1)) (hrc : RC T) (h_o : o < T.1) : kAXi l yX11_blockBest (Cond.code yX11_blockBest cX11_blockBest 3 (some .int) :: wsA) 7 155 cI cJ cZ cMic cSrc cSt cAI cAJ D ad T [.ref (ad o), .int a0, .int a1] e1 T1 := by
  intro sz
  refine vx_ofW (cc := cX11_blockBest) (maxL := 3) (ret := (some .int)) (by decide) rfl ?_
  intro p e s m args below meth c s₁ B hml htab hv
  obtain ⟨rfl, hsz, hP, hK, hD0, hX, hN⟩ := hv
  have hx := B.exec
  have hb := B.bytes
  have hr := B.returns
  have hts := atoms_spec (ws := (Cond.code yX11_blockBest cX11_blockBest 3 (some .int) :: wsA)) B.pre
  have hown : s.vm.findClass RX11 = some m.cls := findClass_of_methodNamed B.named
  have hlocks := B.notSynchronized
  subst hsz
  have hD := hD0.self (sz := s.heap.size)
  generalize hAe : va_A (cW ad T.1 (cc cI cJ cZ cMic cSrc cSt cAI cAJ ad T)) s.heap.size = A at hD hX ⊢
  have hA : ∀ q : Nat, s.heap.size ≤ q → A q := fun q h => by rw [← hAe]; exact Or.inr h
  have G : gC cI cJ cZ cMic cSrc cSt cAI cAJ D ad A s.heap s.heap [] T := ⟨hP, hD, va_S.rf⟩
  have E : cE p c cX11_blockBest s m ([.ref (ad o), .int a0, .int a1] : List Value).toArray (Cond.code yX11_blockBest cX11_blockBest 3 (some .int) :: wsA) D RX11 (CT cI cJ cZ cMic cSrc cSt cAI cAJ) := ⟨hx, hb, hts, hown, hK⟩
  have htab : ∀ x ∈ c.exceptionTable.toList, False := fun x hx => htab x hx
  have hl := lv_entry ([.ref (ad o), .int a0, .int a1]) (n := 3) (Nat.le_of_ble_eq_true rfl)
  rw [lg_entry_eq]
  generalize (lg_sl ([.ref (ad o), .int a0, .int a1]) ++ List.replicate (3 - (lg_sl ([.ref (ad o), .int a0, .int a1])).length) Slot.unset).toArray = ls at hl ⊢
  have hl : lv_has ls 3 [(0, .ref (ad o)), (1, .int a0), (2, .int a1)] := hl
  have hgl := GL.rf T
  have had : ∀ n, n < T.1 → ad n = ad n := fun _ _ => rfl
  have hT1 := s_X11_blockBest h
  have hcs := cs_okx hgl hT1
  have hcx := cs_okx1 hgl hT1
  refine w_cast (Nat.sub_self T.1).symm (Nat.sub_self (sg T)).symm ?_
  have cp0 := cpr0 hrc
  unfold g_X11_blockBest at h
  refine lv_aload_n hx hb dX11_blockBest_0 rfl (lv_at hl 0 rfl) ?_
  obtain ⟨g2, h⟩ := oif_some h
  rcases othr_t h with ⟨r0, eT3⟩ | ⟨r5, T3, eT3, h⟩
  · refine q_xvv (As := []) (rest := []) E G hA hX hN hml (x_X11_needCamera l hst D cI cJ cZ cMic cSrc cSt cAI cAJ ad T o eT3) (cwV 0 hts (gaV qA_728 qA_729 qA_730 qA_131 qA_731) rfl rfl rfl (by decide +kernel) ⟨Nat.le_of_ble_eq_true rfl, Nat.le_of_ble_eq_true rfl⟩) (oO_k g2).1 (cc_o11 (oO_k g2).2) rfl rfl hl.1 rfl (lv_room (Nat.le_of_ble_eq_true rfl)) dX11_blockBest_1 hcx (fun E9 ce q9 T9 H locs hp G hce hcv hcl => ?_)
    obtain ⟨hE, hT⟩ := hp
    subst hE
    rw [hT] at G
    exact vx_out (fun x hx => (htab x hx).elim) hlocks hce hcv hcl (fun t ht hvm => ⟨(T1, ad), trivial, ⟨⟨rfl, rfl, had⟩, by rw [ht]; exact G.1, va_K.moved hvm hK, G.2.1⟩, G.2.2.F ht⟩) G.2.2.2.2 hcx.1 hcx.2
  refine q_cvv (As := []) (rest := []) E G hA hX hN hml (u_X11_needCamera l hst D cI cJ cZ cMic cSrc cSt cAI cAJ ad T o eT3) (cwV 0 hts (gaV qA_728 qA_729 qA_730 qA_131 qA_731) rfl rfl rfl (by decide +kernel) ⟨Nat.le_of_ble_eq_true rfl, Nat.le_of_ble_eq_true rfl⟩) (oO_k g2).1 (cc_o11 (oO_k g2).2) rfl rfl hl.1 rfl (lv_room (Nat.le_of_ble_eq_true rfl)) dX11_blockBest_1 hcs (fun T4 H locs hq G => ?_)
  rw [hq] at G
  clear hq
  have cp1 := cpr_sp cp0 (s_X11_needCamera eT3)
  refine lv_iload_n hx hb dX11_blockBest_4 rfl (lv_at hl 1 rfl) ?_
  refine lv_iconst (v := 0) hx hb dX11_blockBest_5 (by decide) ?_
  refine lv_aload_n hx hb dX11_blockBest_6 rfl (lv_at hl 0 rfl) ?_
  obtain ⟨g7, h⟩ := oif_some h
  obtain ⟨n8, en8, h⟩ := obind_some h
  have h_n8 : n8 < T.1 := by rw [← cp1.1]; exact cp1.2.2 _ _ _ en8
  refine c_get E G o 14 (v := .ref (ad n8)) (oO_k g7).1 (cc_o11 (oO_k g7).2) rfl (fun w h => .tail _ (iA_23 h)) (by decide) (.tail _ qA_675) rfl (by rw [en8]; rfl) dX11_blockBest_7 ?_
  clear en8
  obtain ⟨g9, h⟩ := oif_some h
  refine c_get E G n8 2 (oO_k g9).1 (cc_o6 (oO_k g9).2) rfl (fun w h => .tail _ (iA_14 h)) (by decide) (.tail _ qA_761) rfl rfl dX11_blockBest_10 ?_
  refine lv_topi (fun v10 ev10 => ?_)
  have h := elet_at ev10 h
  clear ev10
  refine lv_iconst (v := 1) hx hb dX11_blockBest_13 (by decide) ?_
  refine lv_isub hx hb dX11_blockBest_14 ?_
  refine lv_topi (fun v11 ev11 => ?_)
  have h := elet_at ev11 h
  clear ev11
  rcases othr_t h with ⟨r0, eT12⟩ | ⟨r14, T12, eT12, h⟩
  · refine q_xsv (As := [.int a0, .int 0, .int v11]) (rest := []) E G hA hX hN hml (x_X11_needRange l hst D cI cJ cZ cMic cSrc cSt cAI cAJ ad T3 a0 (0 : Int32) v11 eT12) (cwS 3 hts (gaS qA_741 qA_742 qA_131 qA_743) rfl rfl rfl (by decide +kernel) ⟨Nat.le_of_ble_eq_true rfl, Nat.le_of_ble_eq_true rfl⟩) rfl hl.1 rfl (lv_room (Nat.le_of_ble_eq_true rfl)) dX11_blockBest_15 hcx (fun E9 ce q9 T9 H locs hp G hce hcv hcl => ?_)
    obtain ⟨hE, hT⟩ := hp
    subst hE
    rw [hT] at G
    exact vx_out (fun x hx => (htab x hx).elim) hlocks hce hcv hcl (fun t ht hvm => ⟨(T1, ad), trivial, ⟨⟨rfl, rfl, had⟩, by rw [ht]; exact G.1, va_K.moved hvm hK, G.2.1⟩, G.2.2.F ht⟩) G.2.2.2.2 hcx.1 hcx.2
  refine q_csv (As := [.int a0, .int 0, .int v11]) (rest := []) E G hA hX hN hml (u_X11_needRange l hst D cI cJ cZ cMic cSrc cSt cAI cAJ ad T3 a0 (0 : Int32) v11 eT12) (cwS 3 hts (gaS qA_741 qA_742 qA_131 qA_743) rfl rfl rfl (by decide +kernel) ⟨Nat.le_of_ble_eq_true rfl, Nat.le_of_ble_eq_true rfl⟩) rfl hl.1 rfl (lv_room (Nat.le_of_ble_eq_true rfl)) dX11_blockBest_15 hcs (fun T13 H locs hq G => ?_)
  rw [hq] at G
  clear hq
  have cp2 := cpr_sp cp1 (s_X11_needRange eT12)
  refine lv_iload_n hx hb dX11_blockBest_18 rfl (lv_at hl 2 rfl) ?_
  refine lv_iconst (v := 1) hx hb dX11_blockBest_19 (by decide) ?_
  refine lv_aload_n hx hb dX11_blockBest_20 rfl (lv_at hl 0 rfl) ?_
  obtain ⟨g16, h⟩ := oif_some h
  obtain ⟨n17, en17, h⟩ := obind_some h
  have h_n17 : n17 < T.1 := by rw [← cp2.1]; exact cp2.2.2 _ _ _ en17
  refine c_get E G o 14 (v := .ref (ad n17)) (oO_k g16).1 (cc_o11 (oO_k g16).2) rfl (fun w h => .tail _ (iA_23 h)) (by decide) (.tail _ qA_675) rfl (by rw [en17]; rfl) dX11_blockBest_21 ?_
  clear en17
  obtain ⟨g18, h⟩ := oif_some h
  refine c_get E G n17 2 (oO_k g18).1 (cc_o6 (oO_k g18).2) rfl (fun w h => .tail _ (iA_14 h)) (by decide) (.tail _ qA_761) rfl rfl dX11_blockBest_24 ?_
  refine lv_topi (fun v19 ev19 => ?_)
  have h := elet_at ev19 h
  clear ev19
  rcases othr_t h with ⟨r0, eT20⟩ | ⟨r22, T20, eT20, h⟩
  · refine q_xsv (As := [.int a1, .int 1, .int v19]) (rest := []) E G hA hX hN hml (x_X11_needRange l hst D cI cJ cZ cMic cSrc cSt cAI cAJ ad T12 a1 (1 : Int32) v19 eT20) (cwS 3 hts (gaS qA_741 qA_742 qA_131 qA_743) rfl rfl rfl (by decide +kernel) ⟨Nat.le_of_ble_eq_true rfl, Nat.le_of_ble_eq_true rfl⟩) rfl hl.1 rfl (lv_room (Nat.le_of_ble_eq_true rfl)) dX11_blockBest_27 hcx (fun E9 ce q9 T9 H locs hp G hce hcv hcl => ?_)
    obtain ⟨hE, hT⟩ := hp
    subst hE
    rw [hT] at G
    exact vx_out (fun x hx => (htab x hx).elim) hlocks hce hcv hcl (fun t ht hvm => ⟨(T1, ad), trivial, ⟨⟨rfl, rfl, had⟩, by rw [ht]; exact G.1, va_K.moved hvm hK, G.2.1⟩, G.2.2.F ht⟩) G.2.2.2.2 hcx.1 hcx.2
  refine q_csv (As := [.int a1, .int 1, .int v19]) (rest := []) E G hA hX hN hml (u_X11_needRange l hst D cI cJ cZ cMic cSrc cSt cAI cAJ ad T12 a1 (1 : Int32) v19 eT20) (cwS 3 hts (gaS qA_741 qA_742 qA_131 qA_743) rfl rfl rfl (by decide +kernel) ⟨Nat.le_of_ble_eq_true rfl, Nat.le_of_ble_eq_true rfl⟩) rfl hl.1 rfl (lv_room (Nat.le_of_ble_eq_true rfl)) dX11_blockBest_27 hcs (fun T21 H locs hq G => ?_)
  rw [hq] at G
  clear hq
  have cp3 := cpr_sp cp2 (s_X11_needRange eT20)
  refine lv_aload_n hx hb dX11_blockBest_30 rfl (lv_at hl 0 rfl) ?_
  obtain ⟨g24, h⟩ := oif_some h
  obtain ⟨n25, en25, h⟩ := obind_some h
  have h_n25 : n25 < T.1 := by rw [← cp3.1]; exact cp3.2.2 _ _ _ en25
  refine c_get E G o 3 (v := .ref (ad n25)) (oO_k g24).1 (cc_o11 (oO_k g24).2) rfl (fun w h => .tail _ (iA_23 h)) (by decide) (.tail _ qA_657) rfl (by rw [en25]; rfl) dX11_blockBest_31 ?_
  clear en25
  refine lv_aload_n hx hb dX11_blockBest_34 rfl (lv_at hl 0 rfl) ?_
  obtain ⟨g26, h⟩ := oif_some h
  obtain ⟨n27, en27, h⟩ := obind_some h
  have h_n27 : n27 < T.1 := by rw [← cp3.1]; exact cp3.2.2 _ _ _ en27
  refine c_get E G o 14 (v := .ref (ad n27)) (oO_k g26).1 (cc_o11 (oO_k g26).2) rfl (fun w h => .tail _ (iA_23 h)) (by decide) (.tail _ qA_675) rfl (by rw [en27]; rfl) dX11_blockBest_35 ?_
  clear en27
  refine lv_aload_n hx hb dX11_blockBest_38 rfl (lv_at hl 0 rfl) ?_
  obtain ⟨g28, h⟩ := oif_some h
  obtain ⟨n29, en29, h⟩ := obind_some h
  have h_n29 : n29 < T.1 := by rw [← cp3.1]; exact cp3.2.2 _ _ _ en29
  refine c_get E G o 6 (v := .ref (ad n29)) (oO_k g28).1 (cc_o11 (oO_k g28).2) rfl (fun w h => .tail _ (iA_23 h)) (by decide) (.tail _ qA_664) rfl (by rw [en29]; rfl) dX11_blockBest_39 ?_
  clear en29
  refine lv_iload_n hx hb dX11_blockBest_42 rfl (lv_at hl 1 rfl) ?_
  refine lv_iload_n hx hb dX11_blockBest_43 rfl (lv_at hl 2 rfl) ?_
  obtain ⟨g30, h⟩ := oif_some h
  obtain ⟨r32, T31, eT31, h⟩ := obind2_some h
  have hg2 := s_X0_bestOf eT31
  have hrc2 := hg2.2.2 cp3.2.2
  have hT2 := s_X11_blockBest_b47 _ _ h
  refine q_avi (As := [.ref (ad n27), .ref (ad n29), .int a0, .int a1]) (rest := []) E G hA hX hN hml (a_X0_bestOf l hst D cI cJ cZ cMic cSrc cSt cAI cAJ ad T20 n25 n27 n29 a0 a1 eT31 cp3.2.2 (by rw [cp3.1]; exact h_n25) (by rw [cp3.1]; exact h_n27) (by rw [cp3.1]; exact h_n29)) (cwV 4 hts (gaV qA_859 qA_860 qA_861 qA_31 qA_21) rfl rfl rfl (by decide +kernel) ⟨Nat.le_of_ble_eq_true rfl, Nat.le_of_ble_eq_true rfl⟩) (oO_k g30).1 (cc_o0 (oO_k g30).2) rfl rfl hl.1 rfl (lv_room (Nat.le_of_ble_eq_true rfl)) dX11_blockBest_44 (cs_avx hgl cp3 hg2 hT2) (fun ad2 H locs hga G => ?_)
  refine w_cast (c2 := T31.1 - T.1) (s2 := sg T31 - sg T) (cs_f1 hgl cp3 hg2) (cs_f2 hgl cp3 hg2) ?_
  have hl := lv_sub hl [] rfl
  exact b_X11_blockBest_b47 E hA hX hN hml hst htab hlocks (fun ad H locs t had G hvm h1 h2 => ⟨(T1, ad), trivial, ⟨⟨rfl, rfl, had⟩, (c_thrown G hK hvm h1 h2).1⟩, (c_thrown G hK hvm h1 h2).2⟩) _ _ _ _ _ _ h (GL.tr (gl_cpr hgl cp3) hg2) hrc2 (fun n hn => (hga n (by rw [cp3.1]; exact Nat.lt_of_lt_of_le hn hgl.1)).trans (had n hn)) G hl
def g_X11_path_b85 (k39 : AT → Nat → Int32 → Int32 → Int32 → Int32 → Option (Nat × Int32 × AT)) (T : AT) (s0 : Int32) (s1 : Int32) (l0 : Nat) (l1 : Int32) (l4 : Int32) (l5 : Int32) : Option (Nat × Int32 × AT) := elet (s1 + s0) fun v2 => elet (if l1 < 1 then 1 else l1) fun v3 => elet (l4 + v3) fun v4 => k39 T l0 l1 v2 l5 v4
def g_X11_path_b71 (k39 : AT → Nat → Int32 → Int32 → Int32 → Int32 → Option (Nat × Int32 × AT)) (T : AT) (s0 : Int32) (l0 : Nat) (l1 : Int32) (l2 : Int32) (l3 : Int32) (l4 : Int32) : Option (Nat × Int32 × AT) := if s0 = l3 then (g_X11_path_b85 k39 T 0 l2 l0 l1 l4 s0) else (g_X11_path_b85 k39 T 1 l2 l0 l1 l4 s0)
def g_X11_path_b39  : Nat → AT → Nat → Int32 → Int32 → Int32 → Int32 → Option (Nat × Int32 × AT)
  | 0, _, _, _, _, _, _ => none
  | n + 1, T, l0, l1, l2, l3, l4 => elet (l4 + l1) fun v2 => oif (oO T l0 11 = true) <| obind (T.2.2.2.2 l0 14) fun n4 => oif (oO T n4 6 = true) <| elet (T.2.2.1 n4 2) fun v6 => if v6 < v2 then (some (0, l2, T)) else (oif (oO T l0 11 = true) <| obind (T.2.2.2.2 l0 3) fun n9 => oif (oO T l0 11 = true) <| obind (T.2.2.2.2 l0 14) fun n11 => oif (oO T l0 11 = true) <| obind (T.2.2.2.2 l0 6) fun n13 => oif (oO T n9 0 = true) <| obind2 (g_X0_bestOf T n9 n11 n13 l4 l1) fun r16 T15 => g_X11_path_b71 (g_X11_path_b39 n) T15 r16 l0 l1 l2 l3 l4)
def g_X11_path_b35  (T : AT) (s0 : Int32) (l0 : Nat) (l1 : Int32) (l2 : Int32) : Option (Nat × Int32 × AT) := g_X11_path_b39 16384 T l0 l1 l2 s0 l1
def g_X11_path (T : AT) (o : Nat) (a0 : Int32) : Option (Nat × Int32 × AT) := oif (oO T o 11 = true) <| othr (g_X11_needCamera T o) 0 fun r5 T3 => oif (oO T3 o 11 = true) <| obind (T3.2.2.2.2 o 14) fun n8 => oif (oO T3 n8 6 = true) <| elet (T3.2.2.1 n8 2) fun v10 => othr (g_X11_needRange T3 a0 (4 : Int32) v10) 0 fun r13 T11 => oif (oO T11 o 11 = true) <| obind (T11.2.2.2.2 o 3) fun n16 => oif (oO T11 o 11 = true) <| obind (T11.2.2.2.2 o 14) fun n18 => oif (oO T11 o 11 = true) <| obind (T11.2.2.2.2 o 6) fun n20 => oif (oO T11 n16 0 = true) <| obind2 (g_X0_bestOf T11 n16 n18 n20 (0 : Int32) a0) fun r23 T22 => g_X11_path_b35 T22 r23 o a0 0
set_option maxHeartbeats 4000000 in
set_option maxRecDepth 100000 in
theorem s_X11_path_b85 {e1 : Nat} {r1 : Int32} {T1 : AT} {k39 : AT → Nat → Int32 → Int32 → Int32 → Int32 → Option (Nat × Int32 × AT)} (hk39 : ∀ (T : AT) (l0 : Nat) (l1 : Int32) (l2 : Int32) (l3 : Int32) (l4 : Int32), k39 T l0 l1 l2 l3 l4 = some (e1, r1, T1) → GL T T1) : ∀ (T : AT) (s0 : Int32) (s1 : Int32) (l0 : Nat) (l1 : Int32) (l4 : Int32) (l5 : Int32), g_X11_path_b85 k39 T s0 s1 l0 l1 l4 l5 = some (e1, r1, T1) → GL T T1 := by
  intro T s0 s1 l0 l1 l4 l5 h
  have p0 := GL.rf T
  unfold g_X11_path_b85 at h
  obtain ⟨v2, -, h⟩ := elet_some h
  obtain ⟨v3, -, h⟩ := elet_some h
  obtain ⟨v4, -, h⟩ := elet_some h
  exact GL.tr p0 (hk39 _ _ _ _ _ _ h)
set_option maxHeartbeats 4000000 in
set_option maxRecDepth 100000 in
theorem s_X11_path_b71 {e1 : Nat} {r1 : Int32} {T1 : AT} {k39 : AT → Nat → Int32 → Int32 → Int32 → Int32 → Option (Nat × Int32 × AT)} (hk39 : ∀ (T : AT) (l0 : Nat) (l1 : Int32) (l2 : Int32) (l3 : Int32) (l4 : Int32), k39 T l0 l1 l2 l3 l4 = some (e1, r1, T1) → GL T T1) : ∀ (T : AT) (s0 : Int32) (l0 : Nat) (l1 : Int32) (l2 : Int32) (l3 : Int32) (l4 : Int32), g_X11_path_b71 k39 T s0 l0 l1 l2 l3 l4 = some (e1, r1, T1) → GL T T1 := by
  intro T s0 l0 l1 l2 l3 l4 h
  have p0 := GL.rf T
  unfold g_X11_path_b71 at h
  rcases oif_or h with ⟨c2, h⟩ | ⟨c2, h⟩
  · have h := h
    exact GL.tr p0 (s_X11_path_b85 hk39 _ _ _ _ _ _ _ h)
  · have h := h
    exact GL.tr p0 (s_X11_path_b85 hk39 _ _ _ _ _ _ _ h)
set_option maxHeartbeats 4000000 in
set_option maxRecDepth 100000 in
theorem s_X11_path_b39 {e1 : Nat} {r1 : Int32} {T1 : AT} : ∀ n : Nat, ∀ (T : AT) (l0 : Nat) (l1 : Int32) (l2 : Int32) (l3 : Int32) (l4 : Int32), g_X11_path_b39 n T l0 l1 l2 l3 l4 = some (e1, r1, T1) → GL T T1 := by
  intro n
  induction n with
  | zero =>
    intro T l0 l1 l2 l3 l4 h
    have h : (none : Option (Nat × Int32 × AT)) = some (e1, r1, T1) := h
    cases h
  | succ n ih =>
    intro T l0 l1 l2 l3 l4 h
    have p0 := GL.rf T
    unfold g_X11_path_b39 at h
    obtain ⟨v2, -, h⟩ := elet_some h
    obtain ⟨g3, h⟩ := oif_some h
    obtain ⟨n4, en4, h⟩ := obind_some h
    obtain ⟨g5, h⟩ := oif_some h
    obtain ⟨v6, -, h⟩ := elet_some h
    rcases oif_or h with ⟨c7, h⟩ | ⟨c7, h⟩
    · have h := h
      rw [← (osome3 h).2.2]
      exact p0
    · have h := h
      obtain ⟨g8, h⟩ := oif_some h
      obtain ⟨n9, en9, h⟩ := obind_some h
      obtain ⟨g10, h⟩ := oif_some h
      obtain ⟨n11, en11, h⟩ := obind_some h
      obtain ⟨g12, h⟩ := oif_some h
      obtain ⟨n13, en13, h⟩ := obind_some h
      obtain ⟨g14, h⟩ := oif_some h
      obtain ⟨r16, T15, eT15, h⟩ := obind2_some h
      have p1 : GL T T15 := GL.tr p0 (s_X0_bestOf eT15)
      exact GL.tr p1 (s_X11_path_b71 ih _ _ _ _ _ _ _ h)
set_option maxHeartbeats 4000000 in
set_option maxRecDepth 100000 in
theorem s_X11_path_b35 {e1 : Nat} {r1 : Int32} {T1 : AT} : ∀ (T : AT) (s0 : Int32) (l0 : Nat) (l1 : Int32) (l2 : Int32), g_X11_path_b35 T s0 l0 l1 l2 = some (e1, r1, T1) → GL T T1 := by
  intro T s0 l0 l1 l2 h
  have p0 := GL.rf T
  unfold g_X11_path_b35 at h
  exact GL.tr p0 (s_X11_path_b39 _ _ _ _ _ _ _ h)
set_option maxHeartbeats 4000000 in
set_option maxRecDepth 100000 in
theorem s_X11_path {T : AT} {o : Nat} {a0 : Int32} {e1 : Nat} {r1 : Int32} {T1 : AT} (h : g_X11_path T o a0 = some (e1, r1, T1)) : GL T T1 := by
  have p0 := GL.rf T
  unfold g_X11_path at h
  obtain ⟨g2, h⟩ := oif_some h
  rcases othr_s h with ⟨k9, r9, e9, -⟩ | ⟨r4, T3, eT3, h⟩
  · exact GL.tr p0 (gl_sp (s_X11_needCamera e9))
  have p1 : GL T T3 := GL.tr p0 (gl_sp (s_X11_needCamera eT3))
  obtain ⟨g5, h⟩ := oif_some h
  obtain ⟨n6, en6, h⟩ := obind_some h
  obtain ⟨g7, h⟩ := oif_some h
  obtain ⟨v8, -, h⟩ := elet_some h
  rcases othr_s h with ⟨k9, r9, e9, -⟩ | ⟨r10, T9, eT9, h⟩
  · exact GL.tr p1 (gl_sp (s_X11_needRange e9))
  have p2 : GL T T9 := GL.tr p1 (gl_sp (s_X11_needRange eT9))
  obtain ⟨g11, h⟩ := oif_some h
  obtain ⟨n12, en12, h⟩ := obind_some h
  obtain ⟨g13, h⟩ := oif_some h
  obtain ⟨n14, en14, h⟩ := obind_some h
  obtain ⟨g15, h⟩ := oif_some h
  obtain ⟨n16, en16, h⟩ := obind_some h
  obtain ⟨g17, h⟩ := oif_some h
  obtain ⟨r19, T18, eT18, h⟩ := obind2_some h
  have p3 : GL T T18 := GL.tr p2 (s_X0_bestOf eT18)
  exact GL.tr p3 (s_X11_path_b35 _ _ _ _ _ h)
set_option maxHeartbeats 4000000 in
set_option maxRecDepth 100000 in
theorem a_X11_path_b85 {p : Program} {l : Launch} {e : Env} {s : State} {m : MethodId} {args : Array Value} {below : List Frame} {meth : Method} {c : Code} {Q : State → Prop} {D : va_G} {A : Nat → Prop} {cI cJ cZ cMic cSrc cSt cAI cAJ : ClassId} {ad0 : Nat → Nat} {T0 : AT} {r1 : Int32} {T1 : AT} (E : cE p c cX11_path s m args (Cond.code yX11_path cX11_path 6 (some .int) :: wsA) D RX11 (CT cI cJ cZ cMic cSrc cSt cAI cAJ)) (hA : ∀ q : Nat, s.heap.size ≤ q → A q) (hX : xT A s) (hN : nX s) (hml : c.maxLocals = 6) (hst : l.stackTraces = false) (kr104 : ∀ (ad : Nat → Nat) (H : Heap) (locs : List Loc) (ls : Array Slot), (∀ n, n < T0.1 → ad n = ad0 n) → gC cI cJ cZ cMic cSrc cSt cAI cAJ D ad A s.heap H locs T1 → W p l e { frames := 7, cells := T1.1 - T0.1, slots := sg T1 - sg T0, locals := 155 } s m args below meth c H locs (T1.1 - T0.1) (sg T1 - sg T0) Q (F0 m 104 ls [.int r1])) {k39 : AT → Nat → Int32 → Int32 → Int32 → Int32 → Option (Nat × Int32 × AT)} (hs39 : ∀ (T : AT) (l0 : Nat) (l1 : Int32) (l2 : Int32) (l3 : Int32) (l4 : Int32), k39 T l0 l1 l2 l3 l4 = some (0, r1, T1) → GL T T1) (hk39 : ∀ (T : AT) (ad : Nat → Nat) (H : Heap) (locs : List Loc) (ls : Array Slot) (l0 : Nat) (l1 : Int32) (l2 : Int32) (l3 : Int32) (l4 : Int32), k39 T l0 l1 l2 l3 l4 = some (0, r1, T1) → GL T0 T → RC T → (∀ n, n < T0.1 → ad n = ad0 n) → l0 < T.1 → gC cI cJ cZ cMic cSrc cSt cAI cAJ D ad A s.heap H locs T → lv_has ls 6 [(0, .ref (ad l0)), (1, .int l1), (2, .int l2), (3, .int l3), (4, .int l4)] → W p l e { frames := 7, cells := T1.1 - T0.1, slots := sg T1 - sg T0, locals := 155 } s m args below meth c H locs (T.1 - T0.1) (sg T - sg T0) Q (F0 m 39 ls [])) : ∀ (T : AT) (ad : Nat → Nat) (H : Heap) (locs : List Loc) (ls : Array Slot) (s0 : Int32) (s1 : Int32) (l0 : Nat) (l1 : Int32) (l4 : Int32) (l5 : Int32), g_X11_path_b85 k39 T s0 s1 l0 l1 l4 l5 = some (0, r1, T1) → GL T0 T → RC T → (∀ n, n < T0.1 → ad n = ad0 n) → l0 < T.1 → gC cI cJ cZ cMic cSrc cSt cAI cAJ D ad A s.heap H locs T → lv_has ls 6 [(0, .ref (ad l0)), (1, .int l1), (4, .int l4), (5, .int l5)] → W p l e { frames := 7, cells := T1.1 - T0.1, slots := sg T1 - sg T0, locals := 155 } s m args below meth c H locs (T.1 - T0.1) (sg T - sg T0) Q (F0 m 85 ls [.int s0, .int s1]) := by
  have hx := E.1
  have hb := E.2.1
  have hts := E.2.2.1
  have hown := E.2.2.2.1
  have hK := E.2.2.2.2
  intro T ad H locs ls s0 s1 l0 l1 l4 l5 h hgl hrc had h_l0 G hl
  have hT1 := s_X11_path_b85 hs39 _ _ _ _ _ _ _ h
  have hcs := cs_ok hgl hT1
  have cp0 := cpr0 hrc
  unfold g_X11_path_b85 at h
  refine lv_iadd hx hb dX11_path_85 ?_
  refine lv_topi (fun v2 ev2 => ?_)
  have h := elet_at ev2 h
  clear ev2
  refine lv_istore_n (lv' := [(2, .int v2), (0, .ref (ad l0)), (1, .int l1), (4, .int l4), (5, .int l5)]) hx hb dX11_path_86 rfl hl (by decide) rfl (fun ls hl => ?_)
  refine lv_iload hx hb dX11_path_87 (lv_at hl 4 rfl) ?_
  refine lv_istore_n (lv' := [(3, .int l5), (2, .int v2), (0, .ref (ad l0)), (1, .int l1), (4, .int l4), (5, .int l5)]) hx hb dX11_path_89 rfl hl (by decide) rfl (fun ls hl => ?_)
  refine lv_iload hx hb dX11_path_90 (lv_at hl 4 rfl) ?_
  refine lv_iload_n hx hb dX11_path_92 rfl (lv_at hl 3 rfl) ?_
  refine lv_iconst (v := 1) hx hb dX11_path_93 (by decide) ?_
  refine va_mmax hx hb (hml.trans hl.1.symm) hown (hts _ (.tail _ qA_845)) (hts _ (.tail _ qA_17)) (hts _ (.tail _ qA_18)) (hts _ (.tail _ qA_19)) (Nat.le_of_ble_eq_true rfl) (Nat.le_of_ble_eq_true rfl) hcs.1 hcs.2 dX11_path_94 ?_
  refine lv_topi (fun v3 ev3 => ?_)
  have h := elet_at ev3 h
  clear ev3
  refine lv_iadd hx hb dX11_path_97 ?_
  refine lv_topi (fun v4 ev4 => ?_)
  have h := elet_at ev4 h
  clear ev4
  refine lv_istore (lv' := [(4, .int v4), (3, .int l5), (2, .int v2), (0, .ref (ad l0)), (1, .int l1), (5, .int l5)]) hx hb dX11_path_98 hl (by decide) rfl (fun ls hl => ?_)
  refine lv_goto (tgt := 39) hx hb dX11_path_100 (by decide) ?_
  have hl := lv_sub hl [3, 4, 2, 1, 0] rfl
  refine w_cast (c2 := T.1 - T0.1) (s2 := sg T - sg T0) (by rw [cp0.1] <;> rfl) (by rw [sg_cpr cp0] <;> rfl) ?_
  exact hk39 _ _ _ _ _ _ _ _ _ _ h (gl_cpr hgl cp0) cp0.2.2 had (by rw [cp0.1]; exact h_l0) G hl
set_option maxHeartbeats 4000000 in
set_option maxRecDepth 100000 in
theorem a_X11_path_b71 {p : Program} {l : Launch} {e : Env} {s : State} {m : MethodId} {args : Array Value} {below : List Frame} {meth : Method} {c : Code} {Q : State → Prop} {D : va_G} {A : Nat → Prop} {cI cJ cZ cMic cSrc cSt cAI cAJ : ClassId} {ad0 : Nat → Nat} {T0 : AT} {r1 : Int32} {T1 : AT} (E : cE p c cX11_path s m args (Cond.code yX11_path cX11_path 6 (some .int) :: wsA) D RX11 (CT cI cJ cZ cMic cSrc cSt cAI cAJ)) (hA : ∀ q : Nat, s.heap.size ≤ q → A q) (hX : xT A s) (hN : nX s) (hml : c.maxLocals = 6) (hst : l.stackTraces = false) (kr104 : ∀ (ad : Nat → Nat) (H : Heap) (locs : List Loc) (ls : Array Slot), (∀ n, n < T0.1 → ad n = ad0 n) → gC cI cJ cZ cMic cSrc cSt cAI cAJ D ad A s.heap H locs T1 → W p l e { frames := 7, cells := T1.1 - T0.1, slots := sg T1 - sg T0, locals := 155 } s m args below meth c H locs (T1.1 - T0.1) (sg T1 - sg T0) Q (F0 m 104 ls [.int r1])) {k39 : AT → Nat → Int32 → Int32 → Int32 → Int32 → Option (Nat × Int32 × AT)} (hs39 : ∀ (T : AT) (l0 : Nat) (l1 : Int32) (l2 : Int32) (l3 : Int32) (l4 : Int32), k39 T l0 l1 l2 l3 l4 = some (0, r1, T1) → GL T T1) (hk39 : ∀ (T : AT) (ad : Nat → Nat) (H : Heap) (locs : List Loc) (ls : Array Slot) (l0 : Nat) (l1 : Int32) (l2 : Int32) (l3 : Int32) (l4 : Int32), k39 T l0 l1 l2 l3 l4 = some (0, r1, T1) → GL T0 T → RC T → (∀ n, n < T0.1 → ad n = ad0 n) → l0 < T.1 → gC cI cJ cZ cMic cSrc cSt cAI cAJ D ad A s.heap H locs T → lv_has ls 6 [(0, .ref (ad l0)), (1, .int l1), (2, .int l2), (3, .int l3), (4, .int l4)] → W p l e { frames := 7, cells := T1.1 - T0.1, slots := sg T1 - sg T0, locals := 155 } s m args below meth c H locs (T.1 - T0.1) (sg T - sg T0) Q (F0 m 39 ls [])) : ∀ (T : AT) (ad : Nat → Nat) (H : Heap) (locs : List Loc) (ls : Array Slot) (s0 : Int32) (l0 : Nat) (l1 : Int32) (l2 : Int32) (l3 : Int32) (l4 : Int32), g_X11_path_b71 k39 T s0 l0 l1 l2 l3 l4 = some (0, r1, T1) → GL T0 T → RC T → (∀ n, n < T0.1 → ad n = ad0 n) → l0 < T.1 → gC cI cJ cZ cMic cSrc cSt cAI cAJ D ad A s.heap H locs T → lv_has ls 6 [(0, .ref (ad l0)), (1, .int l1), (2, .int l2), (3, .int l3), (4, .int l4)] → W p l e { frames := 7, cells := T1.1 - T0.1, slots := sg T1 - sg T0, locals := 155 } s m args below meth c H locs (T.1 - T0.1) (sg T - sg T0) Q (F0 m 71 ls [.int s0]) := by
  have hx := E.1
  have hb := E.2.1
  have hts := E.2.2.1
  have hown := E.2.2.2.1
  have hK := E.2.2.2.2
  intro T ad H locs ls s0 l0 l1 l2 l3 l4 h hgl hrc had h_l0 G hl
  have hT1 := s_X11_path_b71 hs39 _ _ _ _ _ _ _ h
  have hcs := cs_ok hgl hT1
  have cp0 := cpr0 hrc
  unfold g_X11_path_b71 at h
  refine lv_istore (lv' := [(5, .int s0), (0, .ref (ad l0)), (1, .int l1), (2, .int l2), (3, .int l3), (4, .int l4)]) hx hb dX11_path_71 hl (by decide) rfl (fun ls hl => ?_)
  refine lv_iload_n hx hb dX11_path_73 rfl (lv_at hl 3 rfl) ?_
  refine lv_iload hx hb dX11_path_74 (lv_at hl 0 rfl) ?_
  refine lv_iload_n hx hb dX11_path_76 rfl (lv_at hl 4 rfl) ?_
  refine lv_icmp_ne (tgt := 84) hx hb dX11_path_77 (by decide) (fun c2 => ?_) (fun c2 => ?_)
  · have h := oif_neg c2 h
    refine lv_iconst (v := 1) hx hb dX11_path_84 (by decide) ?_
    have hl := lv_sub hl [1, 2, 5, 0] rfl
    refine w_cast (c2 := T.1 - T0.1) (s2 := sg T - sg T0) (by rw [cp0.1] <;> rfl) (by rw [sg_cpr cp0] <;> rfl) ?_
    exact a_X11_path_b85 E hA hX hN hml hst kr104 hs39 hk39 _ _ _ _ _ _ _ _ _ _ _ h (gl_cpr hgl cp0) cp0.2.2 had (by rw [cp0.1]; exact h_l0) G hl
  · have h := oif_pos c2 h
    refine lv_iconst (v := 0) hx hb dX11_path_80 (by decide) ?_
    refine lv_goto (tgt := 85) hx hb dX11_path_81 (by decide) ?_
    have hl := lv_sub hl [1, 2, 5, 0] rfl
    refine w_cast (c2 := T.1 - T0.1) (s2 := sg T - sg T0) (by rw [cp0.1] <;> rfl) (by rw [sg_cpr cp0] <;> rfl) ?_
    exact a_X11_path_b85 E hA hX hN hml hst kr104 hs39 hk39 _ _ _ _ _ _ _ _ _ _ _ h (gl_cpr hgl cp0) cp0.2.2 had (by rw [cp0.1]; exact h_l0) G hl
set_option maxHeartbeats 4000000 in
set_option maxRecDepth 100000 in
theorem a_X11_path_b39 {p : Program} {l : Launch} {e : Env} {s : State} {m : MethodId} {args : Array Value} {below : List Frame} {meth : Method} {c : Code} {Q : State → Prop} {D : va_G} {A : Nat → Prop} {cI cJ cZ cMic cSrc cSt cAI cAJ : ClassId} {ad0 : Nat → Nat} {T0 : AT} {r1 : Int32} {T1 : AT} (E : cE p c cX11_path s m args (Cond.code yX11_path cX11_path 6 (some .int) :: wsA) D RX11 (CT cI cJ cZ cMic cSrc cSt cAI cAJ)) (hA : ∀ q : Nat, s.heap.size ≤ q → A q) (hX : xT A s) (hN : nX s) (hml : c.maxLocals = 6) (hst : l.stackTraces = false) (kr104 : ∀ (ad : Nat → Nat) (H : Heap) (locs : List Loc) (ls : Array Slot), (∀ n, n < T0.1 → ad n = ad0 n) → gC cI cJ cZ cMic cSrc cSt cAI cAJ D ad A s.heap H locs T1 → W p l e { frames := 7, cells := T1.1 - T0.1, slots := sg T1 - sg T0, locals := 155 } s m args below meth c H locs (T1.1 - T0.1) (sg T1 - sg T0) Q (F0 m 104 ls [.int r1])) : ∀ n : Nat, ∀ (T : AT) (ad : Nat → Nat) (H : Heap) (locs : List Loc) (ls : Array Slot) (l0 : Nat) (l1 : Int32) (l2 : Int32) (l3 : Int32) (l4 : Int32), g_X11_path_b39 n T l0 l1 l2 l3 l4 = some (0, r1, T1) → GL T0 T → RC T → (∀ n, n < T0.1 → ad n = ad0 n) → l0 < T.1 → gC cI cJ cZ cMic cSrc cSt cAI cAJ D ad A s.heap H locs T → lv_has ls 6 [(0, .ref (ad l0)), (1, .int l1), (2, .int l2), (3, .int l3), (4, .int l4)] → W p l e { frames := 7, cells := T1.1 - T0.1, slots := sg T1 - sg T0, locals := 155 } s m args below meth c H locs (T.1 - T0.1) (sg T - sg T0) Q (F0 m 39 ls []) := by
  have hx := E.1
  have hb := E.2.1
  have hts := E.2.2.1
  have hown := E.2.2.2.1
  have hK := E.2.2.2.2
  intro n
  induction n with
  | zero =>
    intro T ad H locs ls l0 l1 l2 l3 l4 h
    have h : (none : Option (Nat × Int32 × AT)) = some (0, r1, T1) := h
    cases h
  | succ n ih =>
    intro T ad H locs ls l0 l1 l2 l3 l4 h hgl hrc had h_l0 G hl
    have hT1 := s_X11_path_b39 _ _ _ _ _ _ _ h
    have hcs := cs_ok hgl hT1
    have cp0 := cpr0 hrc
    unfold g_X11_path_b39 at h
    refine lv_iload hx hb dX11_path_39 (lv_at hl 4 rfl) ?_
    refine lv_iload_n hx hb dX11_path_41 rfl (lv_at hl 1 rfl) ?_
    refine lv_iadd hx hb dX11_path_42 ?_
    refine lv_topi (fun v2 ev2 => ?_)
    have h := elet_at ev2 h
    clear ev2
    refine lv_aload_n hx hb dX11_path_43 rfl (lv_at hl 0 rfl) ?_
    obtain ⟨g3, h⟩ := oif_some h
    obtain ⟨n4, en4, h⟩ := obind_some h
    have h_n4 : n4 < T.1 := by rw [← cp0.1]; exact cp0.2.2 _ _ _ en4
    refine c_get E G l0 14 (v := .ref (ad n4)) (oO_k g3).1 (cc_o11 (oO_k g3).2) rfl (fun w h => .tail _ (iA_23 h)) (by decide) (.tail _ qA_675) rfl (by rw [en4]; rfl) dX11_path_44 ?_
    clear en4
    obtain ⟨g5, h⟩ := oif_some h
    refine c_get E G n4 2 (oO_k g5).1 (cc_o6 (oO_k g5).2) rfl (fun w h => .tail _ (iA_14 h)) (by decide) (.tail _ qA_761) rfl rfl dX11_path_47 ?_
    refine lv_topi (fun v6 ev6 => ?_)
    have h := elet_at ev6 h
    clear ev6
    refine lv_icmp_gt (tgt := 103) hx hb dX11_path_50 (by decide) (fun c7 => ?_) (fun c7 => ?_)
    · have h := oif_pos c7 h
      refine lv_iload_n hx hb dX11_path_103 rfl (lv_at hl 2 rfl) ?_
      rw [(osome3 h).2.2] at G
      refine w_cast (c2 := T1.1 - T0.1) (s2 := sg T1 - sg T0) (by rw [← (osome3 h).2.2, cp0.1] <;> rfl) (by rw [← (osome3 h).2.2, sg_cpr cp0] <;> rfl) ?_
      refine lv_to ((osome3 h).2.1) ?_
      exact kr104 ad _ _ _ had G
    · have h := oif_neg c7 h
      refine lv_aload_n hx hb dX11_path_53 rfl (lv_at hl 0 rfl) ?_
      obtain ⟨g8, h⟩ := oif_some h
      obtain ⟨n9, en9, h⟩ := obind_some h
      have h_n9 : n9 < T.1 := by rw [← cp0.1]; exact cp0.2.2 _ _ _ en9
      refine c_get E G l0 3 (v := .ref (ad n9)) (oO_k g8).1 (cc_o11 (oO_k g8).2) rfl (fun w h => .tail _ (iA_23 h)) (by decide) (.tail _ qA_657) rfl (by rw [en9]; rfl) dX11_path_54 ?_
      clear en9
      refine lv_aload_n hx hb dX11_path_57 rfl (lv_at hl 0 rfl) ?_
      obtain ⟨g10, h⟩ := oif_some h
      obtain ⟨n11, en11, h⟩ := obind_some h
      have h_n11 : n11 < T.1 := by rw [← cp0.1]; exact cp0.2.2 _ _ _ en11
      refine c_get E G l0 14 (v := .ref (ad n11)) (oO_k g10).1 (cc_o11 (oO_k g10).2) rfl (fun w h => .tail _ (iA_23 h)) (by decide) (.tail _ qA_675) rfl (by rw [en11]; rfl) dX11_path_58 ?_
      clear en11
      refine lv_aload_n hx hb dX11_path_61 rfl (lv_at hl 0 rfl) ?_
      obtain ⟨g12, h⟩ := oif_some h
      obtain ⟨n13, en13, h⟩ := obind_some h
      have h_n13 : n13 < T.1 := by rw [← cp0.1]; exact cp0.2.2 _ _ _ en13
      refine c_get E G l0 6 (v := .ref (ad n13)) (oO_k g12).1 (cc_o11 (oO_k g12).2) rfl (fun w h => .tail _ (iA_23 h)) (by decide) (.tail _ qA_664) rfl (by rw [en13]; rfl) dX11_path_62 ?_
      clear en13
      refine lv_iload hx hb dX11_path_65 (lv_at hl 4 rfl) ?_
      refine lv_iload_n hx hb dX11_path_67 rfl (lv_at hl 1 rfl) ?_
      obtain ⟨g14, h⟩ := oif_some h
      obtain ⟨r16, T15, eT15, h⟩ := obind2_some h
      have hg2 := s_X0_bestOf eT15
      have hrc2 := hg2.2.2 cp0.2.2
      have hT2 := s_X11_path_b71 (s_X11_path_b39 n) _ _ _ _ _ _ _ h
      refine q_avi (As := [.ref (ad n11), .ref (ad n13), .int l4, .int l1]) (rest := []) E G hA hX hN hml (a_X0_bestOf l hst D cI cJ cZ cMic cSrc cSt cAI cAJ ad T n9 n11 n13 l4 l1 eT15 cp0.2.2 (by rw [cp0.1]; exact h_n9) (by rw [cp0.1]; exact h_n11) (by rw [cp0.1]; exact h_n13)) (cwV 4 hts (gaV qA_859 qA_860 qA_861 qA_31 qA_21) rfl rfl rfl (by decide +kernel) ⟨Nat.le_of_ble_eq_true rfl, Nat.le_of_ble_eq_true rfl⟩) (oO_k g14).1 (cc_o0 (oO_k g14).2) rfl rfl hl.1 rfl (lv_room (Nat.le_of_ble_eq_true rfl)) dX11_path_68 (cs_av hgl cp0 hg2 hT2) (fun ad2 H locs hga G => ?_)
      refine w_cast (c2 := T15.1 - T0.1) (s2 := sg T15 - sg T0) (cs_f1 hgl cp0 hg2) (cs_f2 hgl cp0 hg2) ?_
      have hl := lv_sub hl [0, 1, 2, 3, 4] rfl
      rw [show ad l0 = ad2 l0 from (hga l0 (by rw [cp0.1]; exact h_l0)).symm] at hl
      exact a_X11_path_b71 E hA hX hN hml hst kr104 (s_X11_path_b39 n) ih _ _ _ _ _ _ _ _ _ _ _ h (GL.tr (gl_cpr hgl cp0) hg2) hrc2 (fun n hn => (hga n (by rw [cp0.1]; exact Nat.lt_of_lt_of_le hn hgl.1)).trans (had n hn)) (Nat.lt_of_lt_of_le (by rw [cp0.1]; exact h_l0) hg2.1) G hl
set_option maxHeartbeats 4000000 in
set_option maxRecDepth 100000 in
theorem a_X11_path_b35 {p : Program} {l : Launch} {e : Env} {s : State} {m : MethodId} {args : Array Value} {below : List Frame} {meth : Method} {c : Code} {Q : State → Prop} {D : va_G} {A : Nat → Prop} {cI cJ cZ cMic cSrc cSt cAI cAJ : ClassId} {ad0 : Nat → Nat} {T0 : AT} {r1 : Int32} {T1 : AT} (E : cE p c cX11_path s m args (Cond.code yX11_path cX11_path 6 (some .int) :: wsA) D RX11 (CT cI cJ cZ cMic cSrc cSt cAI cAJ)) (hA : ∀ q : Nat, s.heap.size ≤ q → A q) (hX : xT A s) (hN : nX s) (hml : c.maxLocals = 6) (hst : l.stackTraces = false) (kr104 : ∀ (ad : Nat → Nat) (H : Heap) (locs : List Loc) (ls : Array Slot), (∀ n, n < T0.1 → ad n = ad0 n) → gC cI cJ cZ cMic cSrc cSt cAI cAJ D ad A s.heap H locs T1 → W p l e { frames := 7, cells := T1.1 - T0.1, slots := sg T1 - sg T0, locals := 155 } s m args below meth c H locs (T1.1 - T0.1) (sg T1 - sg T0) Q (F0 m 104 ls [.int r1])) : ∀ (T : AT) (ad : Nat → Nat) (H : Heap) (locs : List Loc) (ls : Array Slot) (s0 : Int32) (l0 : Nat) (l1 : Int32) (l2 : Int32), g_X11_path_b35 T s0 l0 l1 l2 = some (0, r1, T1) → GL T0 T → RC T → (∀ n, n < T0.1 → ad n = ad0 n) → l0 < T.1 → gC cI cJ cZ cMic cSrc cSt cAI cAJ D ad A s.heap H locs T → lv_has ls 6 [(0, .ref (ad l0)), (1, .int l1), (2, .int l2)] → W p l e { frames := 7, cells := T1.1 - T0.1, slots := sg T1 - sg T0, locals := 155 } s m args below meth c H locs (T.1 - T0.1) (sg T - sg T0) Q (F0 m 35 ls [.int s0]) := by
  have hx := E.1
  have hb := E.2.1
  have hts := E.2.2.1
  have hown := E.2.2.2.1
  have hK := E.2.2.2.2
  intro T ad H locs ls s0 l0 l1 l2 h hgl hrc had h_l0 G hl
  have hT1 := s_X11_path_b35 _ _ _ _ _ h
  have hcs := cs_ok hgl hT1
  have cp0 := cpr0 hrc
  unfold g_X11_path_b35 at h
  refine lv_istore_n (lv' := [(3, .int s0), (0, .ref (ad l0)), (1, .int l1), (2, .int l2)]) hx hb dX11_path_35 rfl hl (by decide) rfl (fun ls hl => ?_)
  refine lv_iload_n hx hb dX11_path_36 rfl (lv_at hl 2 rfl) ?_
  refine lv_istore (lv' := [(4, .int l1), (3, .int s0), (0, .ref (ad l0)), (1, .int l1), (2, .int l2)]) hx hb dX11_path_37 hl (by decide) rfl (fun ls hl => ?_)
  have hl := lv_sub hl [2, 3, 4, 1, 0] rfl
  refine w_cast (c2 := T.1 - T0.1) (s2 := sg T - sg T0) (by rw [cp0.1] <;> rfl) (by rw [sg_cpr cp0] <;> rfl) ?_
  exact a_X11_path_b39 E hA hX hN hml hst kr104 _ _ _ _ _ _ _ _ _ _ _ h (gl_cpr hgl cp0) cp0.2.2 had (by rw [cp0.1]; exact h_l0) G hl
set_option maxHeartbeats 4000000 in
set_option maxRecDepth 100000 in
theorem a_X11_path (l : Launch) (hst : l.stackTraces = false) (D : va_G) (cI cJ cZ cMic cSrc cSt cAI cAJ : ClassId) (ad : Nat → Nat) (T : AT) (o : Nat) (a0 : Int32) {r1 : Int32} {T1 : AT} (h : g_X11_path T o a0 = some (0, r1, T1)) (hrc : RC T) (h_o : o < T.1) : kAi l yX11_path (Cond.code yX11_path cX11_path 6 (some .int) :: wsA) 7 155 cI cJ cZ cMic cSrc cSt cAI cAJ D ad T [.ref (ad o), .int a0] r1 T1 := by
  intro sz
  refine Met.ofW (cc := cX11_path) (maxL := 6) (ret := (some .int)) (by decide) rfl ?_
  intro p e s m args below meth c s₁ B hml hv
  obtain ⟨rfl, hsz, hP, hK, hD0, hX, hN⟩ := hv
  have hx := B.exec
  have hb := B.bytes
  have hr := B.returns
  have hts := atoms_spec (ws := (Cond.code yX11_path cX11_path 6 (some .int) :: wsA)) B.pre
  have hown : s.vm.findClass RX11 = some m.cls := findClass_of_methodNamed B.named
  have hlocks := B.notSynchronized
  subst hsz
  have hD := hD0.self (sz := s.heap.size)
  generalize hAe : va_A (cW ad T.1 (cc cI cJ cZ cMic cSrc cSt cAI cAJ ad T)) s.heap.size = A at hD hX ⊢
  have hA : ∀ q : Nat, s.heap.size ≤ q → A q := fun q h => by rw [← hAe]; exact Or.inr h
  have G : gC cI cJ cZ cMic cSrc cSt cAI cAJ D ad A s.heap s.heap [] T := ⟨hP, hD, va_S.rf⟩
  have E : cE p c cX11_path s m ([.ref (ad o), .int a0] : List Value).toArray (Cond.code yX11_path cX11_path 6 (some .int) :: wsA) D RX11 (CT cI cJ cZ cMic cSrc cSt cAI cAJ) := ⟨hx, hb, hts, hown, hK⟩
  have hl := lv_entry ([.ref (ad o), .int a0]) (n := 6) (Nat.le_of_ble_eq_true rfl)
  rw [lg_entry_eq]
  generalize (lg_sl ([.ref (ad o), .int a0]) ++ List.replicate (6 - (lg_sl ([.ref (ad o), .int a0])).length) Slot.unset).toArray = ls at hl ⊢
  have hl : lv_has ls 6 [(0, .ref (ad o)), (1, .int a0)] := hl
  have hgl := GL.rf T
  have had : ∀ n, n < T.1 → ad n = ad n := fun _ _ => rfl
  have hT1 := s_X11_path h
  have hcs := cs_ok hgl hT1
  refine w_cast (Nat.sub_self T.1).symm (Nat.sub_self (sg T)).symm ?_
  have cp0 := cpr0 hrc
  unfold g_X11_path at h
  refine lv_aload_n hx hb dX11_path_0 rfl (lv_at hl 0 rfl) ?_
  obtain ⟨g2, h⟩ := oif_some h
  obtain ⟨r5, T3, eT3, h⟩ := othr_n h
  refine q_cvv (As := []) (rest := []) E G hA hX hN hml (u_X11_needCamera l hst D cI cJ cZ cMic cSrc cSt cAI cAJ ad T o eT3) (cwV 0 hts (gaV qA_728 qA_729 qA_730 qA_131 qA_731) rfl rfl rfl (by decide +kernel) ⟨Nat.le_of_ble_eq_true rfl, Nat.le_of_ble_eq_true rfl⟩) (oO_k g2).1 (cc_o11 (oO_k g2).2) rfl rfl hl.1 rfl (lv_room (Nat.le_of_ble_eq_true rfl)) dX11_path_1 hcs (fun T4 H locs hq G => ?_)
  rw [hq] at G
  clear hq
  have cp1 := cpr_sp cp0 (s_X11_needCamera eT3)
  refine lv_iload_n hx hb dX11_path_4 rfl (lv_at hl 1 rfl) ?_
  refine lv_iconst (v := 4) hx hb dX11_path_5 (by decide) ?_
  refine lv_aload_n hx hb dX11_path_6 rfl (lv_at hl 0 rfl) ?_
  obtain ⟨g7, h⟩ := oif_some h
  obtain ⟨n8, en8, h⟩ := obind_some h
  have h_n8 : n8 < T.1 := by rw [← cp1.1]; exact cp1.2.2 _ _ _ en8
  refine c_get E G o 14 (v := .ref (ad n8)) (oO_k g7).1 (cc_o11 (oO_k g7).2) rfl (fun w h => .tail _ (iA_23 h)) (by decide) (.tail _ qA_675) rfl (by rw [en8]; rfl) dX11_path_7 ?_
  clear en8
  obtain ⟨g9, h⟩ := oif_some h
  refine c_get E G n8 2 (oO_k g9).1 (cc_o6 (oO_k g9).2) rfl (fun w h => .tail _ (iA_14 h)) (by decide) (.tail _ qA_761) rfl rfl dX11_path_10 ?_
  refine lv_topi (fun v10 ev10 => ?_)
  have h := elet_at ev10 h
  clear ev10
  obtain ⟨r13, T11, eT11, h⟩ := othr_n h
  refine q_csv (As := [.int a0, .int 4, .int v10]) (rest := []) E G hA hX hN hml (u_X11_needRange l hst D cI cJ cZ cMic cSrc cSt cAI cAJ ad T3 a0 (4 : Int32) v10 eT11) (cwS 3 hts (gaS qA_741 qA_742 qA_131 qA_743) rfl rfl rfl (by decide +kernel) ⟨Nat.le_of_ble_eq_true rfl, Nat.le_of_ble_eq_true rfl⟩) rfl hl.1 rfl (lv_room (Nat.le_of_ble_eq_true rfl)) dX11_path_13 hcs (fun T12 H locs hq G => ?_)
  rw [hq] at G
  clear hq
  have cp2 := cpr_sp cp1 (s_X11_needRange eT11)
  refine lv_iconst (v := 0) hx hb dX11_path_16 (by decide) ?_
  refine lv_istore_n (lv' := [(2, .int 0), (0, .ref (ad o)), (1, .int a0)]) hx hb dX11_path_17 rfl hl (by decide) rfl (fun ls hl => ?_)
  refine lv_aload_n hx hb dX11_path_18 rfl (lv_at hl 1 rfl) ?_
  obtain ⟨g15, h⟩ := oif_some h
  obtain ⟨n16, en16, h⟩ := obind_some h
  have h_n16 : n16 < T.1 := by rw [← cp2.1]; exact cp2.2.2 _ _ _ en16
  refine c_get E G o 3 (v := .ref (ad n16)) (oO_k g15).1 (cc_o11 (oO_k g15).2) rfl (fun w h => .tail _ (iA_23 h)) (by decide) (.tail _ qA_657) rfl (by rw [en16]; rfl) dX11_path_19 ?_
  clear en16
  refine lv_aload_n hx hb dX11_path_22 rfl (lv_at hl 1 rfl) ?_
  obtain ⟨g17, h⟩ := oif_some h
  obtain ⟨n18, en18, h⟩ := obind_some h
  have h_n18 : n18 < T.1 := by rw [← cp2.1]; exact cp2.2.2 _ _ _ en18
  refine c_get E G o 14 (v := .ref (ad n18)) (oO_k g17).1 (cc_o11 (oO_k g17).2) rfl (fun w h => .tail _ (iA_23 h)) (by decide) (.tail _ qA_675) rfl (by rw [en18]; rfl) dX11_path_23 ?_
  clear en18
  refine lv_aload_n hx hb dX11_path_26 rfl (lv_at hl 1 rfl) ?_
  obtain ⟨g19, h⟩ := oif_some h
  obtain ⟨n20, en20, h⟩ := obind_some h
  have h_n20 : n20 < T.1 := by rw [← cp2.1]; exact cp2.2.2 _ _ _ en20
  refine c_get E G o 6 (v := .ref (ad n20)) (oO_k g19).1 (cc_o11 (oO_k g19).2) rfl (fun w h => .tail _ (iA_23 h)) (by decide) (.tail _ qA_664) rfl (by rw [en20]; rfl) dX11_path_27 ?_
  clear en20
  refine lv_iconst (v := 0) hx hb dX11_path_30 (by decide) ?_
  refine lv_iload_n hx hb dX11_path_31 rfl (lv_at hl 2 rfl) ?_
  obtain ⟨g21, h⟩ := oif_some h
  obtain ⟨r23, T22, eT22, h⟩ := obind2_some h
  have hg2 := s_X0_bestOf eT22
  have hrc2 := hg2.2.2 cp2.2.2
  have hT2 := s_X11_path_b35 _ _ _ _ _ h
  refine q_avi (As := [.ref (ad n18), .ref (ad n20), .int 0, .int a0]) (rest := []) E G hA hX hN hml (a_X0_bestOf l hst D cI cJ cZ cMic cSrc cSt cAI cAJ ad T11 n16 n18 n20 (0 : Int32) a0 eT22 cp2.2.2 (by rw [cp2.1]; exact h_n16) (by rw [cp2.1]; exact h_n18) (by rw [cp2.1]; exact h_n20)) (cwV 4 hts (gaV qA_859 qA_860 qA_861 qA_31 qA_21) rfl rfl rfl (by decide +kernel) ⟨Nat.le_of_ble_eq_true rfl, Nat.le_of_ble_eq_true rfl⟩) (oO_k g21).1 (cc_o0 (oO_k g21).2) rfl rfl hl.1 rfl (lv_room (Nat.le_of_ble_eq_true rfl)) dX11_path_32 (cs_av hgl cp2 hg2 hT2) (fun ad2 H locs hga G => ?_)
  refine w_cast (c2 := T22.1 - T.1) (s2 := sg T22 - sg T) (cs_f1 hgl cp2 hg2) (cs_f2 hgl cp2 hg2) ?_
  have hl := lv_sub hl [1, 2, 0] rfl
  rw [show ad o = ad2 o from (hga o (by rw [cp2.1]; exact h_o)).symm] at hl
  exact a_X11_path_b35 E hA hX hN hml hst (fun ad H locs ls had G => W.iret (v := r1) hx hb hr (fun t ht hW => ⟨⟨r1, (T1, ad), rfl, ⟨rfl, rfl, had⟩, ⟨by rw [ht]; exact G.1, va_K.moved hW.alike hK, G.2.1⟩⟩, G.2.2.F ht⟩) G.2.2.2.2 dX11_path_104) _ _ _ _ _ _ _ _ _ h (GL.tr (gl_cpr hgl cp2) hg2) hrc2 (fun n hn => (hga n (by rw [cp2.1]; exact Nat.lt_of_lt_of_le hn hgl.1)).trans (had n hn)) (Nat.lt_of_lt_of_le (by rw [cp2.1]; exact h_o) hg2.1) G hl
set_option maxHeartbeats 4000000 in
set_option maxRecDepth 100000 in
theorem b_X11_path_b85 {p : Program} {l : Launch} {e : Env} {s : State} {m : MethodId} {args : Array Value} {below : List Frame} {meth : Method} {c : Code} {Qc : Array Value → State → Outcome → State → Prop} {XC : String → State → State → Prop} {D : va_G} {A : Nat → Prop} {cI cJ cZ cMic cSrc cSt cAI cAJ : ClassId} {ad0 : Nat → Nat} {T0 : AT} {e1 : Nat} {r1 : Int32} {T1 : AT} (E : cE p c cX11_path s m args (Cond.code yX11_path cX11_path 6 (some .int) :: wsA) D RX11 (CT cI cJ cZ cMic cSrc cSt cAI cAJ)) (hA : ∀ q : Nat, s.heap.size ≤ q → A q) (hX : xT A s) (hN : nX s) (hml : c.maxLocals = 6) (hst : l.stackTraces = false) (htab : ∀ x ∈ c.exceptionTable.toList, False) (hlocks : meth.locks = false) (kx : ∀ (ad : Nat → Nat) (H : Heap) (locs : List Loc) (t : State), (∀ n, n < T0.1 → ad n = ad0 n) → gC cI cJ cZ cMic cSrc cSt cAI cAJ D ad A s.heap H locs T1 → s.vm.Alike t.vm → H.size ≤ t.heap.size → (∀ q, q < H.size → t.heap[q]? = H[q]?) → XC (exn e1) s t) {k39 : AT → Nat → Int32 → Int32 → Int32 → Int32 → Option (Nat × Int32 × AT)} (hs39 : ∀ (T : AT) (l0 : Nat) (l1 : Int32) (l2 : Int32) (l3 : Int32) (l4 : Int32), k39 T l0 l1 l2 l3 l4 = some (e1 + 1, r1, T1) → GL T T1) (hk39 : ∀ (T : AT) (ad : Nat → Nat) (H : Heap) (locs : List Loc) (ls : Array Slot) (l0 : Nat) (l1 : Int32) (l2 : Int32) (l3 : Int32) (l4 : Int32), k39 T l0 l1 l2 l3 l4 = some (e1 + 1, r1, T1) → GL T0 T → RC T → (∀ n, n < T0.1 → ad n = ad0 n) → l0 < T.1 → gC cI cJ cZ cMic cSrc cSt cAI cAJ D ad A s.heap H locs T → lv_has ls 6 [(0, .ref (ad l0)), (1, .int l1), (2, .int l2), (3, .int l3), (4, .int l4)] → W p l e { frames := 7, cells := T1.1 - T0.1 + 1, slots := sg T1 - sg T0 + 6, locals := 155 } s m args below meth c H locs (T.1 - T0.1) (sg T - sg T0) (vx_MQ below Qc XC args s (T1.1 - T0.1 + 1) (sg T1 - sg T0 + 6) A) (F0 m 39 ls [])) : ∀ (T : AT) (ad : Nat → Nat) (H : Heap) (locs : List Loc) (ls : Array Slot) (s0 : Int32) (s1 : Int32) (l0 : Nat) (l1 : Int32) (l4 : Int32) (l5 : Int32), g_X11_path_b85 k39 T s0 s1 l0 l1 l4 l5 = some (e1 + 1, r1, T1) → GL T0 T → RC T → (∀ n, n < T0.1 → ad n = ad0 n) → l0 < T.1 → gC cI cJ cZ cMic cSrc cSt cAI cAJ D ad A s.heap H locs T → lv_has ls 6 [(0, .ref (ad l0)), (1, .int l1), (4, .int l4), (5, .int l5)] → W p l e { frames := 7, cells := T1.1 - T0.1 + 1, slots := sg T1 - sg T0 + 6, locals := 155 } s m args below meth c H locs (T.1 - T0.1) (sg T - sg T0) (vx_MQ below Qc XC args s (T1.1 - T0.1 + 1) (sg T1 - sg T0 + 6) A) (F0 m 85 ls [.int s0, .int s1]) := by
  have hx := E.1
  have hb := E.2.1
  have hts := E.2.2.1
  have hown := E.2.2.2.1
  have hK := E.2.2.2.2
  intro T ad H locs ls s0 s1 l0 l1 l4 l5 h hgl hrc had h_l0 G hl
  have hT1 := s_X11_path_b85 hs39 _ _ _ _ _ _ _ h
  have hcs := cs_okx hgl hT1
  have hcx := cs_okx1 hgl hT1
  have cp0 := cpr0 hrc
  unfold g_X11_path_b85 at h
  refine lv_iadd hx hb dX11_path_85 ?_
  refine lv_topi (fun v2 ev2 => ?_)
  have h := elet_at ev2 h
  clear ev2
  refine lv_istore_n (lv' := [(2, .int v2), (0, .ref (ad l0)), (1, .int l1), (4, .int l4), (5, .int l5)]) hx hb dX11_path_86 rfl hl (by decide) rfl (fun ls hl => ?_)
  refine lv_iload hx hb dX11_path_87 (lv_at hl 4 rfl) ?_
  refine lv_istore_n (lv' := [(3, .int l5), (2, .int v2), (0, .ref (ad l0)), (1, .int l1), (4, .int l4), (5, .int l5)]) hx hb dX11_path_89 rfl hl (by decide) rfl (fun ls hl => ?_)
  refine lv_iload hx hb dX11_path_90 (lv_at hl 4 rfl) ?_
  refine lv_iload_n hx hb dX11_path_92 rfl (lv_at hl 3 rfl) ?_
  refine lv_iconst (v := 1) hx hb dX11_path_93 (by decide) ?_
  refine va_mmax hx hb (hml.trans hl.1.symm) hown (hts _ (.tail _ qA_845)) (hts _ (.tail _ qA_17)) (hts _ (.tail _ qA_18)) (hts _ (.tail _ qA_19)) (Nat.le_of_ble_eq_true rfl) (Nat.le_of_ble_eq_true rfl) hcs.1 hcs.2 dX11_path_94 ?_
  refine lv_topi (fun v3 ev3 => ?_)
  have h := elet_at ev3 h
  clear ev3
  refine lv_iadd hx hb dX11_path_97 ?_
  refine lv_topi (fun v4 ev4 => ?_)
  have h := elet_at ev4 h
  clear ev4
  refine lv_istore (lv' := [(4, .int v4), (3, .int l5), (2, .int v2), (0, .ref (ad l0)), (1, .int l1), (5, .int l5)]) hx hb dX11_path_98 hl (by decide) rfl (fun ls hl => ?_)
  refine lv_goto (tgt := 39) hx hb dX11_path_100 (by decide) ?_
  have hl := lv_sub hl [3, 4, 2, 1, 0] rfl
  refine w_cast (c2 := T.1 - T0.1) (s2 := sg T - sg T0) (by rw [cp0.1] <;> rfl) (by rw [sg_cpr cp0] <;> rfl) ?_
  exact hk39 _ _ _ _ _ _ _ _ _ _ h (gl_cpr hgl cp0) cp0.2.2 had (by rw [cp0.1]; exact h_l0) G hl
set_option maxHeartbeats 4000000 in
set_option maxRecDepth 100000 in
theorem b_X11_path_b71 {p : Program} {l : Launch} {e : Env} {s : State} {m : MethodId} {args : Array Value} {below : List Frame} {meth : Method} {c : Code} {Qc : Array Value → State → Outcome → State → Prop} {XC : String → State → State → Prop} {D : va_G} {A : Nat → Prop} {cI cJ cZ cMic cSrc cSt cAI cAJ : ClassId} {ad0 : Nat → Nat} {T0 : AT} {e1 : Nat} {r1 : Int32} {T1 : AT} (E : cE p c cX11_path s m args (Cond.code yX11_path cX11_path 6 (some .int) :: wsA) D RX11 (CT cI cJ cZ cMic cSrc cSt cAI cAJ)) (hA : ∀ q : Nat, s.heap.size ≤ q → A q) (hX : xT A s) (hN : nX s) (hml : c.maxLocals = 6) (hst : l.stackTraces = false) (htab : ∀ x ∈ c.exceptionTable.toList, False) (hlocks : meth.locks = false) (kx : ∀ (ad : Nat → Nat) (H : Heap) (locs : List Loc) (t : State), (∀ n, n < T0.1 → ad n = ad0 n) → gC cI cJ cZ cMic cSrc cSt cAI cAJ D ad A s.heap H locs T1 → s.vm.Alike t.vm → H.size ≤ t.heap.size → (∀ q, q < H.size → t.heap[q]? = H[q]?) → XC (exn e1) s t) {k39 : AT → Nat → Int32 → Int32 → Int32 → Int32 → Option (Nat × Int32 × AT)} (hs39 : ∀ (T : AT) (l0 : Nat) (l1 : Int32) (l2 : Int32) (l3 : Int32) (l4 : Int32), k39 T l0 l1 l2 l3 l4 = some (e1 + 1, r1, T1) → GL T T1) (hk39 : ∀ (T : AT) (ad : Nat → Nat) (H : Heap) (locs : List Loc) (ls : Array Slot) (l0 : Nat) (l1 : Int32) (l2 : Int32) (l3 : Int32) (l4 : Int32), k39 T l0 l1 l2 l3 l4 = some (e1 + 1, r1, T1) → GL T0 T → RC T → (∀ n, n < T0.1 → ad n = ad0 n) → l0 < T.1 → gC cI cJ cZ cMic cSrc cSt cAI cAJ D ad A s.heap H locs T → lv_has ls 6 [(0, .ref (ad l0)), (1, .int l1), (2, .int l2), (3, .int l3), (4, .int l4)] → W p l e { frames := 7, cells := T1.1 - T0.1 + 1, slots := sg T1 - sg T0 + 6, locals := 155 } s m args below meth c H locs (T.1 - T0.1) (sg T - sg T0) (vx_MQ below Qc XC args s (T1.1 - T0.1 + 1) (sg T1 - sg T0 + 6) A) (F0 m 39 ls [])) : ∀ (T : AT) (ad : Nat → Nat) (H : Heap) (locs : List Loc) (ls : Array Slot) (s0 : Int32) (l0 : Nat) (l1 : Int32) (l2 : Int32) (l3 : Int32) (l4 : Int32), g_X11_path_b71 k39 T s0 l0 l1 l2 l3 l4 = some (e1 + 1, r1, T1) → GL T0 T → RC T → (∀ n, n < T0.1 → ad n = ad0 n) → l0 < T.1 → gC cI cJ cZ cMic cSrc cSt cAI cAJ D ad A s.heap H locs T → lv_has ls 6 [(0, .ref (ad l0)), (1, .int l1), (2, .int l2), (3, .int l3), (4, .int l4)] → W p l e { frames := 7, cells := T1.1 - T0.1 + 1, slots := sg T1 - sg T0 + 6, locals := 155 } s m args below meth c H locs (T.1 - T0.1) (sg T - sg T0) (vx_MQ below Qc XC args s (T1.1 - T0.1 + 1) (sg T1 - sg T0 + 6) A) (F0 m 71 ls [.int s0]) := by
  have hx := E.1
  have hb := E.2.1
  have hts := E.2.2.1
  have hown := E.2.2.2.1
  have hK := E.2.2.2.2
  intro T ad H locs ls s0 l0 l1 l2 l3 l4 h hgl hrc had h_l0 G hl
  have hT1 := s_X11_path_b71 hs39 _ _ _ _ _ _ _ h
  have hcs := cs_okx hgl hT1
  have hcx := cs_okx1 hgl hT1
  have cp0 := cpr0 hrc
  unfold g_X11_path_b71 at h
  refine lv_istore (lv' := [(5, .int s0), (0, .ref (ad l0)), (1, .int l1), (2, .int l2), (3, .int l3), (4, .int l4)]) hx hb dX11_path_71 hl (by decide) rfl (fun ls hl => ?_)
  refine lv_iload_n hx hb dX11_path_73 rfl (lv_at hl 3 rfl) ?_
  refine lv_iload hx hb dX11_path_74 (lv_at hl 0 rfl) ?_
  refine lv_iload_n hx hb dX11_path_76 rfl (lv_at hl 4 rfl) ?_
  refine lv_icmp_ne (tgt := 84) hx hb dX11_path_77 (by decide) (fun c2 => ?_) (fun c2 => ?_)
  · have h := oif_neg c2 h
    refine lv_iconst (v := 1) hx hb dX11_path_84 (by decide) ?_
    have hl := lv_sub hl [1, 2, 5, 0] rfl
    refine w_cast (c2 := T.1 - T0.1) (s2 := sg T - sg T0) (by rw [cp0.1] <;> rfl) (by rw [sg_cpr cp0] <;> rfl) ?_
    exact b_X11_path_b85 E hA hX hN hml hst htab hlocks kx hs39 hk39 _ _ _ _ _ _ _ _ _ _ _ h (gl_cpr hgl cp0) cp0.2.2 had (by rw [cp0.1]; exact h_l0) G hl
  · have h := oif_pos c2 h
    refine lv_iconst (v := 0) hx hb dX11_path_80 (by decide) ?_
    refine lv_goto (tgt := 85) hx hb dX11_path_81 (by decide) ?_
    have hl := lv_sub hl [1, 2, 5, 0] rfl
    refine w_cast (c2 := T.1 - T0.1) (s2 := sg T - sg T0) (by rw [cp0.1] <;> rfl) (by rw [sg_cpr cp0] <;> rfl) ?_
    exact b_X11_path_b85 E hA hX hN hml hst htab hlocks kx hs39 hk39 _ _ _ _ _ _ _ _ _ _ _ h (gl_cpr hgl cp0) cp0.2.2 had (by rw [cp0.1]; exact h_l0) G hl
set_option maxHeartbeats 4000000 in
set_option maxRecDepth 100000 in
theorem b_X11_path_b39 {p : Program} {l : Launch} {e : Env} {s : State} {m : MethodId} {args : Array Value} {below : List Frame} {meth : Method} {c : Code} {Qc : Array Value → State → Outcome → State → Prop} {XC : String → State → State → Prop} {D : va_G} {A : Nat → Prop} {cI cJ cZ cMic cSrc cSt cAI cAJ : ClassId} {ad0 : Nat → Nat} {T0 : AT} {e1 : Nat} {r1 : Int32} {T1 : AT} (E : cE p c cX11_path s m args (Cond.code yX11_path cX11_path 6 (some .int) :: wsA) D RX11 (CT cI cJ cZ cMic cSrc cSt cAI cAJ)) (hA : ∀ q : Nat, s.heap.size ≤ q → A q) (hX : xT A s) (hN : nX s) (hml : c.maxLocals = 6) (hst : l.stackTraces = false) (htab : ∀ x ∈ c.exceptionTable.toList, False) (hlocks : meth.locks = false) (kx : ∀ (ad : Nat → Nat) (H : Heap) (locs : List Loc) (t : State), (∀ n, n < T0.1 → ad n = ad0 n) → gC cI cJ cZ cMic cSrc cSt cAI cAJ D ad A s.heap H locs T1 → s.vm.Alike t.vm → H.size ≤ t.heap.size → (∀ q, q < H.size → t.heap[q]? = H[q]?) → XC (exn e1) s t) : ∀ n : Nat, ∀ (T : AT) (ad : Nat → Nat) (H : Heap) (locs : List Loc) (ls : Array Slot) (l0 : Nat) (l1 : Int32) (l2 : Int32) (l3 : Int32) (l4 : Int32), g_X11_path_b39 n T l0 l1 l2 l3 l4 = some (e1 + 1, r1, T1) → GL T0 T → RC T → (∀ n, n < T0.1 → ad n = ad0 n) → l0 < T.1 → gC cI cJ cZ cMic cSrc cSt cAI cAJ D ad A s.heap H locs T → lv_has ls 6 [(0, .ref (ad l0)), (1, .int l1), (2, .int l2), (3, .int l3), (4, .int l4)] → W p l e { frames := 7, cells := T1.1 - T0.1 + 1, slots := sg T1 - sg T0 + 6, locals := 155 } s m args below meth c H locs (T.1 - T0.1) (sg T - sg T0) (vx_MQ below Qc XC args s (T1.1 - T0.1 + 1) (sg T1 - sg T0 + 6) A) (F0 m 39 ls []) := by
  have hx := E.1
  have hb := E.2.1
  have hts := E.2.2.1
  have hown := E.2.2.2.1
  have hK := E.2.2.2.2
  intro n
  induction n with
  | zero =>
    intro T ad H locs ls l0 l1 l2 l3 l4 h
    have h : (none : Option (Nat × Int32 × AT)) = some (e1 + 1, r1, T1) := h
    cases h
  | succ n ih =>
    intro T ad H locs ls l0 l1 l2 l3 l4 h hgl hrc had h_l0 G hl
    have hT1 := s_X11_path_b39 _ _ _ _ _ _ _ h
    have hcs := cs_okx hgl hT1
    have hcx := cs_okx1 hgl hT1
    have cp0 := cpr0 hrc
    unfold g_X11_path_b39 at h
    refine lv_iload hx hb dX11_path_39 (lv_at hl 4 rfl) ?_
    refine lv_iload_n hx hb dX11_path_41 rfl (lv_at hl 1 rfl) ?_
    refine lv_iadd hx hb dX11_path_42 ?_
    refine lv_topi (fun v2 ev2 => ?_)
    have h := elet_at ev2 h
    clear ev2
    refine lv_aload_n hx hb dX11_path_43 rfl (lv_at hl 0 rfl) ?_
    obtain ⟨g3, h⟩ := oif_some h
    obtain ⟨n4, en4, h⟩ := obind_some h
    have h_n4 : n4 < T.1 := by rw [← cp0.1]; exact cp0.2.2 _ _ _ en4
    refine c_get E G l0 14 (v := .ref (ad n4)) (oO_k g3).1 (cc_o11 (oO_k g3).2) rfl (fun w h => .tail _ (iA_23 h)) (by decide) (.tail _ qA_675) rfl (by rw [en4]; rfl) dX11_path_44 ?_
    clear en4
    obtain ⟨g5, h⟩ := oif_some h
    refine c_get E G n4 2 (oO_k g5).1 (cc_o6 (oO_k g5).2) rfl (fun w h => .tail _ (iA_14 h)) (by decide) (.tail _ qA_761) rfl rfl dX11_path_47 ?_
    refine lv_topi (fun v6 ev6 => ?_)
    have h := elet_at ev6 h
    clear ev6
    refine lv_icmp_gt (tgt := 103) hx hb dX11_path_50 (by decide) (fun c7 => ?_) (fun c7 => ?_)
    · have h := oif_pos c7 h
      refine lv_iload_n hx hb dX11_path_103 rfl (lv_at hl 2 rfl) ?_
      exact (Nat.succ_ne_zero _ (congrArg Prod.fst (Option.some.inj h)).symm).elim
    · have h := oif_neg c7 h
      refine lv_aload_n hx hb dX11_path_53 rfl (lv_at hl 0 rfl) ?_
      obtain ⟨g8, h⟩ := oif_some h
      obtain ⟨n9, en9, h⟩ := obind_some h
      have h_n9 : n9 < T.1 := by rw [← cp0.1]; exact cp0.2.2 _ _ _ en9
      refine c_get E G l0 3 (v := .ref (ad n9)) (oO_k g8).1 (cc_o11 (oO_k g8).2) rfl (fun w h => .tail _ (iA_23 h)) (by decide) (.tail _ qA_657) rfl (by rw [en9]; rfl) dX11_path_54 ?_
      clear en9
      refine lv_aload_n hx hb dX11_path_57 rfl (lv_at hl 0 rfl) ?_
      obtain ⟨g10, h⟩ := oif_some h
      obtain ⟨n11, en11, h⟩ := obind_some h
      have h_n11 : n11 < T.1 := by rw [← cp0.1]; exact cp0.2.2 _ _ _ en11
      refine c_get E G l0 14 (v := .ref (ad n11)) (oO_k g10).1 (cc_o11 (oO_k g10).2) rfl (fun w h => .tail _ (iA_23 h)) (by decide) (.tail _ qA_675) rfl (by rw [en11]; rfl) dX11_path_58 ?_
      clear en11
      refine lv_aload_n hx hb dX11_path_61 rfl (lv_at hl 0 rfl) ?_
      obtain ⟨g12, h⟩ := oif_some h
      obtain ⟨n13, en13, h⟩ := obind_some h
      have h_n13 : n13 < T.1 := by rw [← cp0.1]; exact cp0.2.2 _ _ _ en13
      refine c_get E G l0 6 (v := .ref (ad n13)) (oO_k g12).1 (cc_o11 (oO_k g12).2) rfl (fun w h => .tail _ (iA_23 h)) (by decide) (.tail _ qA_664) rfl (by rw [en13]; rfl) dX11_path_62 ?_
      clear en13
      refine lv_iload hx hb dX11_path_65 (lv_at hl 4 rfl) ?_
      refine lv_iload_n hx hb dX11_path_67 rfl (lv_at hl 1 rfl) ?_
      obtain ⟨g14, h⟩ := oif_some h
      obtain ⟨r16, T15, eT15, h⟩ := obind2_some h
      have hg2 := s_X0_bestOf eT15
      have hrc2 := hg2.2.2 cp0.2.2
      have hT2 := s_X11_path_b71 (s_X11_path_b39 n) _ _ _ _ _ _ _ h
      refine q_avi (As := [.ref (ad n11), .ref (ad n13), .int l4, .int l1]) (rest := []) E G hA hX hN hml (a_X0_bestOf l hst D cI cJ cZ cMic cSrc cSt cAI cAJ ad T n9 n11 n13 l4 l1 eT15 cp0.2.2 (by rw [cp0.1]; exact h_n9) (by rw [cp0.1]; exact h_n11) (by rw [cp0.1]; exact h_n13)) (cwV 4 hts (gaV qA_859 qA_860 qA_861 qA_31 qA_21) rfl rfl rfl (by decide +kernel) ⟨Nat.le_of_ble_eq_true rfl, Nat.le_of_ble_eq_true rfl⟩) (oO_k g14).1 (cc_o0 (oO_k g14).2) rfl rfl hl.1 rfl (lv_room (Nat.le_of_ble_eq_true rfl)) dX11_path_68 (cs_avx hgl cp0 hg2 hT2) (fun ad2 H locs hga G => ?_)
      refine w_cast (c2 := T15.1 - T0.1) (s2 := sg T15 - sg T0) (cs_f1 hgl cp0 hg2) (cs_f2 hgl cp0 hg2) ?_
      have hl := lv_sub hl [0, 1, 2, 3, 4] rfl
      rw [show ad l0 = ad2 l0 from (hga l0 (by rw [cp0.1]; exact h_l0)).symm] at hl
      exact b_X11_path_b71 E hA hX hN hml hst htab hlocks kx (s_X11_path_b39 n) ih _ _ _ _ _ _ _ _ _ _ _ h (GL.tr (gl_cpr hgl cp0) hg2) hrc2 (fun n hn => (hga n (by rw [cp0.1]; exact Nat.lt_of_lt_of_le hn hgl.1)).trans (had n hn)) (Nat.lt_of_lt_of_le (by rw [cp0.1]; exact h_l0) hg2.1) G hl
set_option maxHeartbeats 4000000 in
set_option maxRecDepth 100000 in
theorem b_X11_path_b35 {p : Program} {l : Launch} {e : Env} {s : State} {m : MethodId} {args : Array Value} {below : List Frame} {meth : Method} {c : Code} {Qc : Array Value → State → Outcome → State → Prop} {XC : String → State → State → Prop} {D : va_G} {A : Nat → Prop} {cI cJ cZ cMic cSrc cSt cAI cAJ : ClassId} {ad0 : Nat → Nat} {T0 : AT} {e1 : Nat} {r1 : Int32} {T1 : AT} (E : cE p c cX11_path s m args (Cond.code yX11_path cX11_path 6 (some .int) :: wsA) D RX11 (CT cI cJ cZ cMic cSrc cSt cAI cAJ)) (hA : ∀ q : Nat, s.heap.size ≤ q → A q) (hX : xT A s) (hN : nX s) (hml : c.maxLocals = 6) (hst : l.stackTraces = false) (htab : ∀ x ∈ c.exceptionTable.toList, False) (hlocks : meth.locks = false) (kx : ∀ (ad : Nat → Nat) (H : Heap) (locs : List Loc) (t : State), (∀ n, n < T0.1 → ad n = ad0 n) → gC cI cJ cZ cMic cSrc cSt cAI cAJ D ad A s.heap H locs T1 → s.vm.Alike t.vm → H.size ≤ t.heap.size → (∀ q, q < H.size → t.heap[q]? = H[q]?) → XC (exn e1) s t) : ∀ (T : AT) (ad : Nat → Nat) (H : Heap) (locs : List Loc) (ls : Array Slot) (s0 : Int32) (l0 : Nat) (l1 : Int32) (l2 : Int32), g_X11_path_b35 T s0 l0 l1 l2 = some (e1 + 1, r1, T1) → GL T0 T → RC T → (∀ n, n < T0.1 → ad n = ad0 n) → l0 < T.1 → gC cI cJ cZ cMic cSrc cSt cAI cAJ D ad A s.heap H locs T → lv_has ls 6 [(0, .ref (ad l0)), (1, .int l1), (2, .int l2)] → W p l e { frames := 7, cells := T1.1 - T0.1 + 1, slots := sg T1 - sg T0 + 6, locals := 155 } s m args below meth c H locs (T.1 - T0.1) (sg T - sg T0) (vx_MQ below Qc XC args s (T1.1 - T0.1 + 1) (sg T1 - sg T0 + 6) A) (F0 m 35 ls [.int s0]) := by
  have hx := E.1
  have hb := E.2.1
  have hts := E.2.2.1
  have hown := E.2.2.2.1
  have hK := E.2.2.2.2
  intro T ad H locs ls s0 l0 l1 l2 h hgl hrc had h_l0 G hl
  have hT1 := s_X11_path_b35 _ _ _ _ _ h
  have hcs := cs_okx hgl hT1
  have hcx := cs_okx1 hgl hT1
  have cp0 := cpr0 hrc
  unfold g_X11_path_b35 at h
  refine lv_istore_n (lv' := [(3, .int s0), (0, .ref (ad l0)), (1, .int l1), (2, .int l2)]) hx hb dX11_path_35 rfl hl (by decide) rfl (fun ls hl => ?_)
  refine lv_iload_n hx hb dX11_path_36 rfl (lv_at hl 2 rfl) ?_
  refine lv_istore (lv' := [(4, .int l1), (3, .int s0), (0, .ref (ad l0)), (1, .int l1), (2, .int l2)]) hx hb dX11_path_37 hl (by decide) rfl (fun ls hl => ?_)
  have hl := lv_sub hl [2, 3, 4, 1, 0] rfl
  refine w_cast (c2 := T.1 - T0.1) (s2 := sg T - sg T0) (by rw [cp0.1] <;> rfl) (by rw [sg_cpr cp0] <;> rfl) ?_
  exact b_X11_path_b39 E hA hX hN hml hst htab hlocks kx _ _ _ _ _ _ _ _ _ _ _ h (gl_cpr hgl cp0) cp0.2.2 had (by rw [cp0.1]; exact h_l0) G hl
set_option maxHeartbeats 4000000 in
set_option maxRecDepth 100000 in
theorem b_X11_path (l : Launch) (hst : l.stackTraces = false) (D : va_G) (cI cJ cZ cMic cSrc cSt cAI cAJ : ClassId) (ad : Nat → Nat) (T : AT) (o : Nat) (a0 : Int32) {e1 : Nat} {r1 : Int32} {T1 : AT} (h : g_X11_path T o a0 = some (e1 + 1, r1, T1)) (hrc : RC T) (h_o : o < T.1) : kAXi l yX11_path (Cond.code yX11_path cX11_path 6 (some .int) :: wsA) 7 155 cI cJ cZ cMic cSrc cSt cAI cAJ D ad T [.ref (ad o), .int a0] e1 T1 := by
  intro sz
  refine vx_ofW (cc := cX11_path) (maxL := 6) (ret := (some .int)) (by decide) rfl ?_
  intro p e s m args below meth c s₁ B hml htab hv
  obtain ⟨rfl, hsz, hP, hK, hD0, hX, hN⟩ := hv
  have hx := B.exec
  have hb := B.bytes
  have hr := B.returns
  have hts := atoms_spec (ws := (Cond.code yX11_path cX11_path 6 (some .int) :: wsA)) B.pre
  have hown : s.vm.findClass RX11 = some m.cls := findClass_of_methodNamed B.named
  have hlocks := B.notSynchronized
  subst hsz
  have hD := hD0.self (sz := s.heap.size)
  generalize hAe : va_A (cW ad T.1 (cc cI cJ cZ cMic cSrc cSt cAI cAJ ad T)) s.heap.size = A at hD hX ⊢
  have hA : ∀ q : Nat, s.heap.size ≤ q → A q := fun q h => by rw [← hAe]; exact Or.inr h
  have G : gC cI cJ cZ cMic cSrc cSt cAI cAJ D ad A s.heap s.heap [] T := ⟨hP, hD, va_S.rf⟩
  have E : cE p c cX11_path s m ([.ref (ad o), .int a0] : List Value).toArray (Cond.code yX11_path cX11_path 6 (some .int) :: wsA) D RX11 (CT cI cJ cZ cMic cSrc cSt cAI cAJ) := ⟨hx, hb, hts, hown, hK⟩
  have htab : ∀ x ∈ c.exceptionTable.toList, False := fun x hx => htab x hx
  have hl := lv_entry ([.ref (ad o), .int a0]) (n := 6) (Nat.le_of_ble_eq_true rfl)
  rw [lg_entry_eq]
  generalize (lg_sl ([.ref (ad o), .int a0]) ++ List.replicate (6 - (lg_sl ([.ref (ad o), .int a0])).length) Slot.unset).toArray = ls at hl ⊢
  have hl : lv_has ls 6 [(0, .ref (ad o)), (1, .int a0)] := hl
  have hgl := GL.rf T
  have had : ∀ n, n < T.1 → ad n = ad n := fun _ _ => rfl
  have hT1 := s_X11_path h
  have hcs := cs_okx hgl hT1
  have hcx := cs_okx1 hgl hT1
  refine w_cast (Nat.sub_self T.1).symm (Nat.sub_self (sg T)).symm ?_
  have cp0 := cpr0 hrc
  unfold g_X11_path at h
  refine lv_aload_n hx hb dX11_path_0 rfl (lv_at hl 0 rfl) ?_
  obtain ⟨g2, h⟩ := oif_some h
  rcases othr_t h with ⟨r0, eT3⟩ | ⟨r5, T3, eT3, h⟩
  · refine q_xvv (As := []) (rest := []) E G hA hX hN hml (x_X11_needCamera l hst D cI cJ cZ cMic cSrc cSt cAI cAJ ad T o eT3) (cwV 0 hts (gaV qA_728 qA_729 qA_730 qA_131 qA_731) rfl rfl rfl (by decide +kernel) ⟨Nat.le_of_ble_eq_true rfl, Nat.le_of_ble_eq_true rfl⟩) (oO_k g2).1 (cc_o11 (oO_k g2).2) rfl rfl hl.1 rfl (lv_room (Nat.le_of_ble_eq_true rfl)) dX11_path_1 hcx (fun E9 ce q9 T9 H locs hp G hce hcv hcl => ?_)
    obtain ⟨hE, hT⟩ := hp
    subst hE
    rw [hT] at G
    exact vx_out (fun x hx => (htab x hx).elim) hlocks hce hcv hcl (fun t ht hvm => ⟨(T1, ad), trivial, ⟨⟨rfl, rfl, had⟩, by rw [ht]; exact G.1, va_K.moved hvm hK, G.2.1⟩, G.2.2.F ht⟩) G.2.2.2.2 hcx.1 hcx.2
  refine q_cvv (As := []) (rest := []) E G hA hX hN hml (u_X11_needCamera l hst D cI cJ cZ cMic cSrc cSt cAI cAJ ad T o eT3) (cwV 0 hts (gaV qA_728 qA_729 qA_730 qA_131 qA_731) rfl rfl rfl (by decide +kernel) ⟨Nat.le_of_ble_eq_true rfl, Nat.le_of_ble_eq_true rfl⟩) (oO_k g2).1 (cc_o11 (oO_k g2).2) rfl rfl hl.1 rfl (lv_room (Nat.le_of_ble_eq_true rfl)) dX11_path_1 hcs (fun T4 H locs hq G => ?_)
  rw [hq] at G
  clear hq
  have cp1 := cpr_sp cp0 (s_X11_needCamera eT3)
  refine lv_iload_n hx hb dX11_path_4 rfl (lv_at hl 1 rfl) ?_
  refine lv_iconst (v := 4) hx hb dX11_path_5 (by decide) ?_
  refine lv_aload_n hx hb dX11_path_6 rfl (lv_at hl 0 rfl) ?_
  obtain ⟨g7, h⟩ := oif_some h
  obtain ⟨n8, en8, h⟩ := obind_some h
  have h_n8 : n8 < T.1 := by rw [← cp1.1]; exact cp1.2.2 _ _ _ en8
  refine c_get E G o 14 (v := .ref (ad n8)) (oO_k g7).1 (cc_o11 (oO_k g7).2) rfl (fun w h => .tail _ (iA_23 h)) (by decide) (.tail _ qA_675) rfl (by rw [en8]; rfl) dX11_path_7 ?_
  clear en8
  obtain ⟨g9, h⟩ := oif_some h
  refine c_get E G n8 2 (oO_k g9).1 (cc_o6 (oO_k g9).2) rfl (fun w h => .tail _ (iA_14 h)) (by decide) (.tail _ qA_761) rfl rfl dX11_path_10 ?_
  refine lv_topi (fun v10 ev10 => ?_)
  have h := elet_at ev10 h
  clear ev10
  rcases othr_t h with ⟨r0, eT11⟩ | ⟨r13, T11, eT11, h⟩
  · refine q_xsv (As := [.int a0, .int 4, .int v10]) (rest := []) E G hA hX hN hml (x_X11_needRange l hst D cI cJ cZ cMic cSrc cSt cAI cAJ ad T3 a0 (4 : Int32) v10 eT11) (cwS 3 hts (gaS qA_741 qA_742 qA_131 qA_743) rfl rfl rfl (by decide +kernel) ⟨Nat.le_of_ble_eq_true rfl, Nat.le_of_ble_eq_true rfl⟩) rfl hl.1 rfl (lv_room (Nat.le_of_ble_eq_true rfl)) dX11_path_13 hcx (fun E9 ce q9 T9 H locs hp G hce hcv hcl => ?_)
    obtain ⟨hE, hT⟩ := hp
    subst hE
    rw [hT] at G
    exact vx_out (fun x hx => (htab x hx).elim) hlocks hce hcv hcl (fun t ht hvm => ⟨(T1, ad), trivial, ⟨⟨rfl, rfl, had⟩, by rw [ht]; exact G.1, va_K.moved hvm hK, G.2.1⟩, G.2.2.F ht⟩) G.2.2.2.2 hcx.1 hcx.2
  refine q_csv (As := [.int a0, .int 4, .int v10]) (rest := []) E G hA hX hN hml (u_X11_needRange l hst D cI cJ cZ cMic cSrc cSt cAI cAJ ad T3 a0 (4 : Int32) v10 eT11) (cwS 3 hts (gaS qA_741 qA_742 qA_131 qA_743) rfl rfl rfl (by decide +kernel) ⟨Nat.le_of_ble_eq_true rfl, Nat.le_of_ble_eq_true rfl⟩) rfl hl.1 rfl (lv_room (Nat.le_of_ble_eq_true rfl)) dX11_path_13 hcs (fun T12 H locs hq G => ?_)
  rw [hq] at G
  clear hq
  have cp2 := cpr_sp cp1 (s_X11_needRange eT11)
  refine lv_iconst (v := 0) hx hb dX11_path_16 (by decide) ?_
  refine lv_istore_n (lv' := [(2, .int 0), (0, .ref (ad o)), (1, .int a0)]) hx hb dX11_path_17 rfl hl (by decide) rfl (fun ls hl => ?_)
  refine lv_aload_n hx hb dX11_path_18 rfl (lv_at hl 1 rfl) ?_
  obtain ⟨g15, h⟩ := oif_some h
  obtain ⟨n16, en16, h⟩ := obind_some h
  have h_n16 : n16 < T.1 := by rw [← cp2.1]; exact cp2.2.2 _ _ _ en16
  refine c_get E G o 3 (v := .ref (ad n16)) (oO_k g15).1 (cc_o11 (oO_k g15).2) rfl (fun w h => .tail _ (iA_23 h)) (by decide) (.tail _ qA_657) rfl (by rw [en16]; rfl) dX11_path_19 ?_
  clear en16
  refine lv_aload_n hx hb dX11_path_22 rfl (lv_at hl 1 rfl) ?_
  obtain ⟨g17, h⟩ := oif_some h
  obtain ⟨n18, en18, h⟩ := obind_some h
  have h_n18 : n18 < T.1 := by rw [← cp2.1]; exact cp2.2.2 _ _ _ en18
  refine c_get E G o 14 (v := .ref (ad n18)) (oO_k g17).1 (cc_o11 (oO_k g17).2) rfl (fun w h => .tail _ (iA_23 h)) (by decide) (.tail _ qA_675) rfl (by rw [en18]; rfl) dX11_path_23 ?_
  clear en18
  refine lv_aload_n hx hb dX11_path_26 rfl (lv_at hl 1 rfl) ?_
  obtain ⟨g19, h⟩ := oif_some h
  obtain ⟨n20, en20, h⟩ := obind_some h
  have h_n20 : n20 < T.1 := by rw [← cp2.1]; exact cp2.2.2 _ _ _ en20
  refine c_get E G o 6 (v := .ref (ad n20)) (oO_k g19).1 (cc_o11 (oO_k g19).2) rfl (fun w h => .tail _ (iA_23 h)) (by decide) (.tail _ qA_664) rfl (by rw [en20]; rfl) dX11_path_27 ?_
  clear en20
  refine lv_iconst (v := 0) hx hb dX11_path_30 (by decide) ?_
  refine lv_iload_n hx hb dX11_path_31 rfl (lv_at hl 2 rfl) ?_
  obtain ⟨g21, h⟩ := oif_some h
  obtain ⟨r23, T22, eT22, h⟩ := obind2_some h
  have hg2 := s_X0_bestOf eT22
  have hrc2 := hg2.2.2 cp2.2.2
  have hT2 := s_X11_path_b35 _ _ _ _ _ h
  refine q_avi (As := [.ref (ad n18), .ref (ad n20), .int 0, .int a0]) (rest := []) E G hA hX hN hml (a_X0_bestOf l hst D cI cJ cZ cMic cSrc cSt cAI cAJ ad T11 n16 n18 n20 (0 : Int32) a0 eT22 cp2.2.2 (by rw [cp2.1]; exact h_n16) (by rw [cp2.1]; exact h_n18) (by rw [cp2.1]; exact h_n20)) (cwV 4 hts (gaV qA_859 qA_860 qA_861 qA_31 qA_21) rfl rfl rfl (by decide +kernel) ⟨Nat.le_of_ble_eq_true rfl, Nat.le_of_ble_eq_true rfl⟩) (oO_k g21).1 (cc_o0 (oO_k g21).2) rfl rfl hl.1 rfl (lv_room (Nat.le_of_ble_eq_true rfl)) dX11_path_32 (cs_avx hgl cp2 hg2 hT2) (fun ad2 H locs hga G => ?_)
  refine w_cast (c2 := T22.1 - T.1) (s2 := sg T22 - sg T) (cs_f1 hgl cp2 hg2) (cs_f2 hgl cp2 hg2) ?_
  have hl := lv_sub hl [1, 2, 0] rfl
  rw [show ad o = ad2 o from (hga o (by rw [cp2.1]; exact h_o)).symm] at hl
  exact b_X11_path_b35 E hA hX hN hml hst htab hlocks (fun ad H locs t had G hvm h1 h2 => ⟨(T1, ad), trivial, ⟨⟨rfl, rfl, had⟩, (c_thrown G hK hvm h1 h2).1⟩, (c_thrown G hK hvm h1 h2).2⟩) _ _ _ _ _ _ _ _ _ h (GL.tr (gl_cpr hgl cp2) hg2) hrc2 (fun n hn => (hga n (by rw [cp2.1]; exact Nat.lt_of_lt_of_le hn hgl.1)).trans (had n hn)) (Nat.lt_of_lt_of_le (by rw [cp2.1]; exact h_o) hg2.1) G hl
def g_X11_trackScore_b32  (T : AT) (l0 : Nat) : Option (Nat × Int64 × AT) := oif (oO T l0 11 = true) <| obind (T.2.2.2.2 l0 3) fun n3 => oif (oO T n3 0 = true) <| obind (T.2.2.2.2 n3 0) fun n5 => oif (oO T l0 11 = true) <| obind (T.2.2.2.2 l0 3) fun n7 => oif (oO T l0 11 = true) <| obind (T.2.2.2.2 l0 14) fun n9 => oif (oO T n9 6 = true) <| obind (T.2.2.2.2 n9 6) fun n11 => oif (oO T n7 0 = true) <| obind2 (g_X0_trackCellIn T n7 n11 (0 : Int32)) fun r15 T13 => oif (oO T13 n5 10 = true) <| obind2 (g_X10_value T13 n5 r15) fun r20 T18 => some (0, r20, T18)
def g_X11_trackScore (T : AT) (o : Nat) (a0 : Int32) : Option (Nat × Int64 × AT) := oif (oO T o 11 = true) <| othr (g_X11_needCamera T o) 0 fun r5 T3 => oif (oO T3 o 11 = true) <| obind (T3.2.2.2.2 o 14) fun n8 => oif (oO T3 n8 6 = true) <| elet (T3.2.2.1 n8 2) fun v10 => othr (g_X11_needRange T3 a0 (4 : Int32) v10) 0 fun r13 T11 => oif (oO T11 o 11 = true) <| obind (T11.2.2.2.2 o 3) fun n16 => oif (oO T11 o 11 = true) <| obind (T11.2.2.2.2 o 14) fun n18 => oif (oO T11 o 11 = true) <| obind (T11.2.2.2.2 o 6) fun n20 => oif (oO T11 n16 0 = true) <| obind (g_X0_score T11 n16 n18 n20 a0) fun T22 => g_X11_trackScore_b32 T22 o
set_option maxHeartbeats 4000000 in
set_option maxRecDepth 100000 in
theorem s_X11_trackScore_b32 {e1 : Nat} {r1 : Int64} {T1 : AT} : ∀ (T : AT) (l0 : Nat), g_X11_trackScore_b32 T l0 = some (e1, r1, T1) → GL T T1 := by
  intro T l0 h
  have p0 := GL.rf T
  unfold g_X11_trackScore_b32 at h
  obtain ⟨g2, h⟩ := oif_some h
  obtain ⟨n3, en3, h⟩ := obind_some h
  obtain ⟨g4, h⟩ := oif_some h
  obtain ⟨n5, en5, h⟩ := obind_some h
  obtain ⟨g6, h⟩ := oif_some h
  obtain ⟨n7, en7, h⟩ := obind_some h
  obtain ⟨g8, h⟩ := oif_some h
  obtain ⟨n9, en9, h⟩ := obind_some h
  obtain ⟨g10, h⟩ := oif_some h
  obtain ⟨n11, en11, h⟩ := obind_some h
  obtain ⟨g12, h⟩ := oif_some h
  obtain ⟨r14, T13, eT13, h⟩ := obind2_some h
  have p1 : GL T T13 := GL.tr p0 (gl_sp (s_X0_trackCellIn eT13))
  obtain ⟨g15, h⟩ := oif_some h
  obtain ⟨r17, T16, eT16, h⟩ := obind2_some h
  have p2 : GL T T16 := GL.tr p1 (gl_sp (s_X10_value eT16))
  rw [← (osome3 h).2.2]
  exact p2
set_option maxHeartbeats 4000000 in
set_option maxRecDepth 100000 in
theorem s_X11_trackScore {T : AT} {o : Nat} {a0 : Int32} {e1 : Nat} {r1 : Int64} {T1 : AT} (h : g_X11_trackScore T o a0 = some (e1, r1, T1)) : GL T T1 := by
  have p0 := GL.rf T
  unfold g_X11_trackScore at h
  obtain ⟨g2, h⟩ := oif_some h
  rcases othr_s h with ⟨k9, r9, e9, -⟩ | ⟨r4, T3, eT3, h⟩
  · exact GL.tr p0 (gl_sp (s_X11_needCamera e9))
  have p1 : GL T T3 := GL.tr p0 (gl_sp (s_X11_needCamera eT3))
  obtain ⟨g5, h⟩ := oif_some h
  obtain ⟨n6, en6, h⟩ := obind_some h
  obtain ⟨g7, h⟩ := oif_some h
  obtain ⟨v8, -, h⟩ := elet_some h
  rcases othr_s h with ⟨k9, r9, e9, -⟩ | ⟨r10, T9, eT9, h⟩
  · exact GL.tr p1 (gl_sp (s_X11_needRange e9))
  have p2 : GL T T9 := GL.tr p1 (gl_sp (s_X11_needRange eT9))
  obtain ⟨g11, h⟩ := oif_some h
  obtain ⟨n12, en12, h⟩ := obind_some h
  obtain ⟨g13, h⟩ := oif_some h
  obtain ⟨n14, en14, h⟩ := obind_some h
  obtain ⟨g15, h⟩ := oif_some h
  obtain ⟨n16, en16, h⟩ := obind_some h
  obtain ⟨g17, h⟩ := oif_some h
  obtain ⟨T18, eT18, h⟩ := obind_some h
  have p3 : GL T T18 := GL.tr p2 (s_X0_score eT18)
  exact GL.tr p3 (s_X11_trackScore_b32 _ _ h)
set_option maxHeartbeats 4000000 in
set_option maxRecDepth 100000 in
theorem a_X11_trackScore_b32 {p : Program} {l : Launch} {e : Env} {s : State} {m : MethodId} {args : Array Value} {below : List Frame} {meth : Method} {c : Code} {Q : State → Prop} {D : va_G} {A : Nat → Prop} {cI cJ cZ cMic cSrc cSt cAI cAJ : ClassId} {ad0 : Nat → Nat} {T0 : AT} {r1 : Int64} {T1 : AT} (E : cE p c cX11_trackScore s m args (Cond.code yX11_trackScore cX11_trackScore 2 (some .long) :: wsA) D RX11 (CT cI cJ cZ cMic cSrc cSt cAI cAJ)) (hA : ∀ q : Nat, s.heap.size ≤ q → A q) (hX : xT A s) (hN : nX s) (hml : c.maxLocals = 2) (hst : l.stackTraces = false) (kr57 : ∀ (ad : Nat → Nat) (H : Heap) (locs : List Loc) (ls : Array Slot), (∀ n, n < T0.1 → ad n = ad0 n) → gC cI cJ cZ cMic cSrc cSt cAI cAJ D ad A s.heap H locs T1 → W p l e { frames := 7, cells := T1.1 - T0.1, slots := sg T1 - sg T0, locals := 159 } s m args below meth c H locs (T1.1 - T0.1) (sg T1 - sg T0) Q (F0 m 57 ls [.long r1])) : ∀ (T : AT) (ad : Nat → Nat) (H : Heap) (locs : List Loc) (ls : Array Slot) (l0 : Nat), g_X11_trackScore_b32 T l0 = some (0, r1, T1) → GL T0 T → RC T → (∀ n, n < T0.1 → ad n = ad0 n) → l0 < T.1 → gC cI cJ cZ cMic cSrc cSt cAI cAJ D ad A s.heap H locs T → lv_has ls 2 [(0, .ref (ad l0))] → W p l e { frames := 7, cells := T1.1 - T0.1, slots := sg T1 - sg T0, locals := 159 } s m args below meth c H locs (T.1 - T0.1) (sg T - sg T0) Q (F0 m 32 ls []) := by
  have hx := E.1
  have hb := E.2.1
  have hts := E.2.2.1
  have hown := E.2.2.2.1
  have hK := E.2.2.2.2
  intro T ad H locs ls l0 h hgl hrc had h_l0 G hl
  have hT1 := s_X11_trackScore_b32 _ _ h
  have hcs := cs_ok hgl hT1
  have cp0 := cpr0 hrc
  unfold g_X11_trackScore_b32 at h
  refine lv_aload_n hx hb dX11_trackScore_32 rfl (lv_at hl 0 rfl) ?_
  obtain ⟨g2, h⟩ := oif_some h
  obtain ⟨n3, en3, h⟩ := obind_some h
  have h_n3 : n3 < T.1 := by rw [← cp0.1]; exact cp0.2.2 _ _ _ en3
  refine c_get E G l0 3 (v := .ref (ad n3)) (oO_k g2).1 (cc_o11 (oO_k g2).2) rfl (fun w h => .tail _ (iA_23 h)) (by decide) (.tail _ qA_657) rfl (by rw [en3]; rfl) dX11_trackScore_33 ?_
  clear en3
  obtain ⟨g4, h⟩ := oif_some h
  obtain ⟨n5, en5, h⟩ := obind_some h
  have h_n5 : n5 < T.1 := by rw [← cp0.1]; exact cp0.2.2 _ _ _ en5
  refine c_get E G n3 0 (v := .ref (ad n5)) (oO_k g4).1 (cc_o0 (oO_k g4).2) rfl (fun w h => .tail _ (iA_13 h)) (by decide) (.tail _ qA_864) rfl (by rw [en5]; rfl) dX11_trackScore_36 ?_
  clear en5
  refine lv_aload_n hx hb dX11_trackScore_39 rfl (lv_at hl 0 rfl) ?_
  obtain ⟨g6, h⟩ := oif_some h
  obtain ⟨n7, en7, h⟩ := obind_some h
  have h_n7 : n7 < T.1 := by rw [← cp0.1]; exact cp0.2.2 _ _ _ en7
  refine c_get E G l0 3 (v := .ref (ad n7)) (oO_k g6).1 (cc_o11 (oO_k g6).2) rfl (fun w h => .tail _ (iA_23 h)) (by decide) (.tail _ qA_657) rfl (by rw [en7]; rfl) dX11_trackScore_40 ?_
  clear en7
  refine lv_aload_n hx hb dX11_trackScore_43 rfl (lv_at hl 0 rfl) ?_
  obtain ⟨g8, h⟩ := oif_some h
  obtain ⟨n9, en9, h⟩ := obind_some h
  have h_n9 : n9 < T.1 := by rw [← cp0.1]; exact cp0.2.2 _ _ _ en9
  refine c_get E G l0 14 (v := .ref (ad n9)) (oO_k g8).1 (cc_o11 (oO_k g8).2) rfl (fun w h => .tail _ (iA_23 h)) (by decide) (.tail _ qA_675) rfl (by rw [en9]; rfl) dX11_trackScore_44 ?_
  clear en9
  obtain ⟨g10, h⟩ := oif_some h
  obtain ⟨n11, en11, h⟩ := obind_some h
  have h_n11 : n11 < T.1 := by rw [← cp0.1]; exact cp0.2.2 _ _ _ en11
  refine c_get E G n9 6 (v := .ref (ad n11)) (oO_k g10).1 (cc_o6 (oO_k g10).2) rfl (fun w h => .tail _ (iA_14 h)) (by decide) (.tail _ qA_695) rfl (by rw [en11]; rfl) dX11_trackScore_47 ?_
  clear en11
  refine lv_iconst (v := 0) hx hb dX11_trackScore_50 (by decide) ?_
  obtain ⟨g12, h⟩ := oif_some h
  obtain ⟨r15, T13, eT13, h⟩ := obind2_some h
  refine q_cvi (As := [.ref (ad n11), .int 0]) (rest := [.ref (ad n5)]) E G hA hX hN hml (u_X0_trackCellIn l hst D cI cJ cZ cMic cSrc cSt cAI cAJ ad T n7 n11 (0 : Int32) eT13) (cwV 2 hts (gaV qA_868 qA_869 qA_870 qA_31 qA_154) rfl rfl rfl (by decide +kernel) ⟨Nat.le_of_ble_eq_true rfl, Nat.le_of_ble_eq_true rfl⟩) (oO_k g12).1 (cc_o0 (oO_k g12).2) rfl rfl hl.1 rfl (lv_room (Nat.le_of_ble_eq_true rfl)) dX11_trackScore_51 hcs (fun q16 T14 H locs hq G => ?_)
  obtain ⟨hq1, hq2⟩ := hq
  rw [hq2] at G
  refine lv_to hq1 ?_
  clear hq1 hq2
  have cp1 := cpr_sp cp0 (s_X0_trackCellIn eT13)
  obtain ⟨g17, h⟩ := oif_some h
  obtain ⟨r20, T18, eT18, h⟩ := obind2_some h
  refine q_cvl (As := [.int r15]) (rest := []) E G hA hX hN hml (u_X10_value l hst D cI cJ cZ cMic cSrc cSt cAI cAJ ad T13 n5 r15 eT18) (cwV 1 hts (gaV qA_791 qA_792 qA_793 qA_6 qA_633) rfl rfl rfl (by decide +kernel) ⟨Nat.le_of_ble_eq_true rfl, Nat.le_of_ble_eq_true rfl⟩) (oO_k g17).1 (cc_o10 (oO_k g17).2) rfl rfl hl.1 rfl (lv_room (Nat.le_of_ble_eq_true rfl)) dX11_trackScore_54 hcs (fun q21 T19 H locs hq G => ?_)
  obtain ⟨hq1, hq2⟩ := hq
  rw [hq2] at G
  refine lv_tol hq1 ?_
  clear hq1 hq2
  have cp2 := cpr_sp cp1 (s_X10_value eT18)
  rw [(osome3 h).2.2] at G
  refine w_cast (c2 := T1.1 - T0.1) (s2 := sg T1 - sg T0) (by rw [← (osome3 h).2.2, cp2.1] <;> rfl) (by rw [← (osome3 h).2.2, sg_cpr cp2] <;> rfl) ?_
  refine lv_tol ((osome3 h).2.1) ?_
  exact kr57 ad _ _ _ had G
set_option maxHeartbeats 4000000 in
set_option maxRecDepth 100000 in
theorem a_X11_trackScore (l : Launch) (hst : l.stackTraces = false) (D : va_G) (cI cJ cZ cMic cSrc cSt cAI cAJ : ClassId) (ad : Nat → Nat) (T : AT) (o : Nat) (a0 : Int32) {r1 : Int64} {T1 : AT} (h : g_X11_trackScore T o a0 = some (0, r1, T1)) (hrc : RC T) (h_o : o < T.1) : kAl l yX11_trackScore (Cond.code yX11_trackScore cX11_trackScore 2 (some .long) :: wsA) 7 159 cI cJ cZ cMic cSrc cSt cAI cAJ D ad T [.ref (ad o), .int a0] r1 T1 := by
  intro sz
  refine Met.ofW (cc := cX11_trackScore) (maxL := 2) (ret := (some .long)) (by decide) rfl ?_
  intro p e s m args below meth c s₁ B hml hv
  obtain ⟨rfl, hsz, hP, hK, hD0, hX, hN⟩ := hv
  have hx := B.exec
  have hb := B.bytes
  have hr := B.returns
  have hts := atoms_spec (ws := (Cond.code yX11_trackScore cX11_trackScore 2 (some .long) :: wsA)) B.pre
  have hown : s.vm.findClass RX11 = some m.cls := findClass_of_methodNamed B.named
  have hlocks := B.notSynchronized
  subst hsz
  have hD := hD0.self (sz := s.heap.size)
  generalize hAe : va_A (cW ad T.1 (cc cI cJ cZ cMic cSrc cSt cAI cAJ ad T)) s.heap.size = A at hD hX ⊢
  have hA : ∀ q : Nat, s.heap.size ≤ q → A q := fun q h => by rw [← hAe]; exact Or.inr h
  have G : gC cI cJ cZ cMic cSrc cSt cAI cAJ D ad A s.heap s.heap [] T := ⟨hP, hD, va_S.rf⟩
  have E : cE p c cX11_trackScore s m ([.ref (ad o), .int a0] : List Value).toArray (Cond.code yX11_trackScore cX11_trackScore 2 (some .long) :: wsA) D RX11 (CT cI cJ cZ cMic cSrc cSt cAI cAJ) := ⟨hx, hb, hts, hown, hK⟩
  have hl := lv_entry ([.ref (ad o), .int a0]) (n := 2) (Nat.le_of_ble_eq_true rfl)
  rw [lg_entry_eq]
  generalize (lg_sl ([.ref (ad o), .int a0]) ++ List.replicate (2 - (lg_sl ([.ref (ad o), .int a0])).length) Slot.unset).toArray = ls at hl ⊢
  have hl : lv_has ls 2 [(0, .ref (ad o)), (1, .int a0)] := hl
  have hgl := GL.rf T
  have had : ∀ n, n < T.1 → ad n = ad n := fun _ _ => rfl
  have hT1 := s_X11_trackScore h
  have hcs := cs_ok hgl hT1
  refine w_cast (Nat.sub_self T.1).symm (Nat.sub_self (sg T)).symm ?_
  have cp0 := cpr0 hrc
  unfold g_X11_trackScore at h
  refine lv_aload_n hx hb dX11_trackScore_0 rfl (lv_at hl 0 rfl) ?_
  obtain ⟨g2, h⟩ := oif_some h
  obtain ⟨r5, T3, eT3, h⟩ := othr_n h
  refine q_cvv (As := []) (rest := []) E G hA hX hN hml (u_X11_needCamera l hst D cI cJ cZ cMic cSrc cSt cAI cAJ ad T o eT3) (cwV 0 hts (gaV qA_728 qA_729 qA_730 qA_131 qA_731) rfl rfl rfl (by decide +kernel) ⟨Nat.le_of_ble_eq_true rfl, Nat.le_of_ble_eq_true rfl⟩) (oO_k g2).1 (cc_o11 (oO_k g2).2) rfl rfl hl.1 rfl (lv_room (Nat.le_of_ble_eq_true rfl)) dX11_trackScore_1 hcs (fun T4 H locs hq G => ?_)
  rw [hq] at G
  clear hq
  have cp1 := cpr_sp cp0 (s_X11_needCamera eT3)
  refine lv_iload_n hx hb dX11_trackScore_4 rfl (lv_at hl 1 rfl) ?_
  refine lv_iconst (v := 4) hx hb dX11_trackScore_5 (by decide) ?_
  refine lv_aload_n hx hb dX11_trackScore_6 rfl (lv_at hl 0 rfl) ?_
  obtain ⟨g7, h⟩ := oif_some h
  obtain ⟨n8, en8, h⟩ := obind_some h
  have h_n8 : n8 < T.1 := by rw [← cp1.1]; exact cp1.2.2 _ _ _ en8
  refine c_get E G o 14 (v := .ref (ad n8)) (oO_k g7).1 (cc_o11 (oO_k g7).2) rfl (fun w h => .tail _ (iA_23 h)) (by decide) (.tail _ qA_675) rfl (by rw [en8]; rfl) dX11_trackScore_7 ?_
  clear en8
  obtain ⟨g9, h⟩ := oif_some h
  refine c_get E G n8 2 (oO_k g9).1 (cc_o6 (oO_k g9).2) rfl (fun w h => .tail _ (iA_14 h)) (by decide) (.tail _ qA_761) rfl rfl dX11_trackScore_10 ?_
  refine lv_topi (fun v10 ev10 => ?_)
  have h := elet_at ev10 h
  clear ev10
  obtain ⟨r13, T11, eT11, h⟩ := othr_n h
  refine q_csv (As := [.int a0, .int 4, .int v10]) (rest := []) E G hA hX hN hml (u_X11_needRange l hst D cI cJ cZ cMic cSrc cSt cAI cAJ ad T3 a0 (4 : Int32) v10 eT11) (cwS 3 hts (gaS qA_741 qA_742 qA_131 qA_743) rfl rfl rfl (by decide +kernel) ⟨Nat.le_of_ble_eq_true rfl, Nat.le_of_ble_eq_true rfl⟩) rfl hl.1 rfl (lv_room (Nat.le_of_ble_eq_true rfl)) dX11_trackScore_13 hcs (fun T12 H locs hq G => ?_)
  rw [hq] at G
  clear hq
  have cp2 := cpr_sp cp1 (s_X11_needRange eT11)
  refine lv_aload_n hx hb dX11_trackScore_16 rfl (lv_at hl 0 rfl) ?_
  obtain ⟨g15, h⟩ := oif_some h
  obtain ⟨n16, en16, h⟩ := obind_some h
  have h_n16 : n16 < T.1 := by rw [← cp2.1]; exact cp2.2.2 _ _ _ en16
  refine c_get E G o 3 (v := .ref (ad n16)) (oO_k g15).1 (cc_o11 (oO_k g15).2) rfl (fun w h => .tail _ (iA_23 h)) (by decide) (.tail _ qA_657) rfl (by rw [en16]; rfl) dX11_trackScore_17 ?_
  clear en16
  refine lv_aload_n hx hb dX11_trackScore_20 rfl (lv_at hl 0 rfl) ?_
  obtain ⟨g17, h⟩ := oif_some h
  obtain ⟨n18, en18, h⟩ := obind_some h
  have h_n18 : n18 < T.1 := by rw [← cp2.1]; exact cp2.2.2 _ _ _ en18
  refine c_get E G o 14 (v := .ref (ad n18)) (oO_k g17).1 (cc_o11 (oO_k g17).2) rfl (fun w h => .tail _ (iA_23 h)) (by decide) (.tail _ qA_675) rfl (by rw [en18]; rfl) dX11_trackScore_21 ?_
  clear en18
  refine lv_aload_n hx hb dX11_trackScore_24 rfl (lv_at hl 0 rfl) ?_
  obtain ⟨g19, h⟩ := oif_some h
  obtain ⟨n20, en20, h⟩ := obind_some h
  have h_n20 : n20 < T.1 := by rw [← cp2.1]; exact cp2.2.2 _ _ _ en20
  refine c_get E G o 6 (v := .ref (ad n20)) (oO_k g19).1 (cc_o11 (oO_k g19).2) rfl (fun w h => .tail _ (iA_23 h)) (by decide) (.tail _ qA_664) rfl (by rw [en20]; rfl) dX11_trackScore_25 ?_
  clear en20
  refine lv_iload_n hx hb dX11_trackScore_28 rfl (lv_at hl 1 rfl) ?_
  obtain ⟨g21, h⟩ := oif_some h
  obtain ⟨T22, eT22, h⟩ := obind_some h
  have hg2 := s_X0_score eT22
  have hrc2 := hg2.2.2 cp2.2.2
  have hT2 := s_X11_trackScore_b32 _ _ h
  refine q_avv (As := [.ref (ad n18), .ref (ad n20), .int a0]) (rest := []) E G hA hX hN hml (a_X0_score l hst D cI cJ cZ cMic cSrc cSt cAI cAJ ad T11 n16 n18 n20 a0 eT22 cp2.2.2 (by rw [cp2.1]; exact h_n16) (by rw [cp2.1]; exact h_n18) (by rw [cp2.1]; exact h_n20)) (cwV 3 hts (gaV qA_865 qA_866 qA_867 qA_31 qA_127) rfl rfl rfl (by decide +kernel) ⟨Nat.le_of_ble_eq_true rfl, Nat.le_of_ble_eq_true rfl⟩) (oO_k g21).1 (cc_o0 (oO_k g21).2) rfl rfl hl.1 rfl (lv_room (Nat.le_of_ble_eq_true rfl)) dX11_trackScore_29 (cs_av hgl cp2 hg2 hT2) (fun ad2 H locs hga G => ?_)
  refine w_cast (c2 := T22.1 - T.1) (s2 := sg T22 - sg T) (cs_f1 hgl cp2 hg2) (cs_f2 hgl cp2 hg2) ?_
  have hl := lv_sub hl [0] rfl
  rw [show ad o = ad2 o from (hga o (by rw [cp2.1]; exact h_o)).symm] at hl
  exact a_X11_trackScore_b32 E hA hX hN hml hst (fun ad H locs ls had G => W.lret (v := r1) hx hb hr (fun t ht hW => ⟨⟨r1, (T1, ad), rfl, ⟨rfl, rfl, had⟩, ⟨by rw [ht]; exact G.1, va_K.moved hW.alike hK, G.2.1⟩⟩, G.2.2.F ht⟩) G.2.2.2.2 dX11_trackScore_57) _ _ _ _ _ _ h (GL.tr (gl_cpr hgl cp2) hg2) hrc2 (fun n hn => (hga n (by rw [cp2.1]; exact Nat.lt_of_lt_of_le hn hgl.1)).trans (had n hn)) (Nat.lt_of_lt_of_le (by rw [cp2.1]; exact h_o) hg2.1) G hl
set_option maxHeartbeats 4000000 in
set_option maxRecDepth 100000 in
theorem b_X11_trackScore_b32 {p : Program} {l : Launch} {e : Env} {s : State} {m : MethodId} {args : Array Value} {below : List Frame} {meth : Method} {c : Code} {Qc : Array Value → State → Outcome → State → Prop} {XC : String → State → State → Prop} {D : va_G} {A : Nat → Prop} {cI cJ cZ cMic cSrc cSt cAI cAJ : ClassId} {ad0 : Nat → Nat} {T0 : AT} {e1 : Nat} {r1 : Int64} {T1 : AT} (E : cE p c cX11_trackScore s m args (Cond.code yX11_trackScore cX11_trackScore 2 (some .long) :: wsA) D RX11 (CT cI cJ cZ cMic cSrc cSt cAI cAJ)) (hA : ∀ q : Nat, s.heap.size ≤ q → A q) (hX : xT A s) (hN : nX s) (hml : c.maxLocals = 2) (hst : l.stackTraces = false) (htab : ∀ x ∈ c.exceptionTable.toList, False) (hlocks : meth.locks = false) (kx : ∀ (ad : Nat → Nat) (H : Heap) (locs : List Loc) (t : State), (∀ n, n < T0.1 → ad n = ad0 n) → gC cI cJ cZ cMic cSrc cSt cAI cAJ D ad A s.heap H locs T1 → s.vm.Alike t.vm → H.size ≤ t.heap.size → (∀ q, q < H.size → t.heap[q]? = H[q]?) → XC (exn e1) s t) : ∀ (T : AT) (ad : Nat → Nat) (H : Heap) (locs : List Loc) (ls : Array Slot) (l0 : Nat), g_X11_trackScore_b32 T l0 = some (e1 + 1, r1, T1) → GL T0 T → RC T → (∀ n, n < T0.1 → ad n = ad0 n) → l0 < T.1 → gC cI cJ cZ cMic cSrc cSt cAI cAJ D ad A s.heap H locs T → lv_has ls 2 [(0, .ref (ad l0))] → W p l e { frames := 7, cells := T1.1 - T0.1 + 1, slots := sg T1 - sg T0 + 6, locals := 159 } s m args below meth c H locs (T.1 - T0.1) (sg T - sg T0) (vx_MQ below Qc XC args s (T1.1 - T0.1 + 1) (sg T1 - sg T0 + 6) A) (F0 m 32 ls []) := by
  have hx := E.1
  have hb := E.2.1
  have hts := E.2.2.1
  have hown := E.2.2.2.1
  have hK := E.2.2.2.2
  intro T ad H locs ls l0 h hgl hrc had h_l0 G hl
  have hT1 := s_X11_trackScore_b32 _ _ h
  have hcs := cs_okx hgl hT1
  have hcx := cs_okx1 hgl hT1
  have cp0 := cpr0 hrc
  unfold g_X11_trackScore_b32 at h
  refine lv_aload_n hx hb dX11_trackScore_32 rfl (lv_at hl 0 rfl) ?_
  obtain ⟨g2, h⟩ := oif_some h
  obtain ⟨n3, en3, h⟩ := obind_some h
  have h_n3 : n3 < T.1 := by rw [← cp0.1]; exact cp0.2.2 _ _ _ en3
  refine c_get E G l0 3 (v := .ref (ad n3)) (oO_k g2).1 (cc_o11 (oO_k g2).2) rfl (fun w h => .tail _ (iA_23 h)) (by decide) (.tail _ qA_657) rfl (by rw [en3]; rfl) dX11_trackScore_33 ?_
  clear en3
  obtain ⟨g4, h⟩ := oif_some h
  obtain ⟨n5, en5, h⟩ := obind_some h
  have h_n5 : n5 < T.1 := by rw [← cp0.1]; exact cp0.2.2 _ _ _ en5
  refine c_get E G n3 0 (v := .ref (ad n5)) (oO_k g4).1 (cc_o0 (oO_k g4).2) rfl (fun w h => .tail _ (iA_13 h)) (by decide) (.tail _ qA_864) rfl (by rw [en5]; rfl) dX11_trackScore_36 ?_
  clear en5
  refine lv_aload_n hx hb dX11_trackScore_39 rfl (lv_at hl 0 rfl) ?_
  obtain ⟨g6, h⟩ := oif_some h
  obtain ⟨n7, en7, h⟩ := obind_some h
  have h_n7 : n7 < T.1 := by rw [← cp0.1]; exact cp0.2.2 _ _ _ en7
  refine c_get E G l0 3 (v := .ref (ad n7)) (oO_k g6).1 (cc_o11 (oO_k g6).2) rfl (fun w h => .tail _ (iA_23 h)) (by decide) (.tail _ qA_657) rfl (by rw [en7]; rfl) dX11_trackScore_40 ?_
  clear en7
  refine lv_aload_n hx hb dX11_trackScore_43 rfl (lv_at hl 0 rfl) ?_
  obtain ⟨g8, h⟩ := oif_some h
  obtain ⟨n9, en9, h⟩ := obind_some h
  have h_n9 : n9 < T.1 := by rw [← cp0.1]; exact cp0.2.2 _ _ _ en9
  refine c_get E G l0 14 (v := .ref (ad n9)) (oO_k g8).1 (cc_o11 (oO_k g8).2) rfl (fun w h => .tail _ (iA_23 h)) (by decide) (.tail _ qA_675) rfl (by rw [en9]; rfl) dX11_trackScore_44 ?_
  clear en9
  obtain ⟨g10, h⟩ := oif_some h
  obtain ⟨n11, en11, h⟩ := obind_some h
  have h_n11 : n11 < T.1 := by rw [← cp0.1]; exact cp0.2.2 _ _ _ en11
  refine c_get E G n9 6 (v := .ref (ad n11)) (oO_k g10).1 (cc_o6 (oO_k g10).2) rfl (fun w h => .tail _ (iA_14 h)) (by decide) (.tail _ qA_695) rfl (by rw [en11]; rfl) dX11_trackScore_47 ?_
  clear en11
  refine lv_iconst (v := 0) hx hb dX11_trackScore_50 (by decide) ?_
  obtain ⟨g12, h⟩ := oif_some h
  obtain ⟨r15, T13, eT13, h⟩ := obind2_some h
  refine q_cvi (As := [.ref (ad n11), .int 0]) (rest := [.ref (ad n5)]) E G hA hX hN hml (u_X0_trackCellIn l hst D cI cJ cZ cMic cSrc cSt cAI cAJ ad T n7 n11 (0 : Int32) eT13) (cwV 2 hts (gaV qA_868 qA_869 qA_870 qA_31 qA_154) rfl rfl rfl (by decide +kernel) ⟨Nat.le_of_ble_eq_true rfl, Nat.le_of_ble_eq_true rfl⟩) (oO_k g12).1 (cc_o0 (oO_k g12).2) rfl rfl hl.1 rfl (lv_room (Nat.le_of_ble_eq_true rfl)) dX11_trackScore_51 hcs (fun q16 T14 H locs hq G => ?_)
  obtain ⟨hq1, hq2⟩ := hq
  rw [hq2] at G
  refine lv_to hq1 ?_
  clear hq1 hq2
  have cp1 := cpr_sp cp0 (s_X0_trackCellIn eT13)
  obtain ⟨g17, h⟩ := oif_some h
  obtain ⟨r20, T18, eT18, h⟩ := obind2_some h
  refine q_cvl (As := [.int r15]) (rest := []) E G hA hX hN hml (u_X10_value l hst D cI cJ cZ cMic cSrc cSt cAI cAJ ad T13 n5 r15 eT18) (cwV 1 hts (gaV qA_791 qA_792 qA_793 qA_6 qA_633) rfl rfl rfl (by decide +kernel) ⟨Nat.le_of_ble_eq_true rfl, Nat.le_of_ble_eq_true rfl⟩) (oO_k g17).1 (cc_o10 (oO_k g17).2) rfl rfl hl.1 rfl (lv_room (Nat.le_of_ble_eq_true rfl)) dX11_trackScore_54 hcs (fun q21 T19 H locs hq G => ?_)
  obtain ⟨hq1, hq2⟩ := hq
  rw [hq2] at G
  refine lv_tol hq1 ?_
  clear hq1 hq2
  have cp2 := cpr_sp cp1 (s_X10_value eT18)
  exact (Nat.succ_ne_zero _ (congrArg Prod.fst (Option.some.inj h)).symm).elim
set_option maxHeartbeats 4000000 in
set_option maxRecDepth 100000 in
theorem b_X11_trackScore (l : Launch) (hst : l.stackTraces = false) (D : va_G) (cI cJ cZ cMic cSrc cSt cAI cAJ : ClassId) (ad : Nat → Nat) (T : AT) (o : Nat) (a0 : Int32) {e1 : Nat} {r1 : Int64} {T1 : AT} (h : g_X11_trackScore T o a0 = some (e1 + 1, r1, T1)) (hrc : RC T) (h_o : o < T.1) : kAXl l yX11_trackScore (Cond.code yX11_trackScore cX11_trackScore 2 (some .long) :: wsA) 7 159 cI cJ cZ cMic cSrc cSt cAI cAJ D ad T [.ref (ad o), .int a0] e1 T1 := by
  intro sz
  refine vx_ofW (cc := cX11_trackScore) (maxL := 2) (ret := (some .long)) (by decide) rfl ?_
  intro p e s m args below meth c s₁ B hml htab hv
  obtain ⟨rfl, hsz, hP, hK, hD0, hX, hN⟩ := hv
  have hx := B.exec
  have hb := B.bytes
  have hr := B.returns
  have hts := atoms_spec (ws := (Cond.code yX11_trackScore cX11_trackScore 2 (some .long) :: wsA)) B.pre
  have hown : s.vm.findClass RX11 = some m.cls := findClass_of_methodNamed B.named
  have hlocks := B.notSynchronized
  subst hsz
  have hD := hD0.self (sz := s.heap.size)
  generalize hAe : va_A (cW ad T.1 (cc cI cJ cZ cMic cSrc cSt cAI cAJ ad T)) s.heap.size = A at hD hX ⊢
  have hA : ∀ q : Nat, s.heap.size ≤ q → A q := fun q h => by rw [← hAe]; exact Or.inr h
  have G : gC cI cJ cZ cMic cSrc cSt cAI cAJ D ad A s.heap s.heap [] T := ⟨hP, hD, va_S.rf⟩
  have E : cE p c cX11_trackScore s m ([.ref (ad o), .int a0] : List Value).toArray (Cond.code yX11_trackScore cX11_trackScore 2 (some .long) :: wsA) D RX11 (CT cI cJ cZ cMic cSrc cSt cAI cAJ) := ⟨hx, hb, hts, hown, hK⟩
  have htab : ∀ x ∈ c.exceptionTable.toList, False := fun x hx => htab x hx
  have hl := lv_entry ([.ref (ad o), .int a0]) (n := 2) (Nat.le_of_ble_eq_true rfl)
  rw [lg_entry_eq]
  generalize (lg_sl ([.ref (ad o), .int a0]) ++ List.replicate (2 - (lg_sl ([.ref (ad o), .int a0])).length) Slot.unset).toArray = ls at hl ⊢
  have hl : lv_has ls 2 [(0, .ref (ad o)), (1, .int a0)] := hl
  have hgl := GL.rf T
  have had : ∀ n, n < T.1 → ad n = ad n := fun _ _ => rfl
  have hT1 := s_X11_trackScore h
  have hcs := cs_okx hgl hT1
  have hcx := cs_okx1 hgl hT1
  refine w_cast (Nat.sub_self T.1).symm (Nat.sub_self (sg T)).symm ?_
  have cp0 := cpr0 hrc
  unfold g_X11_trackScore at h
  refine lv_aload_n hx hb dX11_trackScore_0 rfl (lv_at hl 0 rfl) ?_
  obtain ⟨g2, h⟩ := oif_some h
  rcases othr_t h with ⟨r0, eT3⟩ | ⟨r5, T3, eT3, h⟩
  · refine q_xvv (As := []) (rest := []) E G hA hX hN hml (x_X11_needCamera l hst D cI cJ cZ cMic cSrc cSt cAI cAJ ad T o eT3) (cwV 0 hts (gaV qA_728 qA_729 qA_730 qA_131 qA_731) rfl rfl rfl (by decide +kernel) ⟨Nat.le_of_ble_eq_true rfl, Nat.le_of_ble_eq_true rfl⟩) (oO_k g2).1 (cc_o11 (oO_k g2).2) rfl rfl hl.1 rfl (lv_room (Nat.le_of_ble_eq_true rfl)) dX11_trackScore_1 hcx (fun E9 ce q9 T9 H locs hp G hce hcv hcl => ?_)
    obtain ⟨hE, hT⟩ := hp
    subst hE
    rw [hT] at G
    exact vx_out (fun x hx => (htab x hx).elim) hlocks hce hcv hcl (fun t ht hvm => ⟨(T1, ad), trivial, ⟨⟨rfl, rfl, had⟩, by rw [ht]; exact G.1, va_K.moved hvm hK, G.2.1⟩, G.2.2.F ht⟩) G.2.2.2.2 hcx.1 hcx.2
  refine q_cvv (As := []) (rest := []) E G hA hX hN hml (u_X11_needCamera l hst D cI cJ cZ cMic cSrc cSt cAI cAJ ad T o eT3) (cwV 0 hts (gaV qA_728 qA_729 qA_730 qA_131 qA_731) rfl rfl rfl (by decide +kernel) ⟨Nat.le_of_ble_eq_true rfl, Nat.le_of_ble_eq_true rfl⟩) (oO_k g2).1 (cc_o11 (oO_k g2).2) rfl rfl hl.1 rfl (lv_room (Nat.le_of_ble_eq_true rfl)) dX11_trackScore_1 hcs (fun T4 H locs hq G => ?_)
  rw [hq] at G
  clear hq
  have cp1 := cpr_sp cp0 (s_X11_needCamera eT3)
  refine lv_iload_n hx hb dX11_trackScore_4 rfl (lv_at hl 1 rfl) ?_
  refine lv_iconst (v := 4) hx hb dX11_trackScore_5 (by decide) ?_
  refine lv_aload_n hx hb dX11_trackScore_6 rfl (lv_at hl 0 rfl) ?_
  obtain ⟨g7, h⟩ := oif_some h
  obtain ⟨n8, en8, h⟩ := obind_some h
  have h_n8 : n8 < T.1 := by rw [← cp1.1]; exact cp1.2.2 _ _ _ en8
  refine c_get E G o 14 (v := .ref (ad n8)) (oO_k g7).1 (cc_o11 (oO_k g7).2) rfl (fun w h => .tail _ (iA_23 h)) (by decide) (.tail _ qA_675) rfl (by rw [en8]; rfl) dX11_trackScore_7 ?_
  clear en8
  obtain ⟨g9, h⟩ := oif_some h
  refine c_get E G n8 2 (oO_k g9).1 (cc_o6 (oO_k g9).2) rfl (fun w h => .tail _ (iA_14 h)) (by decide) (.tail _ qA_761) rfl rfl dX11_trackScore_10 ?_
  refine lv_topi (fun v10 ev10 => ?_)
  have h := elet_at ev10 h
  clear ev10
  rcases othr_t h with ⟨r0, eT11⟩ | ⟨r13, T11, eT11, h⟩
  · refine q_xsv (As := [.int a0, .int 4, .int v10]) (rest := []) E G hA hX hN hml (x_X11_needRange l hst D cI cJ cZ cMic cSrc cSt cAI cAJ ad T3 a0 (4 : Int32) v10 eT11) (cwS 3 hts (gaS qA_741 qA_742 qA_131 qA_743) rfl rfl rfl (by decide +kernel) ⟨Nat.le_of_ble_eq_true rfl, Nat.le_of_ble_eq_true rfl⟩) rfl hl.1 rfl (lv_room (Nat.le_of_ble_eq_true rfl)) dX11_trackScore_13 hcx (fun E9 ce q9 T9 H locs hp G hce hcv hcl => ?_)
    obtain ⟨hE, hT⟩ := hp
    subst hE
    rw [hT] at G
    exact vx_out (fun x hx => (htab x hx).elim) hlocks hce hcv hcl (fun t ht hvm => ⟨(T1, ad), trivial, ⟨⟨rfl, rfl, had⟩, by rw [ht]; exact G.1, va_K.moved hvm hK, G.2.1⟩, G.2.2.F ht⟩) G.2.2.2.2 hcx.1 hcx.2
  refine q_csv (As := [.int a0, .int 4, .int v10]) (rest := []) E G hA hX hN hml (u_X11_needRange l hst D cI cJ cZ cMic cSrc cSt cAI cAJ ad T3 a0 (4 : Int32) v10 eT11) (cwS 3 hts (gaS qA_741 qA_742 qA_131 qA_743) rfl rfl rfl (by decide +kernel) ⟨Nat.le_of_ble_eq_true rfl, Nat.le_of_ble_eq_true rfl⟩) rfl hl.1 rfl (lv_room (Nat.le_of_ble_eq_true rfl)) dX11_trackScore_13 hcs (fun T12 H locs hq G => ?_)
  rw [hq] at G
  clear hq
  have cp2 := cpr_sp cp1 (s_X11_needRange eT11)
  refine lv_aload_n hx hb dX11_trackScore_16 rfl (lv_at hl 0 rfl) ?_
  obtain ⟨g15, h⟩ := oif_some h
  obtain ⟨n16, en16, h⟩ := obind_some h
  have h_n16 : n16 < T.1 := by rw [← cp2.1]; exact cp2.2.2 _ _ _ en16
  refine c_get E G o 3 (v := .ref (ad n16)) (oO_k g15).1 (cc_o11 (oO_k g15).2) rfl (fun w h => .tail _ (iA_23 h)) (by decide) (.tail _ qA_657) rfl (by rw [en16]; rfl) dX11_trackScore_17 ?_
  clear en16
  refine lv_aload_n hx hb dX11_trackScore_20 rfl (lv_at hl 0 rfl) ?_
  obtain ⟨g17, h⟩ := oif_some h
  obtain ⟨n18, en18, h⟩ := obind_some h
  have h_n18 : n18 < T.1 := by rw [← cp2.1]; exact cp2.2.2 _ _ _ en18
  refine c_get E G o 14 (v := .ref (ad n18)) (oO_k g17).1 (cc_o11 (oO_k g17).2) rfl (fun w h => .tail _ (iA_23 h)) (by decide) (.tail _ qA_675) rfl (by rw [en18]; rfl) dX11_trackScore_21 ?_
  clear en18
  refine lv_aload_n hx hb dX11_trackScore_24 rfl (lv_at hl 0 rfl) ?_
  obtain ⟨g19, h⟩ := oif_some h
  obtain ⟨n20, en20, h⟩ := obind_some h
  have h_n20 : n20 < T.1 := by rw [← cp2.1]; exact cp2.2.2 _ _ _ en20
  refine c_get E G o 6 (v := .ref (ad n20)) (oO_k g19).1 (cc_o11 (oO_k g19).2) rfl (fun w h => .tail _ (iA_23 h)) (by decide) (.tail _ qA_664) rfl (by rw [en20]; rfl) dX11_trackScore_25 ?_
  clear en20
  refine lv_iload_n hx hb dX11_trackScore_28 rfl (lv_at hl 1 rfl) ?_
  obtain ⟨g21, h⟩ := oif_some h
  obtain ⟨T22, eT22, h⟩ := obind_some h
  have hg2 := s_X0_score eT22
  have hrc2 := hg2.2.2 cp2.2.2
  have hT2 := s_X11_trackScore_b32 _ _ h
  refine q_avv (As := [.ref (ad n18), .ref (ad n20), .int a0]) (rest := []) E G hA hX hN hml (a_X0_score l hst D cI cJ cZ cMic cSrc cSt cAI cAJ ad T11 n16 n18 n20 a0 eT22 cp2.2.2 (by rw [cp2.1]; exact h_n16) (by rw [cp2.1]; exact h_n18) (by rw [cp2.1]; exact h_n20)) (cwV 3 hts (gaV qA_865 qA_866 qA_867 qA_31 qA_127) rfl rfl rfl (by decide +kernel) ⟨Nat.le_of_ble_eq_true rfl, Nat.le_of_ble_eq_true rfl⟩) (oO_k g21).1 (cc_o0 (oO_k g21).2) rfl rfl hl.1 rfl (lv_room (Nat.le_of_ble_eq_true rfl)) dX11_trackScore_29 (cs_avx hgl cp2 hg2 hT2) (fun ad2 H locs hga G => ?_)
  refine w_cast (c2 := T22.1 - T.1) (s2 := sg T22 - sg T) (cs_f1 hgl cp2 hg2) (cs_f2 hgl cp2 hg2) ?_
  have hl := lv_sub hl [0] rfl
  rw [show ad o = ad2 o from (hga o (by rw [cp2.1]; exact h_o)).symm] at hl
  exact b_X11_trackScore_b32 E hA hX hN hml hst htab hlocks (fun ad H locs t had G hvm h1 h2 => ⟨(T1, ad), trivial, ⟨⟨rfl, rfl, had⟩, (c_thrown G hK hvm h1 h2).1⟩, (c_thrown G hK hvm h1 h2).2⟩) _ _ _ _ _ _ h (GL.tr (gl_cpr hgl cp2) hg2) hrc2 (fun n hn => (hga n (by rw [cp2.1]; exact Nat.lt_of_lt_of_le hn hgl.1)).trans (had n hn)) (Nat.lt_of_lt_of_le (by rw [cp2.1]; exact h_o) hg2.1) G hl
def g_X11_trackCell_b76  (T : AT) (l0 : Nat) (l2 : Int32) : Option (Nat × Int32 × AT) := oif (oO T l0 11 = true) <| obind (T.2.2.2.2 l0 3) fun n3 => oif (oO T l0 11 = true) <| obind (T.2.2.2.2 l0 14) fun n5 => oif (oO T n5 6 = true) <| obind (T.2.2.2.2 n5 6) fun n7 => oif (oO T n3 0 = true) <| obind2 (g_X0_trackCellIn T n3 n7 l2) fun r11 T9 => some (0, r11, T9)
def g_X11_trackCell_b48  (T : AT) (l0 : Nat) (l1 : Int32) (l2 : Int32) : Option (Nat × Int32 × AT) := oif (oO T l0 11 = true) <| obind (T.2.2.2.2 l0 14) fun n3 => oif (oO T n3 6 = true) <| elet (T.2.2.1 n3 2) fun v5 => othr (g_X11_needRange T l1 (4 : Int32) v5) 0 fun r8 T6 => oif (oO T6 l0 11 = true) <| obind (T6.2.2.2.2 l0 3) fun n11 => oif (oO T6 l0 11 = true) <| obind (T6.2.2.2.2 l0 14) fun n13 => oif (oO T6 l0 11 = true) <| obind (T6.2.2.2.2 l0 6) fun n15 => oif (oO T6 n11 0 = true) <| obind (g_X0_score T6 n11 n13 n15 l1) fun T17 => g_X11_trackCell_b76 T17 l0 l2
def g_X11_trackCell_b25  (T : AT) (s0 : Int32) (l0 : Nat) (l1 : Int32) (l2 : Int32) : Option (Nat × Int32 × AT) := if s0 = 0 then (g_X11_trackCell_b48 T l0 l1 l2) else (oif (oO T l0 11 = true) <| obind (T.2.2.2.2 l0 14) fun n4 => oif (oO T n4 6 = true) <| elet (T.2.2.1 n4 2) fun v6 => elet (v6.toInt64) fun v7 => elet (l1.toInt64) fun v8 => obind (g_X11_quotient v7 v8) fun r9 => elet (r9.toInt32) fun v11 => othr (g_X11_needIndex T l2 v11) 0 fun r14 T12 => g_X11_trackCell_b48 T12 l0 l1 l2)
def g_X11_trackCell_b24  (T : AT) (l0 : Nat) (l1 : Int32) (l2 : Int32) : Option (Nat × Int32 × AT) := g_X11_trackCell_b25 T 0 l0 l1 l2
def g_X11_trackCell (T : AT) (o : Nat) (a0 : Int32) (a1 : Int32) : Option (Nat × Int32 × AT) := oif (oO T o 11 = true) <| othr (g_X11_needCamera T o) 0 fun r5 T3 => if a0 < 4 then (g_X11_trackCell_b24 T3 o a0 a1) else (oif (oO T3 o 11 = true) <| obind (T3.2.2.2.2 o 14) fun n9 => oif (oO T3 n9 6 = true) <| elet (T3.2.2.1 n9 2) fun v11 => if v11 < a0 then (g_X11_trackCell_b24 T3 o a0 a1) else (g_X11_trackCell_b25 T3 1 o a0 a1))
set_option maxHeartbeats 4000000 in
set_option maxRecDepth 100000 in
theorem s_X11_trackCell_b76 {e1 : Nat} {r1 : Int32} {T1 : AT} : ∀ (T : AT) (l0 : Nat) (l2 : Int32), g_X11_trackCell_b76 T l0 l2 = some (e1, r1, T1) → GL T T1 := by
  intro T l0 l2 h
  have p0 := GL.rf T
  unfold g_X11_trackCell_b76 at h
  obtain ⟨g2, h⟩ := oif_some h
  obtain ⟨n3, en3, h⟩ := obind_some h
  obtain ⟨g4, h⟩ := oif_some h
  obtain ⟨n5, en5, h⟩ := obind_some h
  obtain ⟨g6, h⟩ := oif_some h
  obtain ⟨n7, en7, h⟩ := obind_some h
  obtain ⟨g8, h⟩ := oif_some h
  obtain ⟨r10, T9, eT9, h⟩ := obind2_some h
  have p1 : GL T T9 := GL.tr p0 (gl_sp (s_X0_trackCellIn eT9))
  rw [← (osome3 h).2.2]
  exact p1
set_option maxHeartbeats 4000000 in
set_option maxRecDepth 100000 in
theorem s_X11_trackCell_b48 {e1 : Nat} {r1 : Int32} {T1 : AT} : ∀ (T : AT) (l0 : Nat) (l1 : Int32) (l2 : Int32), g_X11_trackCell_b48 T l0 l1 l2 = some (e1, r1, T1) → GL T T1 := by
  intro T l0 l1 l2 h
  have p0 := GL.rf T
  unfold g_X11_trackCell_b48 at h
  obtain ⟨g2, h⟩ := oif_some h
  obtain ⟨n3, en3, h⟩ := obind_some h
  obtain ⟨g4, h⟩ := oif_some h
  obtain ⟨v5, -, h⟩ := elet_some h
  rcases othr_s h with ⟨k9, r9, e9, -⟩ | ⟨r7, T6, eT6, h⟩
  · exact GL.tr p0 (gl_sp (s_X11_needRange e9))
  have p1 : GL T T6 := GL.tr p0 (gl_sp (s_X11_needRange eT6))
  obtain ⟨g8, h⟩ := oif_some h
  obtain ⟨n9, en9, h⟩ := obind_some h
  obtain ⟨g10, h⟩ := oif_some h
  obtain ⟨n11, en11, h⟩ := obind_some h
  obtain ⟨g12, h⟩ := oif_some h
  obtain ⟨n13, en13, h⟩ := obind_some h
  obtain ⟨g14, h⟩ := oif_some h
  obtain ⟨T15, eT15, h⟩ := obind_some h
  have p2 : GL T T15 := GL.tr p1 (s_X0_score eT15)
  exact GL.tr p2 (s_X11_trackCell_b76 _ _ _ h)
set_option maxHeartbeats 4000000 in
set_option maxRecDepth 100000 in
theorem s_X11_trackCell_b25 {e1 : Nat} {r1 : Int32} {T1 : AT} : ∀ (T : AT) (s0 : Int32) (l0 : Nat) (l1 : Int32) (l2 : Int32), g_X11_trackCell_b25 T s0 l0 l1 l2 = some (e1, r1, T1) → GL T T1 := by
  intro T s0 l0 l1 l2 h
  have p0 := GL.rf T
  unfold g_X11_trackCell_b25 at h
  rcases oif_or h with ⟨c2, h⟩ | ⟨c2, h⟩
  · have h := h
    exact GL.tr p0 (s_X11_trackCell_b48 _ _ _ _ h)
  · have h := h
    obtain ⟨g3, h⟩ := oif_some h
    obtain ⟨n4, en4, h⟩ := obind_some h
    obtain ⟨g5, h⟩ := oif_some h
    obtain ⟨v6, -, h⟩ := elet_some h
    obtain ⟨v7, -, h⟩ := elet_some h
    obtain ⟨v8, -, h⟩ := elet_some h
    obtain ⟨r9, -, h⟩ := obind_some h
    obtain ⟨v10, -, h⟩ := elet_some h
    rcases othr_s h with ⟨k9, r9, e9, -⟩ | ⟨r12, T11, eT11, h⟩
    · exact GL.tr p0 (gl_sp (s_X11_needIndex e9))
    have p1 : GL T T11 := GL.tr p0 (gl_sp (s_X11_needIndex eT11))
    exact GL.tr p1 (s_X11_trackCell_b48 _ _ _ _ h)
set_option maxHeartbeats 4000000 in
set_option maxRecDepth 100000 in
theorem s_X11_trackCell_b24 {e1 : Nat} {r1 : Int32} {T1 : AT} : ∀ (T : AT) (l0 : Nat) (l1 : Int32) (l2 : Int32), g_X11_trackCell_b24 T l0 l1 l2 = some (e1, r1, T1) → GL T T1 := by
  intro T l0 l1 l2 h
  have p0 := GL.rf T
  unfold g_X11_trackCell_b24 at h
  exact GL.tr p0 (s_X11_trackCell_b25 _ _ _ _ _ h)
set_option maxHeartbeats 4000000 in
set_option maxRecDepth 100000 in
theorem s_X11_trackCell {T : AT} {o : Nat} {a0 : Int32} {a1 : Int32} {e1 : Nat} {r1 : Int32} {T1 : AT} (h : g_X11_trackCell T o a0 a1 = some (e1, r1, T1)) : GL T T1 := by
  have p0 := GL.rf T
  unfold g_X11_trackCell at h
  obtain ⟨g2, h⟩ := oif_some h
  rcases othr_s h with ⟨k9, r9, e9, -⟩ | ⟨r4, T3, eT3, h⟩
  · exact GL.tr p0 (gl_sp (s_X11_needCamera e9))
  have p1 : GL T T3 := GL.tr p0 (gl_sp (s_X11_needCamera eT3))
  rcases oif_or h with ⟨c5, h⟩ | ⟨c5, h⟩
  · have h := h
    exact GL.tr p1 (s_X11_trackCell_b24 _ _ _ _ h)
  · have h := h
    obtain ⟨g6, h⟩ := oif_some h
    obtain ⟨n7, en7, h⟩ := obind_some h
    obtain ⟨g8, h⟩ := oif_some h
    obtain ⟨v9, -, h⟩ := elet_some h
    rcases oif_or h with ⟨c10, h⟩ | ⟨c10, h⟩
    · have h := h
      exact GL.tr p1 (s_X11_trackCell_b24 _ _ _ _ h)
    · have h := h
      exact GL.tr p1 (s_X11_trackCell_b25 _ _ _ _ _ h)
set_option maxHeartbeats 4000000 in
set_option maxRecDepth 100000 in
theorem a_X11_trackCell_b76 {p : Program} {l : Launch} {e : Env} {s : State} {m : MethodId} {args : Array Value} {below : List Frame} {meth : Method} {c : Code} {Q : State → Prop} {D : va_G} {A : Nat → Prop} {cI cJ cZ cMic cSrc cSt cAI cAJ : ClassId} {ad0 : Nat → Nat} {T0 : AT} {r1 : Int32} {T1 : AT} (E : cE p c cX11_trackCell s m args (Cond.code yX11_trackCell cX11_trackCell 4 (some .int) :: wsA) D RX11 (CT cI cJ cZ cMic cSrc cSt cAI cAJ)) (hA : ∀ q : Nat, s.heap.size ≤ q → A q) (hX : xT A s) (hN : nX s) (hml : c.maxLocals = 4) (hst : l.stackTraces = false) (kr91 : ∀ (ad : Nat → Nat) (H : Heap) (locs : List Loc) (ls : Array Slot), (∀ n, n < T0.1 → ad n = ad0 n) → gC cI cJ cZ cMic cSrc cSt cAI cAJ D ad A s.heap H locs T1 → W p l e { frames := 7, cells := T1.1 - T0.1, slots := sg T1 - sg T0, locals := 159 } s m args below meth c H locs (T1.1 - T0.1) (sg T1 - sg T0) Q (F0 m 91 ls [.int r1])) : ∀ (T : AT) (ad : Nat → Nat) (H : Heap) (locs : List Loc) (ls : Array Slot) (l0 : Nat) (l2 : Int32), g_X11_trackCell_b76 T l0 l2 = some (0, r1, T1) → GL T0 T → RC T → (∀ n, n < T0.1 → ad n = ad0 n) → l0 < T.1 → gC cI cJ cZ cMic cSrc cSt cAI cAJ D ad A s.heap H locs T → lv_has ls 4 [(0, .ref (ad l0)), (2, .int l2)] → W p l e { frames := 7, cells := T1.1 - T0.1, slots := sg T1 - sg T0, locals := 159 } s m args below meth c H locs (T.1 - T0.1) (sg T - sg T0) Q (F0 m 76 ls []) := by
  have hx := E.1
  have hb := E.2.1
  have hts := E.2.2.1
  have hown := E.2.2.2.1
  have hK := E.2.2.2.2
  intro T ad H locs ls l0 l2 h hgl hrc had h_l0 G hl
  have hT1 := s_X11_trackCell_b76 _ _ _ h
  have hcs := cs_ok hgl hT1
  have cp0 := cpr0 hrc
  unfold g_X11_trackCell_b76 at h
  refine lv_aload_n hx hb dX11_trackCell_76 rfl (lv_at hl 0 rfl) ?_
  obtain ⟨g2, h⟩ := oif_some h
  obtain ⟨n3, en3, h⟩ := obind_some h
  have h_n3 : n3 < T.1 := by rw [← cp0.1]; exact cp0.2.2 _ _ _ en3
  refine c_get E G l0 3 (v := .ref (ad n3)) (oO_k g2).1 (cc_o11 (oO_k g2).2) rfl (fun w h => .tail _ (iA_23 h)) (by decide) (.tail _ qA_657) rfl (by rw [en3]; rfl) dX11_trackCell_77 ?_
  clear en3
  refine lv_aload_n hx hb dX11_trackCell_80 rfl (lv_at hl 0 rfl) ?_
  obtain ⟨g4, h⟩ := oif_some h
  obtain ⟨n5, en5, h⟩ := obind_some h
  have h_n5 : n5 < T.1 := by rw [← cp0.1]; exact cp0.2.2 _ _ _ en5
  refine c_get E G l0 14 (v := .ref (ad n5)) (oO_k g4).1 (cc_o11 (oO_k g4).2) rfl (fun w h => .tail _ (iA_23 h)) (by decide) (.tail _ qA_675) rfl (by rw [en5]; rfl) dX11_trackCell_81 ?_
  clear en5
  obtain ⟨g6, h⟩ := oif_some h
  obtain ⟨n7, en7, h⟩ := obind_some h
  have h_n7 : n7 < T.1 := by rw [← cp0.1]; exact cp0.2.2 _ _ _ en7
  refine c_get E G n5 6 (v := .ref (ad n7)) (oO_k g6).1 (cc_o6 (oO_k g6).2) rfl (fun w h => .tail _ (iA_14 h)) (by decide) (.tail _ qA_695) rfl (by rw [en7]; rfl) dX11_trackCell_84 ?_
  clear en7
  refine lv_iload_n hx hb dX11_trackCell_87 rfl (lv_at hl 1 rfl) ?_
  obtain ⟨g8, h⟩ := oif_some h
  obtain ⟨r11, T9, eT9, h⟩ := obind2_some h
  refine q_cvi (As := [.ref (ad n7), .int l2]) (rest := []) E G hA hX hN hml (u_X0_trackCellIn l hst D cI cJ cZ cMic cSrc cSt cAI cAJ ad T n3 n7 l2 eT9) (cwV 2 hts (gaV qA_868 qA_869 qA_870 qA_31 qA_154) rfl rfl rfl (by decide +kernel) ⟨Nat.le_of_ble_eq_true rfl, Nat.le_of_ble_eq_true rfl⟩) (oO_k g8).1 (cc_o0 (oO_k g8).2) rfl rfl hl.1 rfl (lv_room (Nat.le_of_ble_eq_true rfl)) dX11_trackCell_88 hcs (fun q12 T10 H locs hq G => ?_)
  obtain ⟨hq1, hq2⟩ := hq
  rw [hq2] at G
  refine lv_to hq1 ?_
  clear hq1 hq2
  have cp1 := cpr_sp cp0 (s_X0_trackCellIn eT9)
  rw [(osome3 h).2.2] at G
  refine w_cast (c2 := T1.1 - T0.1) (s2 := sg T1 - sg T0) (by rw [← (osome3 h).2.2, cp1.1] <;> rfl) (by rw [← (osome3 h).2.2, sg_cpr cp1] <;> rfl) ?_
  refine lv_to ((osome3 h).2.1) ?_
  exact kr91 ad _ _ _ had G
set_option maxHeartbeats 4000000 in
set_option maxRecDepth 100000 in
theorem a_X11_trackCell_b48 {p : Program} {l : Launch} {e : Env} {s : State} {m : MethodId} {args : Array Value} {below : List Frame} {meth : Method} {c : Code} {Q : State → Prop} {D : va_G} {A : Nat → Prop} {cI cJ cZ cMic cSrc cSt cAI cAJ : ClassId} {ad0 : Nat → Nat} {T0 : AT} {r1 : Int32} {T1 : AT} (E : cE p c cX11_trackCell s m args (Cond.code yX11_trackCell cX11_trackCell 4 (some .int) :: wsA) D RX11 (CT cI cJ cZ cMic cSrc cSt cAI cAJ)) (hA : ∀ q : Nat, s.heap.size ≤ q → A q) (hX : xT A s) (hN : nX s) (hml : c.maxLocals = 4) (hst : l.stackTraces = false) (kr91 : ∀ (ad : Nat → Nat) (H : Heap) (locs : List Loc) (ls : Array Slot), (∀ n, n < T0.1 → ad n = ad0 n) → gC cI cJ cZ cMic cSrc cSt cAI cAJ D ad A s.heap H locs T1 → W p l e { frames := 7, cells := T1.1 - T0.1, slots := sg T1 - sg T0, locals := 159 } s m args below meth c H locs (T1.1 - T0.1) (sg T1 - sg T0) Q (F0 m 91 ls [.int r1])) : ∀ (T : AT) (ad : Nat → Nat) (H : Heap) (locs : List Loc) (ls : Array Slot) (l0 : Nat) (l1 : Int32) (l2 : Int32), g_X11_trackCell_b48 T l0 l1 l2 = some (0, r1, T1) → GL T0 T → RC T → (∀ n, n < T0.1 → ad n = ad0 n) → l0 < T.1 → gC cI cJ cZ cMic cSrc cSt cAI cAJ D ad A s.heap H locs T → lv_has ls 4 [(0, .ref (ad l0)), (1, .int l1), (2, .int l2)] → W p l e { frames := 7, cells := T1.1 - T0.1, slots := sg T1 - sg T0, locals := 159 } s m args below meth c H locs (T.1 - T0.1) (sg T - sg T0) Q (F0 m 48 ls []) := by
  have hx := E.1
  have hb := E.2.1
  have hts := E.2.2.1
  have hown := E.2.2.2.1
  have hK := E.2.2.2.2
  intro T ad H locs ls l0 l1 l2 h hgl hrc had h_l0 G hl
  have hT1 := s_X11_trackCell_b48 _ _ _ _ h
  have hcs := cs_ok hgl hT1
  have cp0 := cpr0 hrc
  unfold g_X11_trackCell_b48 at h
  refine lv_iload_n hx hb dX11_trackCell_48 rfl (lv_at hl 1 rfl) ?_
  refine lv_iconst (v := 4) hx hb dX11_trackCell_49 (by decide) ?_
  refine lv_aload_n hx hb dX11_trackCell_50 rfl (lv_at hl 0 rfl) ?_
  obtain ⟨g2, h⟩ := oif_some h
  obtain ⟨n3, en3, h⟩ := obind_some h
  have h_n3 : n3 < T.1 := by rw [← cp0.1]; exact cp0.2.2 _ _ _ en3
  refine c_get E G l0 14 (v := .ref (ad n3)) (oO_k g2).1 (cc_o11 (oO_k g2).2) rfl (fun w h => .tail _ (iA_23 h)) (by decide) (.tail _ qA_675) rfl (by rw [en3]; rfl) dX11_trackCell_51 ?_
  clear en3
  obtain ⟨g4, h⟩ := oif_some h
  refine c_get E G n3 2 (oO_k g4).1 (cc_o6 (oO_k g4).2) rfl (fun w h => .tail _ (iA_14 h)) (by decide) (.tail _ qA_761) rfl rfl dX11_trackCell_54 ?_
  refine lv_topi (fun v5 ev5 => ?_)
  have h := elet_at ev5 h
  clear ev5
  obtain ⟨r8, T6, eT6, h⟩ := othr_n h
  refine q_csv (As := [.int l1, .int 4, .int v5]) (rest := []) E G hA hX hN hml (u_X11_needRange l hst D cI cJ cZ cMic cSrc cSt cAI cAJ ad T l1 (4 : Int32) v5 eT6) (cwS 3 hts (gaS qA_741 qA_742 qA_131 qA_743) rfl rfl rfl (by decide +kernel) ⟨Nat.le_of_ble_eq_true rfl, Nat.le_of_ble_eq_true rfl⟩) rfl hl.1 rfl (lv_room (Nat.le_of_ble_eq_true rfl)) dX11_trackCell_57 hcs (fun T7 H locs hq G => ?_)
  rw [hq] at G
  clear hq
  have cp1 := cpr_sp cp0 (s_X11_needRange eT6)
  refine lv_aload_n hx hb dX11_trackCell_60 rfl (lv_at hl 0 rfl) ?_
  obtain ⟨g10, h⟩ := oif_some h
  obtain ⟨n11, en11, h⟩ := obind_some h
  have h_n11 : n11 < T.1 := by rw [← cp1.1]; exact cp1.2.2 _ _ _ en11
  refine c_get E G l0 3 (v := .ref (ad n11)) (oO_k g10).1 (cc_o11 (oO_k g10).2) rfl (fun w h => .tail _ (iA_23 h)) (by decide) (.tail _ qA_657) rfl (by rw [en11]; rfl) dX11_trackCell_61 ?_
  clear en11
  refine lv_aload_n hx hb dX11_trackCell_64 rfl (lv_at hl 0 rfl) ?_
  obtain ⟨g12, h⟩ := oif_some h
  obtain ⟨n13, en13, h⟩ := obind_some h
  have h_n13 : n13 < T.1 := by rw [← cp1.1]; exact cp1.2.2 _ _ _ en13
  refine c_get E G l0 14 (v := .ref (ad n13)) (oO_k g12).1 (cc_o11 (oO_k g12).2) rfl (fun w h => .tail _ (iA_23 h)) (by decide) (.tail _ qA_675) rfl (by rw [en13]; rfl) dX11_trackCell_65 ?_
  clear en13
  refine lv_aload_n hx hb dX11_trackCell_68 rfl (lv_at hl 0 rfl) ?_
  obtain ⟨g14, h⟩ := oif_some h
  obtain ⟨n15, en15, h⟩ := obind_some h
  have h_n15 : n15 < T.1 := by rw [← cp1.1]; exact cp1.2.2 _ _ _ en15
  refine c_get E G l0 6 (v := .ref (ad n15)) (oO_k g14).1 (cc_o11 (oO_k g14).2) rfl (fun w h => .tail _ (iA_23 h)) (by decide) (.tail _ qA_664) rfl (by rw [en15]; rfl) dX11_trackCell_69 ?_
  clear en15
  refine lv_iload_n hx hb dX11_trackCell_72 rfl (lv_at hl 1 rfl) ?_
  obtain ⟨g16, h⟩ := oif_some h
  obtain ⟨T17, eT17, h⟩ := obind_some h
  have hg2 := s_X0_score eT17
  have hrc2 := hg2.2.2 cp1.2.2
  have hT2 := s_X11_trackCell_b76 _ _ _ h
  refine q_avv (As := [.ref (ad n13), .ref (ad n15), .int l1]) (rest := []) E G hA hX hN hml (a_X0_score l hst D cI cJ cZ cMic cSrc cSt cAI cAJ ad T6 n11 n13 n15 l1 eT17 cp1.2.2 (by rw [cp1.1]; exact h_n11) (by rw [cp1.1]; exact h_n13) (by rw [cp1.1]; exact h_n15)) (cwV 3 hts (gaV qA_865 qA_866 qA_867 qA_31 qA_127) rfl rfl rfl (by decide +kernel) ⟨Nat.le_of_ble_eq_true rfl, Nat.le_of_ble_eq_true rfl⟩) (oO_k g16).1 (cc_o0 (oO_k g16).2) rfl rfl hl.1 rfl (lv_room (Nat.le_of_ble_eq_true rfl)) dX11_trackCell_73 (cs_av hgl cp1 hg2 hT2) (fun ad2 H locs hga G => ?_)
  refine w_cast (c2 := T17.1 - T0.1) (s2 := sg T17 - sg T0) (cs_f1 hgl cp1 hg2) (cs_f2 hgl cp1 hg2) ?_
  have hl := lv_sub hl [0, 2] rfl
  rw [show ad l0 = ad2 l0 from (hga l0 (by rw [cp1.1]; exact h_l0)).symm] at hl
  exact a_X11_trackCell_b76 E hA hX hN hml hst kr91 _ _ _ _ _ _ _ h (GL.tr (gl_cpr hgl cp1) hg2) hrc2 (fun n hn => (hga n (by rw [cp1.1]; exact Nat.lt_of_lt_of_le hn hgl.1)).trans (had n hn)) (Nat.lt_of_lt_of_le (by rw [cp1.1]; exact h_l0) hg2.1) G hl
set_option maxHeartbeats 4000000 in
set_option maxRecDepth 100000 in
theorem a_X11_trackCell_b25 {p : Program} {l : Launch} {e : Env} {s : State} {m : MethodId} {args : Array Value} {below : List Frame} {meth : Method} {c : Code} {Q : State → Prop} {D : va_G} {A : Nat → Prop} {cI cJ cZ cMic cSrc cSt cAI cAJ : ClassId} {ad0 : Nat → Nat} {T0 : AT} {r1 : Int32} {T1 : AT} (E : cE p c cX11_trackCell s m args (Cond.code yX11_trackCell cX11_trackCell 4 (some .int) :: wsA) D RX11 (CT cI cJ cZ cMic cSrc cSt cAI cAJ)) (hA : ∀ q : Nat, s.heap.size ≤ q → A q) (hX : xT A s) (hN : nX s) (hml : c.maxLocals = 4) (hst : l.stackTraces = false) (kr91 : ∀ (ad : Nat → Nat) (H : Heap) (locs : List Loc) (ls : Array Slot), (∀ n, n < T0.1 → ad n = ad0 n) → gC cI cJ cZ cMic cSrc cSt cAI cAJ D ad A s.heap H locs T1 → W p l e { frames := 7, cells := T1.1 - T0.1, slots := sg T1 - sg T0, locals := 159 } s m args below meth c H locs (T1.1 - T0.1) (sg T1 - sg T0) Q (F0 m 91 ls [.int r1])) : ∀ (T : AT) (ad : Nat → Nat) (H : Heap) (locs : List Loc) (ls : Array Slot) (s0 : Int32) (l0 : Nat) (l1 : Int32) (l2 : Int32), g_X11_trackCell_b25 T s0 l0 l1 l2 = some (0, r1, T1) → GL T0 T → RC T → (∀ n, n < T0.1 → ad n = ad0 n) → l0 < T.1 → gC cI cJ cZ cMic cSrc cSt cAI cAJ D ad A s.heap H locs T → lv_has ls 4 [(0, .ref (ad l0)), (1, .int l1), (2, .int l2)] → W p l e { frames := 7, cells := T1.1 - T0.1, slots := sg T1 - sg T0, locals := 159 } s m args below meth c H locs (T.1 - T0.1) (sg T - sg T0) Q (F0 m 25 ls [.int s0]) := by
  have hx := E.1
  have hb := E.2.1
  have hts := E.2.2.1
  have hown := E.2.2.2.1
  have hK := E.2.2.2.2
  intro T ad H locs ls s0 l0 l1 l2 h hgl hrc had h_l0 G hl
  have hT1 := s_X11_trackCell_b25 _ _ _ _ _ h
  have hcs := cs_ok hgl hT1
  have cp0 := cpr0 hrc
  unfold g_X11_trackCell_b25 at h
  refine lv_istore_n (lv' := [(3, .int s0), (0, .ref (ad l0)), (1, .int l1), (2, .int l2)]) hx hb dX11_trackCell_25 rfl hl (by decide) rfl (fun ls hl => ?_)
  refine lv_iload_n hx hb dX11_trackCell_26 rfl (lv_at hl 0 rfl) ?_
  refine lv_if_eq (tgt := 48) hx hb dX11_trackCell_27 (by decide) (fun c2 => ?_) (fun c2 => ?_)
  · have h := oif_pos c2 h
    have hl := lv_sub hl [1, 2, 3] rfl
    refine w_cast (c2 := T.1 - T0.1) (s2 := sg T - sg T0) (by rw [cp0.1] <;> rfl) (by rw [sg_cpr cp0] <;> rfl) ?_
    exact a_X11_trackCell_b48 E hA hX hN hml hst kr91 _ _ _ _ _ _ _ _ h (gl_cpr hgl cp0) cp0.2.2 had (by rw [cp0.1]; exact h_l0) G hl
  · have h := oif_neg c2 h
    refine lv_iload_n hx hb dX11_trackCell_30 rfl (lv_at hl 3 rfl) ?_
    refine lv_aload_n hx hb dX11_trackCell_31 rfl (lv_at hl 1 rfl) ?_
    obtain ⟨g3, h⟩ := oif_some h
    obtain ⟨n4, en4, h⟩ := obind_some h
    have h_n4 : n4 < T.1 := by rw [← cp0.1]; exact cp0.2.2 _ _ _ en4
    refine c_get E G l0 14 (v := .ref (ad n4)) (oO_k g3).1 (cc_o11 (oO_k g3).2) rfl (fun w h => .tail _ (iA_23 h)) (by decide) (.tail _ qA_675) rfl (by rw [en4]; rfl) dX11_trackCell_32 ?_
    clear en4
    obtain ⟨g5, h⟩ := oif_some h
    refine c_get E G n4 2 (oO_k g5).1 (cc_o6 (oO_k g5).2) rfl (fun w h => .tail _ (iA_14 h)) (by decide) (.tail _ qA_761) rfl rfl dX11_trackCell_35 ?_
    refine lv_topi (fun v6 ev6 => ?_)
    have h := elet_at ev6 h
    clear ev6
    refine lv_i2l (v := v6.toInt64) hx hb dX11_trackCell_38 rfl ?_
    refine lv_topl (fun v7 ev7 => ?_)
    have h := elet_at ev7 h
    clear ev7
    refine lv_iload_n hx hb dX11_trackCell_39 rfl (lv_at hl 2 rfl) ?_
    refine lv_i2l (v := l1.toInt64) hx hb dX11_trackCell_40 rfl ?_
    refine lv_topl (fun v8 ev8 => ?_)
    have h := elet_at ev8 h
    clear ev8
    obtain ⟨r9, er9, h⟩ := obind_some h
    refine q_stl (As := [.long v7, .long v8]) (rest := [.int l2]) ⟨hx, hb, hml, hown, hts⟩ hN (u_X11_quotient l v7 v8 er9) (cwS 2 hts (gaS qA_872 qA_130 qA_131 qA_132) rfl rfl rfl (by decide +kernel) ⟨Nat.le_of_ble_eq_true rfl, Nat.le_of_ble_eq_true rfl⟩) rfl hl.1 rfl (lv_room (Nat.le_of_ble_eq_true rfl)) dX11_trackCell_41 hcs (fun q10 hq => ?_)
    refine lv_tol hq ?_
    clear hq er9
    refine lv_l2i (v := r9.toInt32) hx hb dX11_trackCell_44 rfl ?_
    refine lv_topi (fun v11 ev11 => ?_)
    have h := elet_at ev11 h
    clear ev11
    obtain ⟨r14, T12, eT12, h⟩ := othr_n h
    refine q_csv (As := [.int l2, .int v11]) (rest := []) E G hA hX hN hml (u_X11_needIndex l hst D cI cJ cZ cMic cSrc cSt cAI cAJ ad T l2 v11 eT12) (cwS 2 hts (gaS qA_738 qA_739 qA_131 qA_740) rfl rfl rfl (by decide +kernel) ⟨Nat.le_of_ble_eq_true rfl, Nat.le_of_ble_eq_true rfl⟩) rfl hl.1 rfl (lv_room (Nat.le_of_ble_eq_true rfl)) dX11_trackCell_45 hcs (fun T13 H locs hq G => ?_)
    rw [hq] at G
    clear hq
    have cp1 := cpr_sp cp0 (s_X11_needIndex eT12)
    have hl := lv_sub hl [1, 2, 3] rfl
    refine w_cast (c2 := T12.1 - T0.1) (s2 := sg T12 - sg T0) (by rw [cp1.1] <;> rfl) (by rw [sg_cpr cp1] <;> rfl) ?_
    exact a_X11_trackCell_b48 E hA hX hN hml hst kr91 _ _ _ _ _ _ _ _ h (gl_cpr hgl cp1) cp1.2.2 had (by rw [cp1.1]; exact h_l0) G hl
set_option maxHeartbeats 4000000 in
set_option maxRecDepth 100000 in
theorem a_X11_trackCell_b24 {p : Program} {l : Launch} {e : Env} {s : State} {m : MethodId} {args : Array Value} {below : List Frame} {meth : Method} {c : Code} {Q : State → Prop} {D : va_G} {A : Nat → Prop} {cI cJ cZ cMic cSrc cSt cAI cAJ : ClassId} {ad0 : Nat → Nat} {T0 : AT} {r1 : Int32} {T1 : AT} (E : cE p c cX11_trackCell s m args (Cond.code yX11_trackCell cX11_trackCell 4 (some .int) :: wsA) D RX11 (CT cI cJ cZ cMic cSrc cSt cAI cAJ)) (hA : ∀ q : Nat, s.heap.size ≤ q → A q) (hX : xT A s) (hN : nX s) (hml : c.maxLocals = 4) (hst : l.stackTraces = false) (kr91 : ∀ (ad : Nat → Nat) (H : Heap) (locs : List Loc) (ls : Array Slot), (∀ n, n < T0.1 → ad n = ad0 n) → gC cI cJ cZ cMic cSrc cSt cAI cAJ D ad A s.heap H locs T1 → W p l e { frames := 7, cells := T1.1 - T0.1, slots := sg T1 - sg T0, locals := 159 } s m args below meth c H locs (T1.1 - T0.1) (sg T1 - sg T0) Q (F0 m 91 ls [.int r1])) : ∀ (T : AT) (ad : Nat → Nat) (H : Heap) (locs : List Loc) (ls : Array Slot) (l0 : Nat) (l1 : Int32) (l2 : Int32), g_X11_trackCell_b24 T l0 l1 l2 = some (0, r1, T1) → GL T0 T → RC T → (∀ n, n < T0.1 → ad n = ad0 n) → l0 < T.1 → gC cI cJ cZ cMic cSrc cSt cAI cAJ D ad A s.heap H locs T → lv_has ls 4 [(0, .ref (ad l0)), (1, .int l1), (2, .int l2)] → W p l e { frames := 7, cells := T1.1 - T0.1, slots := sg T1 - sg T0, locals := 159 } s m args below meth c H locs (T.1 - T0.1) (sg T - sg T0) Q (F0 m 24 ls []) := by
  have hx := E.1
  have hb := E.2.1
  have hts := E.2.2.1
  have hown := E.2.2.2.1
  have hK := E.2.2.2.2
  intro T ad H locs ls l0 l1 l2 h hgl hrc had h_l0 G hl
  have hT1 := s_X11_trackCell_b24 _ _ _ _ h
  have hcs := cs_ok hgl hT1
  have cp0 := cpr0 hrc
  unfold g_X11_trackCell_b24 at h
  refine lv_iconst (v := 0) hx hb dX11_trackCell_24 (by decide) ?_
  have hl := lv_sub hl [0, 1, 2] rfl
  refine w_cast (c2 := T.1 - T0.1) (s2 := sg T - sg T0) (by rw [cp0.1] <;> rfl) (by rw [sg_cpr cp0] <;> rfl) ?_
  exact a_X11_trackCell_b25 E hA hX hN hml hst kr91 _ _ _ _ _ _ _ _ _ h (gl_cpr hgl cp0) cp0.2.2 had (by rw [cp0.1]; exact h_l0) G hl
set_option maxHeartbeats 4000000 in
set_option maxRecDepth 100000 in
theorem a_X11_trackCell (l : Launch) (hst : l.stackTraces = false) (D : va_G) (cI cJ cZ cMic cSrc cSt cAI cAJ : ClassId) (ad : Nat → Nat) (T : AT) (o : Nat) (a0 : Int32) (a1 : Int32) {r1 : Int32} {T1 : AT} (h : g_X11_trackCell T o a0 a1 = some (0, r1, T1)) (hrc : RC T) (h_o : o < T.1) : kAi l yX11_trackCell (Cond.code yX11_trackCell cX11_trackCell 4 (some .int) :: wsA) 7 159 cI cJ cZ cMic cSrc cSt cAI cAJ D ad T [.ref (ad o), .int a0, .int a1] r1 T1 := by
  intro sz
  refine Met.ofW (cc := cX11_trackCell) (maxL := 4) (ret := (some .int)) (by decide) rfl ?_
  intro p e s m args below meth c s₁ B hml hv
  obtain ⟨rfl, hsz, hP, hK, hD0, hX, hN⟩ := hv
  have hx := B.exec
  have hb := B.bytes
  have hr := B.returns
  have hts := atoms_spec (ws := (Cond.code yX11_trackCell cX11_trackCell 4 (some .int) :: wsA)) B.pre
  have hown : s.vm.findClass RX11 = some m.cls := findClass_of_methodNamed B.named
  have hlocks := B.notSynchronized
  subst hsz
  have hD := hD0.self (sz := s.heap.size)
  generalize hAe : va_A (cW ad T.1 (cc cI cJ cZ cMic cSrc cSt cAI cAJ ad T)) s.heap.size = A at hD hX ⊢
  have hA : ∀ q : Nat, s.heap.size ≤ q → A q := fun q h => by rw [← hAe]; exact Or.inr h
  have G : gC cI cJ cZ cMic cSrc cSt cAI cAJ D ad A s.heap s.heap [] T := ⟨hP, hD, va_S.rf⟩
  have E : cE p c cX11_trackCell s m ([.ref (ad o), .int a0, .int a1] : List Value).toArray (Cond.code yX11_trackCell cX11_trackCell 4 (some .int) :: wsA) D RX11 (CT cI cJ cZ cMic cSrc cSt cAI cAJ) := ⟨hx, hb, hts, hown, hK⟩
  have hl := lv_entry ([.ref (ad o), .int a0, .int a1]) (n := 4) (Nat.le_of_ble_eq_true rfl)
  rw [lg_entry_eq]
  generalize (lg_sl ([.ref (ad o), .int a0, .int a1]) ++ List.replicate (4 - (lg_sl ([.ref (ad o), .int a0, .int a1])).length) Slot.unset).toArray = ls at hl ⊢
  have hl : lv_has ls 4 [(0, .ref (ad o)), (1, .int a0), (2, .int a1)] := hl
  have hgl := GL.rf T
  have had : ∀ n, n < T.1 → ad n = ad n := fun _ _ => rfl
  have hT1 := s_X11_trackCell h
  have hcs := cs_ok hgl hT1
  refine w_cast (Nat.sub_self T.1).symm (Nat.sub_self (sg T)).symm ?_
  have cp0 := cpr0 hrc
  unfold g_X11_trackCell at h
  refine lv_aload_n hx hb dX11_trackCell_0 rfl (lv_at hl 0 rfl) ?_
  obtain ⟨g2, h⟩ := oif_some h
  obtain ⟨r5, T3, eT3, h⟩ := othr_n h
  refine q_cvv (As := []) (rest := []) E G hA hX hN hml (u_X11_needCamera l hst D cI cJ cZ cMic cSrc cSt cAI cAJ ad T o eT3) (cwV 0 hts (gaV qA_728 qA_729 qA_730 qA_131 qA_731) rfl rfl rfl (by decide +kernel) ⟨Nat.le_of_ble_eq_true rfl, Nat.le_of_ble_eq_true rfl⟩) (oO_k g2).1 (cc_o11 (oO_k g2).2) rfl rfl hl.1 rfl (lv_room (Nat.le_of_ble_eq_true rfl)) dX11_trackCell_1 hcs (fun T4 H locs hq G => ?_)
  rw [hq] at G
  clear hq
  have cp1 := cpr_sp cp0 (s_X11_needCamera eT3)
  refine lv_iload_n hx hb dX11_trackCell_4 rfl (lv_at hl 1 rfl) ?_
  refine lv_iconst (v := 4) hx hb dX11_trackCell_5 (by decide) ?_
  refine lv_icmp_lt (tgt := 24) hx hb dX11_trackCell_6 (by decide) (fun c7 => ?_) (fun c7 => ?_)
  · have h := oif_pos c7 h
    have hl := lv_sub hl [0, 1, 2] rfl
    refine w_cast (c2 := T3.1 - T.1) (s2 := sg T3 - sg T) (by rw [cp1.1] <;> rfl) (by rw [sg_cpr cp1] <;> rfl) ?_
    exact a_X11_trackCell_b24 E hA hX hN hml hst (fun ad H locs ls had G => W.iret (v := r1) hx hb hr (fun t ht hW => ⟨⟨r1, (T1, ad), rfl, ⟨rfl, rfl, had⟩, ⟨by rw [ht]; exact G.1, va_K.moved hW.alike hK, G.2.1⟩⟩, G.2.2.F ht⟩) G.2.2.2.2 dX11_trackCell_91) _ _ _ _ _ _ _ _ h (gl_cpr hgl cp1) cp1.2.2 had (by rw [cp1.1]; exact h_o) G hl
  · have h := oif_neg c7 h
    refine lv_iload_n hx hb dX11_trackCell_9 rfl (lv_at hl 1 rfl) ?_
    refine lv_aload_n hx hb dX11_trackCell_10 rfl (lv_at hl 0 rfl) ?_
    obtain ⟨g8, h⟩ := oif_some h
    obtain ⟨n9, en9, h⟩ := obind_some h
    have h_n9 : n9 < T.1 := by rw [← cp1.1]; exact cp1.2.2 _ _ _ en9
    refine c_get E G o 14 (v := .ref (ad n9)) (oO_k g8).1 (cc_o11 (oO_k g8).2) rfl (fun w h => .tail _ (iA_23 h)) (by decide) (.tail _ qA_675) rfl (by rw [en9]; rfl) dX11_trackCell_11 ?_
    clear en9
    obtain ⟨g10, h⟩ := oif_some h
    refine c_get E G n9 2 (oO_k g10).1 (cc_o6 (oO_k g10).2) rfl (fun w h => .tail _ (iA_14 h)) (by decide) (.tail _ qA_761) rfl rfl dX11_trackCell_14 ?_
    refine lv_topi (fun v11 ev11 => ?_)
    have h := elet_at ev11 h
    clear ev11
    refine lv_icmp_gt (tgt := 24) hx hb dX11_trackCell_17 (by decide) (fun c12 => ?_) (fun c12 => ?_)
    · have h := oif_pos c12 h
      have hl := lv_sub hl [0, 1, 2] rfl
      refine w_cast (c2 := T3.1 - T.1) (s2 := sg T3 - sg T) (by rw [cp1.1] <;> rfl) (by rw [sg_cpr cp1] <;> rfl) ?_
      exact a_X11_trackCell_b24 E hA hX hN hml hst (fun ad H locs ls had G => W.iret (v := r1) hx hb hr (fun t ht hW => ⟨⟨r1, (T1, ad), rfl, ⟨rfl, rfl, had⟩, ⟨by rw [ht]; exact G.1, va_K.moved hW.alike hK, G.2.1⟩⟩, G.2.2.F ht⟩) G.2.2.2.2 dX11_trackCell_91) _ _ _ _ _ _ _ _ h (gl_cpr hgl cp1) cp1.2.2 had (by rw [cp1.1]; exact h_o) G hl
    · have h := oif_neg c12 h
      refine lv_iconst (v := 1) hx hb dX11_trackCell_20 (by decide) ?_
      refine lv_goto (tgt := 25) hx hb dX11_trackCell_21 (by decide) ?_
      have hl := lv_sub hl [0, 1, 2] rfl
      refine w_cast (c2 := T3.1 - T.1) (s2 := sg T3 - sg T) (by rw [cp1.1] <;> rfl) (by rw [sg_cpr cp1] <;> rfl) ?_
      exact a_X11_trackCell_b25 E hA hX hN hml hst (fun ad H locs ls had G => W.iret (v := r1) hx hb hr (fun t ht hW => ⟨⟨r1, (T1, ad), rfl, ⟨rfl, rfl, had⟩, ⟨by rw [ht]; exact G.1, va_K.moved hW.alike hK, G.2.1⟩⟩, G.2.2.F ht⟩) G.2.2.2.2 dX11_trackCell_91) _ _ _ _ _ _ _ _ _ h (gl_cpr hgl cp1) cp1.2.2 had (by rw [cp1.1]; exact h_o) G hl
set_option maxHeartbeats 4000000 in
set_option maxRecDepth 100000 in
theorem b_X11_trackCell_b76 {p : Program} {l : Launch} {e : Env} {s : State} {m : MethodId} {args : Array Value} {below : List Frame} {meth : Method} {c : Code} {Qc : Array Value → State → Outcome → State → Prop} {XC : String → State → State → Prop} {D : va_G} {A : Nat → Prop} {cI cJ cZ cMic cSrc cSt cAI cAJ : ClassId} {ad0 : Nat → Nat} {T0 : AT} {e1 : Nat} {r1 : Int32} {T1 : AT} (E : cE p c cX11_trackCell s m args (Cond.code yX11_trackCell cX11_trackCell 4 (some .int) :: wsA) D RX11 (CT cI cJ cZ cMic cSrc cSt cAI cAJ)) (hA : ∀ q : Nat, s.heap.size ≤ q → A q) (hX : xT A s) (hN : nX s) (hml : c.maxLocals = 4) (hst : l.stackTraces = false) (htab : ∀ x ∈ c.exceptionTable.toList, False) (hlocks : meth.locks = false) (kx : ∀ (ad : Nat → Nat) (H : Heap) (locs : List Loc) (t : State), (∀ n, n < T0.1 → ad n = ad0 n) → gC cI cJ cZ cMic cSrc cSt cAI cAJ D ad A s.heap H locs T1 → s.vm.Alike t.vm → H.size ≤ t.heap.size → (∀ q, q < H.size → t.heap[q]? = H[q]?) → XC (exn e1) s t) : ∀ (T : AT) (ad : Nat → Nat) (H : Heap) (locs : List Loc) (ls : Array Slot) (l0 : Nat) (l2 : Int32), g_X11_trackCell_b76 T l0 l2 = some (e1 + 1, r1, T1) → GL T0 T → RC T → (∀ n, n < T0.1 → ad n = ad0 n) → l0 < T.1 → gC cI cJ cZ cMic cSrc cSt cAI cAJ D ad A s.heap H locs T → lv_has ls 4 [(0, .ref (ad l0)), (2, .int l2)] → W p l e { frames := 7, cells := T1.1 - T0.1 + 1, slots := sg T1 - sg T0 + 6, locals := 159 } s m args below meth c H locs (T.1 - T0.1) (sg T - sg T0) (vx_MQ below Qc XC args s (T1.1 - T0.1 + 1) (sg T1 - sg T0 + 6) A) (F0 m 76 ls []) := by
  have hx := E.1
  have hb := E.2.1
  have hts := E.2.2.1
  have hown := E.2.2.2.1
  have hK := E.2.2.2.2
  intro T ad H locs ls l0 l2 h hgl hrc had h_l0 G hl
  have hT1 := s_X11_trackCell_b76 _ _ _ h
  have hcs := cs_okx hgl hT1
  have hcx := cs_okx1 hgl hT1
  have cp0 := cpr0 hrc
  unfold g_X11_trackCell_b76 at h
  refine lv_aload_n hx hb dX11_trackCell_76 rfl (lv_at hl 0 rfl) ?_
  obtain ⟨g2, h⟩ := oif_some h
  obtain ⟨n3, en3, h⟩ := obind_some h
  have h_n3 : n3 < T.1 := by rw [← cp0.1]; exact cp0.2.2 _ _ _ en3
  refine c_get E G l0 3 (v := .ref (ad n3)) (oO_k g2).1 (cc_o11 (oO_k g2).2) rfl (fun w h => .tail _ (iA_23 h)) (by decide) (.tail _ qA_657) rfl (by rw [en3]; rfl) dX11_trackCell_77 ?_
  clear en3
  refine lv_aload_n hx hb dX11_trackCell_80 rfl (lv_at hl 0 rfl) ?_
  obtain ⟨g4, h⟩ := oif_some h
  obtain ⟨n5, en5, h⟩ := obind_some h
  have h_n5 : n5 < T.1 := by rw [← cp0.1]; exact cp0.2.2 _ _ _ en5
  refine c_get E G l0 14 (v := .ref (ad n5)) (oO_k g4).1 (cc_o11 (oO_k g4).2) rfl (fun w h => .tail _ (iA_23 h)) (by decide) (.tail _ qA_675) rfl (by rw [en5]; rfl) dX11_trackCell_81 ?_
  clear en5
  obtain ⟨g6, h⟩ := oif_some h
  obtain ⟨n7, en7, h⟩ := obind_some h
  have h_n7 : n7 < T.1 := by rw [← cp0.1]; exact cp0.2.2 _ _ _ en7
  refine c_get E G n5 6 (v := .ref (ad n7)) (oO_k g6).1 (cc_o6 (oO_k g6).2) rfl (fun w h => .tail _ (iA_14 h)) (by decide) (.tail _ qA_695) rfl (by rw [en7]; rfl) dX11_trackCell_84 ?_
  clear en7
  refine lv_iload_n hx hb dX11_trackCell_87 rfl (lv_at hl 1 rfl) ?_
  obtain ⟨g8, h⟩ := oif_some h
  obtain ⟨r11, T9, eT9, h⟩ := obind2_some h
  refine q_cvi (As := [.ref (ad n7), .int l2]) (rest := []) E G hA hX hN hml (u_X0_trackCellIn l hst D cI cJ cZ cMic cSrc cSt cAI cAJ ad T n3 n7 l2 eT9) (cwV 2 hts (gaV qA_868 qA_869 qA_870 qA_31 qA_154) rfl rfl rfl (by decide +kernel) ⟨Nat.le_of_ble_eq_true rfl, Nat.le_of_ble_eq_true rfl⟩) (oO_k g8).1 (cc_o0 (oO_k g8).2) rfl rfl hl.1 rfl (lv_room (Nat.le_of_ble_eq_true rfl)) dX11_trackCell_88 hcs (fun q12 T10 H locs hq G => ?_)
  obtain ⟨hq1, hq2⟩ := hq
  rw [hq2] at G
  refine lv_to hq1 ?_
  clear hq1 hq2
  have cp1 := cpr_sp cp0 (s_X0_trackCellIn eT9)
  exact (Nat.succ_ne_zero _ (congrArg Prod.fst (Option.some.inj h)).symm).elim
set_option maxHeartbeats 4000000 in
set_option maxRecDepth 100000 in
theorem b_X11_trackCell_b48 {p : Program} {l : Launch} {e : Env} {s : State} {m : MethodId} {args : Array Value} {below : List Frame} {meth : Method} {c : Code} {Qc : Array Value → State → Outcome → State → Prop} {XC : String → State → State → Prop} {D : va_G} {A : Nat → Prop} {cI cJ cZ cMic cSrc cSt cAI cAJ : ClassId} {ad0 : Nat → Nat} {T0 : AT} {e1 : Nat} {r1 : Int32} {T1 : AT} (E : cE p c cX11_trackCell s m args (Cond.code yX11_trackCell cX11_trackCell 4 (some .int) :: wsA) D RX11 (CT cI cJ cZ cMic cSrc cSt cAI cAJ)) (hA : ∀ q : Nat, s.heap.size ≤ q → A q) (hX : xT A s) (hN : nX s) (hml : c.maxLocals = 4) (hst : l.stackTraces = false) (htab : ∀ x ∈ c.exceptionTable.toList, False) (hlocks : meth.locks = false) (kx : ∀ (ad : Nat → Nat) (H : Heap) (locs : List Loc) (t : State), (∀ n, n < T0.1 → ad n = ad0 n) → gC cI cJ cZ cMic cSrc cSt cAI cAJ D ad A s.heap H locs T1 → s.vm.Alike t.vm → H.size ≤ t.heap.size → (∀ q, q < H.size → t.heap[q]? = H[q]?) → XC (exn e1) s t) : ∀ (T : AT) (ad : Nat → Nat) (H : Heap) (locs : List Loc) (ls : Array Slot) (l0 : Nat) (l1 : Int32) (l2 : Int32), g_X11_trackCell_b48 T l0 l1 l2 = some (e1 + 1, r1, T1) → GL T0 T → RC T → (∀ n, n < T0.1 → ad n = ad0 n) → l0 < T.1 → gC cI cJ cZ cMic cSrc cSt cAI cAJ D ad A s.heap H locs T → lv_has ls 4 [(0, .ref (ad l0)), (1, .int l1), (2, .int l2)] → W p l e { frames := 7, cells := T1.1 - T0.1 + 1, slots := sg T1 - sg T0 + 6, locals := 159 } s m args below meth c H locs (T.1 - T0.1) (sg T - sg T0) (vx_MQ below Qc XC args s (T1.1 - T0.1 + 1) (sg T1 - sg T0 + 6) A) (F0 m 48 ls []) := by
  have hx := E.1
  have hb := E.2.1
  have hts := E.2.2.1
  have hown := E.2.2.2.1
  have hK := E.2.2.2.2
  intro T ad H locs ls l0 l1 l2 h hgl hrc had h_l0 G hl
  have hT1 := s_X11_trackCell_b48 _ _ _ _ h
  have hcs := cs_okx hgl hT1
  have hcx := cs_okx1 hgl hT1
  have cp0 := cpr0 hrc
  unfold g_X11_trackCell_b48 at h
  refine lv_iload_n hx hb dX11_trackCell_48 rfl (lv_at hl 1 rfl) ?_
  refine lv_iconst (v := 4) hx hb dX11_trackCell_49 (by decide) ?_
  refine lv_aload_n hx hb dX11_trackCell_50 rfl (lv_at hl 0 rfl) ?_
  obtain ⟨g2, h⟩ := oif_some h
  obtain ⟨n3, en3, h⟩ := obind_some h
  have h_n3 : n3 < T.1 := by rw [← cp0.1]; exact cp0.2.2 _ _ _ en3
  refine c_get E G l0 14 (v := .ref (ad n3)) (oO_k g2).1 (cc_o11 (oO_k g2).2) rfl (fun w h => .tail _ (iA_23 h)) (by decide) (.tail _ qA_675) rfl (by rw [en3]; rfl) dX11_trackCell_51 ?_
  clear en3
  obtain ⟨g4, h⟩ := oif_some h
  refine c_get E G n3 2 (oO_k g4).1 (cc_o6 (oO_k g4).2) rfl (fun w h => .tail _ (iA_14 h)) (by decide) (.tail _ qA_761) rfl rfl dX11_trackCell_54 ?_
  refine lv_topi (fun v5 ev5 => ?_)
  have h := elet_at ev5 h
  clear ev5
  rcases othr_t h with ⟨r0, eT6⟩ | ⟨r8, T6, eT6, h⟩
  · refine q_xsv (As := [.int l1, .int 4, .int v5]) (rest := []) E G hA hX hN hml (x_X11_needRange l hst D cI cJ cZ cMic cSrc cSt cAI cAJ ad T l1 (4 : Int32) v5 eT6) (cwS 3 hts (gaS qA_741 qA_742 qA_131 qA_743) rfl rfl rfl (by decide +kernel) ⟨Nat.le_of_ble_eq_true rfl, Nat.le_of_ble_eq_true rfl⟩) rfl hl.1 rfl (lv_room (Nat.le_of_ble_eq_true rfl)) dX11_trackCell_57 hcx (fun E9 ce q9 T9 H locs hp G hce hcv hcl => ?_)
    obtain ⟨hE, hT⟩ := hp
    subst hE
    rw [hT] at G
    exact vx_out (fun x hx => (htab x hx).elim) hlocks hce hcv hcl (fun t ht hvm => kx ad _ _ _ had G hvm (by rw [ht]; exact Nat.le_refl _) (fun q hq => by rw [ht])) G.2.2.2.2 hcx.1 hcx.2
  refine q_csv (As := [.int l1, .int 4, .int v5]) (rest := []) E G hA hX hN hml (u_X11_needRange l hst D cI cJ cZ cMic cSrc cSt cAI cAJ ad T l1 (4 : Int32) v5 eT6) (cwS 3 hts (gaS qA_741 qA_742 qA_131 qA_743) rfl rfl rfl (by decide +kernel) ⟨Nat.le_of_ble_eq_true rfl, Nat.le_of_ble_eq_true rfl⟩) rfl hl.1 rfl (lv_room (Nat.le_of_ble_eq_true rfl)) dX11_trackCell_57 hcs (fun T7 H locs hq G => ?_)
  rw [hq] at G
  clear hq
  have cp1 := cpr_sp cp0 (s_X11_needRange eT6)
  refine lv_aload_n hx hb dX11_trackCell_60 rfl (lv_at hl 0 rfl) ?_
  obtain ⟨g10, h⟩ := oif_some h
  obtain ⟨n11, en11, h⟩ := obind_some h
  have h_n11 : n11 < T.1 := by rw [← cp1.1]; exact cp1.2.2 _ _ _ en11
  refine c_get E G l0 3 (v := .ref (ad n11)) (oO_k g10).1 (cc_o11 (oO_k g10).2) rfl (fun w h => .tail _ (iA_23 h)) (by decide) (.tail _ qA_657) rfl (by rw [en11]; rfl) dX11_trackCell_61 ?_
  clear en11
  refine lv_aload_n hx hb dX11_trackCell_64 rfl (lv_at hl 0 rfl) ?_
  obtain ⟨g12, h⟩ := oif_some h
  obtain ⟨n13, en13, h⟩ := obind_some h
  have h_n13 : n13 < T.1 := by rw [← cp1.1]; exact cp1.2.2 _ _ _ en13
  refine c_get E G l0 14 (v := .ref (ad n13)) (oO_k g12).1 (cc_o11 (oO_k g12).2) rfl (fun w h => .tail _ (iA_23 h)) (by decide) (.tail _ qA_675) rfl (by rw [en13]; rfl) dX11_trackCell_65 ?_
  clear en13
  refine lv_aload_n hx hb dX11_trackCell_68 rfl (lv_at hl 0 rfl) ?_
  obtain ⟨g14, h⟩ := oif_some h
  obtain ⟨n15, en15, h⟩ := obind_some h
  have h_n15 : n15 < T.1 := by rw [← cp1.1]; exact cp1.2.2 _ _ _ en15
  refine c_get E G l0 6 (v := .ref (ad n15)) (oO_k g14).1 (cc_o11 (oO_k g14).2) rfl (fun w h => .tail _ (iA_23 h)) (by decide) (.tail _ qA_664) rfl (by rw [en15]; rfl) dX11_trackCell_69 ?_
  clear en15
  refine lv_iload_n hx hb dX11_trackCell_72 rfl (lv_at hl 1 rfl) ?_
  obtain ⟨g16, h⟩ := oif_some h
  obtain ⟨T17, eT17, h⟩ := obind_some h
  have hg2 := s_X0_score eT17
  have hrc2 := hg2.2.2 cp1.2.2
  have hT2 := s_X11_trackCell_b76 _ _ _ h
  refine q_avv (As := [.ref (ad n13), .ref (ad n15), .int l1]) (rest := []) E G hA hX hN hml (a_X0_score l hst D cI cJ cZ cMic cSrc cSt cAI cAJ ad T6 n11 n13 n15 l1 eT17 cp1.2.2 (by rw [cp1.1]; exact h_n11) (by rw [cp1.1]; exact h_n13) (by rw [cp1.1]; exact h_n15)) (cwV 3 hts (gaV qA_865 qA_866 qA_867 qA_31 qA_127) rfl rfl rfl (by decide +kernel) ⟨Nat.le_of_ble_eq_true rfl, Nat.le_of_ble_eq_true rfl⟩) (oO_k g16).1 (cc_o0 (oO_k g16).2) rfl rfl hl.1 rfl (lv_room (Nat.le_of_ble_eq_true rfl)) dX11_trackCell_73 (cs_avx hgl cp1 hg2 hT2) (fun ad2 H locs hga G => ?_)
  refine w_cast (c2 := T17.1 - T0.1) (s2 := sg T17 - sg T0) (cs_f1 hgl cp1 hg2) (cs_f2 hgl cp1 hg2) ?_
  have hl := lv_sub hl [0, 2] rfl
  rw [show ad l0 = ad2 l0 from (hga l0 (by rw [cp1.1]; exact h_l0)).symm] at hl
  exact b_X11_trackCell_b76 E hA hX hN hml hst htab hlocks kx _ _ _ _ _ _ _ h (GL.tr (gl_cpr hgl cp1) hg2) hrc2 (fun n hn => (hga n (by rw [cp1.1]; exact Nat.lt_of_lt_of_le hn hgl.1)).trans (had n hn)) (Nat.lt_of_lt_of_le (by rw [cp1.1]; exact h_l0) hg2.1) G hl
set_option maxHeartbeats 4000000 in
set_option maxRecDepth 100000 in
theorem b_X11_trackCell_b25 {p : Program} {l : Launch} {e : Env} {s : State} {m : MethodId} {args : Array Value} {below : List Frame} {meth : Method} {c : Code} {Qc : Array Value → State → Outcome → State → Prop} {XC : String → State → State → Prop} {D : va_G} {A : Nat → Prop} {cI cJ cZ cMic cSrc cSt cAI cAJ : ClassId} {ad0 : Nat → Nat} {T0 : AT} {e1 : Nat} {r1 : Int32} {T1 : AT} (E : cE p c cX11_trackCell s m args (Cond.code yX11_trackCell cX11_trackCell 4 (some .int) :: wsA) D RX11 (CT cI cJ cZ cMic cSrc cSt cAI cAJ)) (hA : ∀ q : Nat, s.heap.size ≤ q → A q) (hX : xT A s) (hN : nX s) (hml : c.maxLocals = 4) (hst : l.stackTraces = false) (htab : ∀ x ∈ c.exceptionTable.toList, False) (hlocks : meth.locks = false) (kx : ∀ (ad : Nat → Nat) (H : Heap) (locs : List Loc) (t : State), (∀ n, n < T0.1 → ad n = ad0 n) → gC cI cJ cZ cMic cSrc cSt cAI cAJ D ad A s.heap H locs T1 → s.vm.Alike t.vm → H.size ≤ t.heap.size → (∀ q, q < H.size → t.heap[q]? = H[q]?) → XC (exn e1) s t) : ∀ (T : AT) (ad : Nat → Nat) (H : Heap) (locs : List Loc) (ls : Array Slot) (s0 : Int32) (l0 : Nat) (l1 : Int32) (l2 : Int32), g_X11_trackCell_b25 T s0 l0 l1 l2 = some (e1 + 1, r1, T1) → GL T0 T → RC T → (∀ n, n < T0.1 → ad n = ad0 n) → l0 < T.1 → gC cI cJ cZ cMic cSrc cSt cAI cAJ D ad A s.heap H locs T → lv_has ls 4 [(0, .ref (ad l0)), (1, .int l1), (2, .int l2)] → W p l e { frames := 7, cells := T1.1 - T0.1 + 1, slots := sg T1 - sg T0 + 6, locals := 159 } s m args below meth c H locs (T.1 - T0.1) (sg T - sg T0) (vx_MQ below Qc XC args s (T1.1 - T0.1 + 1) (sg T1 - sg T0 + 6) A) (F0 m 25 ls [.int s0]) := by
  have hx := E.1
  have hb := E.2.1
  have hts := E.2.2.1
  have hown := E.2.2.2.1
  have hK := E.2.2.2.2
  intro T ad H locs ls s0 l0 l1 l2 h hgl hrc had h_l0 G hl
  have hT1 := s_X11_trackCell_b25 _ _ _ _ _ h
  have hcs := cs_okx hgl hT1
  have hcx := cs_okx1 hgl hT1
  have cp0 := cpr0 hrc
  unfold g_X11_trackCell_b25 at h
  refine lv_istore_n (lv' := [(3, .int s0), (0, .ref (ad l0)), (1, .int l1), (2, .int l2)]) hx hb dX11_trackCell_25 rfl hl (by decide) rfl (fun ls hl => ?_)
  refine lv_iload_n hx hb dX11_trackCell_26 rfl (lv_at hl 0 rfl) ?_
  refine lv_if_eq (tgt := 48) hx hb dX11_trackCell_27 (by decide) (fun c2 => ?_) (fun c2 => ?_)
  · have h := oif_pos c2 h
    have hl := lv_sub hl [1, 2, 3] rfl
    refine w_cast (c2 := T.1 - T0.1) (s2 := sg T - sg T0) (by rw [cp0.1] <;> rfl) (by rw [sg_cpr cp0] <;> rfl) ?_
    exact b_X11_trackCell_b48 E hA hX hN hml hst htab hlocks kx _ _ _ _ _ _ _ _ h (gl_cpr hgl cp0) cp0.2.2 had (by rw [cp0.1]; exact h_l0) G hl
  · have h := oif_neg c2 h
    refine lv_iload_n hx hb dX11_trackCell_30 rfl (lv_at hl 3 rfl) ?_
    refine lv_aload_n hx hb dX11_trackCell_31 rfl (lv_at hl 1 rfl) ?_
    obtain ⟨g3, h⟩ := oif_some h
    obtain ⟨n4, en4, h⟩ := obind_some h
    have h_n4 : n4 < T.1 := by rw [← cp0.1]; exact cp0.2.2 _ _ _ en4
    refine c_get E G l0 14 (v := .ref (ad n4)) (oO_k g3).1 (cc_o11 (oO_k g3).2) rfl (fun w h => .tail _ (iA_23 h)) (by decide) (.tail _ qA_675) rfl (by rw [en4]; rfl) dX11_trackCell_32 ?_
    clear en4
    obtain ⟨g5, h⟩ := oif_some h
    refine c_get E G n4 2 (oO_k g5).1 (cc_o6 (oO_k g5).2) rfl (fun w h => .tail _ (iA_14 h)) (by decide) (.tail _ qA_761) rfl rfl dX11_trackCell_35 ?_
    refine lv_topi (fun v6 ev6 => ?_)
    have h := elet_at ev6 h
    clear ev6
    refine lv_i2l (v := v6.toInt64) hx hb dX11_trackCell_38 rfl ?_
    refine lv_topl (fun v7 ev7 => ?_)
    have h := elet_at ev7 h
    clear ev7
    refine lv_iload_n hx hb dX11_trackCell_39 rfl (lv_at hl 2 rfl) ?_
    refine lv_i2l (v := l1.toInt64) hx hb dX11_trackCell_40 rfl ?_
    refine lv_topl (fun v8 ev8 => ?_)
    have h := elet_at ev8 h
    clear ev8
    obtain ⟨r9, er9, h⟩ := obind_some h
    refine q_stl (As := [.long v7, .long v8]) (rest := [.int l2]) ⟨hx, hb, hml, hown, hts⟩ hN (u_X11_quotient l v7 v8 er9) (cwS 2 hts (gaS qA_872 qA_130 qA_131 qA_132) rfl rfl rfl (by decide +kernel) ⟨Nat.le_of_ble_eq_true rfl, Nat.le_of_ble_eq_true rfl⟩) rfl hl.1 rfl (lv_room (Nat.le_of_ble_eq_true rfl)) dX11_trackCell_41 hcs (fun q10 hq => ?_)
    refine lv_tol hq ?_
    clear hq er9
    refine lv_l2i (v := r9.toInt32) hx hb dX11_trackCell_44 rfl ?_
    refine lv_topi (fun v11 ev11 => ?_)
    have h := elet_at ev11 h
    clear ev11
    rcases othr_t h with ⟨r0, eT12⟩ | ⟨r14, T12, eT12, h⟩
    · refine q_xsv (As := [.int l2, .int v11]) (rest := []) E G hA hX hN hml (x_X11_needIndex l hst D cI cJ cZ cMic cSrc cSt cAI cAJ ad T l2 v11 eT12) (cwS 2 hts (gaS qA_738 qA_739 qA_131 qA_740) rfl rfl rfl (by decide +kernel) ⟨Nat.le_of_ble_eq_true rfl, Nat.le_of_ble_eq_true rfl⟩) rfl hl.1 rfl (lv_room (Nat.le_of_ble_eq_true rfl)) dX11_trackCell_45 hcx (fun E9 ce q9 T9 H locs hp G hce hcv hcl => ?_)
      obtain ⟨hE, hT⟩ := hp
      subst hE
      rw [hT] at G
      exact vx_out (fun x hx => (htab x hx).elim) hlocks hce hcv hcl (fun t ht hvm => kx ad _ _ _ had G hvm (by rw [ht]; exact Nat.le_refl _) (fun q hq => by rw [ht])) G.2.2.2.2 hcx.1 hcx.2
    refine q_csv (As := [.int l2, .int v11]) (rest := []) E G hA hX hN hml (u_X11_needIndex l hst D cI cJ cZ cMic cSrc cSt cAI cAJ ad T l2 v11 eT12) (cwS 2 hts (gaS qA_738 qA_739 qA_131 qA_740) rfl rfl rfl (by decide +kernel) ⟨Nat.le_of_ble_eq_true rfl, Nat.le_of_ble_eq_true rfl⟩) rfl hl.1 rfl (lv_room (Nat.le_of_ble_eq_true rfl)) dX11_trackCell_45 hcs (fun T13 H locs hq G => ?_)
    rw [hq] at G
    clear hq
    have cp1 := cpr_sp cp0 (s_X11_needIndex eT12)
    have hl := lv_sub hl [1, 2, 3] rfl
    refine w_cast (c2 := T12.1 - T0.1) (s2 := sg T12 - sg T0) (by rw [cp1.1] <;> rfl) (by rw [sg_cpr cp1] <;> rfl) ?_
    exact b_X11_trackCell_b48 E hA hX hN hml hst htab hlocks kx _ _ _ _ _ _ _ _ h (gl_cpr hgl cp1) cp1.2.2 had (by rw [cp1.1]; exact h_l0) G hl
set_option maxHeartbeats 4000000 in
set_option maxRecDepth 100000 in
theorem b_X11_trackCell_b24 {p : Program} {l : Launch} {e : Env} {s : State} {m : MethodId} {args : Array Value} {below : List Frame} {meth : Method} {c : Code} {Qc : Array Value → State → Outcome → State → Prop} {XC : String → State → State → Prop} {D : va_G} {A : Nat → Prop} {cI cJ cZ cMic cSrc cSt cAI cAJ : ClassId} {ad0 : Nat → Nat} {T0 : AT} {e1 : Nat} {r1 : Int32} {T1 : AT} (E : cE p c cX11_trackCell s m args (Cond.code yX11_trackCell cX11_trackCell 4 (some .int) :: wsA) D RX11 (CT cI cJ cZ cMic cSrc cSt cAI cAJ)) (hA : ∀ q : Nat, s.heap.size ≤ q → A q) (hX : xT A s) (hN : nX s) (hml : c.maxLocals = 4) (hst : l.stackTraces = false) (htab : ∀ x ∈ c.exceptionTable.toList, False) (hlocks : meth.locks = false) (kx : ∀ (ad : Nat → Nat) (H : Heap) (locs : List Loc) (t : State), (∀ n, n < T0.1 → ad n = ad0 n) → gC cI cJ cZ cMic cSrc cSt cAI cAJ D ad A s.heap H locs T1 → s.vm.Alike t.vm → H.size ≤ t.heap.size → (∀ q, q < H.size → t.heap[q]? = H[q]?) → XC (exn e1) s t) : ∀ (T : AT) (ad : Nat → Nat) (H : Heap) (locs : List Loc) (ls : Array Slot) (l0 : Nat) (l1 : Int32) (l2 : Int32), g_X11_trackCell_b24 T l0 l1 l2 = some (e1 + 1, r1, T1) → GL T0 T → RC T → (∀ n, n < T0.1 → ad n = ad0 n) → l0 < T.1 → gC cI cJ cZ cMic cSrc cSt cAI cAJ D ad A s.heap H locs T → lv_has ls 4 [(0, .ref (ad l0)), (1, .int l1), (2, .int l2)] → W p l e { frames := 7, cells := T1.1 - T0.1 + 1, slots := sg T1 - sg T0 + 6, locals := 159 } s m args below meth c H locs (T.1 - T0.1) (sg T - sg T0) (vx_MQ below Qc XC args s (T1.1 - T0.1 + 1) (sg T1 - sg T0 + 6) A) (F0 m 24 ls []) := by
  have hx := E.1
  have hb := E.2.1
  have hts := E.2.2.1
  have hown := E.2.2.2.1
  have hK := E.2.2.2.2
  intro T ad H locs ls l0 l1 l2 h hgl hrc had h_l0 G hl
  have hT1 := s_X11_trackCell_b24 _ _ _ _ h
  have hcs := cs_okx hgl hT1
  have hcx := cs_okx1 hgl hT1
  have cp0 := cpr0 hrc
  unfold g_X11_trackCell_b24 at h
  refine lv_iconst (v := 0) hx hb dX11_trackCell_24 (by decide) ?_
  have hl := lv_sub hl [0, 1, 2] rfl
  refine w_cast (c2 := T.1 - T0.1) (s2 := sg T - sg T0) (by rw [cp0.1] <;> rfl) (by rw [sg_cpr cp0] <;> rfl) ?_
  exact b_X11_trackCell_b25 E hA hX hN hml hst htab hlocks kx _ _ _ _ _ _ _ _ _ h (gl_cpr hgl cp0) cp0.2.2 had (by rw [cp0.1]; exact h_l0) G hl
set_option maxHeartbeats 4000000 in
set_option maxRecDepth 100000 in
theorem b_X11_trackCell (l : Launch) (hst : l.stackTraces = false) (D : va_G) (cI cJ cZ cMic cSrc cSt cAI cAJ : ClassId) (ad : Nat → Nat) (T : AT) (o : Nat) (a0 : Int32) (a1 : Int32) {e1 : Nat} {r1 : Int32} {T1 : AT} (h : g_X11_trackCell T o a0 a1 = some (e1 + 1, r1, T1)) (hrc : RC T) (h_o : o < T.1) : kAXi l yX11_trackCell (Cond.code yX11_trackCell cX11_trackCell 4 (some .int) :: wsA) 7 159 cI cJ cZ cMic cSrc cSt cAI cAJ D ad T [.ref (ad o), .int a0, .int a1] e1 T1 := by
  intro sz
  refine vx_ofW (cc := cX11_trackCell) (maxL := 4) (ret := (some .int)) (by decide) rfl ?_
  intro p e s m args below meth c s₁ B hml htab hv
  obtain ⟨rfl, hsz, hP, hK, hD0, hX, hN⟩ := hv
  have hx := B.exec
  have hb := B.bytes
  have hr := B.returns
  have hts := atoms_spec (ws := (Cond.code yX11_trackCell cX11_trackCell 4 (some .int) :: wsA)) B.pre
  have hown : s.vm.findClass RX11 = some m.cls := findClass_of_methodNamed B.named
  have hlocks := B.notSynchronized
  subst hsz
  have hD := hD0.self (sz := s.heap.size)
  generalize hAe : va_A (cW ad T.1 (cc cI cJ cZ cMic cSrc cSt cAI cAJ ad T)) s.heap.size = A at hD hX ⊢
  have hA : ∀ q : Nat, s.heap.size ≤ q → A q := fun q h => by rw [← hAe]; exact Or.inr h
  have G : gC cI cJ cZ cMic cSrc cSt cAI cAJ D ad A s.heap s.heap [] T := ⟨hP, hD, va_S.rf⟩
  have E : cE p c cX11_trackCell s m ([.ref (ad o), .int a0, .int a1] : List Value).toArray (Cond.code yX11_trackCell cX11_trackCell 4 (some .int) :: wsA) D RX11 (CT cI cJ cZ cMic cSrc cSt cAI cAJ) := ⟨hx, hb, hts, hown, hK⟩
  have htab : ∀ x ∈ c.exceptionTable.toList, False := fun x hx => htab x hx
  have hl := lv_entry ([.ref (ad o), .int a0, .int a1]) (n := 4) (Nat.le_of_ble_eq_true rfl)
  rw [lg_entry_eq]
  generalize (lg_sl ([.ref (ad o), .int a0, .int a1]) ++ List.replicate (4 - (lg_sl ([.ref (ad o), .int a0, .int a1])).length) Slot.unset).toArray = ls at hl ⊢
  have hl : lv_has ls 4 [(0, .ref (ad o)), (1, .int a0), (2, .int a1)] := hl
  have hgl := GL.rf T
  have had : ∀ n, n < T.1 → ad n = ad n := fun _ _ => rfl
  have hT1 := s_X11_trackCell h
  have hcs := cs_okx hgl hT1
  have hcx := cs_okx1 hgl hT1
  refine w_cast (Nat.sub_self T.1).symm (Nat.sub_self (sg T)).symm ?_
  have cp0 := cpr0 hrc
  unfold g_X11_trackCell at h
  refine lv_aload_n hx hb dX11_trackCell_0 rfl (lv_at hl 0 rfl) ?_
  obtain ⟨g2, h⟩ := oif_some h
  rcases othr_t h with ⟨r0, eT3⟩ | ⟨r5, T3, eT3, h⟩
  · refine q_xvv (As := []) (rest := []) E G hA hX hN hml (x_X11_needCamera l hst D cI cJ cZ cMic cSrc cSt cAI cAJ ad T o eT3) (cwV 0 hts (gaV qA_728 qA_729 qA_730 qA_131 qA_731) rfl rfl rfl (by decide +kernel) ⟨Nat.le_of_ble_eq_true rfl, Nat.le_of_ble_eq_true rfl⟩) (oO_k g2).1 (cc_o11 (oO_k g2).2) rfl rfl hl.1 rfl (lv_room (Nat.le_of_ble_eq_true rfl)) dX11_trackCell_1 hcx (fun E9 ce q9 T9 H locs hp G hce hcv hcl => ?_)
    obtain ⟨hE, hT⟩ := hp
    subst hE
    rw [hT] at G
    exact vx_out (fun x hx => (htab x hx).elim) hlocks hce hcv hcl (fun t ht hvm => ⟨(T1, ad), trivial, ⟨⟨rfl, rfl, had⟩, by rw [ht]; exact G.1, va_K.moved hvm hK, G.2.1⟩, G.2.2.F ht⟩) G.2.2.2.2 hcx.1 hcx.2
  refine q_cvv (As := []) (rest := []) E G hA hX hN hml (u_X11_needCamera l hst D cI cJ cZ cMic cSrc cSt cAI cAJ ad T o eT3) (cwV 0 hts (gaV qA_728 qA_729 qA_730 qA_131 qA_731) rfl rfl rfl (by decide +kernel) ⟨Nat.le_of_ble_eq_true rfl, Nat.le_of_ble_eq_true rfl⟩) (oO_k g2).1 (cc_o11 (oO_k g2).2) rfl rfl hl.1 rfl (lv_room (Nat.le_of_ble_eq_true rfl)) dX11_trackCell_1 hcs (fun T4 H locs hq G => ?_)
  rw [hq] at G
  clear hq
  have cp1 := cpr_sp cp0 (s_X11_needCamera eT3)
  refine lv_iload_n hx hb dX11_trackCell_4 rfl (lv_at hl 1 rfl) ?_
  refine lv_iconst (v := 4) hx hb dX11_trackCell_5 (by decide) ?_
  refine lv_icmp_lt (tgt := 24) hx hb dX11_trackCell_6 (by decide) (fun c7 => ?_) (fun c7 => ?_)
  · have h := oif_pos c7 h
    have hl := lv_sub hl [0, 1, 2] rfl
    refine w_cast (c2 := T3.1 - T.1) (s2 := sg T3 - sg T) (by rw [cp1.1] <;> rfl) (by rw [sg_cpr cp1] <;> rfl) ?_
    exact b_X11_trackCell_b24 E hA hX hN hml hst htab hlocks (fun ad H locs t had G hvm h1 h2 => ⟨(T1, ad), trivial, ⟨⟨rfl, rfl, had⟩, (c_thrown G hK hvm h1 h2).1⟩, (c_thrown G hK hvm h1 h2).2⟩) _ _ _ _ _ _ _ _ h (gl_cpr hgl cp1) cp1.2.2 had (by rw [cp1.1]; exact h_o) G hl
  · have h := oif_neg c7 h
    refine lv_iload_n hx hb dX11_trackCell_9 rfl (lv_at hl 1 rfl) ?_
    refine lv_aload_n hx hb dX11_trackCell_10 rfl (lv_at hl 0 rfl) ?_
    obtain ⟨g8, h⟩ := oif_some h
    obtain ⟨n9, en9, h⟩ := obind_some h
    have h_n9 : n9 < T.1 := by rw [← cp1.1]; exact cp1.2.2 _ _ _ en9
    refine c_get E G o 14 (v := .ref (ad n9)) (oO_k g8).1 (cc_o11 (oO_k g8).2) rfl (fun w h => .tail _ (iA_23 h)) (by decide) (.tail _ qA_675) rfl (by rw [en9]; rfl) dX11_trackCell_11 ?_
    clear en9
    obtain ⟨g10, h⟩ := oif_some h
    refine c_get E G n9 2 (oO_k g10).1 (cc_o6 (oO_k g10).2) rfl (fun w h => .tail _ (iA_14 h)) (by decide) (.tail _ qA_761) rfl rfl dX11_trackCell_14 ?_
    refine lv_topi (fun v11 ev11 => ?_)
    have h := elet_at ev11 h
    clear ev11
    refine lv_icmp_gt (tgt := 24) hx hb dX11_trackCell_17 (by decide) (fun c12 => ?_) (fun c12 => ?_)
    · have h := oif_pos c12 h
      have hl := lv_sub hl [0, 1, 2] rfl
      refine w_cast (c2 := T3.1 - T.1) (s2 := sg T3 - sg T) (by rw [cp1.1] <;> rfl) (by rw [sg_cpr cp1] <;> rfl) ?_
      exact b_X11_trackCell_b24 E hA hX hN hml hst htab hlocks (fun ad H locs t had G hvm h1 h2 => ⟨(T1, ad), trivial, ⟨⟨rfl, rfl, had⟩, (c_thrown G hK hvm h1 h2).1⟩, (c_thrown G hK hvm h1 h2).2⟩) _ _ _ _ _ _ _ _ h (gl_cpr hgl cp1) cp1.2.2 had (by rw [cp1.1]; exact h_o) G hl
    · have h := oif_neg c12 h
      refine lv_iconst (v := 1) hx hb dX11_trackCell_20 (by decide) ?_
      refine lv_goto (tgt := 25) hx hb dX11_trackCell_21 (by decide) ?_
      have hl := lv_sub hl [0, 1, 2] rfl
      refine w_cast (c2 := T3.1 - T.1) (s2 := sg T3 - sg T) (by rw [cp1.1] <;> rfl) (by rw [sg_cpr cp1] <;> rfl) ?_
      exact b_X11_trackCell_b25 E hA hX hN hml hst htab hlocks (fun ad H locs t had G hvm h1 h2 => ⟨(T1, ad), trivial, ⟨⟨rfl, rfl, had⟩, (c_thrown G hK hvm h1 h2).1⟩, (c_thrown G hK hvm h1 h2).2⟩) _ _ _ _ _ _ _ _ _ h (gl_cpr hgl cp1) cp1.2.2 had (by rw [cp1.1]; exact h_o) G hl
def g_X11_powerOnTheMove_b137  (T : AT)  : Option (AT) := some T
def g_X11_powerOnTheMove_b115 (k38 : AT → Nat → Int32 → Int32 → Int32 → Int32 → Int32 → Int32 → Option (AT)) (T : AT) (l0 : Nat) (l2 : Int32) (l3 : Int32) (l4 : Int32) (l5 : Int32) (l6 : Int32) (l7 : Int32) : Option (AT) := elet (l7 + Int32.ofInt (1)) fun v2 => k38 T l0 l2 l3 l4 l5 l6 v2
def g_X11_powerOnTheMove_b90 (k38 : AT → Nat → Int32 → Int32 → Int32 → Int32 → Int32 → Int32 → Option (AT)) (T : AT) (l0 : Nat) (l2 : Int32) (l3 : Int32) (l4 : Int32) (l5 : Int32) (l6 : Int32) (l7 : Int32) : Option (AT) := oif (oO T l0 11 = true) <| obind (T.2.2.2.2 l0 12) fun n3 => oif (oO T l0 11 = true) <| obind (T.2.2.2.2 l0 6) fun n5 => oif (oO T n5 8 = true) <| obind (T.2.2.2.2 n5 11) fun n7 => oif (oO T l0 11 = true) <| obind (T.2.2.2.2 l0 6) fun n9 => oif (oO T n9 8 = true) <| obind (T.2.2.2.2 n9 11) fun n11 => oif (oO T n3 10 = true) <| obind (g_X10_addProduct T n3 l4 n7 (0 : Int32) n11 (0 : Int32)) fun T13 => g_X11_powerOnTheMove_b115 k38 T13 l0 l2 l3 l4 l5 l6 l7
def g_X11_powerOnTheMove_b38  : Nat → AT → Nat → Int32 → Int32 → Int32 → Int32 → Int32 → Int32 → Option (AT)
  | 0, _, _, _, _, _, _, _, _ => none
  | n + 1, T, l0, l2, l3, l4, l5, l6, l7 => oif (oO T l0 11 = true) <| obind (T.2.2.2.2 l0 14) fun n3 => oif (oO T n3 6 = true) <| elet (T.2.2.1 n3 2) fun v5 => if v5 ≤ l7 then (oif (oO T l0 11 = true) <| obind (T.2.2.2.2 l0 12) fun n8 => oif (oO T l0 11 = true) <| obind (T.2.2.2.2 l0 14) fun n10 => oif (oO T n10 6 = true) <| elet (T.2.2.1 n10 2) fun v12 => oif (oO T n8 10 = true) <| obind (g_X10_divide T n8 l4 v12) fun T14 => g_X11_powerOnTheMove_b137 T14) else (oif (oO T l0 11 = true) <| obind (T.2.2.2.2 l0 14) fun n17 => obind (g_X11_moved l5 l2 l7) fun r18 => obind (g_X11_moved l6 l3 l7) fun r20 => oif (oO T l0 11 = true) <| obind (T.2.2.2.2 l0 11) fun n23 => oif (oO T n17 6 = true) <| obind (g_X6_delaysFrom T n17 r18 r20 n23) fun T25 => oif (oO T25 l0 11 = true) <| obind (T25.2.2.2.2 l0 6) fun n28 => oif (oO T25 l0 11 = true) <| obind (T25.2.2.2.2 l0 11) fun n30 => oif (oO T25 n28 8 = true) <| obind (g_X8_focus T25 n28 n30 l7) fun T32 => g_X11_powerOnTheMove_b90 (g_X11_powerOnTheMove_b38 n) T32 l0 l2 l3 l4 l5 l6 l7)
def g_X11_powerOnTheMove (T : AT) (o : Nat) (a0 : Int32) (a1 : Int32) (a2 : Int32) (a3 : Int32) : Option (AT) := oif (oO T o 11 = true) <| obind (T.2.2.2.2 o 14) fun n3 => oif (oO T n3 6 = true) <| obind (T.2.2.2.2 n3 6) fun n5 => oif (oO T n5 1 = true) <| obind2 (g_X1_centreX T n5 a0) fun r9 T7 => oif (oO T7 o 11 = true) <| obind (T7.2.2.2.2 o 14) fun n12 => oif (oO T7 n12 6 = true) <| obind (T7.2.2.2.2 n12 6) fun n14 => oif (oO T7 n14 1 = true) <| obind2 (g_X1_centreY T7 n14 a0) fun r18 T16 => oif (oO T16 o 11 = true) <| obind (T16.2.2.2.2 o 12) fun n21 => oif (oO T16 n21 10 = true) <| obind (g_X10_clear T16 n21 a3) fun T23 => g_X11_powerOnTheMove_b38 16384 T23 o a1 a2 a3 r9 r18 0
set_option maxHeartbeats 4000000 in
set_option maxRecDepth 100000 in
theorem s_X11_powerOnTheMove_b137 {T1 : AT} : ∀ (T : AT), g_X11_powerOnTheMove_b137 T = some T1 → GL T T1 := by
  intro T h
  have p0 := GL.rf T
  unfold g_X11_powerOnTheMove_b137 at h
  rw [← osome1 h]
  exact p0
set_option maxHeartbeats 4000000 in
set_option maxRecDepth 100000 in
theorem s_X11_powerOnTheMove_b115 {T1 : AT} {k38 : AT → Nat → Int32 → Int32 → Int32 → Int32 → Int32 → Int32 → Option (AT)} (hk38 : ∀ (T : AT) (l0 : Nat) (l2 : Int32) (l3 : Int32) (l4 : Int32) (l5 : Int32) (l6 : Int32) (l7 : Int32), k38 T l0 l2 l3 l4 l5 l6 l7 = some T1 → GL T T1) : ∀ (T : AT) (l0 : Nat) (l2 : Int32) (l3 : Int32) (l4 : Int32) (l5 : Int32) (l6 : Int32) (l7 : Int32), g_X11_powerOnTheMove_b115 k38 T l0 l2 l3 l4 l5 l6 l7 = some T1 → GL T T1 := by
  intro T l0 l2 l3 l4 l5 l6 l7 h
  have p0 := GL.rf T
  unfold g_X11_powerOnTheMove_b115 at h
  obtain ⟨v2, ev2, h⟩ := elet_some h
  exact GL.tr p0 (hk38 _ _ _ _ _ _ _ _ h)
set_option maxHeartbeats 4000000 in
set_option maxRecDepth 100000 in
theorem s_X11_powerOnTheMove_b90 {T1 : AT} {k38 : AT → Nat → Int32 → Int32 → Int32 → Int32 → Int32 → Int32 → Option (AT)} (hk38 : ∀ (T : AT) (l0 : Nat) (l2 : Int32) (l3 : Int32) (l4 : Int32) (l5 : Int32) (l6 : Int32) (l7 : Int32), k38 T l0 l2 l3 l4 l5 l6 l7 = some T1 → GL T T1) : ∀ (T : AT) (l0 : Nat) (l2 : Int32) (l3 : Int32) (l4 : Int32) (l5 : Int32) (l6 : Int32) (l7 : Int32), g_X11_powerOnTheMove_b90 k38 T l0 l2 l3 l4 l5 l6 l7 = some T1 → GL T T1 := by
  intro T l0 l2 l3 l4 l5 l6 l7 h
  have p0 := GL.rf T
  unfold g_X11_powerOnTheMove_b90 at h
  obtain ⟨g2, h⟩ := oif_some h
  obtain ⟨n3, en3, h⟩ := obind_some h
  obtain ⟨g4, h⟩ := oif_some h
  obtain ⟨n5, en5, h⟩ := obind_some h
  obtain ⟨g6, h⟩ := oif_some h
  obtain ⟨n7, en7, h⟩ := obind_some h
  obtain ⟨g8, h⟩ := oif_some h
  obtain ⟨n9, en9, h⟩ := obind_some h
  obtain ⟨g10, h⟩ := oif_some h
  obtain ⟨n11, en11, h⟩ := obind_some h
  obtain ⟨g12, h⟩ := oif_some h
  obtain ⟨T13, eT13, h⟩ := obind_some h
  have p1 : GL T T13 := GL.tr p0 (s_X10_addProduct eT13)
  exact GL.tr p1 (s_X11_powerOnTheMove_b115 hk38 _ _ _ _ _ _ _ _ h)
set_option maxHeartbeats 4000000 in
set_option maxRecDepth 100000 in
theorem s_X11_powerOnTheMove_b38 {T1 : AT} : ∀ n : Nat, ∀ (T : AT) (l0 : Nat) (l2 : Int32) (l3 : Int32) (l4 : Int32) (l5 : Int32) (l6 : Int32) (l7 : Int32), g_X11_powerOnTheMove_b38 n T l0 l2 l3 l4 l5 l6 l7 = some T1 → GL T T1 := by
  intro n
  induction n with
  | zero =>
    intro T l0 l2 l3 l4 l5 l6 l7 h
    have h : (none : Option (AT)) = some T1 := h
    cases h
  | succ n ih =>
    intro T l0 l2 l3 l4 l5 l6 l7 h
    have p0 := GL.rf T
    unfold g_X11_powerOnTheMove_b38 at h
    obtain ⟨g2, h⟩ := oif_some h
    obtain ⟨n3, en3, h⟩ := obind_some h
    obtain ⟨g4, h⟩ := oif_some h
    obtain ⟨v5, -, h⟩ := elet_some h
    rcases oif_or h with ⟨c6, h⟩ | ⟨c6, h⟩
    · have h := h
      obtain ⟨g7, h⟩ := oif_some h
      obtain ⟨n8, en8, h⟩ := obind_some h
      obtain ⟨g9, h⟩ := oif_some h
      obtain ⟨n10, en10, h⟩ := obind_some h
      obtain ⟨g11, h⟩ := oif_some h
      obtain ⟨v12, -, h⟩ := elet_some h
      obtain ⟨g13, h⟩ := oif_some h
      obtain ⟨T14, eT14, h⟩ := obind_some h
      have p1 : GL T T14 := GL.tr p0 (s_X10_divide eT14)
      exact GL.tr p1 (s_X11_powerOnTheMove_b137 _ h)
    · have h := h
      obtain ⟨g16, h⟩ := oif_some h
      obtain ⟨n17, en17, h⟩ := obind_some h
      obtain ⟨r18, -, h⟩ := obind_some h
      obtain ⟨r19, -, h⟩ := obind_some h
      obtain ⟨g20, h⟩ := oif_some h
      obtain ⟨n21, en21, h⟩ := obind_some h
      obtain ⟨g22, h⟩ := oif_some h
      obtain ⟨T23, eT23, h⟩ := obind_some h
      have p1 : GL T T23 := GL.tr p0 (gl_sp (s_X6_delaysFrom eT23))
      obtain ⟨g25, h⟩ := oif_some h
      obtain ⟨n26, en26, h⟩ := obind_some h
      obtain ⟨g27, h⟩ := oif_some h
      obtain ⟨n28, en28, h⟩ := obind_some h
      obtain ⟨g29, h⟩ := oif_some h
      obtain ⟨T30, eT30, h⟩ := obind_some h
      have p2 : GL T T30 := GL.tr p1 (s_X8_focus eT30)
      exact GL.tr p2 (s_X11_powerOnTheMove_b90 ih _ _ _ _ _ _ _ _ h)
set_option maxHeartbeats 4000000 in
set_option maxRecDepth 100000 in
theorem s_X11_powerOnTheMove {T : AT} {o : Nat} {a0 : Int32} {a1 : Int32} {a2 : Int32} {a3 : Int32} {T1 : AT} (h : g_X11_powerOnTheMove T o a0 a1 a2 a3 = some T1) : GL T T1 := by
  have p0 := GL.rf T
  unfold g_X11_powerOnTheMove at h
  obtain ⟨g2, h⟩ := oif_some h
  obtain ⟨n3, en3, h⟩ := obind_some h
  obtain ⟨g4, h⟩ := oif_some h
  obtain ⟨n5, en5, h⟩ := obind_some h
  obtain ⟨g6, h⟩ := oif_some h
  obtain ⟨r8, T7, eT7, h⟩ := obind2_some h
  have p1 : GL T T7 := GL.tr p0 (gl_sp (s_X1_centreX eT7))
  obtain ⟨g9, h⟩ := oif_some h
  obtain ⟨n10, en10, h⟩ := obind_some h
  obtain ⟨g11, h⟩ := oif_some h
  obtain ⟨n12, en12, h⟩ := obind_some h
  obtain ⟨g13, h⟩ := oif_some h
  obtain ⟨r15, T14, eT14, h⟩ := obind2_some h
  have p2 : GL T T14 := GL.tr p1 (gl_sp (s_X1_centreY eT14))
  obtain ⟨g16, h⟩ := oif_some h
  obtain ⟨n17, en17, h⟩ := obind_some h
  obtain ⟨g18, h⟩ := oif_some h
  obtain ⟨T19, eT19, h⟩ := obind_some h
  have p3 : GL T T19 := GL.tr p2 (gl_sp (s_X10_clear eT19))
  exact GL.tr p3 (s_X11_powerOnTheMove_b38 _ _ _ _ _ _ _ _ _ h)
set_option maxHeartbeats 4000000 in
set_option maxRecDepth 100000 in
theorem a_X11_powerOnTheMove_b137 {p : Program} {l : Launch} {e : Env} {s : State} {m : MethodId} {args : Array Value} {below : List Frame} {meth : Method} {c : Code} {Q : State → Prop} {D : va_G} {A : Nat → Prop} {cI cJ cZ cMic cSrc cSt cAI cAJ : ClassId} {ad0 : Nat → Nat} {T0 : AT} {T1 : AT} (E : cE p c cX11_powerOnTheMove s m args (Cond.code yX11_powerOnTheMove cX11_powerOnTheMove 8 none :: wsA) D RX11 (CT cI cJ cZ cMic cSrc cSt cAI cAJ)) (hA : ∀ q : Nat, s.heap.size ≤ q → A q) (hX : xT A s) (hN : nX s) (hml : c.maxLocals = 8) (hst : l.stackTraces = false) (kr137 : ∀ (ad : Nat → Nat) (H : Heap) (locs : List Loc) (ls : Array Slot), (∀ n, n < T0.1 → ad n = ad0 n) → gC cI cJ cZ cMic cSrc cSt cAI cAJ D ad A s.heap H locs T1 → W p l e { frames := 4, cells := T1.1 - T0.1, slots := sg T1 - sg T0, locals := 78 } s m args below meth c H locs (T1.1 - T0.1) (sg T1 - sg T0) Q (F0 m 137 ls [])) : ∀ (T : AT) (ad : Nat → Nat) (H : Heap) (locs : List Loc) (ls : Array Slot), g_X11_powerOnTheMove_b137 T = some T1 → GL T0 T → RC T → (∀ n, n < T0.1 → ad n = ad0 n) → gC cI cJ cZ cMic cSrc cSt cAI cAJ D ad A s.heap H locs T → lv_has ls 8 [] → W p l e { frames := 4, cells := T1.1 - T0.1, slots := sg T1 - sg T0, locals := 78 } s m args below meth c H locs (T.1 - T0.1) (sg T - sg T0) Q (F0 m 137 ls []) := by
  have hx := E.1
  have hb := E.2.1
  have hts := E.2.2.1
  have hown := E.2.2.2.1
  have hK := E.2.2.2.2
  intro T ad H locs ls h hgl hrc had G hl
  have hT1 := s_X11_powerOnTheMove_b137 _ h
  have hcs := cs_ok hgl hT1
  have cp0 := cpr0 hrc
  unfold g_X11_powerOnTheMove_b137 at h
  rw [osome1 h] at G
  refine w_cast (c2 := T1.1 - T0.1) (s2 := sg T1 - sg T0) (by rw [← osome1 h, cp0.1] <;> rfl) (by rw [← osome1 h, sg_cpr cp0] <;> rfl) ?_
  exact kr137 ad _ _ _ had G
set_option maxHeartbeats 4000000 in
set_option maxRecDepth 100000 in
theorem a_X11_powerOnTheMove_b115 {p : Program} {l : Launch} {e : Env} {s : State} {m : MethodId} {args : Array Value} {below : List Frame} {meth : Method} {c : Code} {Q : State → Prop} {D : va_G} {A : Nat → Prop} {cI cJ cZ cMic cSrc cSt cAI cAJ : ClassId} {ad0 : Nat → Nat} {T0 : AT} {T1 : AT} (E : cE p c cX11_powerOnTheMove s m args (Cond.code yX11_powerOnTheMove cX11_powerOnTheMove 8 none :: wsA) D RX11 (CT cI cJ cZ cMic cSrc cSt cAI cAJ)) (hA : ∀ q : Nat, s.heap.size ≤ q → A q) (hX : xT A s) (hN : nX s) (hml : c.maxLocals = 8) (hst : l.stackTraces = false) (kr137 : ∀ (ad : Nat → Nat) (H : Heap) (locs : List Loc) (ls : Array Slot), (∀ n, n < T0.1 → ad n = ad0 n) → gC cI cJ cZ cMic cSrc cSt cAI cAJ D ad A s.heap H locs T1 → W p l e { frames := 4, cells := T1.1 - T0.1, slots := sg T1 - sg T0, locals := 78 } s m args below meth c H locs (T1.1 - T0.1) (sg T1 - sg T0) Q (F0 m 137 ls [])) {k38 : AT → Nat → Int32 → Int32 → Int32 → Int32 → Int32 → Int32 → Option (AT)} (hs38 : ∀ (T : AT) (l0 : Nat) (l2 : Int32) (l3 : Int32) (l4 : Int32) (l5 : Int32) (l6 : Int32) (l7 : Int32), k38 T l0 l2 l3 l4 l5 l6 l7 = some T1 → GL T T1) (hk38 : ∀ (T : AT) (ad : Nat → Nat) (H : Heap) (locs : List Loc) (ls : Array Slot) (l0 : Nat) (l2 : Int32) (l3 : Int32) (l4 : Int32) (l5 : Int32) (l6 : Int32) (l7 : Int32), k38 T l0 l2 l3 l4 l5 l6 l7 = some T1 → GL T0 T → RC T → (∀ n, n < T0.1 → ad n = ad0 n) → l0 < T.1 → gC cI cJ cZ cMic cSrc cSt cAI cAJ D ad A s.heap H locs T → lv_has ls 8 [(0, .ref (ad l0)), (2, .int l2), (3, .int l3), (4, .int l4), (5, .int l5), (6, .int l6), (7, .int l7)] → W p l e { frames := 4, cells := T1.1 - T0.1, slots := sg T1 - sg T0, locals := 78 } s m args below meth c H locs (T.1 - T0.1) (sg T - sg T0) Q (F0 m 38 ls [])) : ∀ (T : AT) (ad : Nat → Nat) (H : Heap) (locs : List Loc) (ls : Array Slot) (l0 : Nat) (l2 : Int32) (l3 : Int32) (l4 : Int32) (l5 : Int32) (l6 : Int32) (l7 : Int32), g_X11_powerOnTheMove_b115 k38 T l0 l2 l3 l4 l5 l6 l7 = some T1 → GL T0 T → RC T → (∀ n, n < T0.1 → ad n = ad0 n) → l0 < T.1 → gC cI cJ cZ cMic cSrc cSt cAI cAJ D ad A s.heap H locs T → lv_has ls 8 [(0, .ref (ad l0)), (2, .int l2), (3, .int l3), (4, .int l4), (5, .int l5), (6, .int l6), (7, .int l7)] → W p l e { frames := 4, cells := T1.1 - T0.1, slots := sg T1 - sg T0, locals := 78 } s m args below meth c H locs (T.1 - T0.1) (sg T - sg T0) Q (F0 m 115 ls []) := by
  have hx := E.1
  have hb := E.2.1
  have hts := E.2.2.1
  have hown := E.2.2.2.1
  have hK := E.2.2.2.2
  intro T ad H locs ls l0 l2 l3 l4 l5 l6 l7 h hgl hrc had h_l0 G hl
  have hT1 := s_X11_powerOnTheMove_b115 hs38 _ _ _ _ _ _ _ _ h
  have hcs := cs_ok hgl hT1
  have cp0 := cpr0 hrc
  unfold g_X11_powerOnTheMove_b115 at h
  obtain ⟨v2, ev2, h⟩ := elet_some h
  refine lv_iinc (v := v2) (lv' := [(7, .int v2), (0, .ref (ad l0)), (2, .int l2), (3, .int l3), (4, .int l4), (5, .int l5), (6, .int l6)]) hx hb dX11_powerOnTheMove_115 hl (k := 6) rfl ev2.symm (by decide) rfl (fun ls hl => ?_)
  refine lv_goto (tgt := 38) hx hb dX11_powerOnTheMove_118 (by decide) ?_
  have hl := lv_sub hl [1, 2, 3, 4, 5, 6, 0] rfl
  refine w_cast (c2 := T.1 - T0.1) (s2 := sg T - sg T0) (by rw [cp0.1] <;> rfl) (by rw [sg_cpr cp0] <;> rfl) ?_
  exact hk38 _ _ _ _ _ _ _ _ _ _ _ _ h (gl_cpr hgl cp0) cp0.2.2 had (by rw [cp0.1]; exact h_l0) G hl
set_option maxHeartbeats 4000000 in
set_option maxRecDepth 100000 in
theorem a_X11_powerOnTheMove_b90 {p : Program} {l : Launch} {e : Env} {s : State} {m : MethodId} {args : Array Value} {below : List Frame} {meth : Method} {c : Code} {Q : State → Prop} {D : va_G} {A : Nat → Prop} {cI cJ cZ cMic cSrc cSt cAI cAJ : ClassId} {ad0 : Nat → Nat} {T0 : AT} {T1 : AT} (E : cE p c cX11_powerOnTheMove s m args (Cond.code yX11_powerOnTheMove cX11_powerOnTheMove 8 none :: wsA) D RX11 (CT cI cJ cZ cMic cSrc cSt cAI cAJ)) (hA : ∀ q : Nat, s.heap.size ≤ q → A q) (hX : xT A s) (hN : nX s) (hml : c.maxLocals = 8) (hst : l.stackTraces = false) (kr137 : ∀ (ad : Nat → Nat) (H : Heap) (locs : List Loc) (ls : Array Slot), (∀ n, n < T0.1 → ad n = ad0 n) → gC cI cJ cZ cMic cSrc cSt cAI cAJ D ad A s.heap H locs T1 → W p l e { frames := 4, cells := T1.1 - T0.1, slots := sg T1 - sg T0, locals := 78 } s m args below meth c H locs (T1.1 - T0.1) (sg T1 - sg T0) Q (F0 m 137 ls [])) {k38 : AT → Nat → Int32 → Int32 → Int32 → Int32 → Int32 → Int32 → Option (AT)} (hs38 : ∀ (T : AT) (l0 : Nat) (l2 : Int32) (l3 : Int32) (l4 : Int32) (l5 : Int32) (l6 : Int32) (l7 : Int32), k38 T l0 l2 l3 l4 l5 l6 l7 = some T1 → GL T T1) (hk38 : ∀ (T : AT) (ad : Nat → Nat) (H : Heap) (locs : List Loc) (ls : Array Slot) (l0 : Nat) (l2 : Int32) (l3 : Int32) (l4 : Int32) (l5 : Int32) (l6 : Int32) (l7 : Int32), k38 T l0 l2 l3 l4 l5 l6 l7 = some T1 → GL T0 T → RC T → (∀ n, n < T0.1 → ad n = ad0 n) → l0 < T.1 → gC cI cJ cZ cMic cSrc cSt cAI cAJ D ad A s.heap H locs T → lv_has ls 8 [(0, .ref (ad l0)), (2, .int l2), (3, .int l3), (4, .int l4), (5, .int l5), (6, .int l6), (7, .int l7)] → W p l e { frames := 4, cells := T1.1 - T0.1, slots := sg T1 - sg T0, locals := 78 } s m args below meth c H locs (T.1 - T0.1) (sg T - sg T0) Q (F0 m 38 ls [])) : ∀ (T : AT) (ad : Nat → Nat) (H : Heap) (locs : List Loc) (ls : Array Slot) (l0 : Nat) (l2 : Int32) (l3 : Int32) (l4 : Int32) (l5 : Int32) (l6 : Int32) (l7 : Int32), g_X11_powerOnTheMove_b90 k38 T l0 l2 l3 l4 l5 l6 l7 = some T1 → GL T0 T → RC T → (∀ n, n < T0.1 → ad n = ad0 n) → l0 < T.1 → gC cI cJ cZ cMic cSrc cSt cAI cAJ D ad A s.heap H locs T → lv_has ls 8 [(0, .ref (ad l0)), (2, .int l2), (3, .int l3), (4, .int l4), (5, .int l5), (6, .int l6), (7, .int l7)] → W p l e { frames := 4, cells := T1.1 - T0.1, slots := sg T1 - sg T0, locals := 78 } s m args below meth c H locs (T.1 - T0.1) (sg T - sg T0) Q (F0 m 90 ls []) := by
  have hx := E.1
  have hb := E.2.1
  have hts := E.2.2.1
  have hown := E.2.2.2.1
  have hK := E.2.2.2.2
  intro T ad H locs ls l0 l2 l3 l4 l5 l6 l7 h hgl hrc had h_l0 G hl
  have hT1 := s_X11_powerOnTheMove_b90 hs38 _ _ _ _ _ _ _ _ h
  have hcs := cs_ok hgl hT1
  have cp0 := cpr0 hrc
  unfold g_X11_powerOnTheMove_b90 at h
  refine lv_aload_n hx hb dX11_powerOnTheMove_90 rfl (lv_at hl 0 rfl) ?_
  obtain ⟨g2, h⟩ := oif_some h
  obtain ⟨n3, en3, h⟩ := obind_some h
  have h_n3 : n3 < T.1 := by rw [← cp0.1]; exact cp0.2.2 _ _ _ en3
  refine c_get E G l0 12 (v := .ref (ad n3)) (oO_k g2).1 (cc_o11 (oO_k g2).2) rfl (fun w h => .tail _ (iA_23 h)) (by decide) (.tail _ qA_671) rfl (by rw [en3]; rfl) dX11_powerOnTheMove_91 ?_
  clear en3
  refine lv_iload hx hb dX11_powerOnTheMove_94 (lv_at hl 3 rfl) ?_
  refine lv_aload_n hx hb dX11_powerOnTheMove_96 rfl (lv_at hl 0 rfl) ?_
  obtain ⟨g4, h⟩ := oif_some h
  obtain ⟨n5, en5, h⟩ := obind_some h
  have h_n5 : n5 < T.1 := by rw [← cp0.1]; exact cp0.2.2 _ _ _ en5
  refine c_get E G l0 6 (v := .ref (ad n5)) (oO_k g4).1 (cc_o11 (oO_k g4).2) rfl (fun w h => .tail _ (iA_23 h)) (by decide) (.tail _ qA_664) rfl (by rw [en5]; rfl) dX11_powerOnTheMove_97 ?_
  clear en5
  obtain ⟨g6, h⟩ := oif_some h
  obtain ⟨n7, en7, h⟩ := obind_some h
  have h_n7 : n7 < T.1 := by rw [← cp0.1]; exact cp0.2.2 _ _ _ en7
  refine c_get E G n5 11 (v := .ref (ad n7)) (oO_k g6).1 (cc_o8 (oO_k g6).2) rfl (fun w h => .tail _ (iA_16 h)) (by decide) (.tail _ qA_795) rfl (by rw [en7]; rfl) dX11_powerOnTheMove_100 ?_
  clear en7
  refine lv_iconst (v := 0) hx hb dX11_powerOnTheMove_103 (by decide) ?_
  refine lv_aload_n hx hb dX11_powerOnTheMove_104 rfl (lv_at hl 0 rfl) ?_
  obtain ⟨g8, h⟩ := oif_some h
  obtain ⟨n9, en9, h⟩ := obind_some h
  have h_n9 : n9 < T.1 := by rw [← cp0.1]; exact cp0.2.2 _ _ _ en9
  refine c_get E G l0 6 (v := .ref (ad n9)) (oO_k g8).1 (cc_o11 (oO_k g8).2) rfl (fun w h => .tail _ (iA_23 h)) (by decide) (.tail _ qA_664) rfl (by rw [en9]; rfl) dX11_powerOnTheMove_105 ?_
  clear en9
  obtain ⟨g10, h⟩ := oif_some h
  obtain ⟨n11, en11, h⟩ := obind_some h
  have h_n11 : n11 < T.1 := by rw [← cp0.1]; exact cp0.2.2 _ _ _ en11
  refine c_get E G n9 11 (v := .ref (ad n11)) (oO_k g10).1 (cc_o8 (oO_k g10).2) rfl (fun w h => .tail _ (iA_16 h)) (by decide) (.tail _ qA_795) rfl (by rw [en11]; rfl) dX11_powerOnTheMove_108 ?_
  clear en11
  refine lv_iconst (v := 0) hx hb dX11_powerOnTheMove_111 (by decide) ?_
  obtain ⟨g12, h⟩ := oif_some h
  obtain ⟨T13, eT13, h⟩ := obind_some h
  have hg2 := s_X10_addProduct eT13
  have hrc2 := hg2.2.2 cp0.2.2
  have hT2 := s_X11_powerOnTheMove_b115 hs38 _ _ _ _ _ _ _ _ h
  refine q_avv (As := [.int l4, .ref (ad n7), .int 0, .ref (ad n11), .int 0]) (rest := []) E G hA hX hN hml (a_X10_addProduct l hst D cI cJ cZ cMic cSrc cSt cAI cAJ ad T n3 l4 n7 (0 : Int32) n11 (0 : Int32) eT13 cp0.2.2 (by rw [cp0.1]; exact h_n3) (by rw [cp0.1]; exact h_n7) (by rw [cp0.1]; exact h_n11)) (cwV 5 hts (gaV qA_879 qA_100 qA_101 qA_6 qA_102) rfl rfl rfl (by decide +kernel) ⟨Nat.le_of_ble_eq_true rfl, Nat.le_of_ble_eq_true rfl⟩) (oO_k g12).1 (cc_o10 (oO_k g12).2) rfl rfl hl.1 rfl (lv_room (Nat.le_of_ble_eq_true rfl)) dX11_powerOnTheMove_112 (cs_av hgl cp0 hg2 hT2) (fun ad2 H locs hga G => ?_)
  refine w_cast (c2 := T13.1 - T0.1) (s2 := sg T13 - sg T0) (cs_f1 hgl cp0 hg2) (cs_f2 hgl cp0 hg2) ?_
  have hl := lv_sub hl [0, 1, 2, 3, 4, 5, 6] rfl
  rw [show ad l0 = ad2 l0 from (hga l0 (by rw [cp0.1]; exact h_l0)).symm] at hl
  exact a_X11_powerOnTheMove_b115 E hA hX hN hml hst kr137 hs38 hk38 _ _ _ _ _ _ _ _ _ _ _ _ h (GL.tr (gl_cpr hgl cp0) hg2) hrc2 (fun n hn => (hga n (by rw [cp0.1]; exact Nat.lt_of_lt_of_le hn hgl.1)).trans (had n hn)) (Nat.lt_of_lt_of_le (by rw [cp0.1]; exact h_l0) hg2.1) G hl
set_option maxHeartbeats 4000000 in
set_option maxRecDepth 100000 in
theorem a_X11_powerOnTheMove_b38 {p : Program} {l : Launch} {e : Env} {s : State} {m : MethodId} {args : Array Value} {below : List Frame} {meth : Method} {c : Code} {Q : State → Prop} {D : va_G} {A : Nat → Prop} {cI cJ cZ cMic cSrc cSt cAI cAJ : ClassId} {ad0 : Nat → Nat} {T0 : AT} {T1 : AT} (E : cE p c cX11_powerOnTheMove s m args (Cond.code yX11_powerOnTheMove cX11_powerOnTheMove 8 none :: wsA) D RX11 (CT cI cJ cZ cMic cSrc cSt cAI cAJ)) (hA : ∀ q : Nat, s.heap.size ≤ q → A q) (hX : xT A s) (hN : nX s) (hml : c.maxLocals = 8) (hst : l.stackTraces = false) (kr137 : ∀ (ad : Nat → Nat) (H : Heap) (locs : List Loc) (ls : Array Slot), (∀ n, n < T0.1 → ad n = ad0 n) → gC cI cJ cZ cMic cSrc cSt cAI cAJ D ad A s.heap H locs T1 → W p l e { frames := 4, cells := T1.1 - T0.1, slots := sg T1 - sg T0, locals := 78 } s m args below meth c H locs (T1.1 - T0.1) (sg T1 - sg T0) Q (F0 m 137 ls [])) : ∀ n : Nat, ∀ (T : AT) (ad : Nat → Nat) (H : Heap) (locs : List Loc) (ls : Array Slot) (l0 : Nat) (l2 : Int32) (l3 : Int32) (l4 : Int32) (l5 : Int32) (l6 : Int32) (l7 : Int32), g_X11_powerOnTheMove_b38 n T l0 l2 l3 l4 l5 l6 l7 = some T1 → GL T0 T → RC T → (∀ n, n < T0.1 → ad n = ad0 n) → l0 < T.1 → gC cI cJ cZ cMic cSrc cSt cAI cAJ D ad A s.heap H locs T → lv_has ls 8 [(0, .ref (ad l0)), (2, .int l2), (3, .int l3), (4, .int l4), (5, .int l5), (6, .int l6), (7, .int l7)] → W p l e { frames := 4, cells := T1.1 - T0.1, slots := sg T1 - sg T0, locals := 78 } s m args below meth c H locs (T.1 - T0.1) (sg T - sg T0) Q (F0 m 38 ls []) := by
  have hx := E.1
  have hb := E.2.1
  have hts := E.2.2.1
  have hown := E.2.2.2.1
  have hK := E.2.2.2.2
  intro n
  induction n with
  | zero =>
    intro T ad H locs ls l0 l2 l3 l4 l5 l6 l7 h
    have h : (none : Option (AT)) = some T1 := h
    cases h
  | succ n ih =>
    intro T ad H locs ls l0 l2 l3 l4 l5 l6 l7 h hgl hrc had h_l0 G hl
    have hT1 := s_X11_powerOnTheMove_b38 _ _ _ _ _ _ _ _ _ h
    have hcs := cs_ok hgl hT1
    have cp0 := cpr0 hrc
    unfold g_X11_powerOnTheMove_b38 at h
    refine lv_iload hx hb dX11_powerOnTheMove_38 (lv_at hl 6 rfl) ?_
    refine lv_aload_n hx hb dX11_powerOnTheMove_40 rfl (lv_at hl 0 rfl) ?_
    obtain ⟨g2, h⟩ := oif_some h
    obtain ⟨n3, en3, h⟩ := obind_some h
    have h_n3 : n3 < T.1 := by rw [← cp0.1]; exact cp0.2.2 _ _ _ en3
    refine c_get E G l0 14 (v := .ref (ad n3)) (oO_k g2).1 (cc_o11 (oO_k g2).2) rfl (fun w h => .tail _ (iA_23 h)) (by decide) (.tail _ qA_675) rfl (by rw [en3]; rfl) dX11_powerOnTheMove_41 ?_
    clear en3
    obtain ⟨g4, h⟩ := oif_some h
    refine c_get E G n3 2 (oO_k g4).1 (cc_o6 (oO_k g4).2) rfl (fun w h => .tail _ (iA_14 h)) (by decide) (.tail _ qA_761) rfl rfl dX11_powerOnTheMove_44 ?_
    refine lv_topi (fun v5 ev5 => ?_)
    have h := elet_at ev5 h
    clear ev5
    refine lv_icmp_ge (tgt := 121) hx hb dX11_powerOnTheMove_47 (by decide) (fun c6 => ?_) (fun c6 => ?_)
    · have h := oif_pos c6 h
      refine lv_aload_n hx hb dX11_powerOnTheMove_121 rfl (lv_at hl 0 rfl) ?_
      obtain ⟨g7, h⟩ := oif_some h
      obtain ⟨n8, en8, h⟩ := obind_some h
      have h_n8 : n8 < T.1 := by rw [← cp0.1]; exact cp0.2.2 _ _ _ en8
      refine c_get E G l0 12 (v := .ref (ad n8)) (oO_k g7).1 (cc_o11 (oO_k g7).2) rfl (fun w h => .tail _ (iA_23 h)) (by decide) (.tail _ qA_671) rfl (by rw [en8]; rfl) dX11_powerOnTheMove_122 ?_
      clear en8
      refine lv_iload hx hb dX11_powerOnTheMove_125 (lv_at hl 3 rfl) ?_
      refine lv_aload_n hx hb dX11_powerOnTheMove_127 rfl (lv_at hl 0 rfl) ?_
      obtain ⟨g9, h⟩ := oif_some h
      obtain ⟨n10, en10, h⟩ := obind_some h
      have h_n10 : n10 < T.1 := by rw [← cp0.1]; exact cp0.2.2 _ _ _ en10
      refine c_get E G l0 14 (v := .ref (ad n10)) (oO_k g9).1 (cc_o11 (oO_k g9).2) rfl (fun w h => .tail _ (iA_23 h)) (by decide) (.tail _ qA_675) rfl (by rw [en10]; rfl) dX11_powerOnTheMove_128 ?_
      clear en10
      obtain ⟨g11, h⟩ := oif_some h
      refine c_get E G n10 2 (oO_k g11).1 (cc_o6 (oO_k g11).2) rfl (fun w h => .tail _ (iA_14 h)) (by decide) (.tail _ qA_761) rfl rfl dX11_powerOnTheMove_131 ?_
      refine lv_topi (fun v12 ev12 => ?_)
      have h := elet_at ev12 h
      clear ev12
      obtain ⟨g13, h⟩ := oif_some h
      obtain ⟨T14, eT14, h⟩ := obind_some h
      have hg2 := s_X10_divide eT14
      have hrc2 := hg2.2.2 cp0.2.2
      have hT2 := s_X11_powerOnTheMove_b137 _ h
      refine q_avv (As := [.int l4, .int v12]) (rest := []) E G hA hX hN hml (a_X10_divide l hst D cI cJ cZ cMic cSrc cSt cAI cAJ ad T n8 l4 v12 eT14 cp0.2.2 (by rw [cp0.1]; exact h_n8)) (cwV 2 hts (gaV qA_819 qA_105 qA_106 qA_6 qA_107) rfl rfl rfl (by decide +kernel) ⟨Nat.le_of_ble_eq_true rfl, Nat.le_of_ble_eq_true rfl⟩) (oO_k g13).1 (cc_o10 (oO_k g13).2) rfl rfl hl.1 rfl (lv_room (Nat.le_of_ble_eq_true rfl)) dX11_powerOnTheMove_134 (cs_av hgl cp0 hg2 hT2) (fun ad2 H locs hga G => ?_)
      refine w_cast (c2 := T14.1 - T0.1) (s2 := sg T14 - sg T0) (cs_f1 hgl cp0 hg2) (cs_f2 hgl cp0 hg2) ?_
      have hl := lv_sub hl [] rfl
      exact a_X11_powerOnTheMove_b137 E hA hX hN hml hst kr137 _ _ _ _ _ h (GL.tr (gl_cpr hgl cp0) hg2) hrc2 (fun n hn => (hga n (by rw [cp0.1]; exact Nat.lt_of_lt_of_le hn hgl.1)).trans (had n hn)) G hl
    · have h := oif_neg c6 h
      refine lv_aload_n hx hb dX11_powerOnTheMove_50 rfl (lv_at hl 0 rfl) ?_
      obtain ⟨g16, h⟩ := oif_some h
      obtain ⟨n17, en17, h⟩ := obind_some h
      have h_n17 : n17 < T.1 := by rw [← cp0.1]; exact cp0.2.2 _ _ _ en17
      refine c_get E G l0 14 (v := .ref (ad n17)) (oO_k g16).1 (cc_o11 (oO_k g16).2) rfl (fun w h => .tail _ (iA_23 h)) (by decide) (.tail _ qA_675) rfl (by rw [en17]; rfl) dX11_powerOnTheMove_51 ?_
      clear en17
      refine lv_iload hx hb dX11_powerOnTheMove_54 (lv_at hl 4 rfl) ?_
      refine lv_iload_n hx hb dX11_powerOnTheMove_56 rfl (lv_at hl 1 rfl) ?_
      refine lv_iload hx hb dX11_powerOnTheMove_57 (lv_at hl 6 rfl) ?_
      obtain ⟨r18, er18, h⟩ := obind_some h
      refine q_sti (As := [.int l5, .int l2, .int l7]) (rest := [.ref (ad n17)]) ⟨hx, hb, hml, hown, hts⟩ hN (u_X11_moved l l5 l2 l7 er18) (cwS 3 hts (gaS qA_770 qA_481 qA_131 qA_482) rfl rfl rfl (by decide +kernel) ⟨Nat.le_of_ble_eq_true rfl, Nat.le_of_ble_eq_true rfl⟩) rfl hl.1 rfl (lv_room (Nat.le_of_ble_eq_true rfl)) dX11_powerOnTheMove_59 hcs (fun q19 hq => ?_)
      refine lv_to hq ?_
      clear hq er18
      refine lv_iload hx hb dX11_powerOnTheMove_62 (lv_at hl 5 rfl) ?_
      refine lv_iload_n hx hb dX11_powerOnTheMove_64 rfl (lv_at hl 2 rfl) ?_
      refine lv_iload hx hb dX11_powerOnTheMove_65 (lv_at hl 6 rfl) ?_
      obtain ⟨r20, er20, h⟩ := obind_some h
      refine q_sti (As := [.int l6, .int l3, .int l7]) (rest := [.int r18, .ref (ad n17)]) ⟨hx, hb, hml, hown, hts⟩ hN (u_X11_moved l l6 l3 l7 er20) (cwS 3 hts (gaS qA_770 qA_481 qA_131 qA_482) rfl rfl rfl (by decide +kernel) ⟨Nat.le_of_ble_eq_true rfl, Nat.le_of_ble_eq_true rfl⟩) rfl hl.1 rfl (lv_room (Nat.le_of_ble_eq_true rfl)) dX11_powerOnTheMove_67 hcs (fun q21 hq => ?_)
      refine lv_to hq ?_
      clear hq er20
      refine lv_aload_n hx hb dX11_powerOnTheMove_70 rfl (lv_at hl 0 rfl) ?_
      obtain ⟨g22, h⟩ := oif_some h
      obtain ⟨n23, en23, h⟩ := obind_some h
      have h_n23 : n23 < T.1 := by rw [← cp0.1]; exact cp0.2.2 _ _ _ en23
      refine c_get E G l0 11 (v := .ref (ad n23)) (oO_k g22).1 (cc_o11 (oO_k g22).2) rfl (fun w h => .tail _ (iA_23 h)) (by decide) (.tail _ qA_669) rfl (by rw [en23]; rfl) dX11_powerOnTheMove_71 ?_
      clear en23
      obtain ⟨g24, h⟩ := oif_some h
      obtain ⟨T25, eT25, h⟩ := obind_some h
      refine q_cvv (As := [.int r18, .int r20, .ref (ad n23)]) (rest := []) E G hA hX hN hml (u_X6_delaysFrom l hst D cI cJ cZ cMic cSrc cSt cAI cAJ ad T n17 r18 r20 n23 eT25) (cwV 3 hts (gaV qA_807 qA_580 qA_581 qA_207 qA_573) rfl rfl rfl (by decide +kernel) ⟨Nat.le_of_ble_eq_true rfl, Nat.le_of_ble_eq_true rfl⟩) (oO_k g24).1 (cc_o6 (oO_k g24).2) rfl rfl hl.1 rfl (lv_room (Nat.le_of_ble_eq_true rfl)) dX11_powerOnTheMove_74 hcs (fun T26 H locs hq G => ?_)
      rw [hq] at G
      clear hq
      have cp1 := cpr_sp cp0 (s_X6_delaysFrom eT25)
      refine lv_aload_n hx hb dX11_powerOnTheMove_77 rfl (lv_at hl 0 rfl) ?_
      obtain ⟨g27, h⟩ := oif_some h
      obtain ⟨n28, en28, h⟩ := obind_some h
      have h_n28 : n28 < T.1 := by rw [← cp1.1]; exact cp1.2.2 _ _ _ en28
      refine c_get E G l0 6 (v := .ref (ad n28)) (oO_k g27).1 (cc_o11 (oO_k g27).2) rfl (fun w h => .tail _ (iA_23 h)) (by decide) (.tail _ qA_664) rfl (by rw [en28]; rfl) dX11_powerOnTheMove_78 ?_
      clear en28
      refine lv_aload_n hx hb dX11_powerOnTheMove_81 rfl (lv_at hl 0 rfl) ?_
      obtain ⟨g29, h⟩ := oif_some h
      obtain ⟨n30, en30, h⟩ := obind_some h
      have h_n30 : n30 < T.1 := by rw [← cp1.1]; exact cp1.2.2 _ _ _ en30
      refine c_get E G l0 11 (v := .ref (ad n30)) (oO_k g29).1 (cc_o11 (oO_k g29).2) rfl (fun w h => .tail _ (iA_23 h)) (by decide) (.tail _ qA_669) rfl (by rw [en30]; rfl) dX11_powerOnTheMove_82 ?_
      clear en30
      refine lv_iload hx hb dX11_powerOnTheMove_85 (lv_at hl 6 rfl) ?_
      obtain ⟨g31, h⟩ := oif_some h
      obtain ⟨T32, eT32, h⟩ := obind_some h
      have hg2 := s_X8_focus eT32
      have hrc2 := hg2.2.2 cp1.2.2
      have hT2 := s_X11_powerOnTheMove_b90 (s_X11_powerOnTheMove_b38 n) _ _ _ _ _ _ _ _ h
      refine q_avv (As := [.ref (ad n30), .int l7]) (rest := []) E G hA hX hN hml (a_X8_focus l hst D cI cJ cZ cMic cSrc cSt cAI cAJ ad T25 n28 n30 l7 eT32 cp1.2.2 (by rw [cp1.1]; exact h_n28) (by rw [cp1.1]; exact h_n30)) (cwV 2 hts (gaV qA_796 qA_70 qA_71 qA_47 qA_72) rfl rfl rfl (by decide +kernel) ⟨Nat.le_of_ble_eq_true rfl, Nat.le_of_ble_eq_true rfl⟩) (oO_k g31).1 (cc_o8 (oO_k g31).2) rfl rfl hl.1 rfl (lv_room (Nat.le_of_ble_eq_true rfl)) dX11_powerOnTheMove_87 (cs_av hgl cp1 hg2 hT2) (fun ad2 H locs hga G => ?_)
      refine w_cast (c2 := T32.1 - T0.1) (s2 := sg T32 - sg T0) (cs_f1 hgl cp1 hg2) (cs_f2 hgl cp1 hg2) ?_
      have hl := lv_sub hl [0, 1, 2, 3, 4, 5, 6] rfl
      rw [show ad l0 = ad2 l0 from (hga l0 (by rw [cp1.1]; exact h_l0)).symm] at hl
      exact a_X11_powerOnTheMove_b90 E hA hX hN hml hst kr137 (s_X11_powerOnTheMove_b38 n) ih _ _ _ _ _ _ _ _ _ _ _ _ h (GL.tr (gl_cpr hgl cp1) hg2) hrc2 (fun n hn => (hga n (by rw [cp1.1]; exact Nat.lt_of_lt_of_le hn hgl.1)).trans (had n hn)) (Nat.lt_of_lt_of_le (by rw [cp1.1]; exact h_l0) hg2.1) G hl
set_option maxHeartbeats 4000000 in
set_option maxRecDepth 100000 in
theorem a_X11_powerOnTheMove (l : Launch) (hst : l.stackTraces = false) (D : va_G) (cI cJ cZ cMic cSrc cSt cAI cAJ : ClassId) (ad : Nat → Nat) (T : AT) (o : Nat) (a0 : Int32) (a1 : Int32) (a2 : Int32) (a3 : Int32) {T1 : AT} (h : g_X11_powerOnTheMove T o a0 a1 a2 a3 = some T1) (hrc : RC T) (h_o : o < T.1) : kAv l yX11_powerOnTheMove (Cond.code yX11_powerOnTheMove cX11_powerOnTheMove 8 none :: wsA) 4 78 cI cJ cZ cMic cSrc cSt cAI cAJ D ad T [.ref (ad o), .int a0, .int a1, .int a2, .int a3] T1 := by
  intro sz
  refine Met.ofW (cc := cX11_powerOnTheMove) (maxL := 8) (ret := none) (by decide) rfl ?_
  intro p e s m args below meth c s₁ B hml hv
  obtain ⟨rfl, hsz, hP, hK, hD0, hX, hN⟩ := hv
  have hx := B.exec
  have hb := B.bytes
  have hr := B.returns
  have hts := atoms_spec (ws := (Cond.code yX11_powerOnTheMove cX11_powerOnTheMove 8 none :: wsA)) B.pre
  have hown : s.vm.findClass RX11 = some m.cls := findClass_of_methodNamed B.named
  have hlocks := B.notSynchronized
  subst hsz
  have hD := hD0.self (sz := s.heap.size)
  generalize hAe : va_A (cW ad T.1 (cc cI cJ cZ cMic cSrc cSt cAI cAJ ad T)) s.heap.size = A at hD hX ⊢
  have hA : ∀ q : Nat, s.heap.size ≤ q → A q := fun q h => by rw [← hAe]; exact Or.inr h
  have G : gC cI cJ cZ cMic cSrc cSt cAI cAJ D ad A s.heap s.heap [] T := ⟨hP, hD, va_S.rf⟩
  have E : cE p c cX11_powerOnTheMove s m ([.ref (ad o), .int a0, .int a1, .int a2, .int a3] : List Value).toArray (Cond.code yX11_powerOnTheMove cX11_powerOnTheMove 8 none :: wsA) D RX11 (CT cI cJ cZ cMic cSrc cSt cAI cAJ) := ⟨hx, hb, hts, hown, hK⟩
  have hl := lv_entry ([.ref (ad o), .int a0, .int a1, .int a2, .int a3]) (n := 8) (Nat.le_of_ble_eq_true rfl)
  rw [lg_entry_eq]
  generalize (lg_sl ([.ref (ad o), .int a0, .int a1, .int a2, .int a3]) ++ List.replicate (8 - (lg_sl ([.ref (ad o), .int a0, .int a1, .int a2, .int a3])).length) Slot.unset).toArray = ls at hl ⊢
  have hl : lv_has ls 8 [(0, .ref (ad o)), (1, .int a0), (2, .int a1), (3, .int a2), (4, .int a3)] := hl
  have hgl := GL.rf T
  have had : ∀ n, n < T.1 → ad n = ad n := fun _ _ => rfl
  have hT1 := s_X11_powerOnTheMove h
  have hcs := cs_ok hgl hT1
  refine w_cast (Nat.sub_self T.1).symm (Nat.sub_self (sg T)).symm ?_
  have cp0 := cpr0 hrc
  unfold g_X11_powerOnTheMove at h
  refine lv_aload_n hx hb dX11_powerOnTheMove_0 rfl (lv_at hl 0 rfl) ?_
  obtain ⟨g2, h⟩ := oif_some h
  obtain ⟨n3, en3, h⟩ := obind_some h
  have h_n3 : n3 < T.1 := by rw [← cp0.1]; exact cp0.2.2 _ _ _ en3
  refine c_get E G o 14 (v := .ref (ad n3)) (oO_k g2).1 (cc_o11 (oO_k g2).2) rfl (fun w h => .tail _ (iA_23 h)) (by decide) (.tail _ qA_675) rfl (by rw [en3]; rfl) dX11_powerOnTheMove_1 ?_
  clear en3
  obtain ⟨g4, h⟩ := oif_some h
  obtain ⟨n5, en5, h⟩ := obind_some h
  have h_n5 : n5 < T.1 := by rw [← cp0.1]; exact cp0.2.2 _ _ _ en5
  refine c_get E G n3 6 (v := .ref (ad n5)) (oO_k g4).1 (cc_o6 (oO_k g4).2) rfl (fun w h => .tail _ (iA_14 h)) (by decide) (.tail _ qA_695) rfl (by rw [en5]; rfl) dX11_powerOnTheMove_4 ?_
  clear en5
  refine lv_iload_n hx hb dX11_powerOnTheMove_7 rfl (lv_at hl 1 rfl) ?_
  obtain ⟨g6, h⟩ := oif_some h
  obtain ⟨r9, T7, eT7, h⟩ := obind2_some h
  refine q_cvi (As := [.int a0]) (rest := []) E G hA hX hN hml (u_X1_centreX l hst D cI cJ cZ cMic cSrc cSt cAI cAJ ad T n5 a0 eT7) (cwV 1 hts (gaV qA_756 qA_552 qA_553 qA_37 qA_164) rfl rfl rfl (by decide +kernel) ⟨Nat.le_of_ble_eq_true rfl, Nat.le_of_ble_eq_true rfl⟩) (oO_k g6).1 (cc_o1 (oO_k g6).2) rfl rfl hl.1 rfl (lv_room (Nat.le_of_ble_eq_true rfl)) dX11_powerOnTheMove_8 hcs (fun q10 T8 H locs hq G => ?_)
  obtain ⟨hq1, hq2⟩ := hq
  rw [hq2] at G
  refine lv_to hq1 ?_
  clear hq1 hq2
  have cp1 := cpr_sp cp0 (s_X1_centreX eT7)
  refine lv_istore (lv' := [(5, .int r9), (0, .ref (ad o)), (1, .int a0), (2, .int a1), (3, .int a2), (4, .int a3)]) hx hb dX11_powerOnTheMove_11 hl (by decide) rfl (fun ls hl => ?_)
  refine lv_aload_n hx hb dX11_powerOnTheMove_13 rfl (lv_at hl 1 rfl) ?_
  obtain ⟨g11, h⟩ := oif_some h
  obtain ⟨n12, en12, h⟩ := obind_some h
  have h_n12 : n12 < T.1 := by rw [← cp1.1]; exact cp1.2.2 _ _ _ en12
  refine c_get E G o 14 (v := .ref (ad n12)) (oO_k g11).1 (cc_o11 (oO_k g11).2) rfl (fun w h => .tail _ (iA_23 h)) (by decide) (.tail _ qA_675) rfl (by rw [en12]; rfl) dX11_powerOnTheMove_14 ?_
  clear en12
  obtain ⟨g13, h⟩ := oif_some h
  obtain ⟨n14, en14, h⟩ := obind_some h
  have h_n14 : n14 < T.1 := by rw [← cp1.1]; exact cp1.2.2 _ _ _ en14
  refine c_get E G n12 6 (v := .ref (ad n14)) (oO_k g13).1 (cc_o6 (oO_k g13).2) rfl (fun w h => .tail _ (iA_14 h)) (by decide) (.tail _ qA_695) rfl (by rw [en14]; rfl) dX11_powerOnTheMove_17 ?_
  clear en14
  refine lv_iload_n hx hb dX11_powerOnTheMove_20 rfl (lv_at hl 2 rfl) ?_
  obtain ⟨g15, h⟩ := oif_some h
  obtain ⟨r18, T16, eT16, h⟩ := obind2_some h
  refine q_cvi (As := [.int a0]) (rest := []) E G hA hX hN hml (u_X1_centreY l hst D cI cJ cZ cMic cSrc cSt cAI cAJ ad T7 n14 a0 eT16) (cwV 1 hts (gaV qA_757 qA_555 qA_556 qA_37 qA_167) rfl rfl rfl (by decide +kernel) ⟨Nat.le_of_ble_eq_true rfl, Nat.le_of_ble_eq_true rfl⟩) (oO_k g15).1 (cc_o1 (oO_k g15).2) rfl rfl hl.1 rfl (lv_room (Nat.le_of_ble_eq_true rfl)) dX11_powerOnTheMove_21 hcs (fun q19 T17 H locs hq G => ?_)
  obtain ⟨hq1, hq2⟩ := hq
  rw [hq2] at G
  refine lv_to hq1 ?_
  clear hq1 hq2
  have cp2 := cpr_sp cp1 (s_X1_centreY eT16)
  refine lv_istore (lv' := [(6, .int r18), (5, .int r9), (0, .ref (ad o)), (1, .int a0), (2, .int a1), (3, .int a2), (4, .int a3)]) hx hb dX11_powerOnTheMove_24 hl (by decide) rfl (fun ls hl => ?_)
  refine lv_aload_n hx hb dX11_powerOnTheMove_26 rfl (lv_at hl 2 rfl) ?_
  obtain ⟨g20, h⟩ := oif_some h
  obtain ⟨n21, en21, h⟩ := obind_some h
  have h_n21 : n21 < T.1 := by rw [← cp2.1]; exact cp2.2.2 _ _ _ en21
  refine c_get E G o 12 (v := .ref (ad n21)) (oO_k g20).1 (cc_o11 (oO_k g20).2) rfl (fun w h => .tail _ (iA_23 h)) (by decide) (.tail _ qA_671) rfl (by rw [en21]; rfl) dX11_powerOnTheMove_27 ?_
  clear en21
  refine lv_iload hx hb dX11_powerOnTheMove_30 (lv_at hl 6 rfl) ?_
  obtain ⟨g22, h⟩ := oif_some h
  obtain ⟨T23, eT23, h⟩ := obind_some h
  refine q_cvv (As := [.int a3]) (rest := []) E G hA hX hN hml (u_X10_clear l hst D cI cJ cZ cMic cSrc cSt cAI cAJ ad T16 n21 a3 eT23) (cwV 1 hts (gaV qA_878 qA_66 qA_67 qA_6 qA_68) rfl rfl rfl (by decide +kernel) ⟨Nat.le_of_ble_eq_true rfl, Nat.le_of_ble_eq_true rfl⟩) (oO_k g22).1 (cc_o10 (oO_k g22).2) rfl rfl hl.1 rfl (lv_room (Nat.le_of_ble_eq_true rfl)) dX11_powerOnTheMove_32 hcs (fun T24 H locs hq G => ?_)
  rw [hq] at G
  clear hq
  have cp3 := cpr_sp cp2 (s_X10_clear eT23)
  refine lv_iconst (v := 0) hx hb dX11_powerOnTheMove_35 (by decide) ?_
  refine lv_istore (lv' := [(7, .int 0), (6, .int r18), (5, .int r9), (0, .ref (ad o)), (1, .int a0), (2, .int a1), (3, .int a2), (4, .int a3)]) hx hb dX11_powerOnTheMove_36 hl (by decide) rfl (fun ls hl => ?_)
  have hl := lv_sub hl [3, 5, 6, 7, 2, 1, 0] rfl
  refine w_cast (c2 := T23.1 - T.1) (s2 := sg T23 - sg T) (by rw [cp3.1] <;> rfl) (by rw [sg_cpr cp3] <;> rfl) ?_
  exact a_X11_powerOnTheMove_b38 E hA hX hN hml hst (fun ad H locs ls had G => W.vret hx hb hr (fun t ht hW => ⟨⟨(T1, ad), rfl, ⟨rfl, had⟩, ⟨by rw [ht]; exact G.1, va_K.moved hW.alike hK, G.2.1⟩⟩, G.2.2.F ht⟩) G.2.2.2.2 dX11_powerOnTheMove_137) _ _ _ _ _ _ _ _ _ _ _ _ _ h (gl_cpr hgl cp3) cp3.2.2 had (by rw [cp3.1]; exact h_o) G hl
end
