section
/-! 11kh.cd7.lean.txt -/
def g_X10_set_b13  (T : AT)  : Option (AT) := some T
def g_X10_set (T : AT) (o : Nat) (a0 : Int32) (a1 : Nat) (a2 : Int32) : Option (AT) := oif (oO T o 10 = true) <| obind (g_X10_clear T o a0) fun T3 => oif (oO T3 o 10 = true) <| obind (g_X10_add T3 o a0 a1 a2 (1 : Int32)) fun T6 => g_X10_set_b13 T6
set_option maxHeartbeats 4000000 in
set_option maxRecDepth 100000 in
theorem s_X10_set_b13 {T1 : AT} : ∀ (T : AT), g_X10_set_b13 T = some T1 → GL T T1 := by
  intro T h
  have p0 := GL.rf T
  unfold g_X10_set_b13 at h
  rw [← osome1 h]
  exact p0
set_option maxHeartbeats 4000000 in
set_option maxRecDepth 100000 in
theorem s_X10_set {T : AT} {o : Nat} {a0 : Int32} {a1 : Nat} {a2 : Int32} {T1 : AT} (h : g_X10_set T o a0 a1 a2 = some T1) : GL T T1 := by
  have p0 := GL.rf T
  unfold g_X10_set at h
  obtain ⟨g2, h⟩ := oif_some h
  obtain ⟨T3, eT3, h⟩ := obind_some h
  have p1 : GL T T3 := GL.tr p0 (gl_sp (s_X10_clear eT3))
  obtain ⟨g5, h⟩ := oif_some h
  obtain ⟨T6, eT6, h⟩ := obind_some h
  have p2 : GL T T6 := GL.tr p1 (s_X10_add eT6)
  exact GL.tr p2 (s_X10_set_b13 _ h)
set_option maxHeartbeats 4000000 in
set_option maxRecDepth 100000 in
theorem a_X10_set_b13 {p : Program} {l : Launch} {e : Env} {s : State} {m : MethodId} {args : Array Value} {below : List Frame} {meth : Method} {c : Code} {Q : State → Prop} {D : va_G} {A : Nat → Prop} {cI cJ cZ cMic cSrc cSt cAI cAJ : ClassId} {ad0 : Nat → Nat} {T0 : AT} {T1 : AT} (E : cE p c cX10_set s m args (Cond.code yX10_set cX10_set 4 none :: wsA) D RX10 (CT cI cJ cZ cMic cSrc cSt cAI cAJ)) (hA : ∀ q : Nat, s.heap.size ≤ q → A q) (hX : xT A s) (hN : nX s) (hml : c.maxLocals = 4) (hst : l.stackTraces = false) (kr13 : ∀ (ad : Nat → Nat) (H : Heap) (locs : List Loc) (ls : Array Slot), (∀ n, n < T0.1 → ad n = ad0 n) → gC cI cJ cZ cMic cSrc cSt cAI cAJ D ad A s.heap H locs T1 → W p l e { frames := 4, cells := T1.1 - T0.1, slots := sg T1 - sg T0, locals := 74 } s m args below meth c H locs (T1.1 - T0.1) (sg T1 - sg T0) Q (F0 m 13 ls [])) : ∀ (T : AT) (ad : Nat → Nat) (H : Heap) (locs : List Loc) (ls : Array Slot), g_X10_set_b13 T = some T1 → GL T0 T → RC T → (∀ n, n < T0.1 → ad n = ad0 n) → gC cI cJ cZ cMic cSrc cSt cAI cAJ D ad A s.heap H locs T → lv_has ls 4 [] → W p l e { frames := 4, cells := T1.1 - T0.1, slots := sg T1 - sg T0, locals := 74 } s m args below meth c H locs (T.1 - T0.1) (sg T - sg T0) Q (F0 m 13 ls []) := by
  have hx := E.1
  have hb := E.2.1
  have hts := E.2.2.1
  have hown := E.2.2.2.1
  have hK := E.2.2.2.2
  intro T ad H locs ls h hgl hrc had G hl
  have hT1 := s_X10_set_b13 _ h
  have hcs := cs_ok hgl hT1
  have cp0 := cpr0 hrc
  unfold g_X10_set_b13 at h
  rw [osome1 h] at G
  refine w_cast (c2 := T1.1 - T0.1) (s2 := sg T1 - sg T0) (by rw [← osome1 h, cp0.1] <;> rfl) (by rw [← osome1 h, sg_cpr cp0] <;> rfl) ?_
  exact kr13 ad _ _ _ had G
set_option maxHeartbeats 4000000 in
set_option maxRecDepth 100000 in
theorem a_X10_set (l : Launch) (hst : l.stackTraces = false) (D : va_G) (cI cJ cZ cMic cSrc cSt cAI cAJ : ClassId) (ad : Nat → Nat) (T : AT) (o : Nat) (a0 : Int32) (a1 : Nat) (a2 : Int32) {T1 : AT} (h : g_X10_set T o a0 a1 a2 = some T1) (hrc : RC T) (h_o : o < T.1) (h_a1 : a1 < T.1) : kAv l yX10_set (Cond.code yX10_set cX10_set 4 none :: wsA) 4 74 cI cJ cZ cMic cSrc cSt cAI cAJ D ad T [.ref (ad o), .int a0, .ref (ad a1), .int a2] T1 := by
  intro sz
  refine Met.ofW (cc := cX10_set) (maxL := 4) (ret := none) (by decide) rfl ?_
  intro p e s m args below meth c s₁ B hml hv
  obtain ⟨rfl, hsz, hP, hK, hD0, hX, hN⟩ := hv
  have hx := B.exec
  have hb := B.bytes
  have hr := B.returns
  have hts := atoms_spec (ws := (Cond.code yX10_set cX10_set 4 none :: wsA)) B.pre
  have hown : s.vm.findClass RX10 = some m.cls := findClass_of_methodNamed B.named
  have hlocks := B.notSynchronized
  subst hsz
  have hD := hD0.self (sz := s.heap.size)
  generalize hAe : va_A (cW ad T.1 (cc cI cJ cZ cMic cSrc cSt cAI cAJ ad T)) s.heap.size = A at hD hX ⊢
  have hA : ∀ q : Nat, s.heap.size ≤ q → A q := fun q h => by rw [← hAe]; exact Or.inr h
  have G : gC cI cJ cZ cMic cSrc cSt cAI cAJ D ad A s.heap s.heap [] T := ⟨hP, hD, va_S.rf⟩
  have E : cE p c cX10_set s m ([.ref (ad o), .int a0, .ref (ad a1), .int a2] : List Value).toArray (Cond.code yX10_set cX10_set 4 none :: wsA) D RX10 (CT cI cJ cZ cMic cSrc cSt cAI cAJ) := ⟨hx, hb, hts, hown, hK⟩
  have hl := lv_entry ([.ref (ad o), .int a0, .ref (ad a1), .int a2]) (n := 4) (Nat.le_of_ble_eq_true rfl)
  rw [lg_entry_eq]
  generalize (lg_sl ([.ref (ad o), .int a0, .ref (ad a1), .int a2]) ++ List.replicate (4 - (lg_sl ([.ref (ad o), .int a0, .ref (ad a1), .int a2])).length) Slot.unset).toArray = ls at hl ⊢
  have hl : lv_has ls 4 [(0, .ref (ad o)), (1, .int a0), (2, .ref (ad a1)), (3, .int a2)] := hl
  have hgl := GL.rf T
  have had : ∀ n, n < T.1 → ad n = ad n := fun _ _ => rfl
  have hT1 := s_X10_set h
  have hcs := cs_ok hgl hT1
  refine w_cast (Nat.sub_self T.1).symm (Nat.sub_self (sg T)).symm ?_
  have cp0 := cpr0 hrc
  unfold g_X10_set at h
  refine lv_aload_n hx hb dX10_set_0 rfl (lv_at hl 0 rfl) ?_
  refine lv_iload_n hx hb dX10_set_1 rfl (lv_at hl 1 rfl) ?_
  obtain ⟨g2, h⟩ := oif_some h
  obtain ⟨T3, eT3, h⟩ := obind_some h
  refine q_cvv (As := [.int a0]) (rest := []) E G hA hX hN hml (u_X10_clear l hst D cI cJ cZ cMic cSrc cSt cAI cAJ ad T o a0 eT3) (cwV 1 hts (gaV qA_435 qA_66 qA_67 qA_6 qA_68) rfl rfl rfl (by decide +kernel) ⟨Nat.le_of_ble_eq_true rfl, Nat.le_of_ble_eq_true rfl⟩) (oO_k g2).1 (cc_o10 (oO_k g2).2) rfl rfl hl.1 rfl (lv_room (Nat.le_of_ble_eq_true rfl)) dX10_set_2 hcs (fun T4 H locs hq G => ?_)
  rw [hq] at G
  clear hq
  have cp1 := cpr_sp cp0 (s_X10_clear eT3)
  refine lv_aload_n hx hb dX10_set_5 rfl (lv_at hl 0 rfl) ?_
  refine lv_iload_n hx hb dX10_set_6 rfl (lv_at hl 1 rfl) ?_
  refine lv_aload_n hx hb dX10_set_7 rfl (lv_at hl 2 rfl) ?_
  refine lv_iload_n hx hb dX10_set_8 rfl (lv_at hl 3 rfl) ?_
  refine lv_iconst (v := 1) hx hb dX10_set_9 (by decide) ?_
  obtain ⟨g5, h⟩ := oif_some h
  obtain ⟨T6, eT6, h⟩ := obind_some h
  have hg2 := s_X10_add eT6
  have hrc2 := hg2.2.2 cp1.2.2
  have hT2 := s_X10_set_b13 _ h
  refine q_avv (As := [.int a0, .ref (ad a1), .int a2, .int 1]) (rest := []) E G hA hX hN hml (a_X10_add l hst D cI cJ cZ cMic cSrc cSt cAI cAJ ad T3 o a0 a1 a2 (1 : Int32) eT6 cp1.2.2 (by rw [cp1.1]; exact h_o) (by rw [cp1.1]; exact h_a1)) (cwV 4 hts (gaV qA_436 qA_151 qA_152 qA_6 qA_153) rfl rfl rfl (by decide +kernel) ⟨Nat.le_of_ble_eq_true rfl, Nat.le_of_ble_eq_true rfl⟩) (oO_k g5).1 (cc_o10 (oO_k g5).2) rfl rfl hl.1 rfl (lv_room (Nat.le_of_ble_eq_true rfl)) dX10_set_10 (cs_av hgl cp1 hg2 hT2) (fun ad2 H locs hga G => ?_)
  refine w_cast (c2 := T6.1 - T.1) (s2 := sg T6 - sg T) (cs_f1 hgl cp1 hg2) (cs_f2 hgl cp1 hg2) ?_
  have hl := lv_sub hl [] rfl
  exact a_X10_set_b13 E hA hX hN hml hst (fun ad H locs ls had G => W.vret hx hb hr (fun t ht hW => ⟨⟨(T1, ad), rfl, ⟨rfl, had⟩, ⟨by rw [ht]; exact G.1, va_K.moved hW.alike hK, G.2.1⟩⟩, G.2.2.F ht⟩) G.2.2.2.2 dX10_set_13) _ _ _ _ _ h (GL.tr (gl_cpr hgl cp1) hg2) hrc2 (fun n hn => (hga n (by rw [cp1.1]; exact Nat.lt_of_lt_of_le hn hgl.1)).trans (had n hn)) G hl
def g_X4_measure_b148 (k89 : AT → Nat → Nat → Int32 → Option (AT)) (T : AT) (l0 : Nat) (l1 : Nat) (l3 : Int32) : Option (AT) := elet (l3 + Int32.ofInt (1)) fun v2 => k89 T l0 l1 v2
def g_X4_measure_b138 (k89 : AT → Nat → Nat → Int32 → Option (AT)) (T : AT) (l0 : Nat) (l1 : Nat) (l3 : Int32) : Option (AT) := oif (oO T l0 4 = true) <| elet (T.2.2.1 l0 3) fun v3 => elet (v3 + 1) fun v4 => oif (oO T l0 4 = true) <| elet (uI T l0 3 v4) fun T6 => g_X4_measure_b148 k89 T6 l0 l1 l3
def g_X4_measure_b89  : Nat → AT → Nat → Nat → Int32 → Option (AT)
  | 0, _, _, _, _ => none
  | n + 1, T, l0, l1, l3 => oif (oO T l1 6 = true) <| obind (T.2.2.2.2 l1 6) fun n3 => oif (oO T n3 1 = true) <| obind2 (g_X1_cells T n3) fun r7 T5 => if r7 ≤ l3 then (some T5) else (oif (oO T5 l1 6 = true) <| obind (T5.2.2.2.2 l1 6) fun n11 => oif (oO T5 l0 4 = true) <| obind2 (g_X4_standsOut T5 l0 l3 n11) fun r15 T13 => if r15 = 0 then (g_X4_measure_b148 (g_X4_measure_b89 n) T13 l0 l1 l3) else (oif (oO T13 l0 4 = true) <| obind (T13.2.2.2.2 l0 4) fun n19 => oif (oO T13 l0 4 = true) <| elet (T13.2.2.1 l0 3) fun v21 => oif (aA T13 n19 100 = true) <| oif (inb v21 (T13.2.1 n19).2 = true) <| elet (uI T13 n19 v21.toNatClampNeg l3) fun T24 => oif (oO T24 l0 4 = true) <| obind (T24.2.2.2.2 l0 5) fun n26 => oif (oO T24 l0 4 = true) <| elet (T24.2.2.1 l0 3) fun v28 => oif (oO T24 l0 4 = true) <| obind (T24.2.2.2.2 l0 1) fun n30 => oif (oO T24 n26 10 = true) <| obind (g_X10_set T24 n26 v28 n30 l3) fun T32 => g_X4_measure_b138 (g_X4_measure_b89 n) T32 l0 l1 l3))
def g_X4_measure_b53 (k16 : AT → Nat → Nat → Nat → Int32 → Option (AT)) (T : AT) (l0 : Nat) (l1 : Nat) (l2 : Nat) (l3 : Int32) : Option (AT) := elet (l3 + Int32.ofInt (1)) fun v2 => k16 T l0 l1 l2 v2
def g_X4_measure_b16  : Nat → AT → Nat → Nat → Nat → Int32 → Option (AT)
  | 0, _, _, _, _, _ => none
  | n + 1, T, l0, l1, l2, l3 => oif (oO T l1 6 = true) <| obind (T.2.2.2.2 l1 6) fun n3 => oif (oO T n3 1 = true) <| obind2 (g_X1_cells T n3) fun r7 T5 => if r7 ≤ l3 then (oif (oO T5 l1 6 = true) <| obind (T5.2.2.2.2 l1 6) fun n11 => oif (oO T5 l1 6 = true) <| obind (T5.2.2.2.2 l1 6) fun n13 => oif (oO T5 n13 1 = true) <| obind (T5.2.2.2.2 n13 5) fun n15 => oif (oO T5 l0 4 = true) <| obind (T5.2.2.2.2 l0 1) fun n17 => oif (oO T5 n11 1 = true) <| obind2 (g_X1_bestIn T5 n11 n15 n17 (0 : Int32)) fun r21 T19 => oif (oO T19 l0 4 = true) <| elet (uI T19 l0 2 r21) fun T24 => oif (oO T24 l0 4 = true) <| elet (uI T24 l0 3 0) fun T26 => g_X4_measure_b89 16384 T26 l0 l1 0) else (oif (oO T5 l1 6 = true) <| obind (T5.2.2.2.2 l1 17) fun n28 => oif (aA T5 n28 106 = true) <| oif (inb l3 (T5.2.1 n28).2 = true) <| obind (T5.2.2.2.2 n28 l3.toNatClampNeg) fun n31 => oif (oO T5 l2 8 = true) <| obind2 (g_X8_windowOf T5 l2 n31) fun r35 T33 => oif (oO T33 l0 4 = true) <| obind (T33.2.2.2.2 l0 1) fun n38 => oif (oO T33 l2 8 = true) <| obind (g_X8_blockPowerOf T33 l2 n31 (0 : Int32) r35 n38 l3) fun T40 => g_X4_measure_b53 (g_X4_measure_b16 n) T40 l0 l1 l2 l3)
def g_X4_measure (T : AT) (o : Nat) (a0 : Nat) (a1 : Nat) : Option (AT) := oif (oO T o 4 = true) <| obind (T.2.2.2.2 o 1) fun n3 => oif (oO T n3 10 = true) <| obind (g_X10_narrow T n3) fun T5 => oif (oO T5 o 4 = true) <| obind (T5.2.2.2.2 o 5) fun n8 => oif (oO T5 n8 10 = true) <| obind (g_X10_narrow T5 n8) fun T10 => g_X4_measure_b16 16384 T10 o a0 a1 0
set_option maxHeartbeats 4000000 in
set_option maxRecDepth 100000 in
theorem s_X4_measure_b148 {T1 : AT} {k89 : AT → Nat → Nat → Int32 → Option (AT)} (hk89 : ∀ (T : AT) (l0 : Nat) (l1 : Nat) (l3 : Int32), k89 T l0 l1 l3 = some T1 → GL T T1) : ∀ (T : AT) (l0 : Nat) (l1 : Nat) (l3 : Int32), g_X4_measure_b148 k89 T l0 l1 l3 = some T1 → GL T T1 := by
  intro T l0 l1 l3 h
  have p0 := GL.rf T
  unfold g_X4_measure_b148 at h
  obtain ⟨v2, ev2, h⟩ := elet_some h
  exact GL.tr p0 (hk89 _ _ _ _ h)
set_option maxHeartbeats 4000000 in
set_option maxRecDepth 100000 in
theorem s_X4_measure_b138 {T1 : AT} {k89 : AT → Nat → Nat → Int32 → Option (AT)} (hk89 : ∀ (T : AT) (l0 : Nat) (l1 : Nat) (l3 : Int32), k89 T l0 l1 l3 = some T1 → GL T T1) : ∀ (T : AT) (l0 : Nat) (l1 : Nat) (l3 : Int32), g_X4_measure_b138 k89 T l0 l1 l3 = some T1 → GL T T1 := by
  intro T l0 l1 l3 h
  have p0 := GL.rf T
  unfold g_X4_measure_b138 at h
  obtain ⟨g2, h⟩ := oif_some h
  obtain ⟨v3, -, h⟩ := elet_some h
  obtain ⟨v4, -, h⟩ := elet_some h
  obtain ⟨g5, h⟩ := oif_some h
  obtain ⟨T6, eT6, h⟩ := elet_some h
  have p1 : GL T T6 := GL.tr p0 (by rw [eT6]; exact gl_sp sp_uI)
  exact GL.tr p1 (s_X4_measure_b148 hk89 _ _ _ _ h)
set_option maxHeartbeats 4000000 in
set_option maxRecDepth 100000 in
theorem s_X4_measure_b89 {T1 : AT} : ∀ n : Nat, ∀ (T : AT) (l0 : Nat) (l1 : Nat) (l3 : Int32), g_X4_measure_b89 n T l0 l1 l3 = some T1 → GL T T1 := by
  intro n
  induction n with
  | zero =>
    intro T l0 l1 l3 h
    have h : (none : Option (AT)) = some T1 := h
    cases h
  | succ n ih =>
    intro T l0 l1 l3 h
    have p0 := GL.rf T
    unfold g_X4_measure_b89 at h
    obtain ⟨g2, h⟩ := oif_some h
    obtain ⟨n3, en3, h⟩ := obind_some h
    obtain ⟨g4, h⟩ := oif_some h
    obtain ⟨r6, T5, eT5, h⟩ := obind2_some h
    have p1 : GL T T5 := GL.tr p0 (gl_sp (s_X1_cells eT5))
    rcases oif_or h with ⟨c7, h⟩ | ⟨c7, h⟩
    · have h := h
      rw [← osome1 h]
      exact p1
    · have h := h
      obtain ⟨g8, h⟩ := oif_some h
      obtain ⟨n9, en9, h⟩ := obind_some h
      obtain ⟨g10, h⟩ := oif_some h
      obtain ⟨r12, T11, eT11, h⟩ := obind2_some h
      have p2 : GL T T11 := GL.tr p1 (gl_sp (s_X4_standsOut eT11))
      rcases oif_or h with ⟨c13, h⟩ | ⟨c13, h⟩
      · have h := h
        exact GL.tr p2 (s_X4_measure_b148 ih _ _ _ _ h)
      · have h := h
        obtain ⟨g14, h⟩ := oif_some h
        obtain ⟨n15, en15, h⟩ := obind_some h
        obtain ⟨g16, h⟩ := oif_some h
        obtain ⟨v17, -, h⟩ := elet_some h
        obtain ⟨g18, h⟩ := oif_some h
        obtain ⟨g19, h⟩ := oif_some h
        obtain ⟨T20, eT20, h⟩ := elet_some h
        have p3 : GL T T20 := GL.tr p2 (by rw [eT20]; exact gl_sp sp_uI)
        obtain ⟨g21, h⟩ := oif_some h
        obtain ⟨n22, en22, h⟩ := obind_some h
        obtain ⟨g23, h⟩ := oif_some h
        obtain ⟨v24, -, h⟩ := elet_some h
        obtain ⟨g25, h⟩ := oif_some h
        obtain ⟨n26, en26, h⟩ := obind_some h
        obtain ⟨g27, h⟩ := oif_some h
        obtain ⟨T28, eT28, h⟩ := obind_some h
        have p4 : GL T T28 := GL.tr p3 (s_X10_set eT28)
        exact GL.tr p4 (s_X4_measure_b138 ih _ _ _ _ h)
set_option maxHeartbeats 4000000 in
set_option maxRecDepth 100000 in
theorem s_X4_measure_b53 {T1 : AT} {k16 : AT → Nat → Nat → Nat → Int32 → Option (AT)} (hk16 : ∀ (T : AT) (l0 : Nat) (l1 : Nat) (l2 : Nat) (l3 : Int32), k16 T l0 l1 l2 l3 = some T1 → GL T T1) : ∀ (T : AT) (l0 : Nat) (l1 : Nat) (l2 : Nat) (l3 : Int32), g_X4_measure_b53 k16 T l0 l1 l2 l3 = some T1 → GL T T1 := by
  intro T l0 l1 l2 l3 h
  have p0 := GL.rf T
  unfold g_X4_measure_b53 at h
  obtain ⟨v2, ev2, h⟩ := elet_some h
  exact GL.tr p0 (hk16 _ _ _ _ _ h)
set_option maxHeartbeats 4000000 in
set_option maxRecDepth 100000 in
theorem s_X4_measure_b16 {T1 : AT} : ∀ n : Nat, ∀ (T : AT) (l0 : Nat) (l1 : Nat) (l2 : Nat) (l3 : Int32), g_X4_measure_b16 n T l0 l1 l2 l3 = some T1 → GL T T1 := by
  intro n
  induction n with
  | zero =>
    intro T l0 l1 l2 l3 h
    have h : (none : Option (AT)) = some T1 := h
    cases h
  | succ n ih =>
    intro T l0 l1 l2 l3 h
    have p0 := GL.rf T
    unfold g_X4_measure_b16 at h
    obtain ⟨g2, h⟩ := oif_some h
    obtain ⟨n3, en3, h⟩ := obind_some h
    obtain ⟨g4, h⟩ := oif_some h
    obtain ⟨r6, T5, eT5, h⟩ := obind2_some h
    have p1 : GL T T5 := GL.tr p0 (gl_sp (s_X1_cells eT5))
    rcases oif_or h with ⟨c7, h⟩ | ⟨c7, h⟩
    · have h := h
      obtain ⟨g8, h⟩ := oif_some h
      obtain ⟨n9, en9, h⟩ := obind_some h
      obtain ⟨g10, h⟩ := oif_some h
      obtain ⟨n11, en11, h⟩ := obind_some h
      obtain ⟨g12, h⟩ := oif_some h
      obtain ⟨n13, en13, h⟩ := obind_some h
      obtain ⟨g14, h⟩ := oif_some h
      obtain ⟨n15, en15, h⟩ := obind_some h
      obtain ⟨g16, h⟩ := oif_some h
      obtain ⟨r18, T17, eT17, h⟩ := obind2_some h
      have p2 : GL T T17 := GL.tr p1 (gl_sp (s_X1_bestIn eT17))
      obtain ⟨g19, h⟩ := oif_some h
      obtain ⟨T20, eT20, h⟩ := elet_some h
      have p3 : GL T T20 := GL.tr p2 (by rw [eT20]; exact gl_sp sp_uI)
      obtain ⟨g21, h⟩ := oif_some h
      obtain ⟨T22, eT22, h⟩ := elet_some h
      have p4 : GL T T22 := GL.tr p3 (by rw [eT22]; exact gl_sp sp_uI)
      exact GL.tr p4 (s_X4_measure_b89 _ _ _ _ _ h)
    · have h := h
      obtain ⟨g23, h⟩ := oif_some h
      obtain ⟨n24, en24, h⟩ := obind_some h
      obtain ⟨g25, h⟩ := oif_some h
      obtain ⟨g26, h⟩ := oif_some h
      obtain ⟨n27, en27, h⟩ := obind_some h
      obtain ⟨g28, h⟩ := oif_some h
      obtain ⟨r30, T29, eT29, h⟩ := obind2_some h
      have p2 : GL T T29 := GL.tr p1 (gl_sp (s_X8_windowOf eT29))
      obtain ⟨g31, h⟩ := oif_some h
      obtain ⟨n32, en32, h⟩ := obind_some h
      obtain ⟨g33, h⟩ := oif_some h
      obtain ⟨T34, eT34, h⟩ := obind_some h
      have p3 : GL T T34 := GL.tr p2 (s_X8_blockPowerOf eT34)
      exact GL.tr p3 (s_X4_measure_b53 ih _ _ _ _ _ h)
set_option maxHeartbeats 4000000 in
set_option maxRecDepth 100000 in
theorem s_X4_measure {T : AT} {o : Nat} {a0 : Nat} {a1 : Nat} {T1 : AT} (h : g_X4_measure T o a0 a1 = some T1) : GL T T1 := by
  have p0 := GL.rf T
  unfold g_X4_measure at h
  obtain ⟨g2, h⟩ := oif_some h
  obtain ⟨n3, en3, h⟩ := obind_some h
  obtain ⟨g4, h⟩ := oif_some h
  obtain ⟨T5, eT5, h⟩ := obind_some h
  have p1 : GL T T5 := GL.tr p0 (gl_sp (s_X10_narrow eT5))
  obtain ⟨g7, h⟩ := oif_some h
  obtain ⟨n8, en8, h⟩ := obind_some h
  obtain ⟨g9, h⟩ := oif_some h
  obtain ⟨T10, eT10, h⟩ := obind_some h
  have p2 : GL T T10 := GL.tr p1 (gl_sp (s_X10_narrow eT10))
  exact GL.tr p2 (s_X4_measure_b16 _ _ _ _ _ _ h)
set_option maxHeartbeats 4000000 in
set_option maxRecDepth 100000 in
theorem a_X4_measure_b148 {p : Program} {l : Launch} {e : Env} {s : State} {m : MethodId} {args : Array Value} {below : List Frame} {meth : Method} {c : Code} {Q : State → Prop} {D : va_G} {A : Nat → Prop} {cI cJ cZ cMic cSrc cSt cAI cAJ : ClassId} {ad0 : Nat → Nat} {T0 : AT} {T1 : AT} (E : cE p c cX4_measure s m args (Cond.code yX4_measure cX4_measure 5 none :: wsA) D RX4 (CT cI cJ cZ cMic cSrc cSt cAI cAJ)) (hA : ∀ q : Nat, s.heap.size ≤ q → A q) (hX : xT A s) (hN : nX s) (hml : c.maxLocals = 5) (hst : l.stackTraces = false) (kr154 : ∀ (ad : Nat → Nat) (H : Heap) (locs : List Loc) (ls : Array Slot), (∀ n, n < T0.1 → ad n = ad0 n) → gC cI cJ cZ cMic cSrc cSt cAI cAJ D ad A s.heap H locs T1 → W p l e { frames := 5, cells := T1.1 - T0.1, slots := sg T1 - sg T0, locals := 105 } s m args below meth c H locs (T1.1 - T0.1) (sg T1 - sg T0) Q (F0 m 154 ls [])) {k89 : AT → Nat → Nat → Int32 → Option (AT)} (hs89 : ∀ (T : AT) (l0 : Nat) (l1 : Nat) (l3 : Int32), k89 T l0 l1 l3 = some T1 → GL T T1) (hk89 : ∀ (T : AT) (ad : Nat → Nat) (H : Heap) (locs : List Loc) (ls : Array Slot) (l0 : Nat) (l1 : Nat) (l3 : Int32), k89 T l0 l1 l3 = some T1 → GL T0 T → RC T → (∀ n, n < T0.1 → ad n = ad0 n) → l0 < T.1 → l1 < T.1 → gC cI cJ cZ cMic cSrc cSt cAI cAJ D ad A s.heap H locs T → lv_has ls 5 [(0, .ref (ad l0)), (1, .ref (ad l1)), (3, .int l3)] → W p l e { frames := 5, cells := T1.1 - T0.1, slots := sg T1 - sg T0, locals := 105 } s m args below meth c H locs (T.1 - T0.1) (sg T - sg T0) Q (F0 m 89 ls [])) : ∀ (T : AT) (ad : Nat → Nat) (H : Heap) (locs : List Loc) (ls : Array Slot) (l0 : Nat) (l1 : Nat) (l3 : Int32), g_X4_measure_b148 k89 T l0 l1 l3 = some T1 → GL T0 T → RC T → (∀ n, n < T0.1 → ad n = ad0 n) → l0 < T.1 → l1 < T.1 → gC cI cJ cZ cMic cSrc cSt cAI cAJ D ad A s.heap H locs T → lv_has ls 5 [(0, .ref (ad l0)), (1, .ref (ad l1)), (3, .int l3)] → W p l e { frames := 5, cells := T1.1 - T0.1, slots := sg T1 - sg T0, locals := 105 } s m args below meth c H locs (T.1 - T0.1) (sg T - sg T0) Q (F0 m 148 ls []) := by
  have hx := E.1
  have hb := E.2.1
  have hts := E.2.2.1
  have hown := E.2.2.2.1
  have hK := E.2.2.2.2
  intro T ad H locs ls l0 l1 l3 h hgl hrc had h_l0 h_l1 G hl
  have hT1 := s_X4_measure_b148 hs89 _ _ _ _ h
  have hcs := cs_ok hgl hT1
  have cp0 := cpr0 hrc
  unfold g_X4_measure_b148 at h
  obtain ⟨v2, ev2, h⟩ := elet_some h
  refine lv_iinc (v := v2) (lv' := [(3, .int v2), (0, .ref (ad l0)), (1, .ref (ad l1))]) hx hb dX4_measure_148 hl (k := 2) rfl ev2.symm (by decide) rfl (fun ls hl => ?_)
  refine lv_goto (tgt := 89) hx hb dX4_measure_151 (by decide) ?_
  have hl := lv_sub hl [1, 2, 0] rfl
  refine w_cast (c2 := T.1 - T0.1) (s2 := sg T - sg T0) (by rw [cp0.1] <;> rfl) (by rw [sg_cpr cp0] <;> rfl) ?_
  exact hk89 _ _ _ _ _ _ _ _ h (gl_cpr hgl cp0) cp0.2.2 had (by rw [cp0.1]; exact h_l0) (by rw [cp0.1]; exact h_l1) G hl
set_option maxHeartbeats 4000000 in
set_option maxRecDepth 100000 in
theorem a_X4_measure_b138 {p : Program} {l : Launch} {e : Env} {s : State} {m : MethodId} {args : Array Value} {below : List Frame} {meth : Method} {c : Code} {Q : State → Prop} {D : va_G} {A : Nat → Prop} {cI cJ cZ cMic cSrc cSt cAI cAJ : ClassId} {ad0 : Nat → Nat} {T0 : AT} {T1 : AT} (E : cE p c cX4_measure s m args (Cond.code yX4_measure cX4_measure 5 none :: wsA) D RX4 (CT cI cJ cZ cMic cSrc cSt cAI cAJ)) (hA : ∀ q : Nat, s.heap.size ≤ q → A q) (hX : xT A s) (hN : nX s) (hml : c.maxLocals = 5) (hst : l.stackTraces = false) (kr154 : ∀ (ad : Nat → Nat) (H : Heap) (locs : List Loc) (ls : Array Slot), (∀ n, n < T0.1 → ad n = ad0 n) → gC cI cJ cZ cMic cSrc cSt cAI cAJ D ad A s.heap H locs T1 → W p l e { frames := 5, cells := T1.1 - T0.1, slots := sg T1 - sg T0, locals := 105 } s m args below meth c H locs (T1.1 - T0.1) (sg T1 - sg T0) Q (F0 m 154 ls [])) {k89 : AT → Nat → Nat → Int32 → Option (AT)} (hs89 : ∀ (T : AT) (l0 : Nat) (l1 : Nat) (l3 : Int32), k89 T l0 l1 l3 = some T1 → GL T T1) (hk89 : ∀ (T : AT) (ad : Nat → Nat) (H : Heap) (locs : List Loc) (ls : Array Slot) (l0 : Nat) (l1 : Nat) (l3 : Int32), k89 T l0 l1 l3 = some T1 → GL T0 T → RC T → (∀ n, n < T0.1 → ad n = ad0 n) → l0 < T.1 → l1 < T.1 → gC cI cJ cZ cMic cSrc cSt cAI cAJ D ad A s.heap H locs T → lv_has ls 5 [(0, .ref (ad l0)), (1, .ref (ad l1)), (3, .int l3)] → W p l e { frames := 5, cells := T1.1 - T0.1, slots := sg T1 - sg T0, locals := 105 } s m args below meth c H locs (T.1 - T0.1) (sg T - sg T0) Q (F0 m 89 ls [])) : ∀ (T : AT) (ad : Nat → Nat) (H : Heap) (locs : List Loc) (ls : Array Slot) (l0 : Nat) (l1 : Nat) (l3 : Int32), g_X4_measure_b138 k89 T l0 l1 l3 = some T1 → GL T0 T → RC T → (∀ n, n < T0.1 → ad n = ad0 n) → l0 < T.1 → l1 < T.1 → gC cI cJ cZ cMic cSrc cSt cAI cAJ D ad A s.heap H locs T → lv_has ls 5 [(0, .ref (ad l0)), (1, .ref (ad l1)), (3, .int l3)] → W p l e { frames := 5, cells := T1.1 - T0.1, slots := sg T1 - sg T0, locals := 105 } s m args below meth c H locs (T.1 - T0.1) (sg T - sg T0) Q (F0 m 138 ls []) := by
  have hx := E.1
  have hb := E.2.1
  have hts := E.2.2.1
  have hown := E.2.2.2.1
  have hK := E.2.2.2.2
  intro T ad H locs ls l0 l1 l3 h hgl hrc had h_l0 h_l1 G hl
  have hT1 := s_X4_measure_b138 hs89 _ _ _ _ h
  have hcs := cs_ok hgl hT1
  have cp0 := cpr0 hrc
  unfold g_X4_measure_b138 at h
  refine lv_aload_n hx hb dX4_measure_138 rfl (lv_at hl 0 rfl) ?_
  refine lv_dup hx hb dX4_measure_139 rfl ?_
  obtain ⟨g2, h⟩ := oif_some h
  refine c_get E G l0 3 (oO_k g2).1 (cc_o4 (oO_k g2).2) rfl (fun w h => .tail _ (iA_21 h)) (by decide) (.tail _ qA_417) rfl rfl dX4_measure_140 ?_
  refine lv_topi (fun v3 ev3 => ?_)
  have h := elet_at ev3 h
  clear ev3
  refine lv_iconst (v := 1) hx hb dX4_measure_143 (by decide) ?_
  refine lv_iadd hx hb dX4_measure_144 ?_
  refine lv_topi (fun v4 ev4 => ?_)
  have h := elet_at ev4 h
  clear ev4
  obtain ⟨g5, h⟩ := oif_some h
  refine c_put E G l0 3 (v := .int v4) (oO_k g5).1 (cc_o4 (oO_k g5).2) rfl (fun w h => .tail _ (iA_21 h)) tyX4 tyX4_ok nmX4 (by decide) (.tail _ qA_417) ⟨rfl, rfl, rfl⟩ rfl rfl (Nat.le_of_ble_eq_true rfl) dX4_measure_145 (fun H locs G => ?_)
  have G := gC_up_i (f := upd (T.2.2.1 l0) 3 v4) (by rw [(oO_k g5).2]; rfl) G
  obtain ⟨T6, eT6, h⟩ := elet_some h
  have G : gC cI cJ cZ cMic cSrc cSt cAI cAJ D ad A s.heap H locs T6 := by rw [eT6]; exact G
  have cp1 := show CPR T T6 from by rw [eT6]; exact cpr_sp cp0 sp_uI
  clear eT6
  have hl := lv_sub hl [0, 1, 2] rfl
  refine w_cast (c2 := T6.1 - T0.1) (s2 := sg T6 - sg T0) (by rw [cp1.1] <;> rfl) (by rw [sg_cpr cp1] <;> rfl) ?_
  exact a_X4_measure_b148 E hA hX hN hml hst kr154 hs89 hk89 _ _ _ _ _ _ _ _ h (gl_cpr hgl cp1) cp1.2.2 had (by rw [cp1.1]; exact h_l0) (by rw [cp1.1]; exact h_l1) G hl
set_option maxHeartbeats 4000000 in
set_option maxRecDepth 100000 in
theorem a_X4_measure_b89 {p : Program} {l : Launch} {e : Env} {s : State} {m : MethodId} {args : Array Value} {below : List Frame} {meth : Method} {c : Code} {Q : State → Prop} {D : va_G} {A : Nat → Prop} {cI cJ cZ cMic cSrc cSt cAI cAJ : ClassId} {ad0 : Nat → Nat} {T0 : AT} {T1 : AT} (E : cE p c cX4_measure s m args (Cond.code yX4_measure cX4_measure 5 none :: wsA) D RX4 (CT cI cJ cZ cMic cSrc cSt cAI cAJ)) (hA : ∀ q : Nat, s.heap.size ≤ q → A q) (hX : xT A s) (hN : nX s) (hml : c.maxLocals = 5) (hst : l.stackTraces = false) (kr154 : ∀ (ad : Nat → Nat) (H : Heap) (locs : List Loc) (ls : Array Slot), (∀ n, n < T0.1 → ad n = ad0 n) → gC cI cJ cZ cMic cSrc cSt cAI cAJ D ad A s.heap H locs T1 → W p l e { frames := 5, cells := T1.1 - T0.1, slots := sg T1 - sg T0, locals := 105 } s m args below meth c H locs (T1.1 - T0.1) (sg T1 - sg T0) Q (F0 m 154 ls [])) : ∀ n : Nat, ∀ (T : AT) (ad : Nat → Nat) (H : Heap) (locs : List Loc) (ls : Array Slot) (l0 : Nat) (l1 : Nat) (l3 : Int32), g_X4_measure_b89 n T l0 l1 l3 = some T1 → GL T0 T → RC T → (∀ n, n < T0.1 → ad n = ad0 n) → l0 < T.1 → l1 < T.1 → gC cI cJ cZ cMic cSrc cSt cAI cAJ D ad A s.heap H locs T → lv_has ls 5 [(0, .ref (ad l0)), (1, .ref (ad l1)), (3, .int l3)] → W p l e { frames := 5, cells := T1.1 - T0.1, slots := sg T1 - sg T0, locals := 105 } s m args below meth c H locs (T.1 - T0.1) (sg T - sg T0) Q (F0 m 89 ls []) := by
  have hx := E.1
  have hb := E.2.1
  have hts := E.2.2.1
  have hown := E.2.2.2.1
  have hK := E.2.2.2.2
  intro n
  induction n with
  | zero =>
    intro T ad H locs ls l0 l1 l3 h
    have h : (none : Option (AT)) = some T1 := h
    cases h
  | succ n ih =>
    intro T ad H locs ls l0 l1 l3 h hgl hrc had h_l0 h_l1 G hl
    have hT1 := s_X4_measure_b89 _ _ _ _ _ h
    have hcs := cs_ok hgl hT1
    have cp0 := cpr0 hrc
    unfold g_X4_measure_b89 at h
    refine lv_iload_n hx hb dX4_measure_89 rfl (lv_at hl 2 rfl) ?_
    refine lv_aload_n hx hb dX4_measure_90 rfl (lv_at hl 1 rfl) ?_
    obtain ⟨g2, h⟩ := oif_some h
    obtain ⟨n3, en3, h⟩ := obind_some h
    have h_n3 : n3 < T.1 := by rw [← cp0.1]; exact cp0.2.2 _ _ _ en3
    refine c_get E G l1 6 (v := .ref (ad n3)) (oO_k g2).1 (cc_o6 (oO_k g2).2) rfl (fun w h => .tail _ (iA_14 h)) (by decide) (.tail _ qA_413) rfl (by rw [en3]; rfl) dX4_measure_91 ?_
    clear en3
    obtain ⟨g4, h⟩ := oif_some h
    obtain ⟨r7, T5, eT5, h⟩ := obind2_some h
    refine q_cvi (As := []) (rest := [.int l3]) E G hA hX hN hml (u_X1_cells l hst D cI cJ cZ cMic cSrc cSt cAI cAJ ad T n3 eT5) (cwV 0 hts (gaV qA_419 qA_35 qA_36 qA_37 qA_38) rfl rfl rfl (by decide +kernel) ⟨Nat.le_of_ble_eq_true rfl, Nat.le_of_ble_eq_true rfl⟩) (oO_k g4).1 (cc_o1 (oO_k g4).2) rfl rfl hl.1 rfl (lv_room (Nat.le_of_ble_eq_true rfl)) dX4_measure_94 hcs (fun q8 T6 H locs hq G => ?_)
    obtain ⟨hq1, hq2⟩ := hq
    rw [hq2] at G
    refine lv_to hq1 ?_
    clear hq1 hq2
    have cp1 := cpr_sp cp0 (s_X1_cells eT5)
    refine lv_icmp_ge (tgt := 154) hx hb dX4_measure_97 (by decide) (fun c9 => ?_) (fun c9 => ?_)
    · have h := oif_pos c9 h
      rw [osome1 h] at G
      refine w_cast (c2 := T1.1 - T0.1) (s2 := sg T1 - sg T0) (by rw [← osome1 h, cp1.1] <;> rfl) (by rw [← osome1 h, sg_cpr cp1] <;> rfl) ?_
      exact kr154 ad _ _ _ had G
    · have h := oif_neg c9 h
      refine lv_aload_n hx hb dX4_measure_100 rfl (lv_at hl 0 rfl) ?_
      refine lv_iload_n hx hb dX4_measure_101 rfl (lv_at hl 2 rfl) ?_
      refine lv_aload_n hx hb dX4_measure_102 rfl (lv_at hl 1 rfl) ?_
      obtain ⟨g10, h⟩ := oif_some h
      obtain ⟨n11, en11, h⟩ := obind_some h
      have h_n11 : n11 < T.1 := by rw [← cp1.1]; exact cp1.2.2 _ _ _ en11
      refine c_get E G l1 6 (v := .ref (ad n11)) (oO_k g10).1 (cc_o6 (oO_k g10).2) rfl (fun w h => .tail _ (iA_14 h)) (by decide) (.tail _ qA_413) rfl (by rw [en11]; rfl) dX4_measure_103 ?_
      clear en11
      obtain ⟨g12, h⟩ := oif_some h
      obtain ⟨r15, T13, eT13, h⟩ := obind2_some h
      refine q_cvi (As := [.int l3, .ref (ad n11)]) (rest := []) E G hA hX hN hml (u_X4_standsOut l hst D cI cJ cZ cMic cSrc cSt cAI cAJ ad T5 l0 l3 n11 eT13) (cwV 2 hts (gaV qA_423 qA_424 qA_425 qA_426 qA_427) rfl rfl rfl (by decide +kernel) ⟨Nat.le_of_ble_eq_true rfl, Nat.le_of_ble_eq_true rfl⟩) (oO_k g12).1 (cc_o4 (oO_k g12).2) rfl rfl hl.1 rfl (lv_room (Nat.le_of_ble_eq_true rfl)) dX4_measure_106 hcs (fun q16 T14 H locs hq G => ?_)
      obtain ⟨hq1, hq2⟩ := hq
      rw [hq2] at G
      refine lv_to hq1 ?_
      clear hq1 hq2
      have cp2 := cpr_sp cp1 (s_X4_standsOut eT13)
      refine lv_if_eq (tgt := 148) hx hb dX4_measure_109 (by decide) (fun c17 => ?_) (fun c17 => ?_)
      · have h := oif_pos c17 h
        have hl := lv_sub hl [0, 1, 2] rfl
        refine w_cast (c2 := T13.1 - T0.1) (s2 := sg T13 - sg T0) (by rw [cp2.1] <;> rfl) (by rw [sg_cpr cp2] <;> rfl) ?_
        exact a_X4_measure_b148 E hA hX hN hml hst kr154 (s_X4_measure_b89 n) ih _ _ _ _ _ _ _ _ h (gl_cpr hgl cp2) cp2.2.2 had (by rw [cp2.1]; exact h_l0) (by rw [cp2.1]; exact h_l1) G hl
      · have h := oif_neg c17 h
        refine lv_aload_n hx hb dX4_measure_112 rfl (lv_at hl 0 rfl) ?_
        obtain ⟨g18, h⟩ := oif_some h
        obtain ⟨n19, en19, h⟩ := obind_some h
        have h_n19 : n19 < T.1 := by rw [← cp2.1]; exact cp2.2.2 _ _ _ en19
        refine c_get E G l0 4 (v := .ref (ad n19)) (oO_k g18).1 (cc_o4 (oO_k g18).2) rfl (fun w h => .tail _ (iA_21 h)) (by decide) (.tail _ qA_409) rfl (by rw [en19]; rfl) dX4_measure_113 ?_
        clear en19
        refine lv_aload_n hx hb dX4_measure_116 rfl (lv_at hl 0 rfl) ?_
        obtain ⟨g20, h⟩ := oif_some h
        refine c_get E G l0 3 (oO_k g20).1 (cc_o4 (oO_k g20).2) rfl (fun w h => .tail _ (iA_21 h)) (by decide) (.tail _ qA_417) rfl rfl dX4_measure_117 ?_
        refine lv_topi (fun v21 ev21 => ?_)
        have h := elet_at ev21 h
        clear ev21
        refine lv_iload_n hx hb dX4_measure_120 rfl (lv_at hl 2 rfl) ?_
        obtain ⟨g22, h⟩ := oif_some h
        obtain ⟨g23, h⟩ := oif_some h
        refine c_iast E G n19 0 (k := v21.toNatClampNeg) (v := l3) (aA_k g22).1 (cc_a100 (aA_k g22).2.1) rfl (inb_k g23).1 (inb_k g23).2 (aA_k g22).2.2 dX4_measure_121 (fun H locs G => ?_)
        have G := gC_up_i (f := upd (T13.2.2.1 n19) v21.toNatClampNeg l3) (ccv_100 (aA_k g22).2.1) G
        obtain ⟨T24, eT24, h⟩ := elet_some h
        have G : gC cI cJ cZ cMic cSrc cSt cAI cAJ D ad A s.heap H locs T24 := by rw [eT24]; exact G
        have cp3 := show CPR T T24 from by rw [eT24]; exact cpr_sp cp2 sp_uI
        clear eT24
        refine lv_aload_n hx hb dX4_measure_122 rfl (lv_at hl 0 rfl) ?_
        obtain ⟨g25, h⟩ := oif_some h
        obtain ⟨n26, en26, h⟩ := obind_some h
        have h_n26 : n26 < T.1 := by rw [← cp3.1]; exact cp3.2.2 _ _ _ en26
        refine c_get E G l0 5 (v := .ref (ad n26)) (oO_k g25).1 (cc_o4 (oO_k g25).2) rfl (fun w h => .tail _ (iA_21 h)) (by decide) (.tail _ qA_410) rfl (by rw [en26]; rfl) dX4_measure_123 ?_
        clear en26
        refine lv_aload_n hx hb dX4_measure_126 rfl (lv_at hl 0 rfl) ?_
        obtain ⟨g27, h⟩ := oif_some h
        refine c_get E G l0 3 (oO_k g27).1 (cc_o4 (oO_k g27).2) rfl (fun w h => .tail _ (iA_21 h)) (by decide) (.tail _ qA_417) rfl rfl dX4_measure_127 ?_
        refine lv_topi (fun v28 ev28 => ?_)
        have h := elet_at ev28 h
        clear ev28
        refine lv_aload_n hx hb dX4_measure_130 rfl (lv_at hl 0 rfl) ?_
        obtain ⟨g29, h⟩ := oif_some h
        obtain ⟨n30, en30, h⟩ := obind_some h
        have h_n30 : n30 < T.1 := by rw [← cp3.1]; exact cp3.2.2 _ _ _ en30
        refine c_get E G l0 1 (v := .ref (ad n30)) (oO_k g29).1 (cc_o4 (oO_k g29).2) rfl (fun w h => .tail _ (iA_21 h)) (by decide) (.tail _ qA_408) rfl (by rw [en30]; rfl) dX4_measure_131 ?_
        clear en30
        refine lv_iload_n hx hb dX4_measure_134 rfl (lv_at hl 2 rfl) ?_
        obtain ⟨g31, h⟩ := oif_some h
        obtain ⟨T32, eT32, h⟩ := obind_some h
        have hg2 := s_X10_set eT32
        have hrc2 := hg2.2.2 cp3.2.2
        have hT2 := s_X4_measure_b138 (s_X4_measure_b89 n) _ _ _ _ h
        refine q_avv (As := [.int v28, .ref (ad n30), .int l3]) (rest := []) E G hA hX hN hml (a_X10_set l hst D cI cJ cZ cMic cSrc cSt cAI cAJ ad T24 n26 v28 n30 l3 eT32 cp3.2.2 (by rw [cp3.1]; exact h_n26) (by rw [cp3.1]; exact h_n30)) (cwV 3 hts (gaV qA_431 qA_432 qA_433 qA_6 qA_434) rfl rfl rfl (by decide +kernel) ⟨Nat.le_of_ble_eq_true rfl, Nat.le_of_ble_eq_true rfl⟩) (oO_k g31).1 (cc_o10 (oO_k g31).2) rfl rfl hl.1 rfl (lv_room (Nat.le_of_ble_eq_true rfl)) dX4_measure_135 (cs_av hgl cp3 hg2 hT2) (fun ad2 H locs hga G => ?_)
        refine w_cast (c2 := T32.1 - T0.1) (s2 := sg T32 - sg T0) (cs_f1 hgl cp3 hg2) (cs_f2 hgl cp3 hg2) ?_
        have hl := lv_sub hl [0, 1, 2] rfl
        rw [show ad l0 = ad2 l0 from (hga l0 (by rw [cp3.1]; exact h_l0)).symm] at hl
        rw [show ad l1 = ad2 l1 from (hga l1 (by rw [cp3.1]; exact h_l1)).symm] at hl
        exact a_X4_measure_b138 E hA hX hN hml hst kr154 (s_X4_measure_b89 n) ih _ _ _ _ _ _ _ _ h (GL.tr (gl_cpr hgl cp3) hg2) hrc2 (fun n hn => (hga n (by rw [cp3.1]; exact Nat.lt_of_lt_of_le hn hgl.1)).trans (had n hn)) (Nat.lt_of_lt_of_le (by rw [cp3.1]; exact h_l0) hg2.1) (Nat.lt_of_lt_of_le (by rw [cp3.1]; exact h_l1) hg2.1) G hl
set_option maxHeartbeats 4000000 in
set_option maxRecDepth 100000 in
theorem a_X4_measure_b53 {p : Program} {l : Launch} {e : Env} {s : State} {m : MethodId} {args : Array Value} {below : List Frame} {meth : Method} {c : Code} {Q : State → Prop} {D : va_G} {A : Nat → Prop} {cI cJ cZ cMic cSrc cSt cAI cAJ : ClassId} {ad0 : Nat → Nat} {T0 : AT} {T1 : AT} (E : cE p c cX4_measure s m args (Cond.code yX4_measure cX4_measure 5 none :: wsA) D RX4 (CT cI cJ cZ cMic cSrc cSt cAI cAJ)) (hA : ∀ q : Nat, s.heap.size ≤ q → A q) (hX : xT A s) (hN : nX s) (hml : c.maxLocals = 5) (hst : l.stackTraces = false) (kr154 : ∀ (ad : Nat → Nat) (H : Heap) (locs : List Loc) (ls : Array Slot), (∀ n, n < T0.1 → ad n = ad0 n) → gC cI cJ cZ cMic cSrc cSt cAI cAJ D ad A s.heap H locs T1 → W p l e { frames := 5, cells := T1.1 - T0.1, slots := sg T1 - sg T0, locals := 105 } s m args below meth c H locs (T1.1 - T0.1) (sg T1 - sg T0) Q (F0 m 154 ls [])) {k16 : AT → Nat → Nat → Nat → Int32 → Option (AT)} (hs16 : ∀ (T : AT) (l0 : Nat) (l1 : Nat) (l2 : Nat) (l3 : Int32), k16 T l0 l1 l2 l3 = some T1 → GL T T1) (hk16 : ∀ (T : AT) (ad : Nat → Nat) (H : Heap) (locs : List Loc) (ls : Array Slot) (l0 : Nat) (l1 : Nat) (l2 : Nat) (l3 : Int32), k16 T l0 l1 l2 l3 = some T1 → GL T0 T → RC T → (∀ n, n < T0.1 → ad n = ad0 n) → l0 < T.1 → l1 < T.1 → l2 < T.1 → gC cI cJ cZ cMic cSrc cSt cAI cAJ D ad A s.heap H locs T → lv_has ls 5 [(0, .ref (ad l0)), (1, .ref (ad l1)), (2, .ref (ad l2)), (3, .int l3)] → W p l e { frames := 5, cells := T1.1 - T0.1, slots := sg T1 - sg T0, locals := 105 } s m args below meth c H locs (T.1 - T0.1) (sg T - sg T0) Q (F0 m 16 ls [])) : ∀ (T : AT) (ad : Nat → Nat) (H : Heap) (locs : List Loc) (ls : Array Slot) (l0 : Nat) (l1 : Nat) (l2 : Nat) (l3 : Int32), g_X4_measure_b53 k16 T l0 l1 l2 l3 = some T1 → GL T0 T → RC T → (∀ n, n < T0.1 → ad n = ad0 n) → l0 < T.1 → l1 < T.1 → l2 < T.1 → gC cI cJ cZ cMic cSrc cSt cAI cAJ D ad A s.heap H locs T → lv_has ls 5 [(0, .ref (ad l0)), (1, .ref (ad l1)), (2, .ref (ad l2)), (3, .int l3)] → W p l e { frames := 5, cells := T1.1 - T0.1, slots := sg T1 - sg T0, locals := 105 } s m args below meth c H locs (T.1 - T0.1) (sg T - sg T0) Q (F0 m 53 ls []) := by
  have hx := E.1
  have hb := E.2.1
  have hts := E.2.2.1
  have hown := E.2.2.2.1
  have hK := E.2.2.2.2
  intro T ad H locs ls l0 l1 l2 l3 h hgl hrc had h_l0 h_l1 h_l2 G hl
  have hT1 := s_X4_measure_b53 hs16 _ _ _ _ _ h
  have hcs := cs_ok hgl hT1
  have cp0 := cpr0 hrc
  unfold g_X4_measure_b53 at h
  obtain ⟨v2, ev2, h⟩ := elet_some h
  refine lv_iinc (v := v2) (lv' := [(3, .int v2), (0, .ref (ad l0)), (1, .ref (ad l1)), (2, .ref (ad l2))]) hx hb dX4_measure_53 hl (k := 3) rfl ev2.symm (by decide) rfl (fun ls hl => ?_)
  refine lv_goto (tgt := 16) hx hb dX4_measure_56 (by decide) ?_
  have hl := lv_sub hl [1, 2, 3, 0] rfl
  refine w_cast (c2 := T.1 - T0.1) (s2 := sg T - sg T0) (by rw [cp0.1] <;> rfl) (by rw [sg_cpr cp0] <;> rfl) ?_
  exact hk16 _ _ _ _ _ _ _ _ _ h (gl_cpr hgl cp0) cp0.2.2 had (by rw [cp0.1]; exact h_l0) (by rw [cp0.1]; exact h_l1) (by rw [cp0.1]; exact h_l2) G hl
set_option maxHeartbeats 4000000 in
set_option maxRecDepth 100000 in
theorem a_X4_measure_b16 {p : Program} {l : Launch} {e : Env} {s : State} {m : MethodId} {args : Array Value} {below : List Frame} {meth : Method} {c : Code} {Q : State → Prop} {D : va_G} {A : Nat → Prop} {cI cJ cZ cMic cSrc cSt cAI cAJ : ClassId} {ad0 : Nat → Nat} {T0 : AT} {T1 : AT} (E : cE p c cX4_measure s m args (Cond.code yX4_measure cX4_measure 5 none :: wsA) D RX4 (CT cI cJ cZ cMic cSrc cSt cAI cAJ)) (hA : ∀ q : Nat, s.heap.size ≤ q → A q) (hX : xT A s) (hN : nX s) (hml : c.maxLocals = 5) (hst : l.stackTraces = false) (kr154 : ∀ (ad : Nat → Nat) (H : Heap) (locs : List Loc) (ls : Array Slot), (∀ n, n < T0.1 → ad n = ad0 n) → gC cI cJ cZ cMic cSrc cSt cAI cAJ D ad A s.heap H locs T1 → W p l e { frames := 5, cells := T1.1 - T0.1, slots := sg T1 - sg T0, locals := 105 } s m args below meth c H locs (T1.1 - T0.1) (sg T1 - sg T0) Q (F0 m 154 ls [])) : ∀ n : Nat, ∀ (T : AT) (ad : Nat → Nat) (H : Heap) (locs : List Loc) (ls : Array Slot) (l0 : Nat) (l1 : Nat) (l2 : Nat) (l3 : Int32), g_X4_measure_b16 n T l0 l1 l2 l3 = some T1 → GL T0 T → RC T → (∀ n, n < T0.1 → ad n = ad0 n) → l0 < T.1 → l1 < T.1 → l2 < T.1 → gC cI cJ cZ cMic cSrc cSt cAI cAJ D ad A s.heap H locs T → lv_has ls 5 [(0, .ref (ad l0)), (1, .ref (ad l1)), (2, .ref (ad l2)), (3, .int l3)] → W p l e { frames := 5, cells := T1.1 - T0.1, slots := sg T1 - sg T0, locals := 105 } s m args below meth c H locs (T.1 - T0.1) (sg T - sg T0) Q (F0 m 16 ls []) := by
  have hx := E.1
  have hb := E.2.1
  have hts := E.2.2.1
  have hown := E.2.2.2.1
  have hK := E.2.2.2.2
  intro n
  induction n with
  | zero =>
    intro T ad H locs ls l0 l1 l2 l3 h
    have h : (none : Option (AT)) = some T1 := h
    cases h
  | succ n ih =>
    intro T ad H locs ls l0 l1 l2 l3 h hgl hrc had h_l0 h_l1 h_l2 G hl
    have hT1 := s_X4_measure_b16 _ _ _ _ _ _ h
    have hcs := cs_ok hgl hT1
    have cp0 := cpr0 hrc
    unfold g_X4_measure_b16 at h
    refine lv_iload_n hx hb dX4_measure_16 rfl (lv_at hl 3 rfl) ?_
    refine lv_aload_n hx hb dX4_measure_17 rfl (lv_at hl 1 rfl) ?_
    obtain ⟨g2, h⟩ := oif_some h
    obtain ⟨n3, en3, h⟩ := obind_some h
    have h_n3 : n3 < T.1 := by rw [← cp0.1]; exact cp0.2.2 _ _ _ en3
    refine c_get E G l1 6 (v := .ref (ad n3)) (oO_k g2).1 (cc_o6 (oO_k g2).2) rfl (fun w h => .tail _ (iA_14 h)) (by decide) (.tail _ qA_413) rfl (by rw [en3]; rfl) dX4_measure_18 ?_
    clear en3
    obtain ⟨g4, h⟩ := oif_some h
    obtain ⟨r7, T5, eT5, h⟩ := obind2_some h
    refine q_cvi (As := []) (rest := [.int l3]) E G hA hX hN hml (u_X1_cells l hst D cI cJ cZ cMic cSrc cSt cAI cAJ ad T n3 eT5) (cwV 0 hts (gaV qA_419 qA_35 qA_36 qA_37 qA_38) rfl rfl rfl (by decide +kernel) ⟨Nat.le_of_ble_eq_true rfl, Nat.le_of_ble_eq_true rfl⟩) (oO_k g4).1 (cc_o1 (oO_k g4).2) rfl rfl hl.1 rfl (lv_room (Nat.le_of_ble_eq_true rfl)) dX4_measure_21 hcs (fun q8 T6 H locs hq G => ?_)
    obtain ⟨hq1, hq2⟩ := hq
    rw [hq2] at G
    refine lv_to hq1 ?_
    clear hq1 hq2
    have cp1 := cpr_sp cp0 (s_X1_cells eT5)
    refine lv_icmp_ge (tgt := 59) hx hb dX4_measure_24 (by decide) (fun c9 => ?_) (fun c9 => ?_)
    · have h := oif_pos c9 h
      refine lv_aload_n hx hb dX4_measure_59 rfl (lv_at hl 0 rfl) ?_
      refine lv_aload_n hx hb dX4_measure_60 rfl (lv_at hl 1 rfl) ?_
      obtain ⟨g10, h⟩ := oif_some h
      obtain ⟨n11, en11, h⟩ := obind_some h
      have h_n11 : n11 < T.1 := by rw [← cp1.1]; exact cp1.2.2 _ _ _ en11
      refine c_get E G l1 6 (v := .ref (ad n11)) (oO_k g10).1 (cc_o6 (oO_k g10).2) rfl (fun w h => .tail _ (iA_14 h)) (by decide) (.tail _ qA_413) rfl (by rw [en11]; rfl) dX4_measure_61 ?_
      clear en11
      refine lv_aload_n hx hb dX4_measure_64 rfl (lv_at hl 1 rfl) ?_
      obtain ⟨g12, h⟩ := oif_some h
      obtain ⟨n13, en13, h⟩ := obind_some h
      have h_n13 : n13 < T.1 := by rw [← cp1.1]; exact cp1.2.2 _ _ _ en13
      refine c_get E G l1 6 (v := .ref (ad n13)) (oO_k g12).1 (cc_o6 (oO_k g12).2) rfl (fun w h => .tail _ (iA_14 h)) (by decide) (.tail _ qA_413) rfl (by rw [en13]; rfl) dX4_measure_65 ?_
      clear en13
      obtain ⟨g14, h⟩ := oif_some h
      obtain ⟨n15, en15, h⟩ := obind_some h
      have h_n15 : n15 < T.1 := by rw [← cp1.1]; exact cp1.2.2 _ _ _ en15
      refine c_get E G n13 5 (v := .ref (ad n15)) (oO_k g14).1 (cc_o1 (oO_k g14).2) rfl (fun w h => .tail _ (iA_15 h)) (by decide) (.tail _ qA_415) rfl (by rw [en15]; rfl) dX4_measure_68 ?_
      clear en15
      refine lv_aload_n hx hb dX4_measure_71 rfl (lv_at hl 0 rfl) ?_
      obtain ⟨g16, h⟩ := oif_some h
      obtain ⟨n17, en17, h⟩ := obind_some h
      have h_n17 : n17 < T.1 := by rw [← cp1.1]; exact cp1.2.2 _ _ _ en17
      refine c_get E G l0 1 (v := .ref (ad n17)) (oO_k g16).1 (cc_o4 (oO_k g16).2) rfl (fun w h => .tail _ (iA_21 h)) (by decide) (.tail _ qA_408) rfl (by rw [en17]; rfl) dX4_measure_72 ?_
      clear en17
      refine lv_iconst (v := 0) hx hb dX4_measure_75 (by decide) ?_
      obtain ⟨g18, h⟩ := oif_some h
      obtain ⟨r21, T19, eT19, h⟩ := obind2_some h
      refine q_cvi (As := [.ref (ad n15), .ref (ad n17), .int 0]) (rest := [.ref (ad l0)]) E G hA hX hN hml (u_X1_bestIn l hst D cI cJ cZ cMic cSrc cSt cAI cAJ ad T5 n11 n15 n17 (0 : Int32) eT19) (cwV 3 hts (gaV qA_422 qA_116 qA_117 qA_37 qA_118) rfl rfl rfl (by decide +kernel) ⟨Nat.le_of_ble_eq_true rfl, Nat.le_of_ble_eq_true rfl⟩) (oO_k g18).1 (cc_o1 (oO_k g18).2) rfl rfl hl.1 rfl (lv_room (Nat.le_of_ble_eq_true rfl)) dX4_measure_76 hcs (fun q22 T20 H locs hq G => ?_)
      obtain ⟨hq1, hq2⟩ := hq
      rw [hq2] at G
      refine lv_to hq1 ?_
      clear hq1 hq2
      have cp2 := cpr_sp cp1 (s_X1_bestIn eT19)
      obtain ⟨g23, h⟩ := oif_some h
      refine c_put E G l0 2 (v := .int r21) (oO_k g23).1 (cc_o4 (oO_k g23).2) rfl (fun w h => .tail _ (iA_21 h)) tyX4 tyX4_ok nmX4 (by decide) (.tail _ qA_416) ⟨rfl, rfl, rfl⟩ rfl rfl (Nat.le_of_ble_eq_true rfl) dX4_measure_79 (fun H locs G => ?_)
      have G := gC_up_i (f := upd (T19.2.2.1 l0) 2 r21) (by rw [(oO_k g23).2]; rfl) G
      obtain ⟨T24, eT24, h⟩ := elet_some h
      have G : gC cI cJ cZ cMic cSrc cSt cAI cAJ D ad A s.heap H locs T24 := by rw [eT24]; exact G
      have cp3 := show CPR T T24 from by rw [eT24]; exact cpr_sp cp2 sp_uI
      clear eT24
      refine lv_aload_n hx hb dX4_measure_82 rfl (lv_at hl 0 rfl) ?_
      refine lv_iconst (v := 0) hx hb dX4_measure_83 (by decide) ?_
      obtain ⟨g25, h⟩ := oif_some h
      refine c_put E G l0 3 (v := .int 0) (oO_k g25).1 (cc_o4 (oO_k g25).2) rfl (fun w h => .tail _ (iA_21 h)) tyX4 tyX4_ok nmX4 (by decide) (.tail _ qA_417) ⟨rfl, rfl, rfl⟩ rfl rfl (Nat.le_of_ble_eq_true rfl) dX4_measure_84 (fun H locs G => ?_)
      have G := gC_up_i (f := upd (T24.2.2.1 l0) 3 0) (by rw [(oO_k g25).2]; rfl) G
      obtain ⟨T26, eT26, h⟩ := elet_some h
      have G : gC cI cJ cZ cMic cSrc cSt cAI cAJ D ad A s.heap H locs T26 := by rw [eT26]; exact G
      have cp4 := show CPR T T26 from by rw [eT26]; exact cpr_sp cp3 sp_uI
      clear eT26
      refine lv_iconst (v := 0) hx hb dX4_measure_87 (by decide) ?_
      refine lv_istore_n (lv' := [(3, .int 0), (0, .ref (ad l0)), (1, .ref (ad l1)), (2, .ref (ad l2))]) hx hb dX4_measure_88 rfl hl (by decide) rfl (fun ls hl => ?_)
      have hl := lv_sub hl [1, 2, 0] rfl
      refine w_cast (c2 := T26.1 - T0.1) (s2 := sg T26 - sg T0) (by rw [cp4.1] <;> rfl) (by rw [sg_cpr cp4] <;> rfl) ?_
      exact a_X4_measure_b89 E hA hX hN hml hst kr154 _ _ _ _ _ _ _ _ _ h (gl_cpr hgl cp4) cp4.2.2 had (by rw [cp4.1]; exact h_l0) (by rw [cp4.1]; exact h_l1) G hl
    · have h := oif_neg c9 h
      refine lv_aload_n hx hb dX4_measure_27 rfl (lv_at hl 1 rfl) ?_
      obtain ⟨g27, h⟩ := oif_some h
      obtain ⟨n28, en28, h⟩ := obind_some h
      have h_n28 : n28 < T.1 := by rw [← cp1.1]; exact cp1.2.2 _ _ _ en28
      refine c_get E G l1 17 (v := .ref (ad n28)) (oO_k g27).1 (cc_o6 (oO_k g27).2) rfl (fun w h => .tail _ (iA_14 h)) (by decide) (.tail _ qA_414) rfl (by rw [en28]; rfl) dX4_measure_28 ?_
      clear en28
      refine lv_iload_n hx hb dX4_measure_31 rfl (lv_at hl 3 rfl) ?_
      obtain ⟨g29, h⟩ := oif_some h
      obtain ⟨g30, h⟩ := oif_some h
      obtain ⟨n31, en31, h⟩ := obind_some h
      have h_n31 : n31 < T.1 := by rw [← cp1.1]; exact cp1.2.2 _ _ _ en31
      refine c_alda E G n28 6 (k := l3.toNatClampNeg) (v := .ref (ad n31)) (aA_k g29).1 (cc_a106 (aA_k g29).2.1) rfl (inb_k g30).1 (inb_k g30).2 (aA_k g29).2.2 (by show va_rf ((T5.2.2.2.2 n28 l3.toNatClampNeg).map ad) = _; rw [en31]; rfl) dX4_measure_32 ?_
      clear en31
      refine lv_astore (lv' := [(4, .ref (ad n31)), (0, .ref (ad l0)), (1, .ref (ad l1)), (2, .ref (ad l2)), (3, .int l3)]) hx hb dX4_measure_33 hl (by decide) rfl (fun ls hl => ?_)
      refine lv_aload_n hx hb dX4_measure_35 rfl (lv_at hl 3 rfl) ?_
      refine lv_aload hx hb dX4_measure_36 (lv_at hl 0 rfl) ?_
      refine lv_iconst (v := 0) hx hb dX4_measure_38 (by decide) ?_
      refine lv_aload_n hx hb dX4_measure_39 rfl (lv_at hl 3 rfl) ?_
      refine lv_aload hx hb dX4_measure_40 (lv_at hl 0 rfl) ?_
      obtain ⟨g32, h⟩ := oif_some h
      obtain ⟨r35, T33, eT33, h⟩ := obind2_some h
      refine q_cvi (As := [.ref (ad n31)]) (rest := [.int 0, .ref (ad n31), .ref (ad l2)]) E G hA hX hN hml (u_X8_windowOf l hst D cI cJ cZ cMic cSrc cSt cAI cAJ ad T5 l2 n31 eT33) (cwV 1 hts (gaV qA_420 qA_54 qA_55 qA_47 qA_56) rfl rfl rfl (by decide +kernel) ⟨Nat.le_of_ble_eq_true rfl, Nat.le_of_ble_eq_true rfl⟩) (oO_k g32).1 (cc_o8 (oO_k g32).2) rfl rfl hl.1 rfl (lv_room (Nat.le_of_ble_eq_true rfl)) dX4_measure_42 hcs (fun q36 T34 H locs hq G => ?_)
      obtain ⟨hq1, hq2⟩ := hq
      rw [hq2] at G
      refine lv_to hq1 ?_
      clear hq1 hq2
      have cp2 := cpr_sp cp1 (s_X8_windowOf eT33)
      refine lv_aload_n hx hb dX4_measure_45 rfl (lv_at hl 1 rfl) ?_
      obtain ⟨g37, h⟩ := oif_some h
      obtain ⟨n38, en38, h⟩ := obind_some h
      have h_n38 : n38 < T.1 := by rw [← cp2.1]; exact cp2.2.2 _ _ _ en38
      refine c_get E G l0 1 (v := .ref (ad n38)) (oO_k g37).1 (cc_o4 (oO_k g37).2) rfl (fun w h => .tail _ (iA_21 h)) (by decide) (.tail _ qA_408) rfl (by rw [en38]; rfl) dX4_measure_46 ?_
      clear en38
      refine lv_iload_n hx hb dX4_measure_49 rfl (lv_at hl 4 rfl) ?_
      obtain ⟨g39, h⟩ := oif_some h
      obtain ⟨T40, eT40, h⟩ := obind_some h
      have hg2 := s_X8_blockPowerOf eT40
      have hrc2 := hg2.2.2 cp2.2.2
      have hT2 := s_X4_measure_b53 (s_X4_measure_b16 n) _ _ _ _ _ h
      refine q_avv (As := [.ref (ad n31), .int 0, .int r35, .ref (ad n38), .int l3]) (rest := []) E G hA hX hN hml (a_X8_blockPowerOf l hst D cI cJ cZ cMic cSrc cSt cAI cAJ ad T33 l2 n31 (0 : Int32) r35 n38 l3 eT40 cp2.2.2 (by rw [cp2.1]; exact h_l2) (by rw [cp2.1]; exact h_n31) (by rw [cp2.1]; exact h_n38)) (cwV 5 hts (gaV qA_421 qA_45 qA_46 qA_47 qA_48) rfl rfl rfl (by decide +kernel) ⟨Nat.le_of_ble_eq_true rfl, Nat.le_of_ble_eq_true rfl⟩) (oO_k g39).1 (cc_o8 (oO_k g39).2) rfl rfl hl.1 rfl (lv_room (Nat.le_of_ble_eq_true rfl)) dX4_measure_50 (cs_av hgl cp2 hg2 hT2) (fun ad2 H locs hga G => ?_)
      refine w_cast (c2 := T40.1 - T0.1) (s2 := sg T40 - sg T0) (cs_f1 hgl cp2 hg2) (cs_f2 hgl cp2 hg2) ?_
      have hl := lv_sub hl [1, 2, 3, 4] rfl
      rw [show ad l0 = ad2 l0 from (hga l0 (by rw [cp2.1]; exact h_l0)).symm] at hl
      rw [show ad l1 = ad2 l1 from (hga l1 (by rw [cp2.1]; exact h_l1)).symm] at hl
      rw [show ad l2 = ad2 l2 from (hga l2 (by rw [cp2.1]; exact h_l2)).symm] at hl
      exact a_X4_measure_b53 E hA hX hN hml hst kr154 (s_X4_measure_b16 n) ih _ _ _ _ _ _ _ _ _ h (GL.tr (gl_cpr hgl cp2) hg2) hrc2 (fun n hn => (hga n (by rw [cp2.1]; exact Nat.lt_of_lt_of_le hn hgl.1)).trans (had n hn)) (Nat.lt_of_lt_of_le (by rw [cp2.1]; exact h_l0) hg2.1) (Nat.lt_of_lt_of_le (by rw [cp2.1]; exact h_l1) hg2.1) (Nat.lt_of_lt_of_le (by rw [cp2.1]; exact h_l2) hg2.1) G hl
set_option maxHeartbeats 4000000 in
set_option maxRecDepth 100000 in
theorem a_X4_measure (l : Launch) (hst : l.stackTraces = false) (D : va_G) (cI cJ cZ cMic cSrc cSt cAI cAJ : ClassId) (ad : Nat → Nat) (T : AT) (o : Nat) (a0 : Nat) (a1 : Nat) {T1 : AT} (h : g_X4_measure T o a0 a1 = some T1) (hrc : RC T) (h_o : o < T.1) (h_a0 : a0 < T.1) (h_a1 : a1 < T.1) : kAv l yX4_measure (Cond.code yX4_measure cX4_measure 5 none :: wsA) 5 105 cI cJ cZ cMic cSrc cSt cAI cAJ D ad T [.ref (ad o), .ref (ad a0), .ref (ad a1)] T1 := by
  intro sz
  refine Met.ofW (cc := cX4_measure) (maxL := 5) (ret := none) (by decide) rfl ?_
  intro p e s m args below meth c s₁ B hml hv
  obtain ⟨rfl, hsz, hP, hK, hD0, hX, hN⟩ := hv
  have hx := B.exec
  have hb := B.bytes
  have hr := B.returns
  have hts := atoms_spec (ws := (Cond.code yX4_measure cX4_measure 5 none :: wsA)) B.pre
  have hown : s.vm.findClass RX4 = some m.cls := findClass_of_methodNamed B.named
  have hlocks := B.notSynchronized
  subst hsz
  have hD := hD0.self (sz := s.heap.size)
  generalize hAe : va_A (cW ad T.1 (cc cI cJ cZ cMic cSrc cSt cAI cAJ ad T)) s.heap.size = A at hD hX ⊢
  have hA : ∀ q : Nat, s.heap.size ≤ q → A q := fun q h => by rw [← hAe]; exact Or.inr h
  have G : gC cI cJ cZ cMic cSrc cSt cAI cAJ D ad A s.heap s.heap [] T := ⟨hP, hD, va_S.rf⟩
  have E : cE p c cX4_measure s m ([.ref (ad o), .ref (ad a0), .ref (ad a1)] : List Value).toArray (Cond.code yX4_measure cX4_measure 5 none :: wsA) D RX4 (CT cI cJ cZ cMic cSrc cSt cAI cAJ) := ⟨hx, hb, hts, hown, hK⟩
  have hl := lv_entry ([.ref (ad o), .ref (ad a0), .ref (ad a1)]) (n := 5) (Nat.le_of_ble_eq_true rfl)
  rw [lg_entry_eq]
  generalize (lg_sl ([.ref (ad o), .ref (ad a0), .ref (ad a1)]) ++ List.replicate (5 - (lg_sl ([.ref (ad o), .ref (ad a0), .ref (ad a1)])).length) Slot.unset).toArray = ls at hl ⊢
  have hl : lv_has ls 5 [(0, .ref (ad o)), (1, .ref (ad a0)), (2, .ref (ad a1))] := hl
  have hgl := GL.rf T
  have had : ∀ n, n < T.1 → ad n = ad n := fun _ _ => rfl
  have hT1 := s_X4_measure h
  have hcs := cs_ok hgl hT1
  refine w_cast (Nat.sub_self T.1).symm (Nat.sub_self (sg T)).symm ?_
  have cp0 := cpr0 hrc
  unfold g_X4_measure at h
  refine lv_aload_n hx hb dX4_measure_0 rfl (lv_at hl 0 rfl) ?_
  obtain ⟨g2, h⟩ := oif_some h
  obtain ⟨n3, en3, h⟩ := obind_some h
  have h_n3 : n3 < T.1 := by rw [← cp0.1]; exact cp0.2.2 _ _ _ en3
  refine c_get E G o 1 (v := .ref (ad n3)) (oO_k g2).1 (cc_o4 (oO_k g2).2) rfl (fun w h => .tail _ (iA_21 h)) (by decide) (.tail _ qA_408) rfl (by rw [en3]; rfl) dX4_measure_1 ?_
  clear en3
  obtain ⟨g4, h⟩ := oif_some h
  obtain ⟨T5, eT5, h⟩ := obind_some h
  refine q_cvv (As := []) (rest := []) E G hA hX hN hml (u_X10_narrow l hst D cI cJ cZ cMic cSrc cSt cAI cAJ ad T n3 eT5) (cwV 0 hts (gaV qA_418 qA_25 qA_26 qA_6 qA_27) rfl rfl rfl (by decide +kernel) ⟨Nat.le_of_ble_eq_true rfl, Nat.le_of_ble_eq_true rfl⟩) (oO_k g4).1 (cc_o10 (oO_k g4).2) rfl rfl hl.1 rfl (lv_room (Nat.le_of_ble_eq_true rfl)) dX4_measure_4 hcs (fun T6 H locs hq G => ?_)
  rw [hq] at G
  clear hq
  have cp1 := cpr_sp cp0 (s_X10_narrow eT5)
  refine lv_aload_n hx hb dX4_measure_7 rfl (lv_at hl 0 rfl) ?_
  obtain ⟨g7, h⟩ := oif_some h
  obtain ⟨n8, en8, h⟩ := obind_some h
  have h_n8 : n8 < T.1 := by rw [← cp1.1]; exact cp1.2.2 _ _ _ en8
  refine c_get E G o 5 (v := .ref (ad n8)) (oO_k g7).1 (cc_o4 (oO_k g7).2) rfl (fun w h => .tail _ (iA_21 h)) (by decide) (.tail _ qA_410) rfl (by rw [en8]; rfl) dX4_measure_8 ?_
  clear en8
  obtain ⟨g9, h⟩ := oif_some h
  obtain ⟨T10, eT10, h⟩ := obind_some h
  refine q_cvv (As := []) (rest := []) E G hA hX hN hml (u_X10_narrow l hst D cI cJ cZ cMic cSrc cSt cAI cAJ ad T5 n8 eT10) (cwV 0 hts (gaV qA_418 qA_25 qA_26 qA_6 qA_27) rfl rfl rfl (by decide +kernel) ⟨Nat.le_of_ble_eq_true rfl, Nat.le_of_ble_eq_true rfl⟩) (oO_k g9).1 (cc_o10 (oO_k g9).2) rfl rfl hl.1 rfl (lv_room (Nat.le_of_ble_eq_true rfl)) dX4_measure_11 hcs (fun T11 H locs hq G => ?_)
  rw [hq] at G
  clear hq
  have cp2 := cpr_sp cp1 (s_X10_narrow eT10)
  refine lv_iconst (v := 0) hx hb dX4_measure_14 (by decide) ?_
  refine lv_istore_n (lv' := [(3, .int 0), (0, .ref (ad o)), (1, .ref (ad a0)), (2, .ref (ad a1))]) hx hb dX4_measure_15 rfl hl (by decide) rfl (fun ls hl => ?_)
  have hl := lv_sub hl [1, 2, 3, 0] rfl
  refine w_cast (c2 := T10.1 - T.1) (s2 := sg T10 - sg T) (by rw [cp2.1] <;> rfl) (by rw [sg_cpr cp2] <;> rfl) ?_
  exact a_X4_measure_b16 E hA hX hN hml hst (fun ad H locs ls had G => W.vret hx hb hr (fun t ht hW => ⟨⟨(T1, ad), rfl, ⟨rfl, had⟩, ⟨by rw [ht]; exact G.1, va_K.moved hW.alike hK, G.2.1⟩⟩, G.2.2.F ht⟩) G.2.2.2.2 dX4_measure_154) _ _ _ _ _ _ _ _ _ _ h (gl_cpr hgl cp2) cp2.2.2 had (by rw [cp2.1]; exact h_o) (by rw [cp2.1]; exact h_a0) (by rw [cp2.1]; exact h_a1) G hl
def g_X4_second_b36 (k4 : AT → Nat → Int32 → Int32 → Int32 → Option (Int32 × AT)) (T : AT) (l0 : Nat) (l1 : Int32) (l2 : Int32) (l3 : Int32) : Option (Int32 × AT) := elet (l3 + Int32.ofInt (1)) fun v2 => k4 T l0 l1 l2 v2
set_option maxHeartbeats 4000000 in
set_option maxRecDepth 100000 in
theorem u_X4_second_b36 {p : Program} {l : Launch} {e : Env} {s : State} {m : MethodId} {args : Array Value} {below : List Frame} {meth : Method} {c : Code} {Q : State → Prop} {D : va_G} {A : Nat → Prop} {cI cJ cZ cMic cSrc cSt cAI cAJ : ClassId} {ad : Nat → Nat} {r1 : Int32} {T1 : AT} (E : cE p c cX4_second s m args (Cond.code yX4_second cX4_second 4 (some .int) :: wsA) D RX4 (CT cI cJ cZ cMic cSrc cSt cAI cAJ)) (hA : ∀ q : Nat, s.heap.size ≤ q → A q) (hX : xT A s) (hN : nX s) (hml : c.maxLocals = 4) (hst : l.stackTraces = false) (kr43 : ∀ (H : Heap) (locs : List Loc) (ls : Array Slot), gC cI cJ cZ cMic cSrc cSt cAI cAJ D ad A s.heap H locs T1 → W p l e { frames := 3, cells := 0, slots := 0, locals := 47 } s m args below meth c H locs 0 0 Q (F0 m 43 ls [.int r1])) {k4 : AT → Nat → Int32 → Int32 → Int32 → Option (Int32 × AT)} (hk4 : ∀ (T : AT) (H : Heap) (locs : List Loc) (ls : Array Slot) (l0 : Nat) (l1 : Int32) (l2 : Int32) (l3 : Int32), k4 T l0 l1 l2 l3 = some (r1, T1) → gC cI cJ cZ cMic cSrc cSt cAI cAJ D ad A s.heap H locs T → lv_has ls 4 [(0, .ref (ad l0)), (1, .int l1), (2, .int l2), (3, .int l3)] → W p l e { frames := 3, cells := 0, slots := 0, locals := 47 } s m args below meth c H locs 0 0 Q (F0 m 4 ls [])) : ∀ (T : AT) (H : Heap) (locs : List Loc) (ls : Array Slot) (l0 : Nat) (l1 : Int32) (l2 : Int32) (l3 : Int32), g_X4_second_b36 k4 T l0 l1 l2 l3 = some (r1, T1) → gC cI cJ cZ cMic cSrc cSt cAI cAJ D ad A s.heap H locs T → lv_has ls 4 [(0, .ref (ad l0)), (1, .int l1), (2, .int l2), (3, .int l3)] → W p l e { frames := 3, cells := 0, slots := 0, locals := 47 } s m args below meth c H locs 0 0 Q (F0 m 36 ls []) := by
  have hx := E.1
  have hb := E.2.1
  have hts := E.2.2.1
  have hown := E.2.2.2.1
  have hK := E.2.2.2.2
  intro T H locs ls l0 l1 l2 l3 h G hl
  unfold g_X4_second_b36 at h
  obtain ⟨v2, ev2, h⟩ := elet_some h
  refine lv_iinc (v := v2) (lv' := [(3, .int v2), (0, .ref (ad l0)), (1, .int l1), (2, .int l2)]) hx hb dX4_second_36 hl (k := 3) rfl ev2.symm (by decide) rfl (fun ls hl => ?_)
  refine lv_goto (tgt := 4) hx hb dX4_second_39 (by decide) ?_
  have hl := lv_sub hl [1, 2, 3, 0] rfl
  exact hk4 _ _ _ _ _ _ _ _ h G hl
def g_X4_second_b34 (k4 : AT → Nat → Int32 → Int32 → Int32 → Option (Int32 × AT)) (T : AT) (l0 : Nat) (l1 : Int32) (l3 : Int32) : Option (Int32 × AT) := g_X4_second_b36 k4 T l0 l1 l3 l3
set_option maxHeartbeats 4000000 in
set_option maxRecDepth 100000 in
theorem u_X4_second_b34 {p : Program} {l : Launch} {e : Env} {s : State} {m : MethodId} {args : Array Value} {below : List Frame} {meth : Method} {c : Code} {Q : State → Prop} {D : va_G} {A : Nat → Prop} {cI cJ cZ cMic cSrc cSt cAI cAJ : ClassId} {ad : Nat → Nat} {r1 : Int32} {T1 : AT} (E : cE p c cX4_second s m args (Cond.code yX4_second cX4_second 4 (some .int) :: wsA) D RX4 (CT cI cJ cZ cMic cSrc cSt cAI cAJ)) (hA : ∀ q : Nat, s.heap.size ≤ q → A q) (hX : xT A s) (hN : nX s) (hml : c.maxLocals = 4) (hst : l.stackTraces = false) (kr43 : ∀ (H : Heap) (locs : List Loc) (ls : Array Slot), gC cI cJ cZ cMic cSrc cSt cAI cAJ D ad A s.heap H locs T1 → W p l e { frames := 3, cells := 0, slots := 0, locals := 47 } s m args below meth c H locs 0 0 Q (F0 m 43 ls [.int r1])) {k4 : AT → Nat → Int32 → Int32 → Int32 → Option (Int32 × AT)} (hk4 : ∀ (T : AT) (H : Heap) (locs : List Loc) (ls : Array Slot) (l0 : Nat) (l1 : Int32) (l2 : Int32) (l3 : Int32), k4 T l0 l1 l2 l3 = some (r1, T1) → gC cI cJ cZ cMic cSrc cSt cAI cAJ D ad A s.heap H locs T → lv_has ls 4 [(0, .ref (ad l0)), (1, .int l1), (2, .int l2), (3, .int l3)] → W p l e { frames := 3, cells := 0, slots := 0, locals := 47 } s m args below meth c H locs 0 0 Q (F0 m 4 ls [])) : ∀ (T : AT) (H : Heap) (locs : List Loc) (ls : Array Slot) (l0 : Nat) (l1 : Int32) (l3 : Int32), g_X4_second_b34 k4 T l0 l1 l3 = some (r1, T1) → gC cI cJ cZ cMic cSrc cSt cAI cAJ D ad A s.heap H locs T → lv_has ls 4 [(0, .ref (ad l0)), (1, .int l1), (3, .int l3)] → W p l e { frames := 3, cells := 0, slots := 0, locals := 47 } s m args below meth c H locs 0 0 Q (F0 m 34 ls []) := by
  have hx := E.1
  have hb := E.2.1
  have hts := E.2.2.1
  have hown := E.2.2.2.1
  have hK := E.2.2.2.2
  intro T H locs ls l0 l1 l3 h G hl
  unfold g_X4_second_b34 at h
  refine lv_iload_n hx hb dX4_second_34 rfl (lv_at hl 2 rfl) ?_
  refine lv_istore_n (lv' := [(2, .int l3), (0, .ref (ad l0)), (1, .int l1), (3, .int l3)]) hx hb dX4_second_35 rfl hl (by decide) rfl (fun ls hl => ?_)
  have hl := lv_sub hl [1, 2, 0, 3] rfl
  exact u_X4_second_b36 E hA hX hN hml hst kr43 hk4 _ _ _ _ _ _ _ _ h G hl
def g_X4_second_b4  : Nat → AT → Nat → Int32 → Int32 → Int32 → Option (Int32 × AT)
  | 0, _, _, _, _, _ => none
  | n + 1, T, l0, l1, l2, l3 => if l1 ≤ l3 then (some (l2, T)) else (oif (oO T l0 4 = true) <| elet (T.2.2.1 l0 2) fun v4 => if l3 = v4 then (g_X4_second_b36 (g_X4_second_b4 n) T l0 l1 l2 l3) else (if l2 = (-1) then (g_X4_second_b34 (g_X4_second_b4 n) T l0 l1 l3) else (oif (oO T l0 4 = true) <| obind (T.2.2.2.2 l0 1) fun n8 => oif (oO T n8 10 = true) <| obind2 (g_X10_compare T n8 l3 l2) fun r12 T10 => if r12 ≤ 0 then (g_X4_second_b36 (g_X4_second_b4 n) T10 l0 l1 l2 l3) else (g_X4_second_b34 (g_X4_second_b4 n) T10 l0 l1 l3))))
set_option maxHeartbeats 4000000 in
set_option maxRecDepth 100000 in
theorem u_X4_second_b4 {p : Program} {l : Launch} {e : Env} {s : State} {m : MethodId} {args : Array Value} {below : List Frame} {meth : Method} {c : Code} {Q : State → Prop} {D : va_G} {A : Nat → Prop} {cI cJ cZ cMic cSrc cSt cAI cAJ : ClassId} {ad : Nat → Nat} {r1 : Int32} {T1 : AT} (E : cE p c cX4_second s m args (Cond.code yX4_second cX4_second 4 (some .int) :: wsA) D RX4 (CT cI cJ cZ cMic cSrc cSt cAI cAJ)) (hA : ∀ q : Nat, s.heap.size ≤ q → A q) (hX : xT A s) (hN : nX s) (hml : c.maxLocals = 4) (hst : l.stackTraces = false) (kr43 : ∀ (H : Heap) (locs : List Loc) (ls : Array Slot), gC cI cJ cZ cMic cSrc cSt cAI cAJ D ad A s.heap H locs T1 → W p l e { frames := 3, cells := 0, slots := 0, locals := 47 } s m args below meth c H locs 0 0 Q (F0 m 43 ls [.int r1])) : ∀ n : Nat, ∀ (T : AT) (H : Heap) (locs : List Loc) (ls : Array Slot) (l0 : Nat) (l1 : Int32) (l2 : Int32) (l3 : Int32), g_X4_second_b4 n T l0 l1 l2 l3 = some (r1, T1) → gC cI cJ cZ cMic cSrc cSt cAI cAJ D ad A s.heap H locs T → lv_has ls 4 [(0, .ref (ad l0)), (1, .int l1), (2, .int l2), (3, .int l3)] → W p l e { frames := 3, cells := 0, slots := 0, locals := 47 } s m args below meth c H locs 0 0 Q (F0 m 4 ls []) := by
  have hx := E.1
  have hb := E.2.1
  have hts := E.2.2.1
  have hown := E.2.2.2.1
  have hK := E.2.2.2.2
  intro n
  induction n with
  | zero =>
    intro T H locs ls l0 l1 l2 l3 h
    have h : (none : Option (Int32 × AT)) = some (r1, T1) := h
    cases h
  | succ n ih =>
    intro T H locs ls l0 l1 l2 l3 h G hl
    unfold g_X4_second_b4 at h
    refine lv_iload_n hx hb dX4_second_4 rfl (lv_at hl 3 rfl) ?_
    refine lv_iload_n hx hb dX4_second_5 rfl (lv_at hl 1 rfl) ?_
    refine lv_icmp_ge (tgt := 42) hx hb dX4_second_6 (by decide) (fun c2 => ?_) (fun c2 => ?_)
    · have h := oif_pos c2 h
      refine lv_iload_n hx hb dX4_second_42 rfl (lv_at hl 2 rfl) ?_
      rw [(osome2 h).2] at G
      refine lv_to (osome2 h).1 ?_
      exact kr43 _ _ _ G
    · have h := oif_neg c2 h
      refine lv_iload_n hx hb dX4_second_9 rfl (lv_at hl 3 rfl) ?_
      refine lv_aload_n hx hb dX4_second_10 rfl (lv_at hl 0 rfl) ?_
      obtain ⟨g3, h⟩ := oif_some h
      refine c_get E G l0 2 (oO_k g3).1 (cc_o4 (oO_k g3).2) rfl (fun w h => .tail _ (iA_21 h)) (by decide) (.tail _ qA_416) rfl rfl dX4_second_11 ?_
      refine lv_topi (fun v4 ev4 => ?_)
      have h := elet_at ev4 h
      clear ev4
      refine lv_icmp_eq (tgt := 36) hx hb dX4_second_14 (by decide) (fun c5 => ?_) (fun c5 => ?_)
      · have h := oif_pos c5 h
        have hl := lv_sub hl [0, 1, 2, 3] rfl
        exact u_X4_second_b36 E hA hX hN hml hst kr43 ih _ _ _ _ _ _ _ _ h G hl
      · have h := oif_neg c5 h
        refine lv_iload_n hx hb dX4_second_17 rfl (lv_at hl 2 rfl) ?_
        refine lv_iconst (v := (-1)) hx hb dX4_second_18 (by decide) ?_
        refine lv_icmp_eq (tgt := 34) hx hb dX4_second_19 (by decide) (fun c6 => ?_) (fun c6 => ?_)
        · have h := oif_pos c6 h
          have hl := lv_sub hl [0, 1, 3] rfl
          exact u_X4_second_b34 E hA hX hN hml hst kr43 ih _ _ _ _ _ _ _ h G hl
        · have h := oif_neg c6 h
          refine lv_aload_n hx hb dX4_second_22 rfl (lv_at hl 0 rfl) ?_
          obtain ⟨g7, h⟩ := oif_some h
          obtain ⟨n8, en8, h⟩ := obind_some h
          refine c_get E G l0 1 (v := .ref (ad n8)) (oO_k g7).1 (cc_o4 (oO_k g7).2) rfl (fun w h => .tail _ (iA_21 h)) (by decide) (.tail _ qA_408) rfl (by rw [en8]; rfl) dX4_second_23 ?_
          clear en8
          refine lv_iload_n hx hb dX4_second_26 rfl (lv_at hl 3 rfl) ?_
          refine lv_iload_n hx hb dX4_second_27 rfl (lv_at hl 2 rfl) ?_
          obtain ⟨g9, h⟩ := oif_some h
          obtain ⟨r12, T10, eT10, h⟩ := obind2_some h
          refine q_cvi (As := [.int l3, .int l2]) (rest := []) E G hA hX hN hml (u_X10_compare l hst D cI cJ cZ cMic cSrc cSt cAI cAJ ad T n8 l3 l2 eT10) (cwV 2 hts (gaV qA_430 qA_120 qA_121 qA_6 qA_122) rfl rfl rfl (by decide +kernel) ⟨Nat.le_of_ble_eq_true rfl, Nat.le_of_ble_eq_true rfl⟩) (oO_k g9).1 (cc_o10 (oO_k g9).2) rfl rfl hl.1 rfl (lv_room (Nat.le_of_ble_eq_true rfl)) dX4_second_28 ⟨Nat.zero_le _, Nat.zero_le _⟩ (fun q13 T11 H locs hq G => ?_)
          obtain ⟨hq1, hq2⟩ := hq
          rw [hq2] at G
          refine lv_to hq1 ?_
          clear hq1 hq2 eT10
          refine lv_if_le (tgt := 36) hx hb dX4_second_31 (by decide) (fun c14 => ?_) (fun c14 => ?_)
          · have h := oif_pos c14 h
            have hl := lv_sub hl [0, 1, 2, 3] rfl
            exact u_X4_second_b36 E hA hX hN hml hst kr43 ih _ _ _ _ _ _ _ _ h G hl
          · have h := oif_neg c14 h
            have hl := lv_sub hl [0, 1, 3] rfl
            exact u_X4_second_b34 E hA hX hN hml hst kr43 ih _ _ _ _ _ _ _ h G hl
def g_X4_second (T : AT) (o : Nat) (a0 : Int32) : Option (Int32 × AT) := g_X4_second_b4 16384 T o a0 (-1) 0
set_option maxHeartbeats 4000000 in
set_option maxRecDepth 100000 in
theorem u_X4_second (l : Launch) (hst : l.stackTraces = false) (D : va_G) (cI cJ cZ cMic cSrc cSt cAI cAJ : ClassId) (ad : Nat → Nat) (T : AT) (o : Nat) (a0 : Int32) {r1 : Int32} {T1 : AT} (h : g_X4_second T o a0 = some (r1, T1)) : kCi l yX4_second (Cond.code yX4_second cX4_second 4 (some .int) :: wsA) 3 47 cI cJ cZ cMic cSrc cSt cAI cAJ D ad T [.ref (ad o), .int a0] (fun r T9 => r = r1 ∧ T9 = T1) := by
  intro sz
  refine Met.ofW (cc := cX4_second) (maxL := 4) (ret := (some .int)) (by decide) rfl ?_
  intro p e s m args below meth c s₁ B hml hv
  obtain ⟨rfl, hsz, hP, hK, hD0, hX, hN⟩ := hv
  have hx := B.exec
  have hb := B.bytes
  have hr := B.returns
  have hts := atoms_spec (ws := (Cond.code yX4_second cX4_second 4 (some .int) :: wsA)) B.pre
  have hown : s.vm.findClass RX4 = some m.cls := findClass_of_methodNamed B.named
  have hlocks := B.notSynchronized
  subst hsz
  have hD := hD0.self (sz := s.heap.size)
  generalize hAe : va_A (cW ad T.1 (cc cI cJ cZ cMic cSrc cSt cAI cAJ ad T)) s.heap.size = A at hD hX ⊢
  have hA : ∀ q : Nat, s.heap.size ≤ q → A q := fun q h => by rw [← hAe]; exact Or.inr h
  have G : gC cI cJ cZ cMic cSrc cSt cAI cAJ D ad A s.heap s.heap [] T := ⟨hP, hD, va_S.rf⟩
  have E : cE p c cX4_second s m ([.ref (ad o), .int a0] : List Value).toArray (Cond.code yX4_second cX4_second 4 (some .int) :: wsA) D RX4 (CT cI cJ cZ cMic cSrc cSt cAI cAJ) := ⟨hx, hb, hts, hown, hK⟩
  have hl := lv_entry ([.ref (ad o), .int a0]) (n := 4) (Nat.le_of_ble_eq_true rfl)
  rw [lg_entry_eq]
  generalize (lg_sl ([.ref (ad o), .int a0]) ++ List.replicate (4 - (lg_sl ([.ref (ad o), .int a0])).length) Slot.unset).toArray = ls at hl ⊢
  have hl : lv_has ls 4 [(0, .ref (ad o)), (1, .int a0)] := hl
  unfold g_X4_second at h
  refine lv_iconst (v := (-1)) hx hb dX4_second_0 (by decide) ?_
  refine lv_istore_n (lv' := [(2, .int (-1)), (0, .ref (ad o)), (1, .int a0)]) hx hb dX4_second_1 rfl hl (by decide) rfl (fun ls hl => ?_)
  refine lv_iconst (v := 0) hx hb dX4_second_2 (by decide) ?_
  refine lv_istore_n (lv' := [(3, .int 0), (2, .int (-1)), (0, .ref (ad o)), (1, .int a0)]) hx hb dX4_second_3 rfl hl (by decide) rfl (fun ls hl => ?_)
  have hl := lv_sub hl [2, 3, 1, 0] rfl
  exact u_X4_second_b4 E hA hX hN hml hst (fun H locs ls G => W.iret (v := r1) hx hb hr (fun t ht hW => ⟨⟨r1, T1, rfl, ⟨rfl, rfl⟩, ⟨by rw [ht]; exact G.1, va_K.moved hW.alike hK, G.2.1⟩⟩, G.2.2.F ht⟩) G.2.2.2.2 dX4_second_43) _ _ _ _ _ _ _ _ _ h G hl
set_option maxHeartbeats 4000000 in
set_option maxRecDepth 100000 in
theorem s_X4_second_b36 {r1 : Int32} {T1 : AT} {k4 : AT → Nat → Int32 → Int32 → Int32 → Option (Int32 × AT)} (hk4 : ∀ (T : AT) (l0 : Nat) (l1 : Int32) (l2 : Int32) (l3 : Int32), k4 T l0 l1 l2 l3 = some (r1, T1) → SP T T1) : ∀ (T : AT) (l0 : Nat) (l1 : Int32) (l2 : Int32) (l3 : Int32), g_X4_second_b36 k4 T l0 l1 l2 l3 = some (r1, T1) → SP T T1 := by
  intro T l0 l1 l2 l3 h
  have p0 := SP.rf T
  unfold g_X4_second_b36 at h
  obtain ⟨v2, ev2, h⟩ := elet_some h
  exact SP.tr p0 (hk4 _ _ _ _ _ h)
set_option maxHeartbeats 4000000 in
set_option maxRecDepth 100000 in
theorem s_X4_second_b34 {r1 : Int32} {T1 : AT} {k4 : AT → Nat → Int32 → Int32 → Int32 → Option (Int32 × AT)} (hk4 : ∀ (T : AT) (l0 : Nat) (l1 : Int32) (l2 : Int32) (l3 : Int32), k4 T l0 l1 l2 l3 = some (r1, T1) → SP T T1) : ∀ (T : AT) (l0 : Nat) (l1 : Int32) (l3 : Int32), g_X4_second_b34 k4 T l0 l1 l3 = some (r1, T1) → SP T T1 := by
  intro T l0 l1 l3 h
  have p0 := SP.rf T
  unfold g_X4_second_b34 at h
  exact SP.tr p0 (s_X4_second_b36 hk4 _ _ _ _ _ h)
set_option maxHeartbeats 4000000 in
set_option maxRecDepth 100000 in
theorem s_X4_second_b4 {r1 : Int32} {T1 : AT} : ∀ n : Nat, ∀ (T : AT) (l0 : Nat) (l1 : Int32) (l2 : Int32) (l3 : Int32), g_X4_second_b4 n T l0 l1 l2 l3 = some (r1, T1) → SP T T1 := by
  intro n
  induction n with
  | zero =>
    intro T l0 l1 l2 l3 h
    have h : (none : Option (Int32 × AT)) = some (r1, T1) := h
    cases h
  | succ n ih =>
    intro T l0 l1 l2 l3 h
    have p0 := SP.rf T
    unfold g_X4_second_b4 at h
    rcases oif_or h with ⟨c2, h⟩ | ⟨c2, h⟩
    · have h := h
      rw [← (osome2 h).2]
      exact p0
    · have h := h
      obtain ⟨g3, h⟩ := oif_some h
      obtain ⟨v4, -, h⟩ := elet_some h
      rcases oif_or h with ⟨c5, h⟩ | ⟨c5, h⟩
      · have h := h
        exact SP.tr p0 (s_X4_second_b36 ih _ _ _ _ _ h)
      · have h := h
        rcases oif_or h with ⟨c6, h⟩ | ⟨c6, h⟩
        · have h := h
          exact SP.tr p0 (s_X4_second_b34 ih _ _ _ _ h)
        · have h := h
          obtain ⟨g7, h⟩ := oif_some h
          obtain ⟨n8, en8, h⟩ := obind_some h
          obtain ⟨g9, h⟩ := oif_some h
          obtain ⟨r11, T10, eT10, h⟩ := obind2_some h
          have p1 : SP T T10 := SP.tr p0 (s_X10_compare eT10)
          rcases oif_or h with ⟨c12, h⟩ | ⟨c12, h⟩
          · have h := h
            exact SP.tr p1 (s_X4_second_b36 ih _ _ _ _ _ h)
          · have h := h
            exact SP.tr p1 (s_X4_second_b34 ih _ _ _ _ h)
set_option maxHeartbeats 4000000 in
set_option maxRecDepth 100000 in
theorem s_X4_second {T : AT} {o : Nat} {a0 : Int32} {r1 : Int32} {T1 : AT} (h : g_X4_second T o a0 = some (r1, T1)) : SP T T1 := by
  have p0 := SP.rf T
  unfold g_X4_second at h
  exact SP.tr p0 (s_X4_second_b4 _ _ _ _ _ _ h)
def g_X4_sumIn_b53 (k11 : AT → Nat → Nat → Nat → Nat → Int32 → Int32 → Option (AT)) (k24 : AT → Nat → Nat → Nat → Nat → Int32 → Int32 → Int32 → Option (AT)) (T : AT) (l0 : Nat) (l1 : Nat) (l2 : Nat) (l3 : Nat) (l4 : Int32) (l5 : Int32) (l6 : Int32) : Option (AT) := elet (l6 + Int32.ofInt (1)) fun v2 => k24 T l0 l1 l2 l3 l4 l5 v2
def g_X4_sumIn_b24 (k11 : AT → Nat → Nat → Nat → Nat → Int32 → Int32 → Option (AT)) : Nat → AT → Nat → Nat → Nat → Nat → Int32 → Int32 → Int32 → Option (AT)
  | 0, _, _, _, _, _, _, _, _ => none
  | n + 1, T, l0, l1, l2, l3, l4, l5, l6 => oif (aA T l1 100 = true) <| oif (inb 2 (T.2.1 l1).2 = true) <| elet (T.2.2.1 l1 (2 : Int32).toNatClampNeg) fun v4 => if v4 < l6 then (elet (l5 + Int32.ofInt (1)) fun v6 => k11 T l0 l1 l2 l3 l4 v6) else (oif (oO T l0 4 = true) <| obind (T.2.2.2.2 l0 1) fun n8 => oif (oO T l2 1 = true) <| elet (T.2.2.1 l2 3) fun v10 => elet (l5 * v10) fun v11 => elet (v11 + l6) fun v12 => oif (oO T l3 10 = true) <| obind (g_X10_add T l3 l4 n8 v12 (1 : Int32)) fun T14 => g_X4_sumIn_b53 k11 (g_X4_sumIn_b24 k11 n) T14 l0 l1 l2 l3 l4 l5 l6)
def g_X4_sumIn_b11  : Nat → AT → Nat → Nat → Nat → Nat → Int32 → Int32 → Option (AT)
  | 0, _, _, _, _, _, _, _ => none
  | n + 1, T, l0, l1, l2, l3, l4, l5 => oif (aA T l1 100 = true) <| oif (inb 3 (T.2.1 l1).2 = true) <| elet (T.2.2.1 l1 (3 : Int32).toNatClampNeg) fun v4 => if v4 < l5 then (some T) else (oif (aA T l1 100 = true) <| oif (inb 0 (T.2.1 l1).2 = true) <| elet (T.2.2.1 l1 (0 : Int32).toNatClampNeg) fun v8 => g_X4_sumIn_b24 (g_X4_sumIn_b11 n) 16384 T l0 l1 l2 l3 l4 l5 v8)
def g_X4_sumIn (T : AT) (o : Nat) (a0 : Nat) (a1 : Nat) (a2 : Nat) (a3 : Int32) : Option (AT) := oif (oO T a2 10 = true) <| obind (g_X10_clear T a2 a3) fun T3 => oif (aA T3 a0 100 = true) <| oif (inb 1 (T3.2.1 a0).2 = true) <| elet (T3.2.2.1 a0 (1 : Int32).toNatClampNeg) fun v7 => g_X4_sumIn_b11 16384 T3 o a0 a1 a2 a3 v7
set_option maxHeartbeats 4000000 in
set_option maxRecDepth 100000 in
theorem s_X4_sumIn_b53 {T1 : AT} {k11 : AT → Nat → Nat → Nat → Nat → Int32 → Int32 → Option (AT)} {k24 : AT → Nat → Nat → Nat → Nat → Int32 → Int32 → Int32 → Option (AT)} (hk11 : ∀ (T : AT) (l0 : Nat) (l1 : Nat) (l2 : Nat) (l3 : Nat) (l4 : Int32) (l5 : Int32), k11 T l0 l1 l2 l3 l4 l5 = some T1 → GL T T1) (hk24 : ∀ (T : AT) (l0 : Nat) (l1 : Nat) (l2 : Nat) (l3 : Nat) (l4 : Int32) (l5 : Int32) (l6 : Int32), k24 T l0 l1 l2 l3 l4 l5 l6 = some T1 → GL T T1) : ∀ (T : AT) (l0 : Nat) (l1 : Nat) (l2 : Nat) (l3 : Nat) (l4 : Int32) (l5 : Int32) (l6 : Int32), g_X4_sumIn_b53 k11 k24 T l0 l1 l2 l3 l4 l5 l6 = some T1 → GL T T1 := by
  intro T l0 l1 l2 l3 l4 l5 l6 h
  have p0 := GL.rf T
  unfold g_X4_sumIn_b53 at h
  obtain ⟨v2, ev2, h⟩ := elet_some h
  exact GL.tr p0 (hk24 _ _ _ _ _ _ _ _ h)
set_option maxHeartbeats 4000000 in
set_option maxRecDepth 100000 in
theorem s_X4_sumIn_b24 {T1 : AT} {k11 : AT → Nat → Nat → Nat → Nat → Int32 → Int32 → Option (AT)} (hk11 : ∀ (T : AT) (l0 : Nat) (l1 : Nat) (l2 : Nat) (l3 : Nat) (l4 : Int32) (l5 : Int32), k11 T l0 l1 l2 l3 l4 l5 = some T1 → GL T T1) : ∀ n : Nat, ∀ (T : AT) (l0 : Nat) (l1 : Nat) (l2 : Nat) (l3 : Nat) (l4 : Int32) (l5 : Int32) (l6 : Int32), g_X4_sumIn_b24 k11 n T l0 l1 l2 l3 l4 l5 l6 = some T1 → GL T T1 := by
  intro n
  induction n with
  | zero =>
    intro T l0 l1 l2 l3 l4 l5 l6 h
    have h : (none : Option (AT)) = some T1 := h
    cases h
  | succ n ih =>
    intro T l0 l1 l2 l3 l4 l5 l6 h
    have p0 := GL.rf T
    unfold g_X4_sumIn_b24 at h
    obtain ⟨g2, h⟩ := oif_some h
    obtain ⟨g3, h⟩ := oif_some h
    obtain ⟨v4, -, h⟩ := elet_some h
    rcases oif_or h with ⟨c5, h⟩ | ⟨c5, h⟩
    · have h := h
      obtain ⟨v6, ev6, h⟩ := elet_some h
      exact GL.tr p0 (hk11 _ _ _ _ _ _ _ h)
    · have h := h
      obtain ⟨g7, h⟩ := oif_some h
      obtain ⟨n8, en8, h⟩ := obind_some h
      obtain ⟨g9, h⟩ := oif_some h
      obtain ⟨v10, -, h⟩ := elet_some h
      obtain ⟨v11, -, h⟩ := elet_some h
      obtain ⟨v12, -, h⟩ := elet_some h
      obtain ⟨g13, h⟩ := oif_some h
      obtain ⟨T14, eT14, h⟩ := obind_some h
      have p1 : GL T T14 := GL.tr p0 (s_X10_add eT14)
      exact GL.tr p1 (s_X4_sumIn_b53 hk11 ih _ _ _ _ _ _ _ _ h)
set_option maxHeartbeats 4000000 in
set_option maxRecDepth 100000 in
theorem s_X4_sumIn_b11 {T1 : AT} : ∀ n : Nat, ∀ (T : AT) (l0 : Nat) (l1 : Nat) (l2 : Nat) (l3 : Nat) (l4 : Int32) (l5 : Int32), g_X4_sumIn_b11 n T l0 l1 l2 l3 l4 l5 = some T1 → GL T T1 := by
  intro n
  induction n with
  | zero =>
    intro T l0 l1 l2 l3 l4 l5 h
    have h : (none : Option (AT)) = some T1 := h
    cases h
  | succ n ih =>
    intro T l0 l1 l2 l3 l4 l5 h
    have p0 := GL.rf T
    unfold g_X4_sumIn_b11 at h
    obtain ⟨g2, h⟩ := oif_some h
    obtain ⟨g3, h⟩ := oif_some h
    obtain ⟨v4, -, h⟩ := elet_some h
    rcases oif_or h with ⟨c5, h⟩ | ⟨c5, h⟩
    · have h := h
      rw [← osome1 h]
      exact p0
    · have h := h
      obtain ⟨g6, h⟩ := oif_some h
      obtain ⟨g7, h⟩ := oif_some h
      obtain ⟨v8, -, h⟩ := elet_some h
      exact GL.tr p0 (s_X4_sumIn_b24 ih _ _ _ _ _ _ _ _ _ h)
set_option maxHeartbeats 4000000 in
set_option maxRecDepth 100000 in
theorem s_X4_sumIn {T : AT} {o : Nat} {a0 : Nat} {a1 : Nat} {a2 : Nat} {a3 : Int32} {T1 : AT} (h : g_X4_sumIn T o a0 a1 a2 a3 = some T1) : GL T T1 := by
  have p0 := GL.rf T
  unfold g_X4_sumIn at h
  obtain ⟨g2, h⟩ := oif_some h
  obtain ⟨T3, eT3, h⟩ := obind_some h
  have p1 : GL T T3 := GL.tr p0 (gl_sp (s_X10_clear eT3))
  obtain ⟨g5, h⟩ := oif_some h
  obtain ⟨g6, h⟩ := oif_some h
  obtain ⟨v7, -, h⟩ := elet_some h
  exact GL.tr p1 (s_X4_sumIn_b11 _ _ _ _ _ _ _ _ h)
set_option maxHeartbeats 4000000 in
set_option maxRecDepth 100000 in
theorem a_X4_sumIn_b53 {p : Program} {l : Launch} {e : Env} {s : State} {m : MethodId} {args : Array Value} {below : List Frame} {meth : Method} {c : Code} {Q : State → Prop} {D : va_G} {A : Nat → Prop} {cI cJ cZ cMic cSrc cSt cAI cAJ : ClassId} {ad0 : Nat → Nat} {T0 : AT} {T1 : AT} (E : cE p c cX4_sumIn s m args (Cond.code yX4_sumIn cX4_sumIn 7 none :: wsA) D RX4 (CT cI cJ cZ cMic cSrc cSt cAI cAJ)) (hA : ∀ q : Nat, s.heap.size ≤ q → A q) (hX : xT A s) (hN : nX s) (hml : c.maxLocals = 7) (hst : l.stackTraces = false) (kr65 : ∀ (ad : Nat → Nat) (H : Heap) (locs : List Loc) (ls : Array Slot), (∀ n, n < T0.1 → ad n = ad0 n) → gC cI cJ cZ cMic cSrc cSt cAI cAJ D ad A s.heap H locs T1 → W p l e { frames := 4, cells := T1.1 - T0.1, slots := sg T1 - sg T0, locals := 74 } s m args below meth c H locs (T1.1 - T0.1) (sg T1 - sg T0) Q (F0 m 65 ls [])) {k11 : AT → Nat → Nat → Nat → Nat → Int32 → Int32 → Option (AT)} {k24 : AT → Nat → Nat → Nat → Nat → Int32 → Int32 → Int32 → Option (AT)} (hs11 : ∀ (T : AT) (l0 : Nat) (l1 : Nat) (l2 : Nat) (l3 : Nat) (l4 : Int32) (l5 : Int32), k11 T l0 l1 l2 l3 l4 l5 = some T1 → GL T T1) (hk11 : ∀ (T : AT) (ad : Nat → Nat) (H : Heap) (locs : List Loc) (ls : Array Slot) (l0 : Nat) (l1 : Nat) (l2 : Nat) (l3 : Nat) (l4 : Int32) (l5 : Int32), k11 T l0 l1 l2 l3 l4 l5 = some T1 → GL T0 T → RC T → (∀ n, n < T0.1 → ad n = ad0 n) → l0 < T.1 → l1 < T.1 → l2 < T.1 → l3 < T.1 → gC cI cJ cZ cMic cSrc cSt cAI cAJ D ad A s.heap H locs T → lv_has ls 7 [(0, .ref (ad l0)), (1, .ref (ad l1)), (2, .ref (ad l2)), (3, .ref (ad l3)), (4, .int l4), (5, .int l5)] → W p l e { frames := 4, cells := T1.1 - T0.1, slots := sg T1 - sg T0, locals := 74 } s m args below meth c H locs (T.1 - T0.1) (sg T - sg T0) Q (F0 m 11 ls [])) (hs24 : ∀ (T : AT) (l0 : Nat) (l1 : Nat) (l2 : Nat) (l3 : Nat) (l4 : Int32) (l5 : Int32) (l6 : Int32), k24 T l0 l1 l2 l3 l4 l5 l6 = some T1 → GL T T1) (hk24 : ∀ (T : AT) (ad : Nat → Nat) (H : Heap) (locs : List Loc) (ls : Array Slot) (l0 : Nat) (l1 : Nat) (l2 : Nat) (l3 : Nat) (l4 : Int32) (l5 : Int32) (l6 : Int32), k24 T l0 l1 l2 l3 l4 l5 l6 = some T1 → GL T0 T → RC T → (∀ n, n < T0.1 → ad n = ad0 n) → l0 < T.1 → l1 < T.1 → l2 < T.1 → l3 < T.1 → gC cI cJ cZ cMic cSrc cSt cAI cAJ D ad A s.heap H locs T → lv_has ls 7 [(0, .ref (ad l0)), (1, .ref (ad l1)), (2, .ref (ad l2)), (3, .ref (ad l3)), (4, .int l4), (5, .int l5), (6, .int l6)] → W p l e { frames := 4, cells := T1.1 - T0.1, slots := sg T1 - sg T0, locals := 74 } s m args below meth c H locs (T.1 - T0.1) (sg T - sg T0) Q (F0 m 24 ls [])) : ∀ (T : AT) (ad : Nat → Nat) (H : Heap) (locs : List Loc) (ls : Array Slot) (l0 : Nat) (l1 : Nat) (l2 : Nat) (l3 : Nat) (l4 : Int32) (l5 : Int32) (l6 : Int32), g_X4_sumIn_b53 k11 k24 T l0 l1 l2 l3 l4 l5 l6 = some T1 → GL T0 T → RC T → (∀ n, n < T0.1 → ad n = ad0 n) → l0 < T.1 → l1 < T.1 → l2 < T.1 → l3 < T.1 → gC cI cJ cZ cMic cSrc cSt cAI cAJ D ad A s.heap H locs T → lv_has ls 7 [(0, .ref (ad l0)), (1, .ref (ad l1)), (2, .ref (ad l2)), (3, .ref (ad l3)), (4, .int l4), (5, .int l5), (6, .int l6)] → W p l e { frames := 4, cells := T1.1 - T0.1, slots := sg T1 - sg T0, locals := 74 } s m args below meth c H locs (T.1 - T0.1) (sg T - sg T0) Q (F0 m 53 ls []) := by
  have hx := E.1
  have hb := E.2.1
  have hts := E.2.2.1
  have hown := E.2.2.2.1
  have hK := E.2.2.2.2
  intro T ad H locs ls l0 l1 l2 l3 l4 l5 l6 h hgl hrc had h_l0 h_l1 h_l2 h_l3 G hl
  have hT1 := s_X4_sumIn_b53 hs11 hs24 _ _ _ _ _ _ _ _ h
  have hcs := cs_ok hgl hT1
  have cp0 := cpr0 hrc
  unfold g_X4_sumIn_b53 at h
  obtain ⟨v2, ev2, h⟩ := elet_some h
  refine lv_iinc (v := v2) (lv' := [(6, .int v2), (0, .ref (ad l0)), (1, .ref (ad l1)), (2, .ref (ad l2)), (3, .ref (ad l3)), (4, .int l4), (5, .int l5)]) hx hb dX4_sumIn_53 hl (k := 6) rfl ev2.symm (by decide) rfl (fun ls hl => ?_)
  refine lv_goto (tgt := 24) hx hb dX4_sumIn_56 (by decide) ?_
  have hl := lv_sub hl [1, 2, 3, 4, 5, 6, 0] rfl
  refine w_cast (c2 := T.1 - T0.1) (s2 := sg T - sg T0) (by rw [cp0.1] <;> rfl) (by rw [sg_cpr cp0] <;> rfl) ?_
  exact hk24 _ _ _ _ _ _ _ _ _ _ _ _ h (gl_cpr hgl cp0) cp0.2.2 had (by rw [cp0.1]; exact h_l0) (by rw [cp0.1]; exact h_l1) (by rw [cp0.1]; exact h_l2) (by rw [cp0.1]; exact h_l3) G hl
set_option maxHeartbeats 4000000 in
set_option maxRecDepth 100000 in
theorem a_X4_sumIn_b24 {p : Program} {l : Launch} {e : Env} {s : State} {m : MethodId} {args : Array Value} {below : List Frame} {meth : Method} {c : Code} {Q : State → Prop} {D : va_G} {A : Nat → Prop} {cI cJ cZ cMic cSrc cSt cAI cAJ : ClassId} {ad0 : Nat → Nat} {T0 : AT} {T1 : AT} (E : cE p c cX4_sumIn s m args (Cond.code yX4_sumIn cX4_sumIn 7 none :: wsA) D RX4 (CT cI cJ cZ cMic cSrc cSt cAI cAJ)) (hA : ∀ q : Nat, s.heap.size ≤ q → A q) (hX : xT A s) (hN : nX s) (hml : c.maxLocals = 7) (hst : l.stackTraces = false) (kr65 : ∀ (ad : Nat → Nat) (H : Heap) (locs : List Loc) (ls : Array Slot), (∀ n, n < T0.1 → ad n = ad0 n) → gC cI cJ cZ cMic cSrc cSt cAI cAJ D ad A s.heap H locs T1 → W p l e { frames := 4, cells := T1.1 - T0.1, slots := sg T1 - sg T0, locals := 74 } s m args below meth c H locs (T1.1 - T0.1) (sg T1 - sg T0) Q (F0 m 65 ls [])) {k11 : AT → Nat → Nat → Nat → Nat → Int32 → Int32 → Option (AT)} (hs11 : ∀ (T : AT) (l0 : Nat) (l1 : Nat) (l2 : Nat) (l3 : Nat) (l4 : Int32) (l5 : Int32), k11 T l0 l1 l2 l3 l4 l5 = some T1 → GL T T1) (hk11 : ∀ (T : AT) (ad : Nat → Nat) (H : Heap) (locs : List Loc) (ls : Array Slot) (l0 : Nat) (l1 : Nat) (l2 : Nat) (l3 : Nat) (l4 : Int32) (l5 : Int32), k11 T l0 l1 l2 l3 l4 l5 = some T1 → GL T0 T → RC T → (∀ n, n < T0.1 → ad n = ad0 n) → l0 < T.1 → l1 < T.1 → l2 < T.1 → l3 < T.1 → gC cI cJ cZ cMic cSrc cSt cAI cAJ D ad A s.heap H locs T → lv_has ls 7 [(0, .ref (ad l0)), (1, .ref (ad l1)), (2, .ref (ad l2)), (3, .ref (ad l3)), (4, .int l4), (5, .int l5)] → W p l e { frames := 4, cells := T1.1 - T0.1, slots := sg T1 - sg T0, locals := 74 } s m args below meth c H locs (T.1 - T0.1) (sg T - sg T0) Q (F0 m 11 ls [])) : ∀ n : Nat, ∀ (T : AT) (ad : Nat → Nat) (H : Heap) (locs : List Loc) (ls : Array Slot) (l0 : Nat) (l1 : Nat) (l2 : Nat) (l3 : Nat) (l4 : Int32) (l5 : Int32) (l6 : Int32), g_X4_sumIn_b24 k11 n T l0 l1 l2 l3 l4 l5 l6 = some T1 → GL T0 T → RC T → (∀ n, n < T0.1 → ad n = ad0 n) → l0 < T.1 → l1 < T.1 → l2 < T.1 → l3 < T.1 → gC cI cJ cZ cMic cSrc cSt cAI cAJ D ad A s.heap H locs T → lv_has ls 7 [(0, .ref (ad l0)), (1, .ref (ad l1)), (2, .ref (ad l2)), (3, .ref (ad l3)), (4, .int l4), (5, .int l5), (6, .int l6)] → W p l e { frames := 4, cells := T1.1 - T0.1, slots := sg T1 - sg T0, locals := 74 } s m args below meth c H locs (T.1 - T0.1) (sg T - sg T0) Q (F0 m 24 ls []) := by
  have hx := E.1
  have hb := E.2.1
  have hts := E.2.2.1
  have hown := E.2.2.2.1
  have hK := E.2.2.2.2
  intro n
  induction n with
  | zero =>
    intro T ad H locs ls l0 l1 l2 l3 l4 l5 l6 h
    have h : (none : Option (AT)) = some T1 := h
    cases h
  | succ n ih =>
    intro T ad H locs ls l0 l1 l2 l3 l4 l5 l6 h hgl hrc had h_l0 h_l1 h_l2 h_l3 G hl
    have hT1 := s_X4_sumIn_b24 hs11 _ _ _ _ _ _ _ _ _ h
    have hcs := cs_ok hgl hT1
    have cp0 := cpr0 hrc
    unfold g_X4_sumIn_b24 at h
    refine lv_iload hx hb dX4_sumIn_24 (lv_at hl 6 rfl) ?_
    refine lv_aload_n hx hb dX4_sumIn_26 rfl (lv_at hl 1 rfl) ?_
    refine lv_iconst (v := 2) hx hb dX4_sumIn_27 (by decide) ?_
    obtain ⟨g2, h⟩ := oif_some h
    obtain ⟨g3, h⟩ := oif_some h
    refine c_iald E G l1 0 (k := (2 : Int32).toNatClampNeg) (aA_k g2).1 (cc_a100 (aA_k g2).2.1) rfl (inb_k g3).1 (inb_k g3).2 (aA_k g2).2.2 dX4_sumIn_28 ?_
    refine lv_topi (fun v4 ev4 => ?_)
    have h := elet_at ev4 h
    clear ev4
    refine lv_icmp_gt (tgt := 59) hx hb dX4_sumIn_29 (by decide) (fun c5 => ?_) (fun c5 => ?_)
    · have h := oif_pos c5 h
      obtain ⟨v6, ev6, h⟩ := elet_some h
      refine lv_iinc (v := v6) (lv' := [(5, .int v6), (0, .ref (ad l0)), (1, .ref (ad l1)), (2, .ref (ad l2)), (3, .ref (ad l3)), (4, .int l4), (6, .int l6)]) hx hb dX4_sumIn_59 hl (k := 5) rfl ev6.symm (by decide) rfl (fun ls hl => ?_)
      refine lv_goto (tgt := 11) hx hb dX4_sumIn_62 (by decide) ?_
      have hl := lv_sub hl [1, 2, 3, 4, 5, 0] rfl
      refine w_cast (c2 := T.1 - T0.1) (s2 := sg T - sg T0) (by rw [cp0.1] <;> rfl) (by rw [sg_cpr cp0] <;> rfl) ?_
      exact hk11 _ _ _ _ _ _ _ _ _ _ _ h (gl_cpr hgl cp0) cp0.2.2 had (by rw [cp0.1]; exact h_l0) (by rw [cp0.1]; exact h_l1) (by rw [cp0.1]; exact h_l2) (by rw [cp0.1]; exact h_l3) G hl
    · have h := oif_neg c5 h
      refine lv_aload_n hx hb dX4_sumIn_32 rfl (lv_at hl 3 rfl) ?_
      refine lv_iload hx hb dX4_sumIn_33 (lv_at hl 4 rfl) ?_
      refine lv_aload_n hx hb dX4_sumIn_35 rfl (lv_at hl 0 rfl) ?_
      obtain ⟨g7, h⟩ := oif_some h
      obtain ⟨n8, en8, h⟩ := obind_some h
      have h_n8 : n8 < T.1 := by rw [← cp0.1]; exact cp0.2.2 _ _ _ en8
      refine c_get E G l0 1 (v := .ref (ad n8)) (oO_k g7).1 (cc_o4 (oO_k g7).2) rfl (fun w h => .tail _ (iA_21 h)) (by decide) (.tail _ qA_408) rfl (by rw [en8]; rfl) dX4_sumIn_36 ?_
      clear en8
      refine lv_iload hx hb dX4_sumIn_39 (lv_at hl 5 rfl) ?_
      refine lv_aload_n hx hb dX4_sumIn_41 rfl (lv_at hl 2 rfl) ?_
      obtain ⟨g9, h⟩ := oif_some h
      refine c_get E G l2 3 (oO_k g9).1 (cc_o1 (oO_k g9).2) rfl (fun w h => .tail _ (iA_15 h)) (by decide) (.tail _ qA_428) rfl rfl dX4_sumIn_42 ?_
      refine lv_topi (fun v10 ev10 => ?_)
      have h := elet_at ev10 h
      clear ev10
      refine lv_imul hx hb dX4_sumIn_45 ?_
      refine lv_topi (fun v11 ev11 => ?_)
      have h := elet_at ev11 h
      clear ev11
      refine lv_iload hx hb dX4_sumIn_46 (lv_at hl 6 rfl) ?_
      refine lv_iadd hx hb dX4_sumIn_48 ?_
      refine lv_topi (fun v12 ev12 => ?_)
      have h := elet_at ev12 h
      clear ev12
      refine lv_iconst (v := 1) hx hb dX4_sumIn_49 (by decide) ?_
      obtain ⟨g13, h⟩ := oif_some h
      obtain ⟨T14, eT14, h⟩ := obind_some h
      have hg2 := s_X10_add eT14
      have hrc2 := hg2.2.2 cp0.2.2
      have hT2 := s_X4_sumIn_b53 hs11 (s_X4_sumIn_b24 hs11 n) _ _ _ _ _ _ _ _ h
      refine q_avv (As := [.int l4, .ref (ad n8), .int v12, .int 1]) (rest := []) E G hA hX hN hml (a_X10_add l hst D cI cJ cZ cMic cSrc cSt cAI cAJ ad T l3 l4 n8 v12 (1 : Int32) eT14 cp0.2.2 (by rw [cp0.1]; exact h_l3) (by rw [cp0.1]; exact h_n8)) (cwV 4 hts (gaV qA_440 qA_151 qA_152 qA_6 qA_153) rfl rfl rfl (by decide +kernel) ⟨Nat.le_of_ble_eq_true rfl, Nat.le_of_ble_eq_true rfl⟩) (oO_k g13).1 (cc_o10 (oO_k g13).2) rfl rfl hl.1 rfl (lv_room (Nat.le_of_ble_eq_true rfl)) dX4_sumIn_50 (cs_av hgl cp0 hg2 hT2) (fun ad2 H locs hga G => ?_)
      refine w_cast (c2 := T14.1 - T0.1) (s2 := sg T14 - sg T0) (cs_f1 hgl cp0 hg2) (cs_f2 hgl cp0 hg2) ?_
      have hl := lv_sub hl [0, 1, 2, 3, 4, 5, 6] rfl
      rw [show ad l0 = ad2 l0 from (hga l0 (by rw [cp0.1]; exact h_l0)).symm] at hl
      rw [show ad l1 = ad2 l1 from (hga l1 (by rw [cp0.1]; exact h_l1)).symm] at hl
      rw [show ad l2 = ad2 l2 from (hga l2 (by rw [cp0.1]; exact h_l2)).symm] at hl
      rw [show ad l3 = ad2 l3 from (hga l3 (by rw [cp0.1]; exact h_l3)).symm] at hl
      exact a_X4_sumIn_b53 E hA hX hN hml hst kr65 hs11 hk11 (s_X4_sumIn_b24 hs11 n) ih _ _ _ _ _ _ _ _ _ _ _ _ h (GL.tr (gl_cpr hgl cp0) hg2) hrc2 (fun n hn => (hga n (by rw [cp0.1]; exact Nat.lt_of_lt_of_le hn hgl.1)).trans (had n hn)) (Nat.lt_of_lt_of_le (by rw [cp0.1]; exact h_l0) hg2.1) (Nat.lt_of_lt_of_le (by rw [cp0.1]; exact h_l1) hg2.1) (Nat.lt_of_lt_of_le (by rw [cp0.1]; exact h_l2) hg2.1) (Nat.lt_of_lt_of_le (by rw [cp0.1]; exact h_l3) hg2.1) G hl
set_option maxHeartbeats 4000000 in
set_option maxRecDepth 100000 in
theorem a_X4_sumIn_b11 {p : Program} {l : Launch} {e : Env} {s : State} {m : MethodId} {args : Array Value} {below : List Frame} {meth : Method} {c : Code} {Q : State → Prop} {D : va_G} {A : Nat → Prop} {cI cJ cZ cMic cSrc cSt cAI cAJ : ClassId} {ad0 : Nat → Nat} {T0 : AT} {T1 : AT} (E : cE p c cX4_sumIn s m args (Cond.code yX4_sumIn cX4_sumIn 7 none :: wsA) D RX4 (CT cI cJ cZ cMic cSrc cSt cAI cAJ)) (hA : ∀ q : Nat, s.heap.size ≤ q → A q) (hX : xT A s) (hN : nX s) (hml : c.maxLocals = 7) (hst : l.stackTraces = false) (kr65 : ∀ (ad : Nat → Nat) (H : Heap) (locs : List Loc) (ls : Array Slot), (∀ n, n < T0.1 → ad n = ad0 n) → gC cI cJ cZ cMic cSrc cSt cAI cAJ D ad A s.heap H locs T1 → W p l e { frames := 4, cells := T1.1 - T0.1, slots := sg T1 - sg T0, locals := 74 } s m args below meth c H locs (T1.1 - T0.1) (sg T1 - sg T0) Q (F0 m 65 ls [])) : ∀ n : Nat, ∀ (T : AT) (ad : Nat → Nat) (H : Heap) (locs : List Loc) (ls : Array Slot) (l0 : Nat) (l1 : Nat) (l2 : Nat) (l3 : Nat) (l4 : Int32) (l5 : Int32), g_X4_sumIn_b11 n T l0 l1 l2 l3 l4 l5 = some T1 → GL T0 T → RC T → (∀ n, n < T0.1 → ad n = ad0 n) → l0 < T.1 → l1 < T.1 → l2 < T.1 → l3 < T.1 → gC cI cJ cZ cMic cSrc cSt cAI cAJ D ad A s.heap H locs T → lv_has ls 7 [(0, .ref (ad l0)), (1, .ref (ad l1)), (2, .ref (ad l2)), (3, .ref (ad l3)), (4, .int l4), (5, .int l5)] → W p l e { frames := 4, cells := T1.1 - T0.1, slots := sg T1 - sg T0, locals := 74 } s m args below meth c H locs (T.1 - T0.1) (sg T - sg T0) Q (F0 m 11 ls []) := by
  have hx := E.1
  have hb := E.2.1
  have hts := E.2.2.1
  have hown := E.2.2.2.1
  have hK := E.2.2.2.2
  intro n
  induction n with
  | zero =>
    intro T ad H locs ls l0 l1 l2 l3 l4 l5 h
    have h : (none : Option (AT)) = some T1 := h
    cases h
  | succ n ih =>
    intro T ad H locs ls l0 l1 l2 l3 l4 l5 h hgl hrc had h_l0 h_l1 h_l2 h_l3 G hl
    have hT1 := s_X4_sumIn_b11 _ _ _ _ _ _ _ _ h
    have hcs := cs_ok hgl hT1
    have cp0 := cpr0 hrc
    unfold g_X4_sumIn_b11 at h
    refine lv_iload hx hb dX4_sumIn_11 (lv_at hl 5 rfl) ?_
    refine lv_aload_n hx hb dX4_sumIn_13 rfl (lv_at hl 1 rfl) ?_
    refine lv_iconst (v := 3) hx hb dX4_sumIn_14 (by decide) ?_
    obtain ⟨g2, h⟩ := oif_some h
    obtain ⟨g3, h⟩ := oif_some h
    refine c_iald E G l1 0 (k := (3 : Int32).toNatClampNeg) (aA_k g2).1 (cc_a100 (aA_k g2).2.1) rfl (inb_k g3).1 (inb_k g3).2 (aA_k g2).2.2 dX4_sumIn_15 ?_
    refine lv_topi (fun v4 ev4 => ?_)
    have h := elet_at ev4 h
    clear ev4
    refine lv_icmp_gt (tgt := 65) hx hb dX4_sumIn_16 (by decide) (fun c5 => ?_) (fun c5 => ?_)
    · have h := oif_pos c5 h
      rw [osome1 h] at G
      refine w_cast (c2 := T1.1 - T0.1) (s2 := sg T1 - sg T0) (by rw [← osome1 h, cp0.1] <;> rfl) (by rw [← osome1 h, sg_cpr cp0] <;> rfl) ?_
      exact kr65 ad _ _ _ had G
    · have h := oif_neg c5 h
      refine lv_aload_n hx hb dX4_sumIn_19 rfl (lv_at hl 1 rfl) ?_
      refine lv_iconst (v := 0) hx hb dX4_sumIn_20 (by decide) ?_
      obtain ⟨g6, h⟩ := oif_some h
      obtain ⟨g7, h⟩ := oif_some h
      refine c_iald E G l1 0 (k := (0 : Int32).toNatClampNeg) (aA_k g6).1 (cc_a100 (aA_k g6).2.1) rfl (inb_k g7).1 (inb_k g7).2 (aA_k g6).2.2 dX4_sumIn_21 ?_
      refine lv_topi (fun v8 ev8 => ?_)
      have h := elet_at ev8 h
      clear ev8
      refine lv_istore (lv' := [(6, .int v8), (0, .ref (ad l0)), (1, .ref (ad l1)), (2, .ref (ad l2)), (3, .ref (ad l3)), (4, .int l4), (5, .int l5)]) hx hb dX4_sumIn_22 hl (by decide) rfl (fun ls hl => ?_)
      have hl := lv_sub hl [1, 2, 3, 4, 5, 6, 0] rfl
      refine w_cast (c2 := T.1 - T0.1) (s2 := sg T - sg T0) (by rw [cp0.1] <;> rfl) (by rw [sg_cpr cp0] <;> rfl) ?_
      exact a_X4_sumIn_b24 E hA hX hN hml hst kr65 (s_X4_sumIn_b11 n) ih _ _ _ _ _ _ _ _ _ _ _ _ _ h (gl_cpr hgl cp0) cp0.2.2 had (by rw [cp0.1]; exact h_l0) (by rw [cp0.1]; exact h_l1) (by rw [cp0.1]; exact h_l2) (by rw [cp0.1]; exact h_l3) G hl
set_option maxHeartbeats 4000000 in
set_option maxRecDepth 100000 in
theorem a_X4_sumIn (l : Launch) (hst : l.stackTraces = false) (D : va_G) (cI cJ cZ cMic cSrc cSt cAI cAJ : ClassId) (ad : Nat → Nat) (T : AT) (o : Nat) (a0 : Nat) (a1 : Nat) (a2 : Nat) (a3 : Int32) {T1 : AT} (h : g_X4_sumIn T o a0 a1 a2 a3 = some T1) (hrc : RC T) (h_o : o < T.1) (h_a0 : a0 < T.1) (h_a1 : a1 < T.1) (h_a2 : a2 < T.1) : kAv l yX4_sumIn (Cond.code yX4_sumIn cX4_sumIn 7 none :: wsA) 4 74 cI cJ cZ cMic cSrc cSt cAI cAJ D ad T [.ref (ad o), .ref (ad a0), .ref (ad a1), .ref (ad a2), .int a3] T1 := by
  intro sz
  refine Met.ofW (cc := cX4_sumIn) (maxL := 7) (ret := none) (by decide) rfl ?_
  intro p e s m args below meth c s₁ B hml hv
  obtain ⟨rfl, hsz, hP, hK, hD0, hX, hN⟩ := hv
  have hx := B.exec
  have hb := B.bytes
  have hr := B.returns
  have hts := atoms_spec (ws := (Cond.code yX4_sumIn cX4_sumIn 7 none :: wsA)) B.pre
  have hown : s.vm.findClass RX4 = some m.cls := findClass_of_methodNamed B.named
  have hlocks := B.notSynchronized
  subst hsz
  have hD := hD0.self (sz := s.heap.size)
  generalize hAe : va_A (cW ad T.1 (cc cI cJ cZ cMic cSrc cSt cAI cAJ ad T)) s.heap.size = A at hD hX ⊢
  have hA : ∀ q : Nat, s.heap.size ≤ q → A q := fun q h => by rw [← hAe]; exact Or.inr h
  have G : gC cI cJ cZ cMic cSrc cSt cAI cAJ D ad A s.heap s.heap [] T := ⟨hP, hD, va_S.rf⟩
  have E : cE p c cX4_sumIn s m ([.ref (ad o), .ref (ad a0), .ref (ad a1), .ref (ad a2), .int a3] : List Value).toArray (Cond.code yX4_sumIn cX4_sumIn 7 none :: wsA) D RX4 (CT cI cJ cZ cMic cSrc cSt cAI cAJ) := ⟨hx, hb, hts, hown, hK⟩
  have hl := lv_entry ([.ref (ad o), .ref (ad a0), .ref (ad a1), .ref (ad a2), .int a3]) (n := 7) (Nat.le_of_ble_eq_true rfl)
  rw [lg_entry_eq]
  generalize (lg_sl ([.ref (ad o), .ref (ad a0), .ref (ad a1), .ref (ad a2), .int a3]) ++ List.replicate (7 - (lg_sl ([.ref (ad o), .ref (ad a0), .ref (ad a1), .ref (ad a2), .int a3])).length) Slot.unset).toArray = ls at hl ⊢
  have hl : lv_has ls 7 [(0, .ref (ad o)), (1, .ref (ad a0)), (2, .ref (ad a1)), (3, .ref (ad a2)), (4, .int a3)] := hl
  have hgl := GL.rf T
  have had : ∀ n, n < T.1 → ad n = ad n := fun _ _ => rfl
  have hT1 := s_X4_sumIn h
  have hcs := cs_ok hgl hT1
  refine w_cast (Nat.sub_self T.1).symm (Nat.sub_self (sg T)).symm ?_
  have cp0 := cpr0 hrc
  unfold g_X4_sumIn at h
  refine lv_aload_n hx hb dX4_sumIn_0 rfl (lv_at hl 3 rfl) ?_
  refine lv_iload hx hb dX4_sumIn_1 (lv_at hl 4 rfl) ?_
  obtain ⟨g2, h⟩ := oif_some h
  obtain ⟨T3, eT3, h⟩ := obind_some h
  refine q_cvv (As := [.int a3]) (rest := []) E G hA hX hN hml (u_X10_clear l hst D cI cJ cZ cMic cSrc cSt cAI cAJ ad T a2 a3 eT3) (cwV 1 hts (gaV qA_439 qA_66 qA_67 qA_6 qA_68) rfl rfl rfl (by decide +kernel) ⟨Nat.le_of_ble_eq_true rfl, Nat.le_of_ble_eq_true rfl⟩) (oO_k g2).1 (cc_o10 (oO_k g2).2) rfl rfl hl.1 rfl (lv_room (Nat.le_of_ble_eq_true rfl)) dX4_sumIn_3 hcs (fun T4 H locs hq G => ?_)
  rw [hq] at G
  clear hq
  have cp1 := cpr_sp cp0 (s_X10_clear eT3)
  refine lv_aload_n hx hb dX4_sumIn_6 rfl (lv_at hl 1 rfl) ?_
  refine lv_iconst (v := 1) hx hb dX4_sumIn_7 (by decide) ?_
  obtain ⟨g5, h⟩ := oif_some h
  obtain ⟨g6, h⟩ := oif_some h
  refine c_iald E G a0 0 (k := (1 : Int32).toNatClampNeg) (aA_k g5).1 (cc_a100 (aA_k g5).2.1) rfl (inb_k g6).1 (inb_k g6).2 (aA_k g5).2.2 dX4_sumIn_8 ?_
  refine lv_topi (fun v7 ev7 => ?_)
  have h := elet_at ev7 h
  clear ev7
  refine lv_istore (lv' := [(5, .int v7), (0, .ref (ad o)), (1, .ref (ad a0)), (2, .ref (ad a1)), (3, .ref (ad a2)), (4, .int a3)]) hx hb dX4_sumIn_9 hl (by decide) rfl (fun ls hl => ?_)
  have hl := lv_sub hl [1, 2, 3, 4, 5, 0] rfl
  refine w_cast (c2 := T3.1 - T.1) (s2 := sg T3 - sg T) (by rw [cp1.1] <;> rfl) (by rw [sg_cpr cp1] <;> rfl) ?_
  exact a_X4_sumIn_b11 E hA hX hN hml hst (fun ad H locs ls had G => W.vret hx hb hr (fun t ht hW => ⟨⟨(T1, ad), rfl, ⟨rfl, had⟩, ⟨by rw [ht]; exact G.1, va_K.moved hW.alike hK, G.2.1⟩⟩, G.2.2.F ht⟩) G.2.2.2.2 dX4_sumIn_65) _ _ _ _ _ _ _ _ _ _ _ _ h (gl_cpr hgl cp1) cp1.2.2 had (by rw [cp1.1]; exact h_o) (by rw [cp1.1]; exact h_a0) (by rw [cp1.1]; exact h_a1) (by rw [cp1.1]; exact h_a2) G hl
def g_X10_ranked_b47 (k2 : AT → Nat → Int32 → Int32 → Int32 → Option (Int32 × AT)) (k13 : AT → Nat → Int32 → Int32 → Int32 → Int32 → Int32 → Option (Int32 × AT)) (T : AT) (l0 : Nat) (l1 : Int32) (l2 : Int32) (l3 : Int32) (l4 : Int32) (l5 : Int32) : Option (Int32 × AT) := elet (l5 + Int32.ofInt (1)) fun v2 => k13 T l0 l1 l2 l3 l4 v2
set_option maxHeartbeats 4000000 in
set_option maxRecDepth 100000 in
theorem u_X10_ranked_b47 {p : Program} {l : Launch} {e : Env} {s : State} {m : MethodId} {args : Array Value} {below : List Frame} {meth : Method} {c : Code} {Q : State → Prop} {D : va_G} {A : Nat → Prop} {cI cJ cZ cMic cSrc cSt cAI cAJ : ClassId} {ad : Nat → Nat} {r1 : Int32} {T1 : AT} (E : cE p c cX10_ranked s m args (Cond.code yX10_ranked cX10_ranked 7 (some .int) :: wsA) D RX10 (CT cI cJ cZ cMic cSrc cSt cAI cAJ)) (hA : ∀ q : Nat, s.heap.size ≤ q → A q) (hX : xT A s) (hN : nX s) (hml : c.maxLocals = 7) (hst : l.stackTraces = false) (kr60 : ∀ (H : Heap) (locs : List Loc) (ls : Array Slot), gC cI cJ cZ cMic cSrc cSt cAI cAJ D ad A s.heap H locs T1 → W p l e { frames := 3, cells := 0, slots := 0, locals := 47 } s m args below meth c H locs 0 0 Q (F0 m 60 ls [.int r1])) (kr68 : ∀ (H : Heap) (locs : List Loc) (ls : Array Slot), gC cI cJ cZ cMic cSrc cSt cAI cAJ D ad A s.heap H locs T1 → W p l e { frames := 3, cells := 0, slots := 0, locals := 47 } s m args below meth c H locs 0 0 Q (F0 m 68 ls [.int r1])) {k2 : AT → Nat → Int32 → Int32 → Int32 → Option (Int32 × AT)} {k13 : AT → Nat → Int32 → Int32 → Int32 → Int32 → Int32 → Option (Int32 × AT)} (hk2 : ∀ (T : AT) (H : Heap) (locs : List Loc) (ls : Array Slot) (l0 : Nat) (l1 : Int32) (l2 : Int32) (l3 : Int32), k2 T l0 l1 l2 l3 = some (r1, T1) → gC cI cJ cZ cMic cSrc cSt cAI cAJ D ad A s.heap H locs T → lv_has ls 7 [(0, .ref (ad l0)), (1, .int l1), (2, .int l2), (3, .int l3)] → W p l e { frames := 3, cells := 0, slots := 0, locals := 47 } s m args below meth c H locs 0 0 Q (F0 m 2 ls [])) (hk13 : ∀ (T : AT) (H : Heap) (locs : List Loc) (ls : Array Slot) (l0 : Nat) (l1 : Int32) (l2 : Int32) (l3 : Int32) (l4 : Int32) (l5 : Int32), k13 T l0 l1 l2 l3 l4 l5 = some (r1, T1) → gC cI cJ cZ cMic cSrc cSt cAI cAJ D ad A s.heap H locs T → lv_has ls 7 [(0, .ref (ad l0)), (1, .int l1), (2, .int l2), (3, .int l3), (4, .int l4), (5, .int l5)] → W p l e { frames := 3, cells := 0, slots := 0, locals := 47 } s m args below meth c H locs 0 0 Q (F0 m 13 ls [])) : ∀ (T : AT) (H : Heap) (locs : List Loc) (ls : Array Slot) (l0 : Nat) (l1 : Int32) (l2 : Int32) (l3 : Int32) (l4 : Int32) (l5 : Int32), g_X10_ranked_b47 k2 k13 T l0 l1 l2 l3 l4 l5 = some (r1, T1) → gC cI cJ cZ cMic cSrc cSt cAI cAJ D ad A s.heap H locs T → lv_has ls 7 [(0, .ref (ad l0)), (1, .int l1), (2, .int l2), (3, .int l3), (4, .int l4), (5, .int l5)] → W p l e { frames := 3, cells := 0, slots := 0, locals := 47 } s m args below meth c H locs 0 0 Q (F0 m 47 ls []) := by
  have hx := E.1
  have hb := E.2.1
  have hts := E.2.2.1
  have hown := E.2.2.2.1
  have hK := E.2.2.2.2
  intro T H locs ls l0 l1 l2 l3 l4 l5 h G hl
  unfold g_X10_ranked_b47 at h
  obtain ⟨v2, ev2, h⟩ := elet_some h
  refine lv_iinc (v := v2) (lv' := [(5, .int v2), (0, .ref (ad l0)), (1, .int l1), (2, .int l2), (3, .int l3), (4, .int l4)]) hx hb dX10_ranked_47 hl (k := 5) rfl ev2.symm (by decide) rfl (fun ls hl => ?_)
  refine lv_goto (tgt := 13) hx hb dX10_ranked_50 (by decide) ?_
  have hl := lv_sub hl [1, 2, 3, 4, 5, 0] rfl
  exact hk13 _ _ _ _ _ _ _ _ _ _ h G hl
def g_X10_ranked_b44 (k2 : AT → Nat → Int32 → Int32 → Int32 → Option (Int32 × AT)) (k13 : AT → Nat → Int32 → Int32 → Int32 → Int32 → Int32 → Option (Int32 × AT)) (T : AT) (l0 : Nat) (l1 : Int32) (l2 : Int32) (l3 : Int32) (l4 : Int32) (l5 : Int32) : Option (Int32 × AT) := elet (l4 + Int32.ofInt (1)) fun v2 => g_X10_ranked_b47 k2 k13 T l0 l1 l2 l3 v2 l5
set_option maxHeartbeats 4000000 in
set_option maxRecDepth 100000 in
theorem u_X10_ranked_b44 {p : Program} {l : Launch} {e : Env} {s : State} {m : MethodId} {args : Array Value} {below : List Frame} {meth : Method} {c : Code} {Q : State → Prop} {D : va_G} {A : Nat → Prop} {cI cJ cZ cMic cSrc cSt cAI cAJ : ClassId} {ad : Nat → Nat} {r1 : Int32} {T1 : AT} (E : cE p c cX10_ranked s m args (Cond.code yX10_ranked cX10_ranked 7 (some .int) :: wsA) D RX10 (CT cI cJ cZ cMic cSrc cSt cAI cAJ)) (hA : ∀ q : Nat, s.heap.size ≤ q → A q) (hX : xT A s) (hN : nX s) (hml : c.maxLocals = 7) (hst : l.stackTraces = false) (kr60 : ∀ (H : Heap) (locs : List Loc) (ls : Array Slot), gC cI cJ cZ cMic cSrc cSt cAI cAJ D ad A s.heap H locs T1 → W p l e { frames := 3, cells := 0, slots := 0, locals := 47 } s m args below meth c H locs 0 0 Q (F0 m 60 ls [.int r1])) (kr68 : ∀ (H : Heap) (locs : List Loc) (ls : Array Slot), gC cI cJ cZ cMic cSrc cSt cAI cAJ D ad A s.heap H locs T1 → W p l e { frames := 3, cells := 0, slots := 0, locals := 47 } s m args below meth c H locs 0 0 Q (F0 m 68 ls [.int r1])) {k2 : AT → Nat → Int32 → Int32 → Int32 → Option (Int32 × AT)} {k13 : AT → Nat → Int32 → Int32 → Int32 → Int32 → Int32 → Option (Int32 × AT)} (hk2 : ∀ (T : AT) (H : Heap) (locs : List Loc) (ls : Array Slot) (l0 : Nat) (l1 : Int32) (l2 : Int32) (l3 : Int32), k2 T l0 l1 l2 l3 = some (r1, T1) → gC cI cJ cZ cMic cSrc cSt cAI cAJ D ad A s.heap H locs T → lv_has ls 7 [(0, .ref (ad l0)), (1, .int l1), (2, .int l2), (3, .int l3)] → W p l e { frames := 3, cells := 0, slots := 0, locals := 47 } s m args below meth c H locs 0 0 Q (F0 m 2 ls [])) (hk13 : ∀ (T : AT) (H : Heap) (locs : List Loc) (ls : Array Slot) (l0 : Nat) (l1 : Int32) (l2 : Int32) (l3 : Int32) (l4 : Int32) (l5 : Int32), k13 T l0 l1 l2 l3 l4 l5 = some (r1, T1) → gC cI cJ cZ cMic cSrc cSt cAI cAJ D ad A s.heap H locs T → lv_has ls 7 [(0, .ref (ad l0)), (1, .int l1), (2, .int l2), (3, .int l3), (4, .int l4), (5, .int l5)] → W p l e { frames := 3, cells := 0, slots := 0, locals := 47 } s m args below meth c H locs 0 0 Q (F0 m 13 ls [])) : ∀ (T : AT) (H : Heap) (locs : List Loc) (ls : Array Slot) (l0 : Nat) (l1 : Int32) (l2 : Int32) (l3 : Int32) (l4 : Int32) (l5 : Int32), g_X10_ranked_b44 k2 k13 T l0 l1 l2 l3 l4 l5 = some (r1, T1) → gC cI cJ cZ cMic cSrc cSt cAI cAJ D ad A s.heap H locs T → lv_has ls 7 [(0, .ref (ad l0)), (1, .int l1), (2, .int l2), (3, .int l3), (4, .int l4), (5, .int l5)] → W p l e { frames := 3, cells := 0, slots := 0, locals := 47 } s m args below meth c H locs 0 0 Q (F0 m 44 ls []) := by
  have hx := E.1
  have hb := E.2.1
  have hts := E.2.2.1
  have hown := E.2.2.2.1
  have hK := E.2.2.2.2
  intro T H locs ls l0 l1 l2 l3 l4 l5 h G hl
  unfold g_X10_ranked_b44 at h
  obtain ⟨v2, ev2, h⟩ := elet_some h
  refine lv_iinc (v := v2) (lv' := [(4, .int v2), (0, .ref (ad l0)), (1, .int l1), (2, .int l2), (3, .int l3), (5, .int l5)]) hx hb dX10_ranked_44 hl (k := 4) rfl ev2.symm (by decide) rfl (fun ls hl => ?_)
  have hl := lv_sub hl [1, 2, 3, 4, 0, 5] rfl
  exact u_X10_ranked_b47 E hA hX hN hml hst kr60 kr68 hk2 hk13 _ _ _ _ _ _ _ _ _ _ h G hl
def g_X10_ranked_b13 (k2 : AT → Nat → Int32 → Int32 → Int32 → Option (Int32 × AT)) : Nat → AT → Nat → Int32 → Int32 → Int32 → Int32 → Int32 → Option (Int32 × AT)
  | 0, _, _, _, _, _, _, _ => none
  | n + 1, T, l0, l1, l2, l3, l4, l5 => if l1 ≤ l5 then (if l4 = l2 then (some (l3, T)) else (elet (l3 + Int32.ofInt (1)) fun v4 => k2 T l0 l1 l2 v4)) else (oif (oO T l0 10 = true) <| obind2 (g_X10_compare T l0 l5 l3) fun r8 T6 => if 0 < r8 then (g_X10_ranked_b44 k2 (g_X10_ranked_b13 k2 n) T6 l0 l1 l2 l3 l4 l5) else (if r8 = 0 then (if l3 ≤ l5 then (g_X10_ranked_b47 k2 (g_X10_ranked_b13 k2 n) T6 l0 l1 l2 l3 l4 l5) else (g_X10_ranked_b44 k2 (g_X10_ranked_b13 k2 n) T6 l0 l1 l2 l3 l4 l5)) else (g_X10_ranked_b47 k2 (g_X10_ranked_b13 k2 n) T6 l0 l1 l2 l3 l4 l5)))
set_option maxHeartbeats 4000000 in
set_option maxRecDepth 100000 in
theorem u_X10_ranked_b13 {p : Program} {l : Launch} {e : Env} {s : State} {m : MethodId} {args : Array Value} {below : List Frame} {meth : Method} {c : Code} {Q : State → Prop} {D : va_G} {A : Nat → Prop} {cI cJ cZ cMic cSrc cSt cAI cAJ : ClassId} {ad : Nat → Nat} {r1 : Int32} {T1 : AT} (E : cE p c cX10_ranked s m args (Cond.code yX10_ranked cX10_ranked 7 (some .int) :: wsA) D RX10 (CT cI cJ cZ cMic cSrc cSt cAI cAJ)) (hA : ∀ q : Nat, s.heap.size ≤ q → A q) (hX : xT A s) (hN : nX s) (hml : c.maxLocals = 7) (hst : l.stackTraces = false) (kr60 : ∀ (H : Heap) (locs : List Loc) (ls : Array Slot), gC cI cJ cZ cMic cSrc cSt cAI cAJ D ad A s.heap H locs T1 → W p l e { frames := 3, cells := 0, slots := 0, locals := 47 } s m args below meth c H locs 0 0 Q (F0 m 60 ls [.int r1])) (kr68 : ∀ (H : Heap) (locs : List Loc) (ls : Array Slot), gC cI cJ cZ cMic cSrc cSt cAI cAJ D ad A s.heap H locs T1 → W p l e { frames := 3, cells := 0, slots := 0, locals := 47 } s m args below meth c H locs 0 0 Q (F0 m 68 ls [.int r1])) {k2 : AT → Nat → Int32 → Int32 → Int32 → Option (Int32 × AT)} (hk2 : ∀ (T : AT) (H : Heap) (locs : List Loc) (ls : Array Slot) (l0 : Nat) (l1 : Int32) (l2 : Int32) (l3 : Int32), k2 T l0 l1 l2 l3 = some (r1, T1) → gC cI cJ cZ cMic cSrc cSt cAI cAJ D ad A s.heap H locs T → lv_has ls 7 [(0, .ref (ad l0)), (1, .int l1), (2, .int l2), (3, .int l3)] → W p l e { frames := 3, cells := 0, slots := 0, locals := 47 } s m args below meth c H locs 0 0 Q (F0 m 2 ls [])) : ∀ n : Nat, ∀ (T : AT) (H : Heap) (locs : List Loc) (ls : Array Slot) (l0 : Nat) (l1 : Int32) (l2 : Int32) (l3 : Int32) (l4 : Int32) (l5 : Int32), g_X10_ranked_b13 k2 n T l0 l1 l2 l3 l4 l5 = some (r1, T1) → gC cI cJ cZ cMic cSrc cSt cAI cAJ D ad A s.heap H locs T → lv_has ls 7 [(0, .ref (ad l0)), (1, .int l1), (2, .int l2), (3, .int l3), (4, .int l4), (5, .int l5)] → W p l e { frames := 3, cells := 0, slots := 0, locals := 47 } s m args below meth c H locs 0 0 Q (F0 m 13 ls []) := by
  have hx := E.1
  have hb := E.2.1
  have hts := E.2.2.1
  have hown := E.2.2.2.1
  have hK := E.2.2.2.2
  intro n
  induction n with
  | zero =>
    intro T H locs ls l0 l1 l2 l3 l4 l5 h
    have h : (none : Option (Int32 × AT)) = some (r1, T1) := h
    cases h
  | succ n ih =>
    intro T H locs ls l0 l1 l2 l3 l4 l5 h G hl
    unfold g_X10_ranked_b13 at h
    refine lv_iload hx hb dX10_ranked_13 (lv_at hl 5 rfl) ?_
    refine lv_iload_n hx hb dX10_ranked_15 rfl (lv_at hl 1 rfl) ?_
    refine lv_icmp_ge (tgt := 53) hx hb dX10_ranked_16 (by decide) (fun c2 => ?_) (fun c2 => ?_)
    · have h := oif_pos c2 h
      refine lv_iload hx hb dX10_ranked_53 (lv_at hl 4 rfl) ?_
      refine lv_iload_n hx hb dX10_ranked_55 rfl (lv_at hl 2 rfl) ?_
      refine lv_icmp_ne (tgt := 61) hx hb dX10_ranked_56 (by decide) (fun c3 => ?_) (fun c3 => ?_)
      · have h := oif_neg c3 h
        obtain ⟨v4, ev4, h⟩ := elet_some h
        refine lv_iinc (v := v4) (lv' := [(3, .int v4), (0, .ref (ad l0)), (1, .int l1), (2, .int l2), (4, .int l4), (5, .int l5)]) hx hb dX10_ranked_61 hl (k := 3) rfl ev4.symm (by decide) rfl (fun ls hl => ?_)
        refine lv_goto (tgt := 2) hx hb dX10_ranked_64 (by decide) ?_
        have hl := lv_sub hl [1, 2, 3, 0] rfl
        exact hk2 _ _ _ _ _ _ _ _ h G hl
      · have h := oif_pos c3 h
        refine lv_iload_n hx hb dX10_ranked_59 rfl (lv_at hl 3 rfl) ?_
        rw [(osome2 h).2] at G
        refine lv_to (osome2 h).1 ?_
        exact kr60 _ _ _ G
    · have h := oif_neg c2 h
      refine lv_aload_n hx hb dX10_ranked_19 rfl (lv_at hl 0 rfl) ?_
      refine lv_iload hx hb dX10_ranked_20 (lv_at hl 5 rfl) ?_
      refine lv_iload_n hx hb dX10_ranked_22 rfl (lv_at hl 3 rfl) ?_
      obtain ⟨g5, h⟩ := oif_some h
      obtain ⟨r8, T6, eT6, h⟩ := obind2_some h
      refine q_cvi (As := [.int l5, .int l3]) (rest := []) E G hA hX hN hml (u_X10_compare l hst D cI cJ cZ cMic cSrc cSt cAI cAJ ad T l0 l5 l3 eT6) (cwV 2 hts (gaV qA_446 qA_120 qA_121 qA_6 qA_122) rfl rfl rfl (by decide +kernel) ⟨Nat.le_of_ble_eq_true rfl, Nat.le_of_ble_eq_true rfl⟩) (oO_k g5).1 (cc_o10 (oO_k g5).2) rfl rfl hl.1 rfl (lv_room (Nat.le_of_ble_eq_true rfl)) dX10_ranked_23 ⟨Nat.zero_le _, Nat.zero_le _⟩ (fun q9 T7 H locs hq G => ?_)
      obtain ⟨hq1, hq2⟩ := hq
      rw [hq2] at G
      refine lv_to hq1 ?_
      clear hq1 hq2 eT6
      refine lv_istore (lv' := [(6, .int r8), (0, .ref (ad l0)), (1, .int l1), (2, .int l2), (3, .int l3), (4, .int l4), (5, .int l5)]) hx hb dX10_ranked_26 hl (by decide) rfl (fun ls hl => ?_)
      refine lv_iload hx hb dX10_ranked_28 (lv_at hl 0 rfl) ?_
      refine lv_if_gt (tgt := 44) hx hb dX10_ranked_30 (by decide) (fun c10 => ?_) (fun c10 => ?_)
      · have h := oif_pos c10 h
        have hl := lv_sub hl [1, 2, 3, 4, 5, 6] rfl
        exact u_X10_ranked_b44 E hA hX hN hml hst kr60 kr68 hk2 ih _ _ _ _ _ _ _ _ _ _ h G hl
      · have h := oif_neg c10 h
        refine lv_iload hx hb dX10_ranked_33 (lv_at hl 0 rfl) ?_
        refine lv_if_ne (tgt := 47) hx hb dX10_ranked_35 (by decide) (fun c11 => ?_) (fun c11 => ?_)
        · have h := oif_neg c11 h
          have hl := lv_sub hl [1, 2, 3, 4, 5, 6] rfl
          exact u_X10_ranked_b47 E hA hX hN hml hst kr60 kr68 hk2 ih _ _ _ _ _ _ _ _ _ _ h G hl
        · have h := oif_pos c11 h
          refine lv_iload hx hb dX10_ranked_38 (lv_at hl 6 rfl) ?_
          refine lv_iload_n hx hb dX10_ranked_40 rfl (lv_at hl 4 rfl) ?_
          refine lv_icmp_ge (tgt := 47) hx hb dX10_ranked_41 (by decide) (fun c12 => ?_) (fun c12 => ?_)
          · have h := oif_pos c12 h
            have hl := lv_sub hl [1, 2, 3, 4, 5, 6] rfl
            exact u_X10_ranked_b47 E hA hX hN hml hst kr60 kr68 hk2 ih _ _ _ _ _ _ _ _ _ _ h G hl
          · have h := oif_neg c12 h
            have hl := lv_sub hl [1, 2, 3, 4, 5, 6] rfl
            exact u_X10_ranked_b44 E hA hX hN hml hst kr60 kr68 hk2 ih _ _ _ _ _ _ _ _ _ _ h G hl
def g_X10_ranked_b2  : Nat → AT → Nat → Int32 → Int32 → Int32 → Option (Int32 × AT)
  | 0, _, _, _, _, _ => none
  | n + 1, T, l0, l1, l2, l3 => if l1 ≤ l3 then (some ((-1), T)) else (g_X10_ranked_b13 (g_X10_ranked_b2 n) 16384 T l0 l1 l2 l3 0 0)
set_option maxHeartbeats 4000000 in
set_option maxRecDepth 100000 in
theorem u_X10_ranked_b2 {p : Program} {l : Launch} {e : Env} {s : State} {m : MethodId} {args : Array Value} {below : List Frame} {meth : Method} {c : Code} {Q : State → Prop} {D : va_G} {A : Nat → Prop} {cI cJ cZ cMic cSrc cSt cAI cAJ : ClassId} {ad : Nat → Nat} {r1 : Int32} {T1 : AT} (E : cE p c cX10_ranked s m args (Cond.code yX10_ranked cX10_ranked 7 (some .int) :: wsA) D RX10 (CT cI cJ cZ cMic cSrc cSt cAI cAJ)) (hA : ∀ q : Nat, s.heap.size ≤ q → A q) (hX : xT A s) (hN : nX s) (hml : c.maxLocals = 7) (hst : l.stackTraces = false) (kr60 : ∀ (H : Heap) (locs : List Loc) (ls : Array Slot), gC cI cJ cZ cMic cSrc cSt cAI cAJ D ad A s.heap H locs T1 → W p l e { frames := 3, cells := 0, slots := 0, locals := 47 } s m args below meth c H locs 0 0 Q (F0 m 60 ls [.int r1])) (kr68 : ∀ (H : Heap) (locs : List Loc) (ls : Array Slot), gC cI cJ cZ cMic cSrc cSt cAI cAJ D ad A s.heap H locs T1 → W p l e { frames := 3, cells := 0, slots := 0, locals := 47 } s m args below meth c H locs 0 0 Q (F0 m 68 ls [.int r1])) : ∀ n : Nat, ∀ (T : AT) (H : Heap) (locs : List Loc) (ls : Array Slot) (l0 : Nat) (l1 : Int32) (l2 : Int32) (l3 : Int32), g_X10_ranked_b2 n T l0 l1 l2 l3 = some (r1, T1) → gC cI cJ cZ cMic cSrc cSt cAI cAJ D ad A s.heap H locs T → lv_has ls 7 [(0, .ref (ad l0)), (1, .int l1), (2, .int l2), (3, .int l3)] → W p l e { frames := 3, cells := 0, slots := 0, locals := 47 } s m args below meth c H locs 0 0 Q (F0 m 2 ls []) := by
  have hx := E.1
  have hb := E.2.1
  have hts := E.2.2.1
  have hown := E.2.2.2.1
  have hK := E.2.2.2.2
  intro n
  induction n with
  | zero =>
    intro T H locs ls l0 l1 l2 l3 h
    have h : (none : Option (Int32 × AT)) = some (r1, T1) := h
    cases h
  | succ n ih =>
    intro T H locs ls l0 l1 l2 l3 h G hl
    unfold g_X10_ranked_b2 at h
    refine lv_iload_n hx hb dX10_ranked_2 rfl (lv_at hl 3 rfl) ?_
    refine lv_iload_n hx hb dX10_ranked_3 rfl (lv_at hl 1 rfl) ?_
    refine lv_icmp_ge (tgt := 67) hx hb dX10_ranked_4 (by decide) (fun c2 => ?_) (fun c2 => ?_)
    · have h := oif_pos c2 h
      refine lv_iconst (v := (-1)) hx hb dX10_ranked_67 (by decide) ?_
      rw [(osome2 h).2] at G
      refine lv_to (osome2 h).1 ?_
      exact kr68 _ _ _ G
    · have h := oif_neg c2 h
      refine lv_iconst (v := 0) hx hb dX10_ranked_7 (by decide) ?_
      refine lv_istore (lv' := [(4, .int 0), (0, .ref (ad l0)), (1, .int l1), (2, .int l2), (3, .int l3)]) hx hb dX10_ranked_8 hl (by decide) rfl (fun ls hl => ?_)
      refine lv_iconst (v := 0) hx hb dX10_ranked_10 (by decide) ?_
      refine lv_istore (lv' := [(5, .int 0), (4, .int 0), (0, .ref (ad l0)), (1, .int l1), (2, .int l2), (3, .int l3)]) hx hb dX10_ranked_11 hl (by decide) rfl (fun ls hl => ?_)
      have hl := lv_sub hl [2, 3, 4, 5, 1, 0] rfl
      exact u_X10_ranked_b13 E hA hX hN hml hst kr60 kr68 ih _ _ _ _ _ _ _ _ _ _ _ h G hl
def g_X10_ranked (T : AT) (o : Nat) (a0 : Int32) (a1 : Int32) : Option (Int32 × AT) := g_X10_ranked_b2 16384 T o a0 a1 0
set_option maxHeartbeats 4000000 in
set_option maxRecDepth 100000 in
theorem u_X10_ranked (l : Launch) (hst : l.stackTraces = false) (D : va_G) (cI cJ cZ cMic cSrc cSt cAI cAJ : ClassId) (ad : Nat → Nat) (T : AT) (o : Nat) (a0 : Int32) (a1 : Int32) {r1 : Int32} {T1 : AT} (h : g_X10_ranked T o a0 a1 = some (r1, T1)) : kCi l yX10_ranked (Cond.code yX10_ranked cX10_ranked 7 (some .int) :: wsA) 3 47 cI cJ cZ cMic cSrc cSt cAI cAJ D ad T [.ref (ad o), .int a0, .int a1] (fun r T9 => r = r1 ∧ T9 = T1) := by
  intro sz
  refine Met.ofW (cc := cX10_ranked) (maxL := 7) (ret := (some .int)) (by decide) rfl ?_
  intro p e s m args below meth c s₁ B hml hv
  obtain ⟨rfl, hsz, hP, hK, hD0, hX, hN⟩ := hv
  have hx := B.exec
  have hb := B.bytes
  have hr := B.returns
  have hts := atoms_spec (ws := (Cond.code yX10_ranked cX10_ranked 7 (some .int) :: wsA)) B.pre
  have hown : s.vm.findClass RX10 = some m.cls := findClass_of_methodNamed B.named
  have hlocks := B.notSynchronized
  subst hsz
  have hD := hD0.self (sz := s.heap.size)
  generalize hAe : va_A (cW ad T.1 (cc cI cJ cZ cMic cSrc cSt cAI cAJ ad T)) s.heap.size = A at hD hX ⊢
  have hA : ∀ q : Nat, s.heap.size ≤ q → A q := fun q h => by rw [← hAe]; exact Or.inr h
  have G : gC cI cJ cZ cMic cSrc cSt cAI cAJ D ad A s.heap s.heap [] T := ⟨hP, hD, va_S.rf⟩
  have E : cE p c cX10_ranked s m ([.ref (ad o), .int a0, .int a1] : List Value).toArray (Cond.code yX10_ranked cX10_ranked 7 (some .int) :: wsA) D RX10 (CT cI cJ cZ cMic cSrc cSt cAI cAJ) := ⟨hx, hb, hts, hown, hK⟩
  have hl := lv_entry ([.ref (ad o), .int a0, .int a1]) (n := 7) (Nat.le_of_ble_eq_true rfl)
  rw [lg_entry_eq]
  generalize (lg_sl ([.ref (ad o), .int a0, .int a1]) ++ List.replicate (7 - (lg_sl ([.ref (ad o), .int a0, .int a1])).length) Slot.unset).toArray = ls at hl ⊢
  have hl : lv_has ls 7 [(0, .ref (ad o)), (1, .int a0), (2, .int a1)] := hl
  unfold g_X10_ranked at h
  refine lv_iconst (v := 0) hx hb dX10_ranked_0 (by decide) ?_
  refine lv_istore_n (lv' := [(3, .int 0), (0, .ref (ad o)), (1, .int a0), (2, .int a1)]) hx hb dX10_ranked_1 rfl hl (by decide) rfl (fun ls hl => ?_)
  have hl := lv_sub hl [1, 2, 3, 0] rfl
  exact u_X10_ranked_b2 E hA hX hN hml hst (fun H locs ls G => W.iret (v := r1) hx hb hr (fun t ht hW => ⟨⟨r1, T1, rfl, ⟨rfl, rfl⟩, ⟨by rw [ht]; exact G.1, va_K.moved hW.alike hK, G.2.1⟩⟩, G.2.2.F ht⟩) G.2.2.2.2 dX10_ranked_60) (fun H locs ls G => W.iret (v := r1) hx hb hr (fun t ht hW => ⟨⟨r1, T1, rfl, ⟨rfl, rfl⟩, ⟨by rw [ht]; exact G.1, va_K.moved hW.alike hK, G.2.1⟩⟩, G.2.2.F ht⟩) G.2.2.2.2 dX10_ranked_68) _ _ _ _ _ _ _ _ _ h G hl
set_option maxHeartbeats 4000000 in
set_option maxRecDepth 100000 in
theorem s_X10_ranked_b47 {r1 : Int32} {T1 : AT} {k2 : AT → Nat → Int32 → Int32 → Int32 → Option (Int32 × AT)} {k13 : AT → Nat → Int32 → Int32 → Int32 → Int32 → Int32 → Option (Int32 × AT)} (hk2 : ∀ (T : AT) (l0 : Nat) (l1 : Int32) (l2 : Int32) (l3 : Int32), k2 T l0 l1 l2 l3 = some (r1, T1) → SP T T1) (hk13 : ∀ (T : AT) (l0 : Nat) (l1 : Int32) (l2 : Int32) (l3 : Int32) (l4 : Int32) (l5 : Int32), k13 T l0 l1 l2 l3 l4 l5 = some (r1, T1) → SP T T1) : ∀ (T : AT) (l0 : Nat) (l1 : Int32) (l2 : Int32) (l3 : Int32) (l4 : Int32) (l5 : Int32), g_X10_ranked_b47 k2 k13 T l0 l1 l2 l3 l4 l5 = some (r1, T1) → SP T T1 := by
  intro T l0 l1 l2 l3 l4 l5 h
  have p0 := SP.rf T
  unfold g_X10_ranked_b47 at h
  obtain ⟨v2, ev2, h⟩ := elet_some h
  exact SP.tr p0 (hk13 _ _ _ _ _ _ _ h)
set_option maxHeartbeats 4000000 in
set_option maxRecDepth 100000 in
theorem s_X10_ranked_b44 {r1 : Int32} {T1 : AT} {k2 : AT → Nat → Int32 → Int32 → Int32 → Option (Int32 × AT)} {k13 : AT → Nat → Int32 → Int32 → Int32 → Int32 → Int32 → Option (Int32 × AT)} (hk2 : ∀ (T : AT) (l0 : Nat) (l1 : Int32) (l2 : Int32) (l3 : Int32), k2 T l0 l1 l2 l3 = some (r1, T1) → SP T T1) (hk13 : ∀ (T : AT) (l0 : Nat) (l1 : Int32) (l2 : Int32) (l3 : Int32) (l4 : Int32) (l5 : Int32), k13 T l0 l1 l2 l3 l4 l5 = some (r1, T1) → SP T T1) : ∀ (T : AT) (l0 : Nat) (l1 : Int32) (l2 : Int32) (l3 : Int32) (l4 : Int32) (l5 : Int32), g_X10_ranked_b44 k2 k13 T l0 l1 l2 l3 l4 l5 = some (r1, T1) → SP T T1 := by
  intro T l0 l1 l2 l3 l4 l5 h
  have p0 := SP.rf T
  unfold g_X10_ranked_b44 at h
  obtain ⟨v2, ev2, h⟩ := elet_some h
  exact SP.tr p0 (s_X10_ranked_b47 hk2 hk13 _ _ _ _ _ _ _ h)
set_option maxHeartbeats 4000000 in
set_option maxRecDepth 100000 in
theorem s_X10_ranked_b13 {r1 : Int32} {T1 : AT} {k2 : AT → Nat → Int32 → Int32 → Int32 → Option (Int32 × AT)} (hk2 : ∀ (T : AT) (l0 : Nat) (l1 : Int32) (l2 : Int32) (l3 : Int32), k2 T l0 l1 l2 l3 = some (r1, T1) → SP T T1) : ∀ n : Nat, ∀ (T : AT) (l0 : Nat) (l1 : Int32) (l2 : Int32) (l3 : Int32) (l4 : Int32) (l5 : Int32), g_X10_ranked_b13 k2 n T l0 l1 l2 l3 l4 l5 = some (r1, T1) → SP T T1 := by
  intro n
  induction n with
  | zero =>
    intro T l0 l1 l2 l3 l4 l5 h
    have h : (none : Option (Int32 × AT)) = some (r1, T1) := h
    cases h
  | succ n ih =>
    intro T l0 l1 l2 l3 l4 l5 h
    have p0 := SP.rf T
    unfold g_X10_ranked_b13 at h
    rcases oif_or h with ⟨c2, h⟩ | ⟨c2, h⟩
    · have h := h
      rcases oif_or h with ⟨c3, h⟩ | ⟨c3, h⟩
      · have h := h
        rw [← (osome2 h).2]
        exact p0
      · have h := h
        obtain ⟨v4, ev4, h⟩ := elet_some h
        exact SP.tr p0 (hk2 _ _ _ _ _ h)
    · have h := h
      obtain ⟨g5, h⟩ := oif_some h
      obtain ⟨r7, T6, eT6, h⟩ := obind2_some h
      have p1 : SP T T6 := SP.tr p0 (s_X10_compare eT6)
      rcases oif_or h with ⟨c8, h⟩ | ⟨c8, h⟩
      · have h := h
        exact SP.tr p1 (s_X10_ranked_b44 hk2 ih _ _ _ _ _ _ _ h)
      · have h := h
        rcases oif_or h with ⟨c9, h⟩ | ⟨c9, h⟩
        · have h := h
          rcases oif_or h with ⟨c10, h⟩ | ⟨c10, h⟩
          · have h := h
            exact SP.tr p1 (s_X10_ranked_b47 hk2 ih _ _ _ _ _ _ _ h)
          · have h := h
            exact SP.tr p1 (s_X10_ranked_b44 hk2 ih _ _ _ _ _ _ _ h)
        · have h := h
          exact SP.tr p1 (s_X10_ranked_b47 hk2 ih _ _ _ _ _ _ _ h)
set_option maxHeartbeats 4000000 in
set_option maxRecDepth 100000 in
theorem s_X10_ranked_b2 {r1 : Int32} {T1 : AT} : ∀ n : Nat, ∀ (T : AT) (l0 : Nat) (l1 : Int32) (l2 : Int32) (l3 : Int32), g_X10_ranked_b2 n T l0 l1 l2 l3 = some (r1, T1) → SP T T1 := by
  intro n
  induction n with
  | zero =>
    intro T l0 l1 l2 l3 h
    have h : (none : Option (Int32 × AT)) = some (r1, T1) := h
    cases h
  | succ n ih =>
    intro T l0 l1 l2 l3 h
    have p0 := SP.rf T
    unfold g_X10_ranked_b2 at h
    rcases oif_or h with ⟨c2, h⟩ | ⟨c2, h⟩
    · have h := h
      rw [← (osome2 h).2]
      exact p0
    · have h := h
      exact SP.tr p0 (s_X10_ranked_b13 ih _ _ _ _ _ _ _ _ h)
set_option maxHeartbeats 4000000 in
set_option maxRecDepth 100000 in
theorem s_X10_ranked {T : AT} {o : Nat} {a0 : Int32} {a1 : Int32} {r1 : Int32} {T1 : AT} (h : g_X10_ranked T o a0 a1 = some (r1, T1)) : SP T T1 := by
  have p0 := SP.rf T
  unfold g_X10_ranked at h
  exact SP.tr p0 (s_X10_ranked_b2 _ _ _ _ _ _ h)
def g_X4_peakRanked_b28  (T : AT) (s0 : Int32) : Option (Int32 × AT) := some (s0, T)
set_option maxHeartbeats 4000000 in
set_option maxRecDepth 100000 in
theorem u_X4_peakRanked_b28 {p : Program} {l : Launch} {e : Env} {s : State} {m : MethodId} {args : Array Value} {below : List Frame} {meth : Method} {c : Code} {Q : State → Prop} {D : va_G} {A : Nat → Prop} {cI cJ cZ cMic cSrc cSt cAI cAJ : ClassId} {ad : Nat → Nat} {r1 : Int32} {T1 : AT} (E : cE p c cX4_peakRanked s m args (Cond.code yX4_peakRanked cX4_peakRanked 3 (some .int) :: wsA) D RX4 (CT cI cJ cZ cMic cSrc cSt cAI cAJ)) (hA : ∀ q : Nat, s.heap.size ≤ q → A q) (hX : xT A s) (hN : nX s) (hml : c.maxLocals = 3) (hst : l.stackTraces = false) (kr28 : ∀ (H : Heap) (locs : List Loc) (ls : Array Slot), gC cI cJ cZ cMic cSrc cSt cAI cAJ D ad A s.heap H locs T1 → W p l e { frames := 4, cells := 0, slots := 0, locals := 73 } s m args below meth c H locs 0 0 Q (F0 m 28 ls [.int r1])) : ∀ (T : AT) (H : Heap) (locs : List Loc) (ls : Array Slot) (s0 : Int32), g_X4_peakRanked_b28 T s0 = some (r1, T1) → gC cI cJ cZ cMic cSrc cSt cAI cAJ D ad A s.heap H locs T → lv_has ls 3 [] → W p l e { frames := 4, cells := 0, slots := 0, locals := 73 } s m args below meth c H locs 0 0 Q (F0 m 28 ls [.int s0]) := by
  have hx := E.1
  have hb := E.2.1
  have hts := E.2.2.1
  have hown := E.2.2.2.1
  have hK := E.2.2.2.2
  intro T H locs ls s0 h G hl
  unfold g_X4_peakRanked_b28 at h
  rw [(osome2 h).2] at G
  refine lv_to (osome2 h).1 ?_
  exact kr28 _ _ _ G
def g_X4_peakRanked (T : AT) (o : Nat) (a0 : Int32) : Option (Int32 × AT) := oif (oO T o 4 = true) <| obind (T.2.2.2.2 o 5) fun n3 => oif (oO T o 4 = true) <| elet (T.2.2.1 o 3) fun v5 => oif (oO T n3 10 = true) <| obind2 (g_X10_ranked T n3 v5 a0) fun r9 T7 => if r9 = (-1) then (g_X4_peakRanked_b28 T7 (-1)) else (oif (oO T7 o 4 = true) <| obind (T7.2.2.2.2 o 4) fun n13 => oif (aA T7 n13 100 = true) <| oif (inb r9 (T7.2.1 n13).2 = true) <| elet (T7.2.2.1 n13 r9.toNatClampNeg) fun v16 => g_X4_peakRanked_b28 T7 v16)
set_option maxHeartbeats 4000000 in
set_option maxRecDepth 100000 in
theorem u_X4_peakRanked (l : Launch) (hst : l.stackTraces = false) (D : va_G) (cI cJ cZ cMic cSrc cSt cAI cAJ : ClassId) (ad : Nat → Nat) (T : AT) (o : Nat) (a0 : Int32) {r1 : Int32} {T1 : AT} (h : g_X4_peakRanked T o a0 = some (r1, T1)) : kCi l yX4_peakRanked (Cond.code yX4_peakRanked cX4_peakRanked 3 (some .int) :: wsA) 4 73 cI cJ cZ cMic cSrc cSt cAI cAJ D ad T [.ref (ad o), .int a0] (fun r T9 => r = r1 ∧ T9 = T1) := by
  intro sz
  refine Met.ofW (cc := cX4_peakRanked) (maxL := 3) (ret := (some .int)) (by decide) rfl ?_
  intro p e s m args below meth c s₁ B hml hv
  obtain ⟨rfl, hsz, hP, hK, hD0, hX, hN⟩ := hv
  have hx := B.exec
  have hb := B.bytes
  have hr := B.returns
  have hts := atoms_spec (ws := (Cond.code yX4_peakRanked cX4_peakRanked 3 (some .int) :: wsA)) B.pre
  have hown : s.vm.findClass RX4 = some m.cls := findClass_of_methodNamed B.named
  have hlocks := B.notSynchronized
  subst hsz
  have hD := hD0.self (sz := s.heap.size)
  generalize hAe : va_A (cW ad T.1 (cc cI cJ cZ cMic cSrc cSt cAI cAJ ad T)) s.heap.size = A at hD hX ⊢
  have hA : ∀ q : Nat, s.heap.size ≤ q → A q := fun q h => by rw [← hAe]; exact Or.inr h
  have G : gC cI cJ cZ cMic cSrc cSt cAI cAJ D ad A s.heap s.heap [] T := ⟨hP, hD, va_S.rf⟩
  have E : cE p c cX4_peakRanked s m ([.ref (ad o), .int a0] : List Value).toArray (Cond.code yX4_peakRanked cX4_peakRanked 3 (some .int) :: wsA) D RX4 (CT cI cJ cZ cMic cSrc cSt cAI cAJ) := ⟨hx, hb, hts, hown, hK⟩
  have hl := lv_entry ([.ref (ad o), .int a0]) (n := 3) (Nat.le_of_ble_eq_true rfl)
  rw [lg_entry_eq]
  generalize (lg_sl ([.ref (ad o), .int a0]) ++ List.replicate (3 - (lg_sl ([.ref (ad o), .int a0])).length) Slot.unset).toArray = ls at hl ⊢
  have hl : lv_has ls 3 [(0, .ref (ad o)), (1, .int a0)] := hl
  unfold g_X4_peakRanked at h
  refine lv_aload_n hx hb dX4_peakRanked_0 rfl (lv_at hl 0 rfl) ?_
  obtain ⟨g2, h⟩ := oif_some h
  obtain ⟨n3, en3, h⟩ := obind_some h
  refine c_get E G o 5 (v := .ref (ad n3)) (oO_k g2).1 (cc_o4 (oO_k g2).2) rfl (fun w h => .tail _ (iA_21 h)) (by decide) (.tail _ qA_410) rfl (by rw [en3]; rfl) dX4_peakRanked_1 ?_
  clear en3
  refine lv_aload_n hx hb dX4_peakRanked_4 rfl (lv_at hl 0 rfl) ?_
  obtain ⟨g4, h⟩ := oif_some h
  refine c_get E G o 3 (oO_k g4).1 (cc_o4 (oO_k g4).2) rfl (fun w h => .tail _ (iA_21 h)) (by decide) (.tail _ qA_417) rfl rfl dX4_peakRanked_5 ?_
  refine lv_topi (fun v5 ev5 => ?_)
  have h := elet_at ev5 h
  clear ev5
  refine lv_iload_n hx hb dX4_peakRanked_8 rfl (lv_at hl 1 rfl) ?_
  obtain ⟨g6, h⟩ := oif_some h
  obtain ⟨r9, T7, eT7, h⟩ := obind2_some h
  refine q_cvi (As := [.int v5, .int a0]) (rest := []) E G hA hX hN hml (u_X10_ranked l hst D cI cJ cZ cMic cSrc cSt cAI cAJ ad T n3 v5 a0 eT7) (cwV 2 hts (gaV qA_442 qA_443 qA_444 qA_6 qA_445) rfl rfl rfl (by decide +kernel) ⟨Nat.le_of_ble_eq_true rfl, Nat.le_of_ble_eq_true rfl⟩) (oO_k g6).1 (cc_o10 (oO_k g6).2) rfl rfl hl.1 rfl (lv_room (Nat.le_of_ble_eq_true rfl)) dX4_peakRanked_9 ⟨Nat.zero_le _, Nat.zero_le _⟩ (fun q10 T8 H locs hq G => ?_)
  obtain ⟨hq1, hq2⟩ := hq
  rw [hq2] at G
  refine lv_to hq1 ?_
  clear hq1 hq2 eT7
  refine lv_istore_n (lv' := [(2, .int r9), (0, .ref (ad o)), (1, .int a0)]) hx hb dX4_peakRanked_12 rfl hl (by decide) rfl (fun ls hl => ?_)
  refine lv_iload_n hx hb dX4_peakRanked_13 rfl (lv_at hl 0 rfl) ?_
  refine lv_iconst (v := (-1)) hx hb dX4_peakRanked_14 (by decide) ?_
  refine lv_icmp_ne (tgt := 22) hx hb dX4_peakRanked_15 (by decide) (fun c11 => ?_) (fun c11 => ?_)
  · have h := oif_neg c11 h
    refine lv_aload_n hx hb dX4_peakRanked_22 rfl (lv_at hl 1 rfl) ?_
    obtain ⟨g12, h⟩ := oif_some h
    obtain ⟨n13, en13, h⟩ := obind_some h
    refine c_get E G o 4 (v := .ref (ad n13)) (oO_k g12).1 (cc_o4 (oO_k g12).2) rfl (fun w h => .tail _ (iA_21 h)) (by decide) (.tail _ qA_409) rfl (by rw [en13]; rfl) dX4_peakRanked_23 ?_
    clear en13
    refine lv_iload_n hx hb dX4_peakRanked_26 rfl (lv_at hl 0 rfl) ?_
    obtain ⟨g14, h⟩ := oif_some h
    obtain ⟨g15, h⟩ := oif_some h
    refine c_iald E G n13 0 (k := r9.toNatClampNeg) (aA_k g14).1 (cc_a100 (aA_k g14).2.1) rfl (inb_k g15).1 (inb_k g15).2 (aA_k g14).2.2 dX4_peakRanked_27 ?_
    refine lv_topi (fun v16 ev16 => ?_)
    have h := elet_at ev16 h
    clear ev16
    have hl := lv_sub hl [] rfl
    exact u_X4_peakRanked_b28 E hA hX hN hml hst (fun H locs ls G => W.iret (v := r1) hx hb hr (fun t ht hW => ⟨⟨r1, T1, rfl, ⟨rfl, rfl⟩, ⟨by rw [ht]; exact G.1, va_K.moved hW.alike hK, G.2.1⟩⟩, G.2.2.F ht⟩) G.2.2.2.2 dX4_peakRanked_28) _ _ _ _ _ h G hl
  · have h := oif_pos c11 h
    refine lv_iconst (v := (-1)) hx hb dX4_peakRanked_18 (by decide) ?_
    refine lv_goto (tgt := 28) hx hb dX4_peakRanked_19 (by decide) ?_
    have hl := lv_sub hl [] rfl
    exact u_X4_peakRanked_b28 E hA hX hN hml hst (fun H locs ls G => W.iret (v := r1) hx hb hr (fun t ht hW => ⟨⟨r1, T1, rfl, ⟨rfl, rfl⟩, ⟨by rw [ht]; exact G.1, va_K.moved hW.alike hK, G.2.1⟩⟩, G.2.2.F ht⟩) G.2.2.2.2 dX4_peakRanked_28) _ _ _ _ _ h G hl
set_option maxHeartbeats 4000000 in
set_option maxRecDepth 100000 in
theorem s_X4_peakRanked_b28 {r1 : Int32} {T1 : AT} : ∀ (T : AT) (s0 : Int32), g_X4_peakRanked_b28 T s0 = some (r1, T1) → SP T T1 := by
  intro T s0 h
  have p0 := SP.rf T
  unfold g_X4_peakRanked_b28 at h
  rw [← (osome2 h).2]
  exact p0
set_option maxHeartbeats 4000000 in
set_option maxRecDepth 100000 in
theorem s_X4_peakRanked {T : AT} {o : Nat} {a0 : Int32} {r1 : Int32} {T1 : AT} (h : g_X4_peakRanked T o a0 = some (r1, T1)) : SP T T1 := by
  have p0 := SP.rf T
  unfold g_X4_peakRanked at h
  obtain ⟨g2, h⟩ := oif_some h
  obtain ⟨n3, en3, h⟩ := obind_some h
  obtain ⟨g4, h⟩ := oif_some h
  obtain ⟨v5, -, h⟩ := elet_some h
  obtain ⟨g6, h⟩ := oif_some h
  obtain ⟨r8, T7, eT7, h⟩ := obind2_some h
  have p1 : SP T T7 := SP.tr p0 (s_X10_ranked eT7)
  rcases oif_or h with ⟨c9, h⟩ | ⟨c9, h⟩
  · have h := h
    exact SP.tr p1 (s_X4_peakRanked_b28 _ _ h)
  · have h := h
    obtain ⟨g10, h⟩ := oif_some h
    obtain ⟨n11, en11, h⟩ := obind_some h
    obtain ⟨g12, h⟩ := oif_some h
    obtain ⟨g13, h⟩ := oif_some h
    obtain ⟨v14, -, h⟩ := elet_some h
    exact SP.tr p1 (s_X4_peakRanked_b28 _ _ h)
def g_X10_isZero_b43  (T : AT) (s0 : Int32) : Option (Int32 × AT) := oif (s0 = 0 ∨ s0 = 1) <| some (s0, T)
set_option maxHeartbeats 4000000 in
set_option maxRecDepth 100000 in
theorem u_X10_isZero_b43 {p : Program} {l : Launch} {e : Env} {s : State} {m : MethodId} {args : Array Value} {below : List Frame} {meth : Method} {c : Code} {Q : State → Prop} {D : va_G} {A : Nat → Prop} {cI cJ cZ cMic cSrc cSt cAI cAJ : ClassId} {ad : Nat → Nat} {r1 : Int32} {T1 : AT} (E : cE p c cX10_isZero s m args (Cond.code yX10_isZero cX10_isZero 5 (some .boolean) :: wsA) D RX10 (CT cI cJ cZ cMic cSrc cSt cAI cAJ)) (hA : ∀ q : Nat, s.heap.size ≤ q → A q) (hX : xT A s) (hN : nX s) (hml : c.maxLocals = 5) (hst : l.stackTraces = false) (kr43 : ∀ (H : Heap) (locs : List Loc) (ls : Array Slot), (r1 = 0 ∨ r1 = 1) → gC cI cJ cZ cMic cSrc cSt cAI cAJ D ad A s.heap H locs T1 → W p l e { frames := 1, cells := 0, slots := 0, locals := 0 } s m args below meth c H locs 0 0 Q (F0 m 43 ls [.int r1])) : ∀ (T : AT) (H : Heap) (locs : List Loc) (ls : Array Slot) (s0 : Int32), g_X10_isZero_b43 T s0 = some (r1, T1) → gC cI cJ cZ cMic cSrc cSt cAI cAJ D ad A s.heap H locs T → lv_has ls 5 [] → W p l e { frames := 1, cells := 0, slots := 0, locals := 0 } s m args below meth c H locs 0 0 Q (F0 m 43 ls [.int s0]) := by
  have hx := E.1
  have hb := E.2.1
  have hts := E.2.2.1
  have hown := E.2.2.2.1
  have hK := E.2.2.2.2
  intro T H locs ls s0 h G hl
  unfold g_X10_isZero_b43 at h
  obtain ⟨gz, h⟩ := oif_some h
  have gr : r1 = 0 ∨ r1 = 1 := by rw [← (osome2 h).1]; exact gz
  rw [(osome2 h).2] at G
  refine lv_to (osome2 h).1 ?_
  exact kr43 _ _ _ gr G
def g_X10_isZero_b5  : Nat → AT → Nat → Int32 → Int64 → Int32 → Option (Int32 × AT)
  | 0, _, _, _, _, _ => none
  | n + 1, T, l0, l1, l2, l4 => oif (oO T l0 10 = true) <| elet (T.2.2.1 l0 2) fun v3 => if v3 ≤ l4 then (elet (lg_cmp l2 (0 : Int64)) fun v5 => if v5 = 0 then (g_X10_isZero_b43 T 1) else (g_X10_isZero_b43 T 0)) else (oif (oO T l0 10 = true) <| obind (T.2.2.2.2 l0 1) fun n8 => oif (aA T n8 107 = true) <| oif (inb l4 (T.2.1 n8).2 = true) <| obind (T.2.2.2.2 n8 l4.toNatClampNeg) fun n11 => oif (aA T n11 101 = true) <| oif (inb l1 (T.2.1 n11).2 = true) <| elet (T.2.2.2.1 n11 l1.toNatClampNeg) fun v14 => elet (l2 ||| v14) fun v15 => elet (l4 + Int32.ofInt (1)) fun v16 => g_X10_isZero_b5 n T l0 l1 v15 v16)
set_option maxHeartbeats 4000000 in
set_option maxRecDepth 100000 in
theorem u_X10_isZero_b5 {p : Program} {l : Launch} {e : Env} {s : State} {m : MethodId} {args : Array Value} {below : List Frame} {meth : Method} {c : Code} {Q : State → Prop} {D : va_G} {A : Nat → Prop} {cI cJ cZ cMic cSrc cSt cAI cAJ : ClassId} {ad : Nat → Nat} {r1 : Int32} {T1 : AT} (E : cE p c cX10_isZero s m args (Cond.code yX10_isZero cX10_isZero 5 (some .boolean) :: wsA) D RX10 (CT cI cJ cZ cMic cSrc cSt cAI cAJ)) (hA : ∀ q : Nat, s.heap.size ≤ q → A q) (hX : xT A s) (hN : nX s) (hml : c.maxLocals = 5) (hst : l.stackTraces = false) (kr43 : ∀ (H : Heap) (locs : List Loc) (ls : Array Slot), (r1 = 0 ∨ r1 = 1) → gC cI cJ cZ cMic cSrc cSt cAI cAJ D ad A s.heap H locs T1 → W p l e { frames := 1, cells := 0, slots := 0, locals := 0 } s m args below meth c H locs 0 0 Q (F0 m 43 ls [.int r1])) : ∀ n : Nat, ∀ (T : AT) (H : Heap) (locs : List Loc) (ls : Array Slot) (l0 : Nat) (l1 : Int32) (l2 : Int64) (l4 : Int32), g_X10_isZero_b5 n T l0 l1 l2 l4 = some (r1, T1) → gC cI cJ cZ cMic cSrc cSt cAI cAJ D ad A s.heap H locs T → lv_has ls 5 [(0, .ref (ad l0)), (1, .int l1), (2, .long l2), (4, .int l4)] → W p l e { frames := 1, cells := 0, slots := 0, locals := 0 } s m args below meth c H locs 0 0 Q (F0 m 5 ls []) := by
  have hx := E.1
  have hb := E.2.1
  have hts := E.2.2.1
  have hown := E.2.2.2.1
  have hK := E.2.2.2.2
  intro n
  induction n with
  | zero =>
    intro T H locs ls l0 l1 l2 l4 h
    have h : (none : Option (Int32 × AT)) = some (r1, T1) := h
    cases h
  | succ n ih =>
    intro T H locs ls l0 l1 l2 l4 h G hl
    unfold g_X10_isZero_b5 at h
    refine lv_iload hx hb dX10_isZero_5 (lv_at hl 3 rfl) ?_
    refine lv_aload_n hx hb dX10_isZero_7 rfl (lv_at hl 0 rfl) ?_
    obtain ⟨g2, h⟩ := oif_some h
    refine c_get E G l0 2 (oO_k g2).1 (cc_o10 (oO_k g2).2) rfl (fun w h => .tail _ (iA_12 h)) (by decide) (.tail _ qA_15) rfl rfl dX10_isZero_8 ?_
    refine lv_topi (fun v3 ev3 => ?_)
    have h := elet_at ev3 h
    clear ev3
    refine lv_icmp_ge (tgt := 32) hx hb dX10_isZero_11 (by decide) (fun c4 => ?_) (fun c4 => ?_)
    · have h := oif_pos c4 h
      refine lv_lload_n hx hb dX10_isZero_32 rfl (lv_at hl 2 rfl) ?_
      refine lv_lconst (v := 0) hx hb dX10_isZero_33 (by decide) ?_
      refine W.lcmp hx hb dX10_isZero_34 ?_
      refine lv_topi (fun v5 ev5 => ?_)
      have h := elet_at ev5 h
      clear ev5
      refine lv_if_ne (tgt := 42) hx hb dX10_isZero_35 (by decide) (fun c6 => ?_) (fun c6 => ?_)
      · have h := oif_neg c6 h
        refine lv_iconst (v := 0) hx hb dX10_isZero_42 (by decide) ?_
        have hl := lv_sub hl [] rfl
        exact u_X10_isZero_b43 E hA hX hN hml hst kr43 _ _ _ _ _ h G hl
      · have h := oif_pos c6 h
        refine lv_iconst (v := 1) hx hb dX10_isZero_38 (by decide) ?_
        refine lv_goto (tgt := 43) hx hb dX10_isZero_39 (by decide) ?_
        have hl := lv_sub hl [] rfl
        exact u_X10_isZero_b43 E hA hX hN hml hst kr43 _ _ _ _ _ h G hl
    · have h := oif_neg c4 h
      refine lv_lload_n hx hb dX10_isZero_14 rfl (lv_at hl 2 rfl) ?_
      refine lv_aload_n hx hb dX10_isZero_15 rfl (lv_at hl 0 rfl) ?_
      obtain ⟨g7, h⟩ := oif_some h
      obtain ⟨n8, en8, h⟩ := obind_some h
      refine c_get E G l0 1 (v := .ref (ad n8)) (oO_k g7).1 (cc_o10 (oO_k g7).2) rfl (fun w h => .tail _ (iA_12 h)) (by decide) (.tail _ qA_14) rfl (by rw [en8]; rfl) dX10_isZero_16 ?_
      clear en8
      refine lv_iload hx hb dX10_isZero_19 (lv_at hl 3 rfl) ?_
      obtain ⟨g9, h⟩ := oif_some h
      obtain ⟨g10, h⟩ := oif_some h
      obtain ⟨n11, en11, h⟩ := obind_some h
      refine c_alda E G n8 7 (k := l4.toNatClampNeg) (v := .ref (ad n11)) (aA_k g9).1 (cc_a107 (aA_k g9).2.1) rfl (inb_k g10).1 (inb_k g10).2 (aA_k g9).2.2 (by show va_rf ((T.2.2.2.2 n8 l4.toNatClampNeg).map ad) = _; rw [en11]; rfl) dX10_isZero_21 ?_
      clear en11
      refine lv_iload_n hx hb dX10_isZero_22 rfl (lv_at hl 1 rfl) ?_
      obtain ⟨g12, h⟩ := oif_some h
      obtain ⟨g13, h⟩ := oif_some h
      refine c_lald E G n11 1 (k := l1.toNatClampNeg) (aA_k g12).1 (cc_a101 (aA_k g12).2.1) rfl (inb_k g13).1 (inb_k g13).2 (aA_k g12).2.2 dX10_isZero_23 ?_
      refine lv_topl (fun v14 ev14 => ?_)
      have h := elet_at ev14 h
      clear ev14
      refine lv_lor hx hb dX10_isZero_24 ?_
      refine lv_topl (fun v15 ev15 => ?_)
      have h := elet_at ev15 h
      clear ev15
      refine lv_lstore_n (lv' := [(2, .long v15), (0, .ref (ad l0)), (1, .int l1), (4, .int l4)]) hx hb dX10_isZero_25 rfl hl (by decide) rfl (fun ls hl => ?_)
      obtain ⟨v16, ev16, h⟩ := elet_some h
      refine lv_iinc (v := v16) (lv' := [(4, .int v16), (2, .long v15), (0, .ref (ad l0)), (1, .int l1)]) hx hb dX10_isZero_26 hl (k := 3) rfl ev16.symm (by decide) rfl (fun ls hl => ?_)
      refine lv_goto (tgt := 5) hx hb dX10_isZero_29 (by decide) ?_
      have hl := lv_sub hl [2, 3, 1, 0] rfl
      exact ih _ _ _ _ _ _ _ _ h G hl
def g_X10_isZero (T : AT) (o : Nat) (a0 : Int32) : Option (Int32 × AT) := g_X10_isZero_b5 16384 T o a0 (0 : Int64) 0
set_option maxHeartbeats 4000000 in
set_option maxRecDepth 100000 in
theorem u_X10_isZero (l : Launch) (hst : l.stackTraces = false) (D : va_G) (cI cJ cZ cMic cSrc cSt cAI cAJ : ClassId) (ad : Nat → Nat) (T : AT) (o : Nat) (a0 : Int32) {r1 : Int32} {T1 : AT} (h : g_X10_isZero T o a0 = some (r1, T1)) : kCi l yX10_isZero (Cond.code yX10_isZero cX10_isZero 5 (some .boolean) :: wsA) 1 0 cI cJ cZ cMic cSrc cSt cAI cAJ D ad T [.ref (ad o), .int a0] (fun r T9 => r = r1 ∧ T9 = T1) := by
  intro sz
  refine Met.ofW (cc := cX10_isZero) (maxL := 5) (ret := (some .boolean)) (by decide) rfl ?_
  intro p e s m args below meth c s₁ B hml hv
  obtain ⟨rfl, hsz, hP, hK, hD0, hX, hN⟩ := hv
  have hx := B.exec
  have hb := B.bytes
  have hr := B.returns
  have hts := atoms_spec (ws := (Cond.code yX10_isZero cX10_isZero 5 (some .boolean) :: wsA)) B.pre
  have hown : s.vm.findClass RX10 = some m.cls := findClass_of_methodNamed B.named
  have hlocks := B.notSynchronized
  subst hsz
  have hD := hD0.self (sz := s.heap.size)
  generalize hAe : va_A (cW ad T.1 (cc cI cJ cZ cMic cSrc cSt cAI cAJ ad T)) s.heap.size = A at hD hX ⊢
  have hA : ∀ q : Nat, s.heap.size ≤ q → A q := fun q h => by rw [← hAe]; exact Or.inr h
  have G : gC cI cJ cZ cMic cSrc cSt cAI cAJ D ad A s.heap s.heap [] T := ⟨hP, hD, va_S.rf⟩
  have E : cE p c cX10_isZero s m ([.ref (ad o), .int a0] : List Value).toArray (Cond.code yX10_isZero cX10_isZero 5 (some .boolean) :: wsA) D RX10 (CT cI cJ cZ cMic cSrc cSt cAI cAJ) := ⟨hx, hb, hts, hown, hK⟩
  have hl := lv_entry ([.ref (ad o), .int a0]) (n := 5) (Nat.le_of_ble_eq_true rfl)
  rw [lg_entry_eq]
  generalize (lg_sl ([.ref (ad o), .int a0]) ++ List.replicate (5 - (lg_sl ([.ref (ad o), .int a0])).length) Slot.unset).toArray = ls at hl ⊢
  have hl : lv_has ls 5 [(0, .ref (ad o)), (1, .int a0)] := hl
  unfold g_X10_isZero at h
  refine lv_lconst (v := 0) hx hb dX10_isZero_0 (by decide) ?_
  refine lv_lstore_n (lv' := [(2, .long (0 : Int64)), (0, .ref (ad o)), (1, .int a0)]) hx hb dX10_isZero_1 rfl hl (by decide) rfl (fun ls hl => ?_)
  refine lv_iconst (v := 0) hx hb dX10_isZero_2 (by decide) ?_
  refine lv_istore (lv' := [(4, .int 0), (2, .long (0 : Int64)), (0, .ref (ad o)), (1, .int a0)]) hx hb dX10_isZero_3 hl (by decide) rfl (fun ls hl => ?_)
  have hl := lv_sub hl [2, 3, 1, 0] rfl
  exact u_X10_isZero_b5 E hA hX hN hml hst (fun H locs ls gz G => W.zret (v := r1) hx hb hr (nar01 gz) (fun t ht hW => ⟨⟨r1, T1, rfl, ⟨rfl, rfl⟩, ⟨by rw [ht]; exact G.1, va_K.moved hW.alike hK, G.2.1⟩⟩, G.2.2.F ht⟩) G.2.2.2.2 dX10_isZero_43) _ _ _ _ _ _ _ _ _ h G hl
set_option maxHeartbeats 4000000 in
set_option maxRecDepth 100000 in
theorem s_X10_isZero_b43 {r1 : Int32} {T1 : AT} : ∀ (T : AT) (s0 : Int32), g_X10_isZero_b43 T s0 = some (r1, T1) → SP T T1 := by
  intro T s0 h
  have p0 := SP.rf T
  unfold g_X10_isZero_b43 at h
  obtain ⟨gz, h⟩ := oif_some h
  rw [← (osome2 h).2]
  exact p0
set_option maxHeartbeats 4000000 in
set_option maxRecDepth 100000 in
theorem s_X10_isZero_b5 {r1 : Int32} {T1 : AT} : ∀ n : Nat, ∀ (T : AT) (l0 : Nat) (l1 : Int32) (l2 : Int64) (l4 : Int32), g_X10_isZero_b5 n T l0 l1 l2 l4 = some (r1, T1) → SP T T1 := by
  intro n
  induction n with
  | zero =>
    intro T l0 l1 l2 l4 h
    have h : (none : Option (Int32 × AT)) = some (r1, T1) := h
    cases h
  | succ n ih =>
    intro T l0 l1 l2 l4 h
    have p0 := SP.rf T
    unfold g_X10_isZero_b5 at h
    obtain ⟨g2, h⟩ := oif_some h
    obtain ⟨v3, -, h⟩ := elet_some h
    rcases oif_or h with ⟨c4, h⟩ | ⟨c4, h⟩
    · have h := h
      obtain ⟨v5, -, h⟩ := elet_some h
      rcases oif_or h with ⟨c6, h⟩ | ⟨c6, h⟩
      · have h := h
        exact SP.tr p0 (s_X10_isZero_b43 _ _ h)
      · have h := h
        exact SP.tr p0 (s_X10_isZero_b43 _ _ h)
    · have h := h
      obtain ⟨g7, h⟩ := oif_some h
      obtain ⟨n8, en8, h⟩ := obind_some h
      obtain ⟨g9, h⟩ := oif_some h
      obtain ⟨g10, h⟩ := oif_some h
      obtain ⟨n11, en11, h⟩ := obind_some h
      obtain ⟨g12, h⟩ := oif_some h
      obtain ⟨g13, h⟩ := oif_some h
      obtain ⟨v14, -, h⟩ := elet_some h
      obtain ⟨v15, -, h⟩ := elet_some h
      obtain ⟨v16, ev16, h⟩ := elet_some h
      exact SP.tr p0 (ih _ _ _ _ _ h)
set_option maxHeartbeats 4000000 in
set_option maxRecDepth 100000 in
theorem s_X10_isZero {T : AT} {o : Nat} {a0 : Int32} {r1 : Int32} {T1 : AT} (h : g_X10_isZero T o a0 = some (r1, T1)) : SP T T1 := by
  have p0 := SP.rf T
  unfold g_X10_isZero at h
  exact SP.tr p0 (s_X10_isZero_b5 _ _ _ _ _ _ h)
def g_X4_digit_b84  (T : AT) (l3 : Int32) : Option (Int32 × AT) := some (l3, T)
def g_X4_digit_b77 (k27 : AT → Nat → Nat → Int32 → Int32 → Option (Int32 × AT)) (T : AT) (s0 : Int32) (l0 : Nat) (l2 : Nat) (l4 : Int32) : Option (Int32 × AT) := elet (l4 + Int32.ofInt (1)) fun v2 => k27 T l0 l2 s0 v2
def g_X4_digit_b62 (k27 : AT → Nat → Nat → Int32 → Int32 → Option (Int32 × AT)) (T : AT) (l0 : Nat) (l2 : Nat) (l3 : Int32) (l4 : Int32) : Option (Int32 × AT) := oif (oO T l2 10 = true) <| obind2 (g_X10_compare T l2 (0 : Int32) (1 : Int32)) fun r5 T3 => if r5 < 0 then (g_X4_digit_b77 k27 T3 l3 l0 l2 l4) else (g_X4_digit_b77 k27 T3 l4 l0 l2 l4)
def g_X4_digit_b27  : Nat → AT → Nat → Nat → Int32 → Int32 → Option (Int32 × AT)
  | 0, _, _, _, _, _ => none
  | n + 1, T, l0, l2, l3, l4 => if 9 < l4 then (g_X4_digit_b84 T l3) else (oif (oO T l0 4 = true) <| obind (T.2.2.2.2 l0 1) fun n4 => oif (oO T l0 4 = true) <| elet (T.2.2.1 l0 2) fun v6 => oif (oO T n4 10 = true) <| obind2 (g_X10_isZero T n4 v6) fun r10 T8 => if r10 = 0 then (oif (oO T8 l0 4 = true) <| obind (T8.2.2.2.2 l0 1) fun n14 => oif (oO T8 l0 4 = true) <| elet (T8.2.2.1 l0 2) fun v16 => oif (oO T8 l2 10 = true) <| obind (g_X10_add T8 l2 (1 : Int32) n14 v16 (1 : Int32)) fun T18 => g_X4_digit_b62 (g_X4_digit_b27 n) T18 l0 l2 l3 l4) else (g_X4_digit_b84 T8 l3))
def g_X4_digit_b22  (T : AT) (l0 : Nat) (l2 : Nat) : Option (Int32 × AT) := g_X4_digit_b27 16384 T l0 l2 0 1
def g_X4_digit (T : AT) (o : Nat) (a0 : Int32) (a1 : Nat) : Option (Int32 × AT) := oif (oO T a1 10 = true) <| obind (g_X10_clear T a1 (0 : Int32)) fun T3 => oif (oO T3 a1 10 = true) <| obind (g_X10_clear T3 a1 (1 : Int32)) fun T6 => oif (oO T6 o 4 = true) <| obind (T6.2.2.2.2 o 1) fun n9 => oif (oO T6 a1 10 = true) <| obind (g_X10_add T6 a1 (0 : Int32) n9 a0 (9 : Int32)) fun T11 => g_X4_digit_b22 T11 o a1
set_option maxHeartbeats 4000000 in
set_option maxRecDepth 100000 in
theorem s_X4_digit_b84 {r1 : Int32} {T1 : AT} : ∀ (T : AT) (l3 : Int32), g_X4_digit_b84 T l3 = some (r1, T1) → GL T T1 := by
  intro T l3 h
  have p0 := GL.rf T
  unfold g_X4_digit_b84 at h
  rw [← (osome2 h).2]
  exact p0
set_option maxHeartbeats 4000000 in
set_option maxRecDepth 100000 in
theorem s_X4_digit_b77 {r1 : Int32} {T1 : AT} {k27 : AT → Nat → Nat → Int32 → Int32 → Option (Int32 × AT)} (hk27 : ∀ (T : AT) (l0 : Nat) (l2 : Nat) (l3 : Int32) (l4 : Int32), k27 T l0 l2 l3 l4 = some (r1, T1) → GL T T1) : ∀ (T : AT) (s0 : Int32) (l0 : Nat) (l2 : Nat) (l4 : Int32), g_X4_digit_b77 k27 T s0 l0 l2 l4 = some (r1, T1) → GL T T1 := by
  intro T s0 l0 l2 l4 h
  have p0 := GL.rf T
  unfold g_X4_digit_b77 at h
  obtain ⟨v2, ev2, h⟩ := elet_some h
  exact GL.tr p0 (hk27 _ _ _ _ _ h)
set_option maxHeartbeats 4000000 in
set_option maxRecDepth 100000 in
theorem s_X4_digit_b62 {r1 : Int32} {T1 : AT} {k27 : AT → Nat → Nat → Int32 → Int32 → Option (Int32 × AT)} (hk27 : ∀ (T : AT) (l0 : Nat) (l2 : Nat) (l3 : Int32) (l4 : Int32), k27 T l0 l2 l3 l4 = some (r1, T1) → GL T T1) : ∀ (T : AT) (l0 : Nat) (l2 : Nat) (l3 : Int32) (l4 : Int32), g_X4_digit_b62 k27 T l0 l2 l3 l4 = some (r1, T1) → GL T T1 := by
  intro T l0 l2 l3 l4 h
  have p0 := GL.rf T
  unfold g_X4_digit_b62 at h
  obtain ⟨g2, h⟩ := oif_some h
  obtain ⟨r4, T3, eT3, h⟩ := obind2_some h
  have p1 : GL T T3 := GL.tr p0 (gl_sp (s_X10_compare eT3))
  rcases oif_or h with ⟨c5, h⟩ | ⟨c5, h⟩
  · have h := h
    exact GL.tr p1 (s_X4_digit_b77 hk27 _ _ _ _ _ h)
  · have h := h
    exact GL.tr p1 (s_X4_digit_b77 hk27 _ _ _ _ _ h)
set_option maxHeartbeats 4000000 in
set_option maxRecDepth 100000 in
theorem s_X4_digit_b27 {r1 : Int32} {T1 : AT} : ∀ n : Nat, ∀ (T : AT) (l0 : Nat) (l2 : Nat) (l3 : Int32) (l4 : Int32), g_X4_digit_b27 n T l0 l2 l3 l4 = some (r1, T1) → GL T T1 := by
  intro n
  induction n with
  | zero =>
    intro T l0 l2 l3 l4 h
    have h : (none : Option (Int32 × AT)) = some (r1, T1) := h
    cases h
  | succ n ih =>
    intro T l0 l2 l3 l4 h
    have p0 := GL.rf T
    unfold g_X4_digit_b27 at h
    rcases oif_or h with ⟨c2, h⟩ | ⟨c2, h⟩
    · have h := h
      exact GL.tr p0 (s_X4_digit_b84 _ _ h)
    · have h := h
      obtain ⟨g3, h⟩ := oif_some h
      obtain ⟨n4, en4, h⟩ := obind_some h
      obtain ⟨g5, h⟩ := oif_some h
      obtain ⟨v6, -, h⟩ := elet_some h
      obtain ⟨g7, h⟩ := oif_some h
      obtain ⟨r9, T8, eT8, h⟩ := obind2_some h
      have p1 : GL T T8 := GL.tr p0 (gl_sp (s_X10_isZero eT8))
      rcases oif_or h with ⟨c10, h⟩ | ⟨c10, h⟩
      · have h := h
        obtain ⟨g11, h⟩ := oif_some h
        obtain ⟨n12, en12, h⟩ := obind_some h
        obtain ⟨g13, h⟩ := oif_some h
        obtain ⟨v14, -, h⟩ := elet_some h
        obtain ⟨g15, h⟩ := oif_some h
        obtain ⟨T16, eT16, h⟩ := obind_some h
        have p2 : GL T T16 := GL.tr p1 (s_X10_add eT16)
        exact GL.tr p2 (s_X4_digit_b62 ih _ _ _ _ _ h)
      · have h := h
        exact GL.tr p1 (s_X4_digit_b84 _ _ h)
set_option maxHeartbeats 4000000 in
set_option maxRecDepth 100000 in
theorem s_X4_digit_b22 {r1 : Int32} {T1 : AT} : ∀ (T : AT) (l0 : Nat) (l2 : Nat), g_X4_digit_b22 T l0 l2 = some (r1, T1) → GL T T1 := by
  intro T l0 l2 h
  have p0 := GL.rf T
  unfold g_X4_digit_b22 at h
  exact GL.tr p0 (s_X4_digit_b27 _ _ _ _ _ _ h)
set_option maxHeartbeats 4000000 in
set_option maxRecDepth 100000 in
theorem s_X4_digit {T : AT} {o : Nat} {a0 : Int32} {a1 : Nat} {r1 : Int32} {T1 : AT} (h : g_X4_digit T o a0 a1 = some (r1, T1)) : GL T T1 := by
  have p0 := GL.rf T
  unfold g_X4_digit at h
  obtain ⟨g2, h⟩ := oif_some h
  obtain ⟨T3, eT3, h⟩ := obind_some h
  have p1 : GL T T3 := GL.tr p0 (gl_sp (s_X10_clear eT3))
  obtain ⟨g5, h⟩ := oif_some h
  obtain ⟨T6, eT6, h⟩ := obind_some h
  have p2 : GL T T6 := GL.tr p1 (gl_sp (s_X10_clear eT6))
  obtain ⟨g8, h⟩ := oif_some h
  obtain ⟨n9, en9, h⟩ := obind_some h
  obtain ⟨g10, h⟩ := oif_some h
  obtain ⟨T11, eT11, h⟩ := obind_some h
  have p3 : GL T T11 := GL.tr p2 (s_X10_add eT11)
  exact GL.tr p3 (s_X4_digit_b22 _ _ _ h)
set_option maxHeartbeats 4000000 in
set_option maxRecDepth 100000 in
theorem a_X4_digit_b84 {p : Program} {l : Launch} {e : Env} {s : State} {m : MethodId} {args : Array Value} {below : List Frame} {meth : Method} {c : Code} {Q : State → Prop} {D : va_G} {A : Nat → Prop} {cI cJ cZ cMic cSrc cSt cAI cAJ : ClassId} {ad0 : Nat → Nat} {T0 : AT} {r1 : Int32} {T1 : AT} (E : cE p c cX4_digit s m args (Cond.code yX4_digit cX4_digit 5 (some .int) :: wsA) D RX4 (CT cI cJ cZ cMic cSrc cSt cAI cAJ)) (hA : ∀ q : Nat, s.heap.size ≤ q → A q) (hX : xT A s) (hN : nX s) (hml : c.maxLocals = 5) (hst : l.stackTraces = false) (kr85 : ∀ (ad : Nat → Nat) (H : Heap) (locs : List Loc) (ls : Array Slot), (∀ n, n < T0.1 → ad n = ad0 n) → gC cI cJ cZ cMic cSrc cSt cAI cAJ D ad A s.heap H locs T1 → W p l e { frames := 4, cells := T1.1 - T0.1, slots := sg T1 - sg T0, locals := 74 } s m args below meth c H locs (T1.1 - T0.1) (sg T1 - sg T0) Q (F0 m 85 ls [.int r1])) : ∀ (T : AT) (ad : Nat → Nat) (H : Heap) (locs : List Loc) (ls : Array Slot) (l3 : Int32), g_X4_digit_b84 T l3 = some (r1, T1) → GL T0 T → RC T → (∀ n, n < T0.1 → ad n = ad0 n) → gC cI cJ cZ cMic cSrc cSt cAI cAJ D ad A s.heap H locs T → lv_has ls 5 [(3, .int l3)] → W p l e { frames := 4, cells := T1.1 - T0.1, slots := sg T1 - sg T0, locals := 74 } s m args below meth c H locs (T.1 - T0.1) (sg T - sg T0) Q (F0 m 84 ls []) := by
  have hx := E.1
  have hb := E.2.1
  have hts := E.2.2.1
  have hown := E.2.2.2.1
  have hK := E.2.2.2.2
  intro T ad H locs ls l3 h hgl hrc had G hl
  have hT1 := s_X4_digit_b84 _ _ h
  have hcs := cs_ok hgl hT1
  have cp0 := cpr0 hrc
  unfold g_X4_digit_b84 at h
  refine lv_iload_n hx hb dX4_digit_84 rfl (lv_at hl 0 rfl) ?_
  rw [(osome2 h).2] at G
  refine w_cast (c2 := T1.1 - T0.1) (s2 := sg T1 - sg T0) (by rw [← (osome2 h).2, cp0.1] <;> rfl) (by rw [← (osome2 h).2, sg_cpr cp0] <;> rfl) ?_
  refine lv_to ((osome2 h).1) ?_
  exact kr85 ad _ _ _ had G
set_option maxHeartbeats 4000000 in
set_option maxRecDepth 100000 in
theorem a_X4_digit_b77 {p : Program} {l : Launch} {e : Env} {s : State} {m : MethodId} {args : Array Value} {below : List Frame} {meth : Method} {c : Code} {Q : State → Prop} {D : va_G} {A : Nat → Prop} {cI cJ cZ cMic cSrc cSt cAI cAJ : ClassId} {ad0 : Nat → Nat} {T0 : AT} {r1 : Int32} {T1 : AT} (E : cE p c cX4_digit s m args (Cond.code yX4_digit cX4_digit 5 (some .int) :: wsA) D RX4 (CT cI cJ cZ cMic cSrc cSt cAI cAJ)) (hA : ∀ q : Nat, s.heap.size ≤ q → A q) (hX : xT A s) (hN : nX s) (hml : c.maxLocals = 5) (hst : l.stackTraces = false) (kr85 : ∀ (ad : Nat → Nat) (H : Heap) (locs : List Loc) (ls : Array Slot), (∀ n, n < T0.1 → ad n = ad0 n) → gC cI cJ cZ cMic cSrc cSt cAI cAJ D ad A s.heap H locs T1 → W p l e { frames := 4, cells := T1.1 - T0.1, slots := sg T1 - sg T0, locals := 74 } s m args below meth c H locs (T1.1 - T0.1) (sg T1 - sg T0) Q (F0 m 85 ls [.int r1])) {k27 : AT → Nat → Nat → Int32 → Int32 → Option (Int32 × AT)} (hs27 : ∀ (T : AT) (l0 : Nat) (l2 : Nat) (l3 : Int32) (l4 : Int32), k27 T l0 l2 l3 l4 = some (r1, T1) → GL T T1) (hk27 : ∀ (T : AT) (ad : Nat → Nat) (H : Heap) (locs : List Loc) (ls : Array Slot) (l0 : Nat) (l2 : Nat) (l3 : Int32) (l4 : Int32), k27 T l0 l2 l3 l4 = some (r1, T1) → GL T0 T → RC T → (∀ n, n < T0.1 → ad n = ad0 n) → l0 < T.1 → l2 < T.1 → gC cI cJ cZ cMic cSrc cSt cAI cAJ D ad A s.heap H locs T → lv_has ls 5 [(0, .ref (ad l0)), (2, .ref (ad l2)), (3, .int l3), (4, .int l4)] → W p l e { frames := 4, cells := T1.1 - T0.1, slots := sg T1 - sg T0, locals := 74 } s m args below meth c H locs (T.1 - T0.1) (sg T - sg T0) Q (F0 m 27 ls [])) : ∀ (T : AT) (ad : Nat → Nat) (H : Heap) (locs : List Loc) (ls : Array Slot) (s0 : Int32) (l0 : Nat) (l2 : Nat) (l4 : Int32), g_X4_digit_b77 k27 T s0 l0 l2 l4 = some (r1, T1) → GL T0 T → RC T → (∀ n, n < T0.1 → ad n = ad0 n) → l0 < T.1 → l2 < T.1 → gC cI cJ cZ cMic cSrc cSt cAI cAJ D ad A s.heap H locs T → lv_has ls 5 [(0, .ref (ad l0)), (2, .ref (ad l2)), (4, .int l4)] → W p l e { frames := 4, cells := T1.1 - T0.1, slots := sg T1 - sg T0, locals := 74 } s m args below meth c H locs (T.1 - T0.1) (sg T - sg T0) Q (F0 m 77 ls [.int s0]) := by
  have hx := E.1
  have hb := E.2.1
  have hts := E.2.2.1
  have hown := E.2.2.2.1
  have hK := E.2.2.2.2
  intro T ad H locs ls s0 l0 l2 l4 h hgl hrc had h_l0 h_l2 G hl
  have hT1 := s_X4_digit_b77 hs27 _ _ _ _ _ h
  have hcs := cs_ok hgl hT1
  have cp0 := cpr0 hrc
  unfold g_X4_digit_b77 at h
  refine lv_istore_n (lv' := [(3, .int s0), (0, .ref (ad l0)), (2, .ref (ad l2)), (4, .int l4)]) hx hb dX4_digit_77 rfl hl (by decide) rfl (fun ls hl => ?_)
  obtain ⟨v2, ev2, h⟩ := elet_some h
  refine lv_iinc (v := v2) (lv' := [(4, .int v2), (3, .int s0), (0, .ref (ad l0)), (2, .ref (ad l2))]) hx hb dX4_digit_78 hl (k := 3) rfl ev2.symm (by decide) rfl (fun ls hl => ?_)
  refine lv_goto (tgt := 27) hx hb dX4_digit_81 (by decide) ?_
  have hl := lv_sub hl [2, 3, 1, 0] rfl
  refine w_cast (c2 := T.1 - T0.1) (s2 := sg T - sg T0) (by rw [cp0.1] <;> rfl) (by rw [sg_cpr cp0] <;> rfl) ?_
  exact hk27 _ _ _ _ _ _ _ _ _ h (gl_cpr hgl cp0) cp0.2.2 had (by rw [cp0.1]; exact h_l0) (by rw [cp0.1]; exact h_l2) G hl
set_option maxHeartbeats 4000000 in
set_option maxRecDepth 100000 in
theorem a_X4_digit_b62 {p : Program} {l : Launch} {e : Env} {s : State} {m : MethodId} {args : Array Value} {below : List Frame} {meth : Method} {c : Code} {Q : State → Prop} {D : va_G} {A : Nat → Prop} {cI cJ cZ cMic cSrc cSt cAI cAJ : ClassId} {ad0 : Nat → Nat} {T0 : AT} {r1 : Int32} {T1 : AT} (E : cE p c cX4_digit s m args (Cond.code yX4_digit cX4_digit 5 (some .int) :: wsA) D RX4 (CT cI cJ cZ cMic cSrc cSt cAI cAJ)) (hA : ∀ q : Nat, s.heap.size ≤ q → A q) (hX : xT A s) (hN : nX s) (hml : c.maxLocals = 5) (hst : l.stackTraces = false) (kr85 : ∀ (ad : Nat → Nat) (H : Heap) (locs : List Loc) (ls : Array Slot), (∀ n, n < T0.1 → ad n = ad0 n) → gC cI cJ cZ cMic cSrc cSt cAI cAJ D ad A s.heap H locs T1 → W p l e { frames := 4, cells := T1.1 - T0.1, slots := sg T1 - sg T0, locals := 74 } s m args below meth c H locs (T1.1 - T0.1) (sg T1 - sg T0) Q (F0 m 85 ls [.int r1])) {k27 : AT → Nat → Nat → Int32 → Int32 → Option (Int32 × AT)} (hs27 : ∀ (T : AT) (l0 : Nat) (l2 : Nat) (l3 : Int32) (l4 : Int32), k27 T l0 l2 l3 l4 = some (r1, T1) → GL T T1) (hk27 : ∀ (T : AT) (ad : Nat → Nat) (H : Heap) (locs : List Loc) (ls : Array Slot) (l0 : Nat) (l2 : Nat) (l3 : Int32) (l4 : Int32), k27 T l0 l2 l3 l4 = some (r1, T1) → GL T0 T → RC T → (∀ n, n < T0.1 → ad n = ad0 n) → l0 < T.1 → l2 < T.1 → gC cI cJ cZ cMic cSrc cSt cAI cAJ D ad A s.heap H locs T → lv_has ls 5 [(0, .ref (ad l0)), (2, .ref (ad l2)), (3, .int l3), (4, .int l4)] → W p l e { frames := 4, cells := T1.1 - T0.1, slots := sg T1 - sg T0, locals := 74 } s m args below meth c H locs (T.1 - T0.1) (sg T - sg T0) Q (F0 m 27 ls [])) : ∀ (T : AT) (ad : Nat → Nat) (H : Heap) (locs : List Loc) (ls : Array Slot) (l0 : Nat) (l2 : Nat) (l3 : Int32) (l4 : Int32), g_X4_digit_b62 k27 T l0 l2 l3 l4 = some (r1, T1) → GL T0 T → RC T → (∀ n, n < T0.1 → ad n = ad0 n) → l0 < T.1 → l2 < T.1 → gC cI cJ cZ cMic cSrc cSt cAI cAJ D ad A s.heap H locs T → lv_has ls 5 [(0, .ref (ad l0)), (2, .ref (ad l2)), (3, .int l3), (4, .int l4)] → W p l e { frames := 4, cells := T1.1 - T0.1, slots := sg T1 - sg T0, locals := 74 } s m args below meth c H locs (T.1 - T0.1) (sg T - sg T0) Q (F0 m 62 ls []) := by
  have hx := E.1
  have hb := E.2.1
  have hts := E.2.2.1
  have hown := E.2.2.2.1
  have hK := E.2.2.2.2
  intro T ad H locs ls l0 l2 l3 l4 h hgl hrc had h_l0 h_l2 G hl
  have hT1 := s_X4_digit_b62 hs27 _ _ _ _ _ h
  have hcs := cs_ok hgl hT1
  have cp0 := cpr0 hrc
  unfold g_X4_digit_b62 at h
  refine lv_aload_n hx hb dX4_digit_62 rfl (lv_at hl 1 rfl) ?_
  refine lv_iconst (v := 0) hx hb dX4_digit_63 (by decide) ?_
  refine lv_iconst (v := 1) hx hb dX4_digit_64 (by decide) ?_
  obtain ⟨g2, h⟩ := oif_some h
  obtain ⟨r5, T3, eT3, h⟩ := obind2_some h
  refine q_cvi (As := [.int 0, .int 1]) (rest := []) E G hA hX hN hml (u_X10_compare l hst D cI cJ cZ cMic cSrc cSt cAI cAJ ad T l2 (0 : Int32) (1 : Int32) eT3) (cwV 2 hts (gaV qA_430 qA_120 qA_121 qA_6 qA_122) rfl rfl rfl (by decide +kernel) ⟨Nat.le_of_ble_eq_true rfl, Nat.le_of_ble_eq_true rfl⟩) (oO_k g2).1 (cc_o10 (oO_k g2).2) rfl rfl hl.1 rfl (lv_room (Nat.le_of_ble_eq_true rfl)) dX4_digit_65 hcs (fun q6 T4 H locs hq G => ?_)
  obtain ⟨hq1, hq2⟩ := hq
  rw [hq2] at G
  refine lv_to hq1 ?_
  clear hq1 hq2
  have cp1 := cpr_sp cp0 (s_X10_compare eT3)
  refine lv_if_lt (tgt := 76) hx hb dX4_digit_68 (by decide) (fun c7 => ?_) (fun c7 => ?_)
  · have h := oif_pos c7 h
    refine lv_iload_n hx hb dX4_digit_76 rfl (lv_at hl 2 rfl) ?_
    have hl := lv_sub hl [0, 1, 3] rfl
    refine w_cast (c2 := T3.1 - T0.1) (s2 := sg T3 - sg T0) (by rw [cp1.1] <;> rfl) (by rw [sg_cpr cp1] <;> rfl) ?_
    exact a_X4_digit_b77 E hA hX hN hml hst kr85 hs27 hk27 _ _ _ _ _ _ _ _ _ h (gl_cpr hgl cp1) cp1.2.2 had (by rw [cp1.1]; exact h_l0) (by rw [cp1.1]; exact h_l2) G hl
  · have h := oif_neg c7 h
    refine lv_iload hx hb dX4_digit_71 (lv_at hl 3 rfl) ?_
    refine lv_goto (tgt := 77) hx hb dX4_digit_73 (by decide) ?_
    have hl := lv_sub hl [0, 1, 3] rfl
    refine w_cast (c2 := T3.1 - T0.1) (s2 := sg T3 - sg T0) (by rw [cp1.1] <;> rfl) (by rw [sg_cpr cp1] <;> rfl) ?_
    exact a_X4_digit_b77 E hA hX hN hml hst kr85 hs27 hk27 _ _ _ _ _ _ _ _ _ h (gl_cpr hgl cp1) cp1.2.2 had (by rw [cp1.1]; exact h_l0) (by rw [cp1.1]; exact h_l2) G hl
set_option maxHeartbeats 4000000 in
set_option maxRecDepth 100000 in
theorem a_X4_digit_b27 {p : Program} {l : Launch} {e : Env} {s : State} {m : MethodId} {args : Array Value} {below : List Frame} {meth : Method} {c : Code} {Q : State → Prop} {D : va_G} {A : Nat → Prop} {cI cJ cZ cMic cSrc cSt cAI cAJ : ClassId} {ad0 : Nat → Nat} {T0 : AT} {r1 : Int32} {T1 : AT} (E : cE p c cX4_digit s m args (Cond.code yX4_digit cX4_digit 5 (some .int) :: wsA) D RX4 (CT cI cJ cZ cMic cSrc cSt cAI cAJ)) (hA : ∀ q : Nat, s.heap.size ≤ q → A q) (hX : xT A s) (hN : nX s) (hml : c.maxLocals = 5) (hst : l.stackTraces = false) (kr85 : ∀ (ad : Nat → Nat) (H : Heap) (locs : List Loc) (ls : Array Slot), (∀ n, n < T0.1 → ad n = ad0 n) → gC cI cJ cZ cMic cSrc cSt cAI cAJ D ad A s.heap H locs T1 → W p l e { frames := 4, cells := T1.1 - T0.1, slots := sg T1 - sg T0, locals := 74 } s m args below meth c H locs (T1.1 - T0.1) (sg T1 - sg T0) Q (F0 m 85 ls [.int r1])) : ∀ n : Nat, ∀ (T : AT) (ad : Nat → Nat) (H : Heap) (locs : List Loc) (ls : Array Slot) (l0 : Nat) (l2 : Nat) (l3 : Int32) (l4 : Int32), g_X4_digit_b27 n T l0 l2 l3 l4 = some (r1, T1) → GL T0 T → RC T → (∀ n, n < T0.1 → ad n = ad0 n) → l0 < T.1 → l2 < T.1 → gC cI cJ cZ cMic cSrc cSt cAI cAJ D ad A s.heap H locs T → lv_has ls 5 [(0, .ref (ad l0)), (2, .ref (ad l2)), (3, .int l3), (4, .int l4)] → W p l e { frames := 4, cells := T1.1 - T0.1, slots := sg T1 - sg T0, locals := 74 } s m args below meth c H locs (T.1 - T0.1) (sg T - sg T0) Q (F0 m 27 ls []) := by
  have hx := E.1
  have hb := E.2.1
  have hts := E.2.2.1
  have hown := E.2.2.2.1
  have hK := E.2.2.2.2
  intro n
  induction n with
  | zero =>
    intro T ad H locs ls l0 l2 l3 l4 h
    have h : (none : Option (Int32 × AT)) = some (r1, T1) := h
    cases h
  | succ n ih =>
    intro T ad H locs ls l0 l2 l3 l4 h hgl hrc had h_l0 h_l2 G hl
    have hT1 := s_X4_digit_b27 _ _ _ _ _ _ h
    have hcs := cs_ok hgl hT1
    have cp0 := cpr0 hrc
    unfold g_X4_digit_b27 at h
    refine lv_iload hx hb dX4_digit_27 (lv_at hl 3 rfl) ?_
    refine lv_bipush (v := 9) hx hb dX4_digit_29 (by decide) ?_
    refine lv_icmp_gt (tgt := 84) hx hb dX4_digit_31 (by decide) (fun c2 => ?_) (fun c2 => ?_)
    · have h := oif_pos c2 h
      have hl := lv_sub hl [2] rfl
      refine w_cast (c2 := T.1 - T0.1) (s2 := sg T - sg T0) (by rw [cp0.1] <;> rfl) (by rw [sg_cpr cp0] <;> rfl) ?_
      exact a_X4_digit_b84 E hA hX hN hml hst kr85 _ _ _ _ _ _ h (gl_cpr hgl cp0) cp0.2.2 had G hl
    · have h := oif_neg c2 h
      refine lv_aload_n hx hb dX4_digit_34 rfl (lv_at hl 0 rfl) ?_
      obtain ⟨g3, h⟩ := oif_some h
      obtain ⟨n4, en4, h⟩ := obind_some h
      have h_n4 : n4 < T.1 := by rw [← cp0.1]; exact cp0.2.2 _ _ _ en4
      refine c_get E G l0 1 (v := .ref (ad n4)) (oO_k g3).1 (cc_o4 (oO_k g3).2) rfl (fun w h => .tail _ (iA_21 h)) (by decide) (.tail _ qA_408) rfl (by rw [en4]; rfl) dX4_digit_35 ?_
      clear en4
      refine lv_aload_n hx hb dX4_digit_38 rfl (lv_at hl 0 rfl) ?_
      obtain ⟨g5, h⟩ := oif_some h
      refine c_get E G l0 2 (oO_k g5).1 (cc_o4 (oO_k g5).2) rfl (fun w h => .tail _ (iA_21 h)) (by decide) (.tail _ qA_416) rfl rfl dX4_digit_39 ?_
      refine lv_topi (fun v6 ev6 => ?_)
      have h := elet_at ev6 h
      clear ev6
      obtain ⟨g7, h⟩ := oif_some h
      obtain ⟨r10, T8, eT8, h⟩ := obind2_some h
      refine q_cvi (As := [.int v6]) (rest := []) E G hA hX hN hml (u_X10_isZero l hst D cI cJ cZ cMic cSrc cSt cAI cAJ ad T n4 v6 eT8) (cwV 1 hts (gaV qA_448 qA_449 qA_450 qA_6 qA_451) rfl rfl rfl (by decide +kernel) ⟨Nat.le_of_ble_eq_true rfl, Nat.le_of_ble_eq_true rfl⟩) (oO_k g7).1 (cc_o10 (oO_k g7).2) rfl rfl hl.1 rfl (lv_room (Nat.le_of_ble_eq_true rfl)) dX4_digit_42 hcs (fun q11 T9 H locs hq G => ?_)
      obtain ⟨hq1, hq2⟩ := hq
      rw [hq2] at G
      refine lv_to hq1 ?_
      clear hq1 hq2
      have cp1 := cpr_sp cp0 (s_X10_isZero eT8)
      refine lv_if_ne (tgt := 84) hx hb dX4_digit_45 (by decide) (fun c12 => ?_) (fun c12 => ?_)
      · have h := oif_neg c12 h
        have hl := lv_sub hl [2] rfl
        refine w_cast (c2 := T8.1 - T0.1) (s2 := sg T8 - sg T0) (by rw [cp1.1] <;> rfl) (by rw [sg_cpr cp1] <;> rfl) ?_
        exact a_X4_digit_b84 E hA hX hN hml hst kr85 _ _ _ _ _ _ h (gl_cpr hgl cp1) cp1.2.2 had G hl
      · have h := oif_pos c12 h
        refine lv_aload_n hx hb dX4_digit_48 rfl (lv_at hl 1 rfl) ?_
        refine lv_iconst (v := 1) hx hb dX4_digit_49 (by decide) ?_
        refine lv_aload_n hx hb dX4_digit_50 rfl (lv_at hl 0 rfl) ?_
        obtain ⟨g13, h⟩ := oif_some h
        obtain ⟨n14, en14, h⟩ := obind_some h
        have h_n14 : n14 < T.1 := by rw [← cp1.1]; exact cp1.2.2 _ _ _ en14
        refine c_get E G l0 1 (v := .ref (ad n14)) (oO_k g13).1 (cc_o4 (oO_k g13).2) rfl (fun w h => .tail _ (iA_21 h)) (by decide) (.tail _ qA_408) rfl (by rw [en14]; rfl) dX4_digit_51 ?_
        clear en14
        refine lv_aload_n hx hb dX4_digit_54 rfl (lv_at hl 0 rfl) ?_
        obtain ⟨g15, h⟩ := oif_some h
        refine c_get E G l0 2 (oO_k g15).1 (cc_o4 (oO_k g15).2) rfl (fun w h => .tail _ (iA_21 h)) (by decide) (.tail _ qA_416) rfl rfl dX4_digit_55 ?_
        refine lv_topi (fun v16 ev16 => ?_)
        have h := elet_at ev16 h
        clear ev16
        refine lv_iconst (v := 1) hx hb dX4_digit_58 (by decide) ?_
        obtain ⟨g17, h⟩ := oif_some h
        obtain ⟨T18, eT18, h⟩ := obind_some h
        have hg2 := s_X10_add eT18
        have hrc2 := hg2.2.2 cp1.2.2
        have hT2 := s_X4_digit_b62 (s_X4_digit_b27 n) _ _ _ _ _ h
        refine q_avv (As := [.int 1, .ref (ad n14), .int v16, .int 1]) (rest := []) E G hA hX hN hml (a_X10_add l hst D cI cJ cZ cMic cSrc cSt cAI cAJ ad T8 l2 (1 : Int32) n14 v16 (1 : Int32) eT18 cp1.2.2 (by rw [cp1.1]; exact h_l2) (by rw [cp1.1]; exact h_n14)) (cwV 4 hts (gaV qA_440 qA_151 qA_152 qA_6 qA_153) rfl rfl rfl (by decide +kernel) ⟨Nat.le_of_ble_eq_true rfl, Nat.le_of_ble_eq_true rfl⟩) (oO_k g17).1 (cc_o10 (oO_k g17).2) rfl rfl hl.1 rfl (lv_room (Nat.le_of_ble_eq_true rfl)) dX4_digit_59 (cs_av hgl cp1 hg2 hT2) (fun ad2 H locs hga G => ?_)
        refine w_cast (c2 := T18.1 - T0.1) (s2 := sg T18 - sg T0) (cs_f1 hgl cp1 hg2) (cs_f2 hgl cp1 hg2) ?_
        have hl := lv_sub hl [0, 1, 2, 3] rfl
        rw [show ad l0 = ad2 l0 from (hga l0 (by rw [cp1.1]; exact h_l0)).symm] at hl
        rw [show ad l2 = ad2 l2 from (hga l2 (by rw [cp1.1]; exact h_l2)).symm] at hl
        exact a_X4_digit_b62 E hA hX hN hml hst kr85 (s_X4_digit_b27 n) ih _ _ _ _ _ _ _ _ _ h (GL.tr (gl_cpr hgl cp1) hg2) hrc2 (fun n hn => (hga n (by rw [cp1.1]; exact Nat.lt_of_lt_of_le hn hgl.1)).trans (had n hn)) (Nat.lt_of_lt_of_le (by rw [cp1.1]; exact h_l0) hg2.1) (Nat.lt_of_lt_of_le (by rw [cp1.1]; exact h_l2) hg2.1) G hl
set_option maxHeartbeats 4000000 in
set_option maxRecDepth 100000 in
theorem a_X4_digit_b22 {p : Program} {l : Launch} {e : Env} {s : State} {m : MethodId} {args : Array Value} {below : List Frame} {meth : Method} {c : Code} {Q : State → Prop} {D : va_G} {A : Nat → Prop} {cI cJ cZ cMic cSrc cSt cAI cAJ : ClassId} {ad0 : Nat → Nat} {T0 : AT} {r1 : Int32} {T1 : AT} (E : cE p c cX4_digit s m args (Cond.code yX4_digit cX4_digit 5 (some .int) :: wsA) D RX4 (CT cI cJ cZ cMic cSrc cSt cAI cAJ)) (hA : ∀ q : Nat, s.heap.size ≤ q → A q) (hX : xT A s) (hN : nX s) (hml : c.maxLocals = 5) (hst : l.stackTraces = false) (kr85 : ∀ (ad : Nat → Nat) (H : Heap) (locs : List Loc) (ls : Array Slot), (∀ n, n < T0.1 → ad n = ad0 n) → gC cI cJ cZ cMic cSrc cSt cAI cAJ D ad A s.heap H locs T1 → W p l e { frames := 4, cells := T1.1 - T0.1, slots := sg T1 - sg T0, locals := 74 } s m args below meth c H locs (T1.1 - T0.1) (sg T1 - sg T0) Q (F0 m 85 ls [.int r1])) : ∀ (T : AT) (ad : Nat → Nat) (H : Heap) (locs : List Loc) (ls : Array Slot) (l0 : Nat) (l2 : Nat), g_X4_digit_b22 T l0 l2 = some (r1, T1) → GL T0 T → RC T → (∀ n, n < T0.1 → ad n = ad0 n) → l0 < T.1 → l2 < T.1 → gC cI cJ cZ cMic cSrc cSt cAI cAJ D ad A s.heap H locs T → lv_has ls 5 [(0, .ref (ad l0)), (2, .ref (ad l2))] → W p l e { frames := 4, cells := T1.1 - T0.1, slots := sg T1 - sg T0, locals := 74 } s m args below meth c H locs (T.1 - T0.1) (sg T - sg T0) Q (F0 m 22 ls []) := by
  have hx := E.1
  have hb := E.2.1
  have hts := E.2.2.1
  have hown := E.2.2.2.1
  have hK := E.2.2.2.2
  intro T ad H locs ls l0 l2 h hgl hrc had h_l0 h_l2 G hl
  have hT1 := s_X4_digit_b22 _ _ _ h
  have hcs := cs_ok hgl hT1
  have cp0 := cpr0 hrc
  unfold g_X4_digit_b22 at h
  refine lv_iconst (v := 0) hx hb dX4_digit_22 (by decide) ?_
  refine lv_istore_n (lv' := [(3, .int 0), (0, .ref (ad l0)), (2, .ref (ad l2))]) hx hb dX4_digit_23 rfl hl (by decide) rfl (fun ls hl => ?_)
  refine lv_iconst (v := 1) hx hb dX4_digit_24 (by decide) ?_
  refine lv_istore (lv' := [(4, .int 1), (3, .int 0), (0, .ref (ad l0)), (2, .ref (ad l2))]) hx hb dX4_digit_25 hl (by decide) rfl (fun ls hl => ?_)
  have hl := lv_sub hl [2, 3, 1, 0] rfl
  refine w_cast (c2 := T.1 - T0.1) (s2 := sg T - sg T0) (by rw [cp0.1] <;> rfl) (by rw [sg_cpr cp0] <;> rfl) ?_
  exact a_X4_digit_b27 E hA hX hN hml hst kr85 _ _ _ _ _ _ _ _ _ _ h (gl_cpr hgl cp0) cp0.2.2 had (by rw [cp0.1]; exact h_l0) (by rw [cp0.1]; exact h_l2) G hl
set_option maxHeartbeats 4000000 in
set_option maxRecDepth 100000 in
theorem a_X4_digit (l : Launch) (hst : l.stackTraces = false) (D : va_G) (cI cJ cZ cMic cSrc cSt cAI cAJ : ClassId) (ad : Nat → Nat) (T : AT) (o : Nat) (a0 : Int32) (a1 : Nat) {r1 : Int32} {T1 : AT} (h : g_X4_digit T o a0 a1 = some (r1, T1)) (hrc : RC T) (h_o : o < T.1) (h_a1 : a1 < T.1) : kAi l yX4_digit (Cond.code yX4_digit cX4_digit 5 (some .int) :: wsA) 4 74 cI cJ cZ cMic cSrc cSt cAI cAJ D ad T [.ref (ad o), .int a0, .ref (ad a1)] r1 T1 := by
  intro sz
  refine Met.ofW (cc := cX4_digit) (maxL := 5) (ret := (some .int)) (by decide) rfl ?_
  intro p e s m args below meth c s₁ B hml hv
  obtain ⟨rfl, hsz, hP, hK, hD0, hX, hN⟩ := hv
  have hx := B.exec
  have hb := B.bytes
  have hr := B.returns
  have hts := atoms_spec (ws := (Cond.code yX4_digit cX4_digit 5 (some .int) :: wsA)) B.pre
  have hown : s.vm.findClass RX4 = some m.cls := findClass_of_methodNamed B.named
  have hlocks := B.notSynchronized
  subst hsz
  have hD := hD0.self (sz := s.heap.size)
  generalize hAe : va_A (cW ad T.1 (cc cI cJ cZ cMic cSrc cSt cAI cAJ ad T)) s.heap.size = A at hD hX ⊢
  have hA : ∀ q : Nat, s.heap.size ≤ q → A q := fun q h => by rw [← hAe]; exact Or.inr h
  have G : gC cI cJ cZ cMic cSrc cSt cAI cAJ D ad A s.heap s.heap [] T := ⟨hP, hD, va_S.rf⟩
  have E : cE p c cX4_digit s m ([.ref (ad o), .int a0, .ref (ad a1)] : List Value).toArray (Cond.code yX4_digit cX4_digit 5 (some .int) :: wsA) D RX4 (CT cI cJ cZ cMic cSrc cSt cAI cAJ) := ⟨hx, hb, hts, hown, hK⟩
  have hl := lv_entry ([.ref (ad o), .int a0, .ref (ad a1)]) (n := 5) (Nat.le_of_ble_eq_true rfl)
  rw [lg_entry_eq]
  generalize (lg_sl ([.ref (ad o), .int a0, .ref (ad a1)]) ++ List.replicate (5 - (lg_sl ([.ref (ad o), .int a0, .ref (ad a1)])).length) Slot.unset).toArray = ls at hl ⊢
  have hl : lv_has ls 5 [(0, .ref (ad o)), (1, .int a0), (2, .ref (ad a1))] := hl
  have hgl := GL.rf T
  have had : ∀ n, n < T.1 → ad n = ad n := fun _ _ => rfl
  have hT1 := s_X4_digit h
  have hcs := cs_ok hgl hT1
  refine w_cast (Nat.sub_self T.1).symm (Nat.sub_self (sg T)).symm ?_
  have cp0 := cpr0 hrc
  unfold g_X4_digit at h
  refine lv_aload_n hx hb dX4_digit_0 rfl (lv_at hl 2 rfl) ?_
  refine lv_iconst (v := 0) hx hb dX4_digit_1 (by decide) ?_
  obtain ⟨g2, h⟩ := oif_some h
  obtain ⟨T3, eT3, h⟩ := obind_some h
  refine q_cvv (As := [.int 0]) (rest := []) E G hA hX hN hml (u_X10_clear l hst D cI cJ cZ cMic cSrc cSt cAI cAJ ad T a1 (0 : Int32) eT3) (cwV 1 hts (gaV qA_439 qA_66 qA_67 qA_6 qA_68) rfl rfl rfl (by decide +kernel) ⟨Nat.le_of_ble_eq_true rfl, Nat.le_of_ble_eq_true rfl⟩) (oO_k g2).1 (cc_o10 (oO_k g2).2) rfl rfl hl.1 rfl (lv_room (Nat.le_of_ble_eq_true rfl)) dX4_digit_2 hcs (fun T4 H locs hq G => ?_)
  rw [hq] at G
  clear hq
  have cp1 := cpr_sp cp0 (s_X10_clear eT3)
  refine lv_aload_n hx hb dX4_digit_5 rfl (lv_at hl 2 rfl) ?_
  refine lv_iconst (v := 1) hx hb dX4_digit_6 (by decide) ?_
  obtain ⟨g5, h⟩ := oif_some h
  obtain ⟨T6, eT6, h⟩ := obind_some h
  refine q_cvv (As := [.int 1]) (rest := []) E G hA hX hN hml (u_X10_clear l hst D cI cJ cZ cMic cSrc cSt cAI cAJ ad T3 a1 (1 : Int32) eT6) (cwV 1 hts (gaV qA_439 qA_66 qA_67 qA_6 qA_68) rfl rfl rfl (by decide +kernel) ⟨Nat.le_of_ble_eq_true rfl, Nat.le_of_ble_eq_true rfl⟩) (oO_k g5).1 (cc_o10 (oO_k g5).2) rfl rfl hl.1 rfl (lv_room (Nat.le_of_ble_eq_true rfl)) dX4_digit_7 hcs (fun T7 H locs hq G => ?_)
  rw [hq] at G
  clear hq
  have cp2 := cpr_sp cp1 (s_X10_clear eT6)
  refine lv_aload_n hx hb dX4_digit_10 rfl (lv_at hl 2 rfl) ?_
  refine lv_iconst (v := 0) hx hb dX4_digit_11 (by decide) ?_
  refine lv_aload_n hx hb dX4_digit_12 rfl (lv_at hl 0 rfl) ?_
  obtain ⟨g8, h⟩ := oif_some h
  obtain ⟨n9, en9, h⟩ := obind_some h
  have h_n9 : n9 < T.1 := by rw [← cp2.1]; exact cp2.2.2 _ _ _ en9
  refine c_get E G o 1 (v := .ref (ad n9)) (oO_k g8).1 (cc_o4 (oO_k g8).2) rfl (fun w h => .tail _ (iA_21 h)) (by decide) (.tail _ qA_408) rfl (by rw [en9]; rfl) dX4_digit_13 ?_
  clear en9
  refine lv_iload_n hx hb dX4_digit_16 rfl (lv_at hl 1 rfl) ?_
  refine lv_bipush (v := 9) hx hb dX4_digit_17 (by decide) ?_
  obtain ⟨g10, h⟩ := oif_some h
  obtain ⟨T11, eT11, h⟩ := obind_some h
  have hg2 := s_X10_add eT11
  have hrc2 := hg2.2.2 cp2.2.2
  have hT2 := s_X4_digit_b22 _ _ _ h
  refine q_avv (As := [.int 0, .ref (ad n9), .int a0, .int 9]) (rest := []) E G hA hX hN hml (a_X10_add l hst D cI cJ cZ cMic cSrc cSt cAI cAJ ad T6 a1 (0 : Int32) n9 a0 (9 : Int32) eT11 cp2.2.2 (by rw [cp2.1]; exact h_a1) (by rw [cp2.1]; exact h_n9)) (cwV 4 hts (gaV qA_440 qA_151 qA_152 qA_6 qA_153) rfl rfl rfl (by decide +kernel) ⟨Nat.le_of_ble_eq_true rfl, Nat.le_of_ble_eq_true rfl⟩) (oO_k g10).1 (cc_o10 (oO_k g10).2) rfl rfl hl.1 rfl (lv_room (Nat.le_of_ble_eq_true rfl)) dX4_digit_19 (cs_av hgl cp2 hg2 hT2) (fun ad2 H locs hga G => ?_)
  refine w_cast (c2 := T11.1 - T.1) (s2 := sg T11 - sg T) (cs_f1 hgl cp2 hg2) (cs_f2 hgl cp2 hg2) ?_
  have hl := lv_sub hl [0, 2] rfl
  rw [show ad o = ad2 o from (hga o (by rw [cp2.1]; exact h_o)).symm] at hl
  rw [show ad a1 = ad2 a1 from (hga a1 (by rw [cp2.1]; exact h_a1)).symm] at hl
  exact a_X4_digit_b22 E hA hX hN hml hst (fun ad H locs ls had G => W.iret (v := r1) hx hb hr (fun t ht hW => ⟨⟨r1, (T1, ad), rfl, ⟨rfl, rfl, had⟩, ⟨by rw [ht]; exact G.1, va_K.moved hW.alike hK, G.2.1⟩⟩, G.2.2.F ht⟩) G.2.2.2.2 dX4_digit_85) _ _ _ _ _ _ _ h (GL.tr (gl_cpr hgl cp2) hg2) hrc2 (fun n hn => (hga n (by rw [cp2.1]; exact Nat.lt_of_lt_of_le hn hgl.1)).trans (had n hn)) (Nat.lt_of_lt_of_le (by rw [cp2.1]; exact h_o) hg2.1) (Nat.lt_of_lt_of_le (by rw [cp2.1]; exact h_a1) hg2.1) G hl
def g_J7_fill_53178_b5  : Nat → AT → Nat → Int32 → Int32 → Int32 → Option (AT)
  | 0, _, _, _, _, _ => none
  | n + 1, T, l0, l1, l2, l3 => if l3 ≤ l2 then (some T) else (oif (aA T l0 100 = true) <| oif (inb l2 (T.2.1 l0).2 = true) <| elet (uI T l0 l2.toNatClampNeg l1) fun T5 => elet (l2 + Int32.ofInt (1)) fun v6 => g_J7_fill_53178_b5 n T5 l0 l1 v6 l3)
set_option maxHeartbeats 4000000 in
set_option maxRecDepth 100000 in
theorem u_J7_fill_53178_b5 {p : Program} {l : Launch} {e : Env} {s : State} {m : MethodId} {args : Array Value} {below : List Frame} {meth : Method} {c : Code} {Q : State → Prop} {D : va_G} {A : Nat → Prop} {cI cJ cZ cMic cSrc cSt cAI cAJ : ClassId} {ad : Nat → Nat} {T1 : AT} (E : cE p c cJ7_fill_53178 s m args (Cond.code yJ7_fill_53178 cJ7_fill_53178 4 none :: wsA) D RJ7 (CT cI cJ cZ cMic cSrc cSt cAI cAJ)) (hA : ∀ q : Nat, s.heap.size ≤ q → A q) (hX : xT A s) (hN : nX s) (hml : c.maxLocals = 4) (hst : l.stackTraces = false) (kr20 : ∀ (H : Heap) (locs : List Loc) (ls : Array Slot), gC cI cJ cZ cMic cSrc cSt cAI cAJ D ad A s.heap H locs T1 → W p l e { frames := 1, cells := 0, slots := 0, locals := 0 } s m args below meth c H locs 0 0 Q (F0 m 20 ls [])) : ∀ n : Nat, ∀ (T : AT) (H : Heap) (locs : List Loc) (ls : Array Slot) (l0 : Nat) (l1 : Int32) (l2 : Int32) (l3 : Int32), g_J7_fill_53178_b5 n T l0 l1 l2 l3 = some T1 → gC cI cJ cZ cMic cSrc cSt cAI cAJ D ad A s.heap H locs T → lv_has ls 4 [(0, .ref (ad l0)), (1, .int l1), (2, .int l2), (3, .int l3)] → W p l e { frames := 1, cells := 0, slots := 0, locals := 0 } s m args below meth c H locs 0 0 Q (F0 m 5 ls []) := by
  have hx := E.1
  have hb := E.2.1
  have hts := E.2.2.1
  have hown := E.2.2.2.1
  have hK := E.2.2.2.2
  intro n
  induction n with
  | zero =>
    intro T H locs ls l0 l1 l2 l3 h
    have h : (none : Option (AT)) = some T1 := h
    cases h
  | succ n ih =>
    intro T H locs ls l0 l1 l2 l3 h G hl
    unfold g_J7_fill_53178_b5 at h
    refine lv_iload_n hx hb dJ7_fill_53178_5 rfl (lv_at hl 2 rfl) ?_
    refine lv_iload_n hx hb dJ7_fill_53178_6 rfl (lv_at hl 3 rfl) ?_
    refine lv_icmp_ge (tgt := 20) hx hb dJ7_fill_53178_7 (by decide) (fun c2 => ?_) (fun c2 => ?_)
    · have h := oif_pos c2 h
      rw [osome1 h] at G
      exact kr20 _ _ _ G
    · have h := oif_neg c2 h
      refine lv_aload_n hx hb dJ7_fill_53178_10 rfl (lv_at hl 0 rfl) ?_
      refine lv_iload_n hx hb dJ7_fill_53178_11 rfl (lv_at hl 2 rfl) ?_
      refine lv_iload_n hx hb dJ7_fill_53178_12 rfl (lv_at hl 1 rfl) ?_
      obtain ⟨g3, h⟩ := oif_some h
      obtain ⟨g4, h⟩ := oif_some h
      refine c_iast E G l0 0 (k := l2.toNatClampNeg) (v := l1) (aA_k g3).1 (cc_a100 (aA_k g3).2.1) rfl (inb_k g4).1 (inb_k g4).2 (aA_k g3).2.2 dJ7_fill_53178_13 (fun H locs G => ?_)
      have G := gC_up_i (f := upd (T.2.2.1 l0) l2.toNatClampNeg l1) (ccv_100 (aA_k g3).2.1) G
      obtain ⟨T5, eT5, h⟩ := elet_some h
      have G : gC cI cJ cZ cMic cSrc cSt cAI cAJ D ad A s.heap H locs T5 := by rw [eT5]; exact G
      clear eT5
      obtain ⟨v6, ev6, h⟩ := elet_some h
      refine lv_iinc (v := v6) (lv' := [(2, .int v6), (0, .ref (ad l0)), (1, .int l1), (3, .int l3)]) hx hb dJ7_fill_53178_14 hl (k := 2) rfl ev6.symm (by decide) rfl (fun ls hl => ?_)
      refine lv_goto (tgt := 5) hx hb dJ7_fill_53178_17 (by decide) ?_
      have hl := lv_sub hl [1, 2, 0, 3] rfl
      exact ih _ _ _ _ _ _ _ _ h G hl
def g_J7_fill_53178 (T : AT) (a0 : Nat) (a1 : Int32) : Option (AT) := oif (aA T a0 100 = true) <| elet (nI (T.2.1 a0).2) fun v3 => g_J7_fill_53178_b5 16384 T a0 a1 0 v3
set_option maxHeartbeats 4000000 in
set_option maxRecDepth 100000 in
theorem u_J7_fill_53178 (l : Launch) (hst : l.stackTraces = false) (D : va_G) (cI cJ cZ cMic cSrc cSt cAI cAJ : ClassId) (ad : Nat → Nat) (T : AT) (a0 : Nat) (a1 : Int32) {T1 : AT} (h : g_J7_fill_53178 T a0 a1 = some T1) : kCv l yJ7_fill_53178 (Cond.code yJ7_fill_53178 cJ7_fill_53178 4 none :: wsA) 1 0 cI cJ cZ cMic cSrc cSt cAI cAJ D ad T [.ref (ad a0), .int a1] (fun T9 => T9 = T1) := by
  intro sz
  refine Met.ofW (cc := cJ7_fill_53178) (maxL := 4) (ret := none) (by decide) rfl ?_
  intro p e s m args below meth c s₁ B hml hv
  obtain ⟨rfl, hsz, hP, hK, hD0, hX, hN⟩ := hv
  have hx := B.exec
  have hb := B.bytes
  have hr := B.returns
  have hts := atoms_spec (ws := (Cond.code yJ7_fill_53178 cJ7_fill_53178 4 none :: wsA)) B.pre
  have hown : s.vm.findClass RJ7 = some m.cls := findClass_of_methodNamed B.named
  have hlocks := B.notSynchronized
  subst hsz
  have hD := hD0.self (sz := s.heap.size)
  generalize hAe : va_A (cW ad T.1 (cc cI cJ cZ cMic cSrc cSt cAI cAJ ad T)) s.heap.size = A at hD hX ⊢
  have hA : ∀ q : Nat, s.heap.size ≤ q → A q := fun q h => by rw [← hAe]; exact Or.inr h
  have G : gC cI cJ cZ cMic cSrc cSt cAI cAJ D ad A s.heap s.heap [] T := ⟨hP, hD, va_S.rf⟩
  have E : cE p c cJ7_fill_53178 s m ([.ref (ad a0), .int a1] : List Value).toArray (Cond.code yJ7_fill_53178 cJ7_fill_53178 4 none :: wsA) D RJ7 (CT cI cJ cZ cMic cSrc cSt cAI cAJ) := ⟨hx, hb, hts, hown, hK⟩
  have hl := lv_entry ([.ref (ad a0), .int a1]) (n := 4) (Nat.le_of_ble_eq_true rfl)
  rw [lg_entry_eq]
  generalize (lg_sl ([.ref (ad a0), .int a1]) ++ List.replicate (4 - (lg_sl ([.ref (ad a0), .int a1])).length) Slot.unset).toArray = ls at hl ⊢
  have hl : lv_has ls 4 [(0, .ref (ad a0)), (1, .int a1)] := hl
  unfold g_J7_fill_53178 at h
  refine lv_iconst (v := 0) hx hb dJ7_fill_53178_0 (by decide) ?_
  refine lv_istore_n (lv' := [(2, .int 0), (0, .ref (ad a0)), (1, .int a1)]) hx hb dJ7_fill_53178_1 rfl hl (by decide) rfl (fun ls hl => ?_)
  refine lv_aload_n hx hb dJ7_fill_53178_2 rfl (lv_at hl 1 rfl) ?_
  obtain ⟨g2, h⟩ := oif_some h
  refine va_alen hx hb hK G.1 a0 0 (cW_e (aA_k g2).1 (cc_a100 (aA_k g2).2.1)) rfl (v := nI (T.2.1 a0).2) rfl dJ7_fill_53178_3 ?_
  refine lv_topi (fun v3 ev3 => ?_)
  have h := elet_at ev3 h
  clear ev3
  refine lv_istore_n (lv' := [(3, .int v3), (2, .int 0), (0, .ref (ad a0)), (1, .int a1)]) hx hb dJ7_fill_53178_4 rfl hl (by decide) rfl (fun ls hl => ?_)
  have hl := lv_sub hl [2, 3, 1, 0] rfl
  exact u_J7_fill_53178_b5 E hA hX hN hml hst (fun H locs ls G => W.vret hx hb hr (fun t ht hW => ⟨⟨T1, rfl, rfl, ⟨by rw [ht]; exact G.1, va_K.moved hW.alike hK, G.2.1⟩⟩, G.2.2.F ht⟩) G.2.2.2.2 dJ7_fill_53178_20) _ _ _ _ _ _ _ _ _ h G hl
set_option maxHeartbeats 4000000 in
set_option maxRecDepth 100000 in
theorem s_J7_fill_53178_b5 {T1 : AT} : ∀ n : Nat, ∀ (T : AT) (l0 : Nat) (l1 : Int32) (l2 : Int32) (l3 : Int32), g_J7_fill_53178_b5 n T l0 l1 l2 l3 = some T1 → SP T T1 := by
  intro n
  induction n with
  | zero =>
    intro T l0 l1 l2 l3 h
    have h : (none : Option (AT)) = some T1 := h
    cases h
  | succ n ih =>
    intro T l0 l1 l2 l3 h
    have p0 := SP.rf T
    unfold g_J7_fill_53178_b5 at h
    rcases oif_or h with ⟨c2, h⟩ | ⟨c2, h⟩
    · have h := h
      rw [← osome1 h]
      exact p0
    · have h := h
      obtain ⟨g3, h⟩ := oif_some h
      obtain ⟨g4, h⟩ := oif_some h
      obtain ⟨T5, eT5, h⟩ := elet_some h
      have p1 : SP T T5 := SP.tr p0 (by rw [eT5]; exact sp_uI)
      obtain ⟨v6, ev6, h⟩ := elet_some h
      exact SP.tr p1 (ih _ _ _ _ _ h)
set_option maxHeartbeats 4000000 in
set_option maxRecDepth 100000 in
theorem s_J7_fill_53178 {T : AT} {a0 : Nat} {a1 : Int32} {T1 : AT} (h : g_J7_fill_53178 T a0 a1 = some T1) : SP T T1 := by
  have p0 := SP.rf T
  unfold g_J7_fill_53178 at h
  obtain ⟨g2, h⟩ := oif_some h
  obtain ⟨v3, -, h⟩ := elet_some h
  exact SP.tr p0 (s_J7_fill_53178_b5 _ _ _ _ _ _ h)
def g_X5_silence_b2  : Nat → AT → Nat → Int32 → Option (AT)
  | 0, _, _, _ => none
  | n + 1, T, l0, l1 => if 12 ≤ l1 then (some T) else (oif (oO T l0 5 = true) <| obind (T.2.2.2.2 l0 0) fun n4 => oif (aA T n4 106 = true) <| oif (inb l1 (T.2.1 n4).2 = true) <| obind (T.2.2.2.2 n4 l1.toNatClampNeg) fun n7 => obind (g_J7_fill_53178 T n7 (0 : Int32)) fun T8 => elet (l1 + Int32.ofInt (1)) fun v10 => g_X5_silence_b2 n T8 l0 v10)
set_option maxHeartbeats 4000000 in
set_option maxRecDepth 100000 in
theorem u_X5_silence_b2 {p : Program} {l : Launch} {e : Env} {s : State} {m : MethodId} {args : Array Value} {below : List Frame} {meth : Method} {c : Code} {Q : State → Prop} {D : va_G} {A : Nat → Prop} {cI cJ cZ cMic cSrc cSt cAI cAJ : ClassId} {ad : Nat → Nat} {T1 : AT} (E : cE p c cX5_silence s m args (Cond.code yX5_silence cX5_silence 2 none :: wsA) D RX5 (CT cI cJ cZ cMic cSrc cSt cAI cAJ)) (hA : ∀ q : Nat, s.heap.size ≤ q → A q) (hX : xT A s) (hN : nX s) (hml : c.maxLocals = 2) (hst : l.stackTraces = false) (kr24 : ∀ (H : Heap) (locs : List Loc) (ls : Array Slot), gC cI cJ cZ cMic cSrc cSt cAI cAJ D ad A s.heap H locs T1 → W p l e { frames := 2, cells := 0, slots := 0, locals := 23 } s m args below meth c H locs 0 0 Q (F0 m 24 ls [])) : ∀ n : Nat, ∀ (T : AT) (H : Heap) (locs : List Loc) (ls : Array Slot) (l0 : Nat) (l1 : Int32), g_X5_silence_b2 n T l0 l1 = some T1 → gC cI cJ cZ cMic cSrc cSt cAI cAJ D ad A s.heap H locs T → lv_has ls 2 [(0, .ref (ad l0)), (1, .int l1)] → W p l e { frames := 2, cells := 0, slots := 0, locals := 23 } s m args below meth c H locs 0 0 Q (F0 m 2 ls []) := by
  have hx := E.1
  have hb := E.2.1
  have hts := E.2.2.1
  have hown := E.2.2.2.1
  have hK := E.2.2.2.2
  intro n
  induction n with
  | zero =>
    intro T H locs ls l0 l1 h
    have h : (none : Option (AT)) = some T1 := h
    cases h
  | succ n ih =>
    intro T H locs ls l0 l1 h G hl
    unfold g_X5_silence_b2 at h
    refine lv_iload_n hx hb dX5_silence_2 rfl (lv_at hl 1 rfl) ?_
    refine lv_bipush (v := 12) hx hb dX5_silence_3 (by decide) ?_
    refine lv_icmp_ge (tgt := 24) hx hb dX5_silence_5 (by decide) (fun c2 => ?_) (fun c2 => ?_)
    · have h := oif_pos c2 h
      rw [osome1 h] at G
      exact kr24 _ _ _ G
    · have h := oif_neg c2 h
      refine lv_aload_n hx hb dX5_silence_8 rfl (lv_at hl 0 rfl) ?_
      obtain ⟨g3, h⟩ := oif_some h
      obtain ⟨n4, en4, h⟩ := obind_some h
      refine c_get E G l0 0 (v := .ref (ad n4)) (oO_k g3).1 (cc_o5 (oO_k g3).2) rfl (fun w h => .tail _ (iA_22 h)) (by decide) (.tail _ qA_455) rfl (by rw [en4]; rfl) dX5_silence_9 ?_
      clear en4
      refine lv_iload_n hx hb dX5_silence_12 rfl (lv_at hl 1 rfl) ?_
      obtain ⟨g5, h⟩ := oif_some h
      obtain ⟨g6, h⟩ := oif_some h
      obtain ⟨n7, en7, h⟩ := obind_some h
      refine c_alda E G n4 6 (k := l1.toNatClampNeg) (v := .ref (ad n7)) (aA_k g5).1 (cc_a106 (aA_k g5).2.1) rfl (inb_k g6).1 (inb_k g6).2 (aA_k g5).2.2 (by show va_rf ((T.2.2.2.2 n4 l1.toNatClampNeg).map ad) = _; rw [en7]; rfl) dX5_silence_13 ?_
      clear en7
      refine lv_iconst (v := 0) hx hb dX5_silence_14 (by decide) ?_
      obtain ⟨T8, eT8, h⟩ := obind_some h
      refine q_csv (As := [.ref (ad n7), .int 0]) (rest := []) E G hA hX hN hml (u_J7_fill_53178 l hst D cI cJ cZ cMic cSrc cSt cAI cAJ ad T n7 (0 : Int32) eT8) ⟨callB_of 2 hts (gaC qA_480) rfl rfl rfl (hts _ (.tail _ qA_479)) (hts _ (.tail _ qA_477)) (by decide +kernel) ⟨Nat.le_of_ble_eq_true rfl, Nat.le_of_ble_eq_true rfl⟩, hts _ (.tail _ qA_478)⟩ rfl hl.1 rfl (lv_room (Nat.le_of_ble_eq_true rfl)) dX5_silence_15 ⟨Nat.zero_le _, Nat.zero_le _⟩ (fun T9 H locs hq G => ?_)
      rw [hq] at G
      clear hq eT8
      obtain ⟨v10, ev10, h⟩ := elet_some h
      refine lv_iinc (v := v10) (lv' := [(1, .int v10), (0, .ref (ad l0))]) hx hb dX5_silence_18 hl (k := 1) rfl ev10.symm (by decide) rfl (fun ls hl => ?_)
      refine lv_goto (tgt := 2) hx hb dX5_silence_21 (by decide) ?_
      have hl := lv_sub hl [1, 0] rfl
      exact ih _ _ _ _ _ _ h G hl
def g_X5_silence (T : AT) (o : Nat) : Option (AT) := g_X5_silence_b2 16384 T o 0
set_option maxHeartbeats 4000000 in
set_option maxRecDepth 100000 in
theorem u_X5_silence (l : Launch) (hst : l.stackTraces = false) (D : va_G) (cI cJ cZ cMic cSrc cSt cAI cAJ : ClassId) (ad : Nat → Nat) (T : AT) (o : Nat) {T1 : AT} (h : g_X5_silence T o = some T1) : kCv l yX5_silence (Cond.code yX5_silence cX5_silence 2 none :: wsA) 2 23 cI cJ cZ cMic cSrc cSt cAI cAJ D ad T [.ref (ad o)] (fun T9 => T9 = T1) := by
  intro sz
  refine Met.ofW (cc := cX5_silence) (maxL := 2) (ret := none) (by decide) rfl ?_
  intro p e s m args below meth c s₁ B hml hv
  obtain ⟨rfl, hsz, hP, hK, hD0, hX, hN⟩ := hv
  have hx := B.exec
  have hb := B.bytes
  have hr := B.returns
  have hts := atoms_spec (ws := (Cond.code yX5_silence cX5_silence 2 none :: wsA)) B.pre
  have hown : s.vm.findClass RX5 = some m.cls := findClass_of_methodNamed B.named
  have hlocks := B.notSynchronized
  subst hsz
  have hD := hD0.self (sz := s.heap.size)
  generalize hAe : va_A (cW ad T.1 (cc cI cJ cZ cMic cSrc cSt cAI cAJ ad T)) s.heap.size = A at hD hX ⊢
  have hA : ∀ q : Nat, s.heap.size ≤ q → A q := fun q h => by rw [← hAe]; exact Or.inr h
  have G : gC cI cJ cZ cMic cSrc cSt cAI cAJ D ad A s.heap s.heap [] T := ⟨hP, hD, va_S.rf⟩
  have E : cE p c cX5_silence s m ([.ref (ad o)] : List Value).toArray (Cond.code yX5_silence cX5_silence 2 none :: wsA) D RX5 (CT cI cJ cZ cMic cSrc cSt cAI cAJ) := ⟨hx, hb, hts, hown, hK⟩
  have hl := lv_entry ([.ref (ad o)]) (n := 2) (Nat.le_of_ble_eq_true rfl)
  rw [lg_entry_eq]
  generalize (lg_sl ([.ref (ad o)]) ++ List.replicate (2 - (lg_sl ([.ref (ad o)])).length) Slot.unset).toArray = ls at hl ⊢
  have hl : lv_has ls 2 [(0, .ref (ad o))] := hl
  unfold g_X5_silence at h
  refine lv_iconst (v := 0) hx hb dX5_silence_0 (by decide) ?_
  refine lv_istore_n (lv' := [(1, .int 0), (0, .ref (ad o))]) hx hb dX5_silence_1 rfl hl (by decide) rfl (fun ls hl => ?_)
  have hl := lv_sub hl [1, 0] rfl
  exact u_X5_silence_b2 E hA hX hN hml hst (fun H locs ls G => W.vret hx hb hr (fun t ht hW => ⟨⟨T1, rfl, rfl, ⟨by rw [ht]; exact G.1, va_K.moved hW.alike hK, G.2.1⟩⟩, G.2.2.F ht⟩) G.2.2.2.2 dX5_silence_24) _ _ _ _ _ _ _ h G hl
set_option maxHeartbeats 4000000 in
set_option maxRecDepth 100000 in
theorem s_X5_silence_b2 {T1 : AT} : ∀ n : Nat, ∀ (T : AT) (l0 : Nat) (l1 : Int32), g_X5_silence_b2 n T l0 l1 = some T1 → SP T T1 := by
  intro n
  induction n with
  | zero =>
    intro T l0 l1 h
    have h : (none : Option (AT)) = some T1 := h
    cases h
  | succ n ih =>
    intro T l0 l1 h
    have p0 := SP.rf T
    unfold g_X5_silence_b2 at h
    rcases oif_or h with ⟨c2, h⟩ | ⟨c2, h⟩
    · have h := h
      rw [← osome1 h]
      exact p0
    · have h := h
      obtain ⟨g3, h⟩ := oif_some h
      obtain ⟨n4, en4, h⟩ := obind_some h
      obtain ⟨g5, h⟩ := oif_some h
      obtain ⟨g6, h⟩ := oif_some h
      obtain ⟨n7, en7, h⟩ := obind_some h
      obtain ⟨T8, eT8, h⟩ := obind_some h
      have p1 : SP T T8 := SP.tr p0 (s_J7_fill_53178 eT8)
      obtain ⟨v10, ev10, h⟩ := elet_some h
      exact SP.tr p1 (ih _ _ _ h)
set_option maxHeartbeats 4000000 in
set_option maxRecDepth 100000 in
theorem s_X5_silence {T : AT} {o : Nat} {T1 : AT} (h : g_X5_silence T o = some T1) : SP T T1 := by
  have p0 := SP.rf T
  unfold g_X5_silence at h
  exact SP.tr p0 (s_X5_silence_b2 _ _ _ _ h)
def g_X5_raw_b49  (T : AT) (s0 : Int32) : Option (Int32 × AT) := some (s0, T)
set_option maxHeartbeats 4000000 in
set_option maxRecDepth 100000 in
theorem u_X5_raw_b49 {p : Program} {l : Launch} {e : Env} {s : State} {m : MethodId} {args : Array Value} {below : List Frame} {meth : Method} {c : Code} {Q : State → Prop} {D : va_G} {A : Nat → Prop} {cI cJ cZ cMic cSrc cSt cAI cAJ : ClassId} {ad : Nat → Nat} {r1 : Int32} {T1 : AT} (E : cE p c cX5_raw s m args (Cond.code yX5_raw cX5_raw 5 (some .int) :: wsA) D RX5 (CT cI cJ cZ cMic cSrc cSt cAI cAJ)) (hA : ∀ q : Nat, s.heap.size ≤ q → A q) (hX : xT A s) (hN : nX s) (hml : c.maxLocals = 5) (hst : l.stackTraces = false) (kr49 : ∀ (H : Heap) (locs : List Loc) (ls : Array Slot), gC cI cJ cZ cMic cSrc cSt cAI cAJ D ad A s.heap H locs T1 → W p l e { frames := 1, cells := 0, slots := 0, locals := 0 } s m args below meth c H locs 0 0 Q (F0 m 49 ls [.int r1])) : ∀ (T : AT) (H : Heap) (locs : List Loc) (ls : Array Slot) (s0 : Int32), g_X5_raw_b49 T s0 = some (r1, T1) → gC cI cJ cZ cMic cSrc cSt cAI cAJ D ad A s.heap H locs T → lv_has ls 5 [] → W p l e { frames := 1, cells := 0, slots := 0, locals := 0 } s m args below meth c H locs 0 0 Q (F0 m 49 ls [.int s0]) := by
  have hx := E.1
  have hb := E.2.1
  have hts := E.2.2.1
  have hown := E.2.2.2.1
  have hK := E.2.2.2.2
  intro T H locs ls s0 h G hl
  unfold g_X5_raw_b49 at h
  rw [(osome2 h).2] at G
  refine lv_to (osome2 h).1 ?_
  exact kr49 _ _ _ G
def g_X5_raw_b48  (T : AT)  : Option (Int32 × AT) := g_X5_raw_b49 T 0
set_option maxHeartbeats 4000000 in
set_option maxRecDepth 100000 in
theorem u_X5_raw_b48 {p : Program} {l : Launch} {e : Env} {s : State} {m : MethodId} {args : Array Value} {below : List Frame} {meth : Method} {c : Code} {Q : State → Prop} {D : va_G} {A : Nat → Prop} {cI cJ cZ cMic cSrc cSt cAI cAJ : ClassId} {ad : Nat → Nat} {r1 : Int32} {T1 : AT} (E : cE p c cX5_raw s m args (Cond.code yX5_raw cX5_raw 5 (some .int) :: wsA) D RX5 (CT cI cJ cZ cMic cSrc cSt cAI cAJ)) (hA : ∀ q : Nat, s.heap.size ≤ q → A q) (hX : xT A s) (hN : nX s) (hml : c.maxLocals = 5) (hst : l.stackTraces = false) (kr49 : ∀ (H : Heap) (locs : List Loc) (ls : Array Slot), gC cI cJ cZ cMic cSrc cSt cAI cAJ D ad A s.heap H locs T1 → W p l e { frames := 1, cells := 0, slots := 0, locals := 0 } s m args below meth c H locs 0 0 Q (F0 m 49 ls [.int r1])) : ∀ (T : AT) (H : Heap) (locs : List Loc) (ls : Array Slot), g_X5_raw_b48 T = some (r1, T1) → gC cI cJ cZ cMic cSrc cSt cAI cAJ D ad A s.heap H locs T → lv_has ls 5 [] → W p l e { frames := 1, cells := 0, slots := 0, locals := 0 } s m args below meth c H locs 0 0 Q (F0 m 48 ls []) := by
  have hx := E.1
  have hb := E.2.1
  have hts := E.2.2.1
  have hown := E.2.2.2.1
  have hK := E.2.2.2.2
  intro T H locs ls h G hl
  unfold g_X5_raw_b48 at h
  refine lv_iconst (v := 0) hx hb dX5_raw_48 (by decide) ?_
  have hl := lv_sub hl [] rfl
  exact u_X5_raw_b49 E hA hX hN hml hst kr49 _ _ _ _ _ h G hl
def g_X5_raw (T : AT) (o : Nat) (a0 : Nat) (a1 : Int32) (a2 : Int32) : Option (Int32 × AT) := oif (oO T a0 6 = true) <| obind (T.2.2.2.2 a0 4) fun n3 => oif (aA T n3 103 = true) <| oif (inb a1 (T.2.1 n3).2 = true) <| obind (T.2.2.2.2 n3 a1.toNatClampNeg) fun n6 => oif (oO T n6 2 = true) <| elet (T.2.2.1 n6 3) fun v8 => elet (a2 - v8) fun v9 => if v9 < 0 then (g_X5_raw_b48 T) else (if 200 ≤ v9 then (g_X5_raw_b48 T) else (oif (oO T a0 6 = true) <| obind (T.2.2.2.2 a0 4) fun n13 => oif (aA T n13 103 = true) <| oif (inb a1 (T.2.1 n13).2 = true) <| obind (T.2.2.2.2 n13 a1.toNatClampNeg) fun n16 => oif (oO T n16 2 = true) <| elet (T.2.2.1 n16 2) fun v18 => oif (oO T o 5 = true) <| obind (T.2.2.2.2 o 0) fun n20 => oif (aA T n20 106 = true) <| oif (inb a1 (T.2.1 n20).2 = true) <| obind (T.2.2.2.2 n20 a1.toNatClampNeg) fun n23 => oif (aA T n23 100 = true) <| oif (inb v9 (T.2.1 n23).2 = true) <| elet (T.2.2.1 n23 v9.toNatClampNeg) fun v26 => elet (v18 * v26) fun v27 => g_X5_raw_b49 T v27))
set_option maxHeartbeats 4000000 in
set_option maxRecDepth 100000 in
theorem u_X5_raw (l : Launch) (hst : l.stackTraces = false) (D : va_G) (cI cJ cZ cMic cSrc cSt cAI cAJ : ClassId) (ad : Nat → Nat) (T : AT) (o : Nat) (a0 : Nat) (a1 : Int32) (a2 : Int32) {r1 : Int32} {T1 : AT} (h : g_X5_raw T o a0 a1 a2 = some (r1, T1)) : kCi l yX5_raw (Cond.code yX5_raw cX5_raw 5 (some .int) :: wsA) 1 0 cI cJ cZ cMic cSrc cSt cAI cAJ D ad T [.ref (ad o), .ref (ad a0), .int a1, .int a2] (fun r T9 => r = r1 ∧ T9 = T1) := by
  intro sz
  refine Met.ofW (cc := cX5_raw) (maxL := 5) (ret := (some .int)) (by decide) rfl ?_
  intro p e s m args below meth c s₁ B hml hv
  obtain ⟨rfl, hsz, hP, hK, hD0, hX, hN⟩ := hv
  have hx := B.exec
  have hb := B.bytes
  have hr := B.returns
  have hts := atoms_spec (ws := (Cond.code yX5_raw cX5_raw 5 (some .int) :: wsA)) B.pre
  have hown : s.vm.findClass RX5 = some m.cls := findClass_of_methodNamed B.named
  have hlocks := B.notSynchronized
  subst hsz
  have hD := hD0.self (sz := s.heap.size)
  generalize hAe : va_A (cW ad T.1 (cc cI cJ cZ cMic cSrc cSt cAI cAJ ad T)) s.heap.size = A at hD hX ⊢
  have hA : ∀ q : Nat, s.heap.size ≤ q → A q := fun q h => by rw [← hAe]; exact Or.inr h
  have G : gC cI cJ cZ cMic cSrc cSt cAI cAJ D ad A s.heap s.heap [] T := ⟨hP, hD, va_S.rf⟩
  have E : cE p c cX5_raw s m ([.ref (ad o), .ref (ad a0), .int a1, .int a2] : List Value).toArray (Cond.code yX5_raw cX5_raw 5 (some .int) :: wsA) D RX5 (CT cI cJ cZ cMic cSrc cSt cAI cAJ) := ⟨hx, hb, hts, hown, hK⟩
  have hl := lv_entry ([.ref (ad o), .ref (ad a0), .int a1, .int a2]) (n := 5) (Nat.le_of_ble_eq_true rfl)
  rw [lg_entry_eq]
  generalize (lg_sl ([.ref (ad o), .ref (ad a0), .int a1, .int a2]) ++ List.replicate (5 - (lg_sl ([.ref (ad o), .ref (ad a0), .int a1, .int a2])).length) Slot.unset).toArray = ls at hl ⊢
  have hl : lv_has ls 5 [(0, .ref (ad o)), (1, .ref (ad a0)), (2, .int a1), (3, .int a2)] := hl
  unfold g_X5_raw at h
  refine lv_iload_n hx hb dX5_raw_0 rfl (lv_at hl 3 rfl) ?_
  refine lv_aload_n hx hb dX5_raw_1 rfl (lv_at hl 1 rfl) ?_
  obtain ⟨g2, h⟩ := oif_some h
  obtain ⟨n3, en3, h⟩ := obind_some h
  refine c_get E G a0 4 (v := .ref (ad n3)) (oO_k g2).1 (cc_o6 (oO_k g2).2) rfl (fun w h => .tail _ (iA_14 h)) (by decide) (.tail _ qA_488) rfl (by rw [en3]; rfl) dX5_raw_2 ?_
  clear en3
  refine lv_iload_n hx hb dX5_raw_5 rfl (lv_at hl 2 rfl) ?_
  obtain ⟨g4, h⟩ := oif_some h
  obtain ⟨g5, h⟩ := oif_some h
  obtain ⟨n6, en6, h⟩ := obind_some h
  refine c_aldq E G n3 3 (k := a1.toNatClampNeg) (v := .ref (ad n6)) (aA_k g4).1 (cc_a103 (aA_k g4).2.1) rfl (inb_k g5).1 (inb_k g5).2 (aA_k g4).2.2 (by show va_rf ((T.2.2.2.2 n3 a1.toNatClampNeg).map ad) = _; rw [en6]; rfl) dX5_raw_6 ?_
  clear en6
  obtain ⟨g7, h⟩ := oif_some h
  refine c_get E G n6 3 (oO_k g7).1 (cc_o2 (oO_k g7).2) rfl (fun w h => .tail _ (iA_19 h)) (by decide) (.tail _ qA_539) rfl rfl dX5_raw_7 ?_
  refine lv_topi (fun v8 ev8 => ?_)
  have h := elet_at ev8 h
  clear ev8
  refine lv_isub hx hb dX5_raw_10 ?_
  refine lv_topi (fun v9 ev9 => ?_)
  have h := elet_at ev9 h
  clear ev9
  refine lv_istore (lv' := [(4, .int v9), (0, .ref (ad o)), (1, .ref (ad a0)), (2, .int a1), (3, .int a2)]) hx hb dX5_raw_11 hl (by decide) rfl (fun ls hl => ?_)
  refine lv_iload hx hb dX5_raw_13 (lv_at hl 0 rfl) ?_
  refine lv_if_lt (tgt := 48) hx hb dX5_raw_15 (by decide) (fun c10 => ?_) (fun c10 => ?_)
  · have h := oif_pos c10 h
    have hl := lv_sub hl [] rfl
    exact u_X5_raw_b48 E hA hX hN hml hst (fun H locs ls G => W.iret (v := r1) hx hb hr (fun t ht hW => ⟨⟨r1, T1, rfl, ⟨rfl, rfl⟩, ⟨by rw [ht]; exact G.1, va_K.moved hW.alike hK, G.2.1⟩⟩, G.2.2.F ht⟩) G.2.2.2.2 dX5_raw_49) _ _ _ _ h G hl
  · have h := oif_neg c10 h
    refine lv_iload hx hb dX5_raw_18 (lv_at hl 0 rfl) ?_
    refine lv_sipush (v := 200) hx hb dX5_raw_20 (by decide) ?_
    refine lv_icmp_ge (tgt := 48) hx hb dX5_raw_23 (by decide) (fun c11 => ?_) (fun c11 => ?_)
    · have h := oif_pos c11 h
      have hl := lv_sub hl [] rfl
      exact u_X5_raw_b48 E hA hX hN hml hst (fun H locs ls G => W.iret (v := r1) hx hb hr (fun t ht hW => ⟨⟨r1, T1, rfl, ⟨rfl, rfl⟩, ⟨by rw [ht]; exact G.1, va_K.moved hW.alike hK, G.2.1⟩⟩, G.2.2.F ht⟩) G.2.2.2.2 dX5_raw_49) _ _ _ _ h G hl
    · have h := oif_neg c11 h
      refine lv_aload_n hx hb dX5_raw_26 rfl (lv_at hl 2 rfl) ?_
      obtain ⟨g12, h⟩ := oif_some h
      obtain ⟨n13, en13, h⟩ := obind_some h
      refine c_get E G a0 4 (v := .ref (ad n13)) (oO_k g12).1 (cc_o6 (oO_k g12).2) rfl (fun w h => .tail _ (iA_14 h)) (by decide) (.tail _ qA_488) rfl (by rw [en13]; rfl) dX5_raw_27 ?_
      clear en13
      refine lv_iload_n hx hb dX5_raw_30 rfl (lv_at hl 3 rfl) ?_
      obtain ⟨g14, h⟩ := oif_some h
      obtain ⟨g15, h⟩ := oif_some h
      obtain ⟨n16, en16, h⟩ := obind_some h
      refine c_aldq E G n13 3 (k := a1.toNatClampNeg) (v := .ref (ad n16)) (aA_k g14).1 (cc_a103 (aA_k g14).2.1) rfl (inb_k g15).1 (inb_k g15).2 (aA_k g14).2.2 (by show va_rf ((T.2.2.2.2 n13 a1.toNatClampNeg).map ad) = _; rw [en16]; rfl) dX5_raw_31 ?_
      clear en16
      obtain ⟨g17, h⟩ := oif_some h
      refine c_get E G n16 2 (oO_k g17).1 (cc_o2 (oO_k g17).2) rfl (fun w h => .tail _ (iA_19 h)) (by decide) (.tail _ qA_540) rfl rfl dX5_raw_32 ?_
      refine lv_topi (fun v18 ev18 => ?_)
      have h := elet_at ev18 h
      clear ev18
      refine lv_aload_n hx hb dX5_raw_35 rfl (lv_at hl 1 rfl) ?_
      obtain ⟨g19, h⟩ := oif_some h
      obtain ⟨n20, en20, h⟩ := obind_some h
      refine c_get E G o 0 (v := .ref (ad n20)) (oO_k g19).1 (cc_o5 (oO_k g19).2) rfl (fun w h => .tail _ (iA_22 h)) (by decide) (.tail _ qA_455) rfl (by rw [en20]; rfl) dX5_raw_36 ?_
      clear en20
      refine lv_iload_n hx hb dX5_raw_39 rfl (lv_at hl 3 rfl) ?_
      obtain ⟨g21, h⟩ := oif_some h
      obtain ⟨g22, h⟩ := oif_some h
      obtain ⟨n23, en23, h⟩ := obind_some h
      refine c_alda E G n20 6 (k := a1.toNatClampNeg) (v := .ref (ad n23)) (aA_k g21).1 (cc_a106 (aA_k g21).2.1) rfl (inb_k g22).1 (inb_k g22).2 (aA_k g21).2.2 (by show va_rf ((T.2.2.2.2 n20 a1.toNatClampNeg).map ad) = _; rw [en23]; rfl) dX5_raw_40 ?_
      clear en23
      refine lv_iload hx hb dX5_raw_41 (lv_at hl 0 rfl) ?_
      obtain ⟨g24, h⟩ := oif_some h
      obtain ⟨g25, h⟩ := oif_some h
      refine c_iald E G n23 0 (k := v9.toNatClampNeg) (aA_k g24).1 (cc_a100 (aA_k g24).2.1) rfl (inb_k g25).1 (inb_k g25).2 (aA_k g24).2.2 dX5_raw_43 ?_
      refine lv_topi (fun v26 ev26 => ?_)
      have h := elet_at ev26 h
      clear ev26
      refine lv_imul hx hb dX5_raw_44 ?_
      refine lv_topi (fun v27 ev27 => ?_)
      have h := elet_at ev27 h
      clear ev27
      refine lv_goto (tgt := 49) hx hb dX5_raw_45 (by decide) ?_
      have hl := lv_sub hl [] rfl
      exact u_X5_raw_b49 E hA hX hN hml hst (fun H locs ls G => W.iret (v := r1) hx hb hr (fun t ht hW => ⟨⟨r1, T1, rfl, ⟨rfl, rfl⟩, ⟨by rw [ht]; exact G.1, va_K.moved hW.alike hK, G.2.1⟩⟩, G.2.2.F ht⟩) G.2.2.2.2 dX5_raw_49) _ _ _ _ _ h G hl
set_option maxHeartbeats 4000000 in
set_option maxRecDepth 100000 in
theorem s_X5_raw_b49 {r1 : Int32} {T1 : AT} : ∀ (T : AT) (s0 : Int32), g_X5_raw_b49 T s0 = some (r1, T1) → SP T T1 := by
  intro T s0 h
  have p0 := SP.rf T
  unfold g_X5_raw_b49 at h
  rw [← (osome2 h).2]
  exact p0
set_option maxHeartbeats 4000000 in
set_option maxRecDepth 100000 in
theorem s_X5_raw_b48 {r1 : Int32} {T1 : AT} : ∀ (T : AT), g_X5_raw_b48 T = some (r1, T1) → SP T T1 := by
  intro T h
  have p0 := SP.rf T
  unfold g_X5_raw_b48 at h
  exact SP.tr p0 (s_X5_raw_b49 _ _ h)
set_option maxHeartbeats 4000000 in
set_option maxRecDepth 100000 in
theorem s_X5_raw {T : AT} {o : Nat} {a0 : Nat} {a1 : Int32} {a2 : Int32} {r1 : Int32} {T1 : AT} (h : g_X5_raw T o a0 a1 a2 = some (r1, T1)) : SP T T1 := by
  have p0 := SP.rf T
  unfold g_X5_raw at h
  obtain ⟨g2, h⟩ := oif_some h
  obtain ⟨n3, en3, h⟩ := obind_some h
  obtain ⟨g4, h⟩ := oif_some h
  obtain ⟨g5, h⟩ := oif_some h
  obtain ⟨n6, en6, h⟩ := obind_some h
  obtain ⟨g7, h⟩ := oif_some h
  obtain ⟨v8, -, h⟩ := elet_some h
  obtain ⟨v9, -, h⟩ := elet_some h
  rcases oif_or h with ⟨c10, h⟩ | ⟨c10, h⟩
  · have h := h
    exact SP.tr p0 (s_X5_raw_b48 _ h)
  · have h := h
    rcases oif_or h with ⟨c11, h⟩ | ⟨c11, h⟩
    · have h := h
      exact SP.tr p0 (s_X5_raw_b48 _ h)
    · have h := h
      obtain ⟨g12, h⟩ := oif_some h
      obtain ⟨n13, en13, h⟩ := obind_some h
      obtain ⟨g14, h⟩ := oif_some h
      obtain ⟨g15, h⟩ := oif_some h
      obtain ⟨n16, en16, h⟩ := obind_some h
      obtain ⟨g17, h⟩ := oif_some h
      obtain ⟨v18, -, h⟩ := elet_some h
      obtain ⟨g19, h⟩ := oif_some h
      obtain ⟨n20, en20, h⟩ := obind_some h
      obtain ⟨g21, h⟩ := oif_some h
      obtain ⟨g22, h⟩ := oif_some h
      obtain ⟨n23, en23, h⟩ := obind_some h
      obtain ⟨g24, h⟩ := oif_some h
      obtain ⟨g25, h⟩ := oif_some h
      obtain ⟨v26, -, h⟩ := elet_some h
      obtain ⟨v27, -, h⟩ := elet_some h
      exact SP.tr p0 (s_X5_raw_b49 _ _ h)
def g_X5_filtered_b6  : Nat → AT → Nat → Nat → Int32 → Int32 → Int32 → Int32 → Option (Int32 × AT)
  | 0, _, _, _, _, _, _, _ => none
  | n + 1, T, l0, l1, l2, l3, l4, l5 => oif (oO T l1 6 = true) <| elet (T.2.2.1 l1 14) fun v3 => if v3 ≤ l5 then (some (l4, T)) else (oif (oO T l1 6 = true) <| obind (T.2.2.2.2 l1 13) fun n6 => oif (aA T n6 100 = true) <| oif (inb l5 (T.2.1 n6).2 = true) <| elet (T.2.2.1 n6 l5.toNatClampNeg) fun v9 => elet (l3 - l5) fun v10 => oif (oO T l0 5 = true) <| obind2 (g_X5_raw T l0 l1 l2 v10) fun r14 T12 => elet (v9 * r14) fun v16 => elet (l4 + v16) fun v17 => elet (l5 + Int32.ofInt (1)) fun v18 => g_X5_filtered_b6 n T12 l0 l1 l2 l3 v17 v18)
set_option maxHeartbeats 4000000 in
set_option maxRecDepth 100000 in
theorem u_X5_filtered_b6 {p : Program} {l : Launch} {e : Env} {s : State} {m : MethodId} {args : Array Value} {below : List Frame} {meth : Method} {c : Code} {Q : State → Prop} {D : va_G} {A : Nat → Prop} {cI cJ cZ cMic cSrc cSt cAI cAJ : ClassId} {ad : Nat → Nat} {r1 : Int32} {T1 : AT} (E : cE p c cX5_filtered s m args (Cond.code yX5_filtered cX5_filtered 6 (some .int) :: wsA) D RX5 (CT cI cJ cZ cMic cSrc cSt cAI cAJ)) (hA : ∀ q : Nat, s.heap.size ≤ q → A q) (hX : xT A s) (hN : nX s) (hml : c.maxLocals = 6) (hst : l.stackTraces = false) (kr46 : ∀ (H : Heap) (locs : List Loc) (ls : Array Slot), gC cI cJ cZ cMic cSrc cSt cAI cAJ D ad A s.heap H locs T1 → W p l e { frames := 2, cells := 0, slots := 0, locals := 24 } s m args below meth c H locs 0 0 Q (F0 m 46 ls [.int r1])) : ∀ n : Nat, ∀ (T : AT) (H : Heap) (locs : List Loc) (ls : Array Slot) (l0 : Nat) (l1 : Nat) (l2 : Int32) (l3 : Int32) (l4 : Int32) (l5 : Int32), g_X5_filtered_b6 n T l0 l1 l2 l3 l4 l5 = some (r1, T1) → gC cI cJ cZ cMic cSrc cSt cAI cAJ D ad A s.heap H locs T → lv_has ls 6 [(0, .ref (ad l0)), (1, .ref (ad l1)), (2, .int l2), (3, .int l3), (4, .int l4), (5, .int l5)] → W p l e { frames := 2, cells := 0, slots := 0, locals := 24 } s m args below meth c H locs 0 0 Q (F0 m 6 ls []) := by
  have hx := E.1
  have hb := E.2.1
  have hts := E.2.2.1
  have hown := E.2.2.2.1
  have hK := E.2.2.2.2
  intro n
  induction n with
  | zero =>
    intro T H locs ls l0 l1 l2 l3 l4 l5 h
    have h : (none : Option (Int32 × AT)) = some (r1, T1) := h
    cases h
  | succ n ih =>
    intro T H locs ls l0 l1 l2 l3 l4 l5 h G hl
    unfold g_X5_filtered_b6 at h
    refine lv_iload hx hb dX5_filtered_6 (lv_at hl 5 rfl) ?_
    refine lv_aload_n hx hb dX5_filtered_8 rfl (lv_at hl 1 rfl) ?_
    obtain ⟨g2, h⟩ := oif_some h
    refine c_get E G l1 14 (oO_k g2).1 (cc_o6 (oO_k g2).2) rfl (fun w h => .tail _ (iA_14 h)) (by decide) (.tail _ qA_524) rfl rfl dX5_filtered_9 ?_
    refine lv_topi (fun v3 ev3 => ?_)
    have h := elet_at ev3 h
    clear ev3
    refine lv_icmp_ge (tgt := 44) hx hb dX5_filtered_12 (by decide) (fun c4 => ?_) (fun c4 => ?_)
    · have h := oif_pos c4 h
      refine lv_iload hx hb dX5_filtered_44 (lv_at hl 4 rfl) ?_
      rw [(osome2 h).2] at G
      refine lv_to (osome2 h).1 ?_
      exact kr46 _ _ _ G
    · have h := oif_neg c4 h
      refine lv_iload hx hb dX5_filtered_15 (lv_at hl 4 rfl) ?_
      refine lv_aload_n hx hb dX5_filtered_17 rfl (lv_at hl 1 rfl) ?_
      obtain ⟨g5, h⟩ := oif_some h
      obtain ⟨n6, en6, h⟩ := obind_some h
      refine c_get E G l1 13 (v := .ref (ad n6)) (oO_k g5).1 (cc_o6 (oO_k g5).2) rfl (fun w h => .tail _ (iA_14 h)) (by decide) (.tail _ qA_534) rfl (by rw [en6]; rfl) dX5_filtered_18 ?_
      clear en6
      refine lv_iload hx hb dX5_filtered_21 (lv_at hl 5 rfl) ?_
      obtain ⟨g7, h⟩ := oif_some h
      obtain ⟨g8, h⟩ := oif_some h
      refine c_iald E G n6 0 (k := l5.toNatClampNeg) (aA_k g7).1 (cc_a100 (aA_k g7).2.1) rfl (inb_k g8).1 (inb_k g8).2 (aA_k g7).2.2 dX5_filtered_23 ?_
      refine lv_topi (fun v9 ev9 => ?_)
      have h := elet_at ev9 h
      clear ev9
      refine lv_aload_n hx hb dX5_filtered_24 rfl (lv_at hl 0 rfl) ?_
      refine lv_aload_n hx hb dX5_filtered_25 rfl (lv_at hl 1 rfl) ?_
      refine lv_iload_n hx hb dX5_filtered_26 rfl (lv_at hl 2 rfl) ?_
      refine lv_iload_n hx hb dX5_filtered_27 rfl (lv_at hl 3 rfl) ?_
      refine lv_iload hx hb dX5_filtered_28 (lv_at hl 5 rfl) ?_
      refine lv_isub hx hb dX5_filtered_30 ?_
      refine lv_topi (fun v10 ev10 => ?_)
      have h := elet_at ev10 h
      clear ev10
      obtain ⟨g11, h⟩ := oif_some h
      obtain ⟨r14, T12, eT12, h⟩ := obind2_some h
      refine q_cvi (As := [.ref (ad l1), .int l2, .int v10]) (rest := [.int v9, .int l4]) E G hA hX hN hml (u_X5_raw l hst D cI cJ cZ cMic cSrc cSt cAI cAJ ad T l0 l1 l2 v10 eT12) (cwV 3 hts (gaV qA_535 qA_536 qA_537 qA_475 qA_538) rfl rfl rfl (by decide +kernel) ⟨Nat.le_of_ble_eq_true rfl, Nat.le_of_ble_eq_true rfl⟩) (oO_k g11).1 (cc_o5 (oO_k g11).2) rfl rfl hl.1 rfl (lv_room (Nat.le_of_ble_eq_true rfl)) dX5_filtered_31 ⟨Nat.zero_le _, Nat.zero_le _⟩ (fun q15 T13 H locs hq G => ?_)
      obtain ⟨hq1, hq2⟩ := hq
      rw [hq2] at G
      refine lv_to hq1 ?_
      clear hq1 hq2 eT12
      refine lv_imul hx hb dX5_filtered_34 ?_
      refine lv_topi (fun v16 ev16 => ?_)
      have h := elet_at ev16 h
      clear ev16
      refine lv_iadd hx hb dX5_filtered_35 ?_
      refine lv_topi (fun v17 ev17 => ?_)
      have h := elet_at ev17 h
      clear ev17
      refine lv_istore (lv' := [(4, .int v17), (0, .ref (ad l0)), (1, .ref (ad l1)), (2, .int l2), (3, .int l3), (5, .int l5)]) hx hb dX5_filtered_36 hl (by decide) rfl (fun ls hl => ?_)
      obtain ⟨v18, ev18, h⟩ := elet_some h
      refine lv_iinc (v := v18) (lv' := [(5, .int v18), (4, .int v17), (0, .ref (ad l0)), (1, .ref (ad l1)), (2, .int l2), (3, .int l3)]) hx hb dX5_filtered_38 hl (k := 5) rfl ev18.symm (by decide) rfl (fun ls hl => ?_)
      refine lv_goto (tgt := 6) hx hb dX5_filtered_41 (by decide) ?_
      have hl := lv_sub hl [2, 3, 4, 5, 1, 0] rfl
      exact ih _ _ _ _ _ _ _ _ _ _ h G hl
def g_X5_filtered (T : AT) (o : Nat) (a0 : Nat) (a1 : Int32) (a2 : Int32) : Option (Int32 × AT) := g_X5_filtered_b6 16384 T o a0 a1 a2 0 0
set_option maxHeartbeats 4000000 in
set_option maxRecDepth 100000 in
theorem u_X5_filtered (l : Launch) (hst : l.stackTraces = false) (D : va_G) (cI cJ cZ cMic cSrc cSt cAI cAJ : ClassId) (ad : Nat → Nat) (T : AT) (o : Nat) (a0 : Nat) (a1 : Int32) (a2 : Int32) {r1 : Int32} {T1 : AT} (h : g_X5_filtered T o a0 a1 a2 = some (r1, T1)) : kCi l yX5_filtered (Cond.code yX5_filtered cX5_filtered 6 (some .int) :: wsA) 2 24 cI cJ cZ cMic cSrc cSt cAI cAJ D ad T [.ref (ad o), .ref (ad a0), .int a1, .int a2] (fun r T9 => r = r1 ∧ T9 = T1) := by
  intro sz
  refine Met.ofW (cc := cX5_filtered) (maxL := 6) (ret := (some .int)) (by decide) rfl ?_
  intro p e s m args below meth c s₁ B hml hv
  obtain ⟨rfl, hsz, hP, hK, hD0, hX, hN⟩ := hv
  have hx := B.exec
  have hb := B.bytes
  have hr := B.returns
  have hts := atoms_spec (ws := (Cond.code yX5_filtered cX5_filtered 6 (some .int) :: wsA)) B.pre
  have hown : s.vm.findClass RX5 = some m.cls := findClass_of_methodNamed B.named
  have hlocks := B.notSynchronized
  subst hsz
  have hD := hD0.self (sz := s.heap.size)
  generalize hAe : va_A (cW ad T.1 (cc cI cJ cZ cMic cSrc cSt cAI cAJ ad T)) s.heap.size = A at hD hX ⊢
  have hA : ∀ q : Nat, s.heap.size ≤ q → A q := fun q h => by rw [← hAe]; exact Or.inr h
  have G : gC cI cJ cZ cMic cSrc cSt cAI cAJ D ad A s.heap s.heap [] T := ⟨hP, hD, va_S.rf⟩
  have E : cE p c cX5_filtered s m ([.ref (ad o), .ref (ad a0), .int a1, .int a2] : List Value).toArray (Cond.code yX5_filtered cX5_filtered 6 (some .int) :: wsA) D RX5 (CT cI cJ cZ cMic cSrc cSt cAI cAJ) := ⟨hx, hb, hts, hown, hK⟩
  have hl := lv_entry ([.ref (ad o), .ref (ad a0), .int a1, .int a2]) (n := 6) (Nat.le_of_ble_eq_true rfl)
  rw [lg_entry_eq]
  generalize (lg_sl ([.ref (ad o), .ref (ad a0), .int a1, .int a2]) ++ List.replicate (6 - (lg_sl ([.ref (ad o), .ref (ad a0), .int a1, .int a2])).length) Slot.unset).toArray = ls at hl ⊢
  have hl : lv_has ls 6 [(0, .ref (ad o)), (1, .ref (ad a0)), (2, .int a1), (3, .int a2)] := hl
  unfold g_X5_filtered at h
  refine lv_iconst (v := 0) hx hb dX5_filtered_0 (by decide) ?_
  refine lv_istore (lv' := [(4, .int 0), (0, .ref (ad o)), (1, .ref (ad a0)), (2, .int a1), (3, .int a2)]) hx hb dX5_filtered_1 hl (by decide) rfl (fun ls hl => ?_)
  refine lv_iconst (v := 0) hx hb dX5_filtered_3 (by decide) ?_
  refine lv_istore (lv' := [(5, .int 0), (4, .int 0), (0, .ref (ad o)), (1, .ref (ad a0)), (2, .int a1), (3, .int a2)]) hx hb dX5_filtered_4 hl (by decide) rfl (fun ls hl => ?_)
  have hl := lv_sub hl [2, 3, 4, 5, 1, 0] rfl
  exact u_X5_filtered_b6 E hA hX hN hml hst (fun H locs ls G => W.iret (v := r1) hx hb hr (fun t ht hW => ⟨⟨r1, T1, rfl, ⟨rfl, rfl⟩, ⟨by rw [ht]; exact G.1, va_K.moved hW.alike hK, G.2.1⟩⟩, G.2.2.F ht⟩) G.2.2.2.2 dX5_filtered_46) _ _ _ _ _ _ _ _ _ _ _ h G hl
set_option maxHeartbeats 4000000 in
set_option maxRecDepth 100000 in
theorem s_X5_filtered_b6 {r1 : Int32} {T1 : AT} : ∀ n : Nat, ∀ (T : AT) (l0 : Nat) (l1 : Nat) (l2 : Int32) (l3 : Int32) (l4 : Int32) (l5 : Int32), g_X5_filtered_b6 n T l0 l1 l2 l3 l4 l5 = some (r1, T1) → SP T T1 := by
  intro n
  induction n with
  | zero =>
    intro T l0 l1 l2 l3 l4 l5 h
    have h : (none : Option (Int32 × AT)) = some (r1, T1) := h
    cases h
  | succ n ih =>
    intro T l0 l1 l2 l3 l4 l5 h
    have p0 := SP.rf T
    unfold g_X5_filtered_b6 at h
    obtain ⟨g2, h⟩ := oif_some h
    obtain ⟨v3, -, h⟩ := elet_some h
    rcases oif_or h with ⟨c4, h⟩ | ⟨c4, h⟩
    · have h := h
      rw [← (osome2 h).2]
      exact p0
    · have h := h
      obtain ⟨g5, h⟩ := oif_some h
      obtain ⟨n6, en6, h⟩ := obind_some h
      obtain ⟨g7, h⟩ := oif_some h
      obtain ⟨g8, h⟩ := oif_some h
      obtain ⟨v9, -, h⟩ := elet_some h
      obtain ⟨v10, -, h⟩ := elet_some h
      obtain ⟨g11, h⟩ := oif_some h
      obtain ⟨r13, T12, eT12, h⟩ := obind2_some h
      have p1 : SP T T12 := SP.tr p0 (s_X5_raw eT12)
      obtain ⟨v14, -, h⟩ := elet_some h
      obtain ⟨v15, -, h⟩ := elet_some h
      obtain ⟨v16, ev16, h⟩ := elet_some h
      exact SP.tr p1 (ih _ _ _ _ _ _ _ h)
set_option maxHeartbeats 4000000 in
set_option maxRecDepth 100000 in
theorem s_X5_filtered {T : AT} {o : Nat} {a0 : Nat} {a1 : Int32} {a2 : Int32} {r1 : Int32} {T1 : AT} (h : g_X5_filtered T o a0 a1 a2 = some (r1, T1)) : SP T T1 := by
  have p0 := SP.rf T
  unfold g_X5_filtered at h
  exact SP.tr p0 (s_X5_filtered_b6 _ _ _ _ _ _ _ _ h)
end
section
/-! 11ki.cd8.lean.txt -/
def g_X10_put_b20  (T : AT)  : Option (AT) := some T
def g_X10_put (T : AT) (o : Nat) (a0 : Int32) (a1 : Int32) : Option (AT) := oif (oO T o 10 = true) <| obind (g_X10_clear T o a0) fun T3 => oif (oO T3 o 10 = true) <| obind (T3.2.2.2.2 o 1) fun n6 => oif (aA T3 n6 107 = true) <| oif (inb 0 (T3.2.1 n6).2 = true) <| obind (T3.2.2.2.2 n6 (0 : Int32).toNatClampNeg) fun n9 => elet (a1.toInt64) fun v10 => oif (aA T3 n9 101 = true) <| oif (inb a0 (T3.2.1 n9).2 = true) <| elet (uJ T3 n9 a0.toNatClampNeg v10) fun T13 => oif (oO T13 o 10 = true) <| obind (g_X10_settle T13 o a0) fun T15 => g_X10_put_b20 T15
set_option maxHeartbeats 4000000 in
set_option maxRecDepth 100000 in
theorem s_X10_put_b20 {T1 : AT} : ∀ (T : AT), g_X10_put_b20 T = some T1 → GL T T1 := by
  intro T h
  have p0 := GL.rf T
  unfold g_X10_put_b20 at h
  rw [← osome1 h]
  exact p0
set_option maxHeartbeats 4000000 in
set_option maxRecDepth 100000 in
theorem s_X10_put {T : AT} {o : Nat} {a0 : Int32} {a1 : Int32} {T1 : AT} (h : g_X10_put T o a0 a1 = some T1) : GL T T1 := by
  have p0 := GL.rf T
  unfold g_X10_put at h
  obtain ⟨g2, h⟩ := oif_some h
  obtain ⟨T3, eT3, h⟩ := obind_some h
  have p1 : GL T T3 := GL.tr p0 (gl_sp (s_X10_clear eT3))
  obtain ⟨g5, h⟩ := oif_some h
  obtain ⟨n6, en6, h⟩ := obind_some h
  obtain ⟨g7, h⟩ := oif_some h
  obtain ⟨g8, h⟩ := oif_some h
  obtain ⟨n9, en9, h⟩ := obind_some h
  obtain ⟨v10, -, h⟩ := elet_some h
  obtain ⟨g11, h⟩ := oif_some h
  obtain ⟨g12, h⟩ := oif_some h
  obtain ⟨T13, eT13, h⟩ := elet_some h
  have p2 : GL T T13 := GL.tr p1 (by rw [eT13]; exact gl_sp sp_uJ)
  obtain ⟨g14, h⟩ := oif_some h
  obtain ⟨T15, eT15, h⟩ := obind_some h
  have p3 : GL T T15 := GL.tr p2 (s_X10_settle eT15)
  exact GL.tr p3 (s_X10_put_b20 _ h)
set_option maxHeartbeats 4000000 in
set_option maxRecDepth 100000 in
theorem a_X10_put_b20 {p : Program} {l : Launch} {e : Env} {s : State} {m : MethodId} {args : Array Value} {below : List Frame} {meth : Method} {c : Code} {Q : State → Prop} {D : va_G} {A : Nat → Prop} {cI cJ cZ cMic cSrc cSt cAI cAJ : ClassId} {ad0 : Nat → Nat} {T0 : AT} {T1 : AT} (E : cE p c cX10_put s m args (Cond.code yX10_put cX10_put 3 none :: wsA) D RX10 (CT cI cJ cZ cMic cSrc cSt cAI cAJ)) (hA : ∀ q : Nat, s.heap.size ≤ q → A q) (hX : xT A s) (hN : nX s) (hml : c.maxLocals = 3) (hst : l.stackTraces = false) (kr20 : ∀ (ad : Nat → Nat) (H : Heap) (locs : List Loc) (ls : Array Slot), (∀ n, n < T0.1 → ad n = ad0 n) → gC cI cJ cZ cMic cSrc cSt cAI cAJ D ad A s.heap H locs T1 → W p l e { frames := 3, cells := T1.1 - T0.1, slots := sg T1 - sg T0, locals := 49 } s m args below meth c H locs (T1.1 - T0.1) (sg T1 - sg T0) Q (F0 m 20 ls [])) : ∀ (T : AT) (ad : Nat → Nat) (H : Heap) (locs : List Loc) (ls : Array Slot), g_X10_put_b20 T = some T1 → GL T0 T → RC T → (∀ n, n < T0.1 → ad n = ad0 n) → gC cI cJ cZ cMic cSrc cSt cAI cAJ D ad A s.heap H locs T → lv_has ls 3 [] → W p l e { frames := 3, cells := T1.1 - T0.1, slots := sg T1 - sg T0, locals := 49 } s m args below meth c H locs (T.1 - T0.1) (sg T - sg T0) Q (F0 m 20 ls []) := by
  have hx := E.1
  have hb := E.2.1
  have hts := E.2.2.1
  have hown := E.2.2.2.1
  have hK := E.2.2.2.2
  intro T ad H locs ls h hgl hrc had G hl
  have hT1 := s_X10_put_b20 _ h
  have hcs := cs_ok hgl hT1
  have cp0 := cpr0 hrc
  unfold g_X10_put_b20 at h
  rw [osome1 h] at G
  refine w_cast (c2 := T1.1 - T0.1) (s2 := sg T1 - sg T0) (by rw [← osome1 h, cp0.1] <;> rfl) (by rw [← osome1 h, sg_cpr cp0] <;> rfl) ?_
  exact kr20 ad _ _ _ had G
set_option maxHeartbeats 4000000 in
set_option maxRecDepth 100000 in
theorem a_X10_put (l : Launch) (hst : l.stackTraces = false) (D : va_G) (cI cJ cZ cMic cSrc cSt cAI cAJ : ClassId) (ad : Nat → Nat) (T : AT) (o : Nat) (a0 : Int32) (a1 : Int32) {T1 : AT} (h : g_X10_put T o a0 a1 = some T1) (hrc : RC T) (h_o : o < T.1) : kAv l yX10_put (Cond.code yX10_put cX10_put 3 none :: wsA) 3 49 cI cJ cZ cMic cSrc cSt cAI cAJ D ad T [.ref (ad o), .int a0, .int a1] T1 := by
  intro sz
  refine Met.ofW (cc := cX10_put) (maxL := 3) (ret := none) (by decide) rfl ?_
  intro p e s m args below meth c s₁ B hml hv
  obtain ⟨rfl, hsz, hP, hK, hD0, hX, hN⟩ := hv
  have hx := B.exec
  have hb := B.bytes
  have hr := B.returns
  have hts := atoms_spec (ws := (Cond.code yX10_put cX10_put 3 none :: wsA)) B.pre
  have hown : s.vm.findClass RX10 = some m.cls := findClass_of_methodNamed B.named
  have hlocks := B.notSynchronized
  subst hsz
  have hD := hD0.self (sz := s.heap.size)
  generalize hAe : va_A (cW ad T.1 (cc cI cJ cZ cMic cSrc cSt cAI cAJ ad T)) s.heap.size = A at hD hX ⊢
  have hA : ∀ q : Nat, s.heap.size ≤ q → A q := fun q h => by rw [← hAe]; exact Or.inr h
  have G : gC cI cJ cZ cMic cSrc cSt cAI cAJ D ad A s.heap s.heap [] T := ⟨hP, hD, va_S.rf⟩
  have E : cE p c cX10_put s m ([.ref (ad o), .int a0, .int a1] : List Value).toArray (Cond.code yX10_put cX10_put 3 none :: wsA) D RX10 (CT cI cJ cZ cMic cSrc cSt cAI cAJ) := ⟨hx, hb, hts, hown, hK⟩
  have hl := lv_entry ([.ref (ad o), .int a0, .int a1]) (n := 3) (Nat.le_of_ble_eq_true rfl)
  rw [lg_entry_eq]
  generalize (lg_sl ([.ref (ad o), .int a0, .int a1]) ++ List.replicate (3 - (lg_sl ([.ref (ad o), .int a0, .int a1])).length) Slot.unset).toArray = ls at hl ⊢
  have hl : lv_has ls 3 [(0, .ref (ad o)), (1, .int a0), (2, .int a1)] := hl
  have hgl := GL.rf T
  have had : ∀ n, n < T.1 → ad n = ad n := fun _ _ => rfl
  have hT1 := s_X10_put h
  have hcs := cs_ok hgl hT1
  refine w_cast (Nat.sub_self T.1).symm (Nat.sub_self (sg T)).symm ?_
  have cp0 := cpr0 hrc
  unfold g_X10_put at h
  refine lv_aload_n hx hb dX10_put_0 rfl (lv_at hl 0 rfl) ?_
  refine lv_iload_n hx hb dX10_put_1 rfl (lv_at hl 1 rfl) ?_
  obtain ⟨g2, h⟩ := oif_some h
  obtain ⟨T3, eT3, h⟩ := obind_some h
  refine q_cvv (As := [.int a0]) (rest := []) E G hA hX hN hml (u_X10_clear l hst D cI cJ cZ cMic cSrc cSt cAI cAJ ad T o a0 eT3) (cwV 1 hts (gaV qA_435 qA_66 qA_67 qA_6 qA_68) rfl rfl rfl (by decide +kernel) ⟨Nat.le_of_ble_eq_true rfl, Nat.le_of_ble_eq_true rfl⟩) (oO_k g2).1 (cc_o10 (oO_k g2).2) rfl rfl hl.1 rfl (lv_room (Nat.le_of_ble_eq_true rfl)) dX10_put_2 hcs (fun T4 H locs hq G => ?_)
  rw [hq] at G
  clear hq
  have cp1 := cpr_sp cp0 (s_X10_clear eT3)
  refine lv_aload_n hx hb dX10_put_5 rfl (lv_at hl 0 rfl) ?_
  obtain ⟨g5, h⟩ := oif_some h
  obtain ⟨n6, en6, h⟩ := obind_some h
  have h_n6 : n6 < T.1 := by rw [← cp1.1]; exact cp1.2.2 _ _ _ en6
  refine c_get E G o 1 (v := .ref (ad n6)) (oO_k g5).1 (cc_o10 (oO_k g5).2) rfl (fun w h => .tail _ (iA_12 h)) (by decide) (.tail _ qA_14) rfl (by rw [en6]; rfl) dX10_put_6 ?_
  clear en6
  refine lv_iconst (v := 0) hx hb dX10_put_9 (by decide) ?_
  obtain ⟨g7, h⟩ := oif_some h
  obtain ⟨g8, h⟩ := oif_some h
  obtain ⟨n9, en9, h⟩ := obind_some h
  have h_n9 : n9 < T.1 := by rw [← cp1.1]; exact cp1.2.2 _ _ _ en9
  refine c_alda E G n6 7 (k := (0 : Int32).toNatClampNeg) (v := .ref (ad n9)) (aA_k g7).1 (cc_a107 (aA_k g7).2.1) rfl (inb_k g8).1 (inb_k g8).2 (aA_k g7).2.2 (by show va_rf ((T3.2.2.2.2 n6 (0 : Int32).toNatClampNeg).map ad) = _; rw [en9]; rfl) dX10_put_10 ?_
  clear en9
  refine lv_iload_n hx hb dX10_put_11 rfl (lv_at hl 1 rfl) ?_
  refine lv_iload_n hx hb dX10_put_12 rfl (lv_at hl 2 rfl) ?_
  refine lv_i2l (v := a1.toInt64) hx hb dX10_put_13 rfl ?_
  refine lv_topl (fun v10 ev10 => ?_)
  have h := elet_at ev10 h
  clear ev10
  obtain ⟨g11, h⟩ := oif_some h
  obtain ⟨g12, h⟩ := oif_some h
  refine c_last E G n9 1 (k := a0.toNatClampNeg) (v := v10) (aA_k g11).1 (cc_a101 (aA_k g11).2.1) rfl (inb_k g12).1 (inb_k g12).2 (aA_k g11).2.2 dX10_put_14 (fun H locs G => ?_)
  have G := gC_up_j (f := vp_updL (T3.2.2.2.1 n9) a0.toNatClampNeg v10) (ccv_101 (aA_k g11).2.1) G
  obtain ⟨T13, eT13, h⟩ := elet_some h
  have G : gC cI cJ cZ cMic cSrc cSt cAI cAJ D ad A s.heap H locs T13 := by rw [eT13]; exact G
  have cp2 := show CPR T T13 from by rw [eT13]; exact cpr_sp cp1 sp_uJ
  clear eT13
  refine lv_aload_n hx hb dX10_put_15 rfl (lv_at hl 0 rfl) ?_
  refine lv_iload_n hx hb dX10_put_16 rfl (lv_at hl 1 rfl) ?_
  obtain ⟨g14, h⟩ := oif_some h
  obtain ⟨T15, eT15, h⟩ := obind_some h
  have hg2 := s_X10_settle eT15
  have hrc2 := hg2.2.2 cp2.2.2
  have hT2 := s_X10_put_b20 _ h
  refine q_avv (As := [.int a0]) (rest := []) E G hA hX hN hml (a_X10_settle l hst D cI cJ cZ cMic cSrc cSt cAI cAJ ad T13 o a0 eT15 cp2.2.2 (by rw [cp2.1]; exact h_o)) (cwV 1 hts (gaV qA_103 qA_91 qA_92 qA_6 qA_93) rfl rfl rfl (by decide +kernel) ⟨Nat.le_of_ble_eq_true rfl, Nat.le_of_ble_eq_true rfl⟩) (oO_k g14).1 (cc_o10 (oO_k g14).2) rfl rfl hl.1 rfl (lv_room (Nat.le_of_ble_eq_true rfl)) dX10_put_17 (cs_av hgl cp2 hg2 hT2) (fun ad2 H locs hga G => ?_)
  refine w_cast (c2 := T15.1 - T.1) (s2 := sg T15 - sg T) (cs_f1 hgl cp2 hg2) (cs_f2 hgl cp2 hg2) ?_
  have hl := lv_sub hl [] rfl
  exact a_X10_put_b20 E hA hX hN hml hst (fun ad H locs ls had G => W.vret hx hb hr (fun t ht hW => ⟨⟨(T1, ad), rfl, ⟨rfl, had⟩, ⟨by rw [ht]; exact G.1, va_K.moved hW.alike hK, G.2.1⟩⟩, G.2.2.F ht⟩) G.2.2.2.2 dX10_put_20) _ _ _ _ _ h (GL.tr (gl_cpr hgl cp2) hg2) hrc2 (fun n hn => (hga n (by rw [cp2.1]; exact Nat.lt_of_lt_of_le hn hgl.1)).trans (had n hn)) G hl
def g_X5_finish_b87 (k9 : AT → Nat → Nat → Nat → Int32 → Option (AT)) (k20 : AT → Nat → Nat → Nat → Int32 → Int32 → Option (AT)) (T : AT) (l0 : Nat) (l1 : Nat) (l2 : Nat) (l3 : Int32) (l4 : Int32) : Option (AT) := elet (l4 + Int32.ofInt (1)) fun v2 => k20 T l0 l1 l2 l3 v2
def g_X5_finish_b55 (k9 : AT → Nat → Nat → Nat → Int32 → Option (AT)) (k20 : AT → Nat → Nat → Nat → Int32 → Int32 → Option (AT)) (T : AT) (s0 : Int32) (l0 : Nat) (l1 : Nat) (l2 : Nat) (l3 : Int32) (l4 : Int32) : Option (AT) := oif (oO T l2 8 = true) <| obind (T.2.2.2.2 l2 10) fun n3 => obind (g_X8_placeOf l3 l4) fun r4 => oif (oO T l1 6 = true) <| elet (T.2.2.1 l1 3) fun v7 => elet (-v7) fun v8 => oif (oO T l1 6 = true) <| elet (T.2.2.1 l1 3) fun v10 => elet (if s0 < v10 then s0 else v10) fun v11 => elet (if v8 < v11 then v11 else v8) fun v12 => oif (oO T n3 10 = true) <| obind (g_X10_put T n3 r4 v12) fun T14 => g_X5_finish_b87 k9 k20 T14 l0 l1 l2 l3 l4
def g_X5_finish_b20 (k9 : AT → Nat → Nat → Nat → Int32 → Option (AT)) : Nat → AT → Nat → Nat → Nat → Int32 → Int32 → Option (AT)
  | 0, _, _, _, _, _, _ => none
  | n + 1, T, l0, l1, l2, l3, l4 => oif (oO T l1 6 = true) <| elet (T.2.2.1 l1 2) fun v3 => if v3 ≤ l4 then (elet (l3 + Int32.ofInt (1)) fun v5 => k9 T l0 l1 l2 v5) else (oif (oO T l1 6 = true) <| elet (T.2.2.1 l1 14) fun v7 => if v7 ≤ 0 then (oif (oO T l0 5 = true) <| obind2 (g_X5_raw T l0 l1 l3 l4) fun r12 T10 => g_X5_finish_b55 k9 (g_X5_finish_b20 k9 n) T10 r12 l0 l1 l2 l3 l4) else (oif (oO T l0 5 = true) <| obind2 (g_X5_filtered T l0 l1 l3 l4) fun r17 T15 => g_X5_finish_b55 k9 (g_X5_finish_b20 k9 n) T15 r17 l0 l1 l2 l3 l4))
def g_X5_finish_b9  : Nat → AT → Nat → Nat → Nat → Int32 → Option (AT)
  | 0, _, _, _, _, _ => none
  | n + 1, T, l0, l1, l2, l3 => oif (oO T l1 6 = true) <| elet (T.2.2.1 l1 5) fun v3 => if v3 ≤ l3 then (oif (oO T l2 8 = true) <| elet (uI T l2 2 0) fun T6 => some T6) else (g_X5_finish_b20 (g_X5_finish_b9 n) 16384 T l0 l1 l2 l3 0)
def g_X5_finish (T : AT) (o : Nat) (a0 : Nat) (a1 : Nat) : Option (AT) := oif (oO T a1 8 = true) <| obind (T.2.2.2.2 a1 10) fun n3 => oif (oO T n3 10 = true) <| obind (g_X10_narrow T n3) fun T5 => g_X5_finish_b9 16384 T5 o a0 a1 0
set_option maxHeartbeats 4000000 in
set_option maxRecDepth 100000 in
theorem s_X5_finish_b87 {T1 : AT} {k9 : AT → Nat → Nat → Nat → Int32 → Option (AT)} {k20 : AT → Nat → Nat → Nat → Int32 → Int32 → Option (AT)} (hk9 : ∀ (T : AT) (l0 : Nat) (l1 : Nat) (l2 : Nat) (l3 : Int32), k9 T l0 l1 l2 l3 = some T1 → GL T T1) (hk20 : ∀ (T : AT) (l0 : Nat) (l1 : Nat) (l2 : Nat) (l3 : Int32) (l4 : Int32), k20 T l0 l1 l2 l3 l4 = some T1 → GL T T1) : ∀ (T : AT) (l0 : Nat) (l1 : Nat) (l2 : Nat) (l3 : Int32) (l4 : Int32), g_X5_finish_b87 k9 k20 T l0 l1 l2 l3 l4 = some T1 → GL T T1 := by
  intro T l0 l1 l2 l3 l4 h
  have p0 := GL.rf T
  unfold g_X5_finish_b87 at h
  obtain ⟨v2, ev2, h⟩ := elet_some h
  exact GL.tr p0 (hk20 _ _ _ _ _ _ h)
set_option maxHeartbeats 4000000 in
set_option maxRecDepth 100000 in
theorem s_X5_finish_b55 {T1 : AT} {k9 : AT → Nat → Nat → Nat → Int32 → Option (AT)} {k20 : AT → Nat → Nat → Nat → Int32 → Int32 → Option (AT)} (hk9 : ∀ (T : AT) (l0 : Nat) (l1 : Nat) (l2 : Nat) (l3 : Int32), k9 T l0 l1 l2 l3 = some T1 → GL T T1) (hk20 : ∀ (T : AT) (l0 : Nat) (l1 : Nat) (l2 : Nat) (l3 : Int32) (l4 : Int32), k20 T l0 l1 l2 l3 l4 = some T1 → GL T T1) : ∀ (T : AT) (s0 : Int32) (l0 : Nat) (l1 : Nat) (l2 : Nat) (l3 : Int32) (l4 : Int32), g_X5_finish_b55 k9 k20 T s0 l0 l1 l2 l3 l4 = some T1 → GL T T1 := by
  intro T s0 l0 l1 l2 l3 l4 h
  have p0 := GL.rf T
  unfold g_X5_finish_b55 at h
  obtain ⟨g2, h⟩ := oif_some h
  obtain ⟨n3, en3, h⟩ := obind_some h
  obtain ⟨r4, -, h⟩ := obind_some h
  obtain ⟨g5, h⟩ := oif_some h
  obtain ⟨v6, -, h⟩ := elet_some h
  obtain ⟨v7, -, h⟩ := elet_some h
  obtain ⟨g8, h⟩ := oif_some h
  obtain ⟨v9, -, h⟩ := elet_some h
  obtain ⟨v10, -, h⟩ := elet_some h
  obtain ⟨v11, -, h⟩ := elet_some h
  obtain ⟨g12, h⟩ := oif_some h
  obtain ⟨T13, eT13, h⟩ := obind_some h
  have p1 : GL T T13 := GL.tr p0 (s_X10_put eT13)
  exact GL.tr p1 (s_X5_finish_b87 hk9 hk20 _ _ _ _ _ _ h)
set_option maxHeartbeats 4000000 in
set_option maxRecDepth 100000 in
theorem s_X5_finish_b20 {T1 : AT} {k9 : AT → Nat → Nat → Nat → Int32 → Option (AT)} (hk9 : ∀ (T : AT) (l0 : Nat) (l1 : Nat) (l2 : Nat) (l3 : Int32), k9 T l0 l1 l2 l3 = some T1 → GL T T1) : ∀ n : Nat, ∀ (T : AT) (l0 : Nat) (l1 : Nat) (l2 : Nat) (l3 : Int32) (l4 : Int32), g_X5_finish_b20 k9 n T l0 l1 l2 l3 l4 = some T1 → GL T T1 := by
  intro n
  induction n with
  | zero =>
    intro T l0 l1 l2 l3 l4 h
    have h : (none : Option (AT)) = some T1 := h
    cases h
  | succ n ih =>
    intro T l0 l1 l2 l3 l4 h
    have p0 := GL.rf T
    unfold g_X5_finish_b20 at h
    obtain ⟨g2, h⟩ := oif_some h
    obtain ⟨v3, -, h⟩ := elet_some h
    rcases oif_or h with ⟨c4, h⟩ | ⟨c4, h⟩
    · have h := h
      obtain ⟨v5, ev5, h⟩ := elet_some h
      exact GL.tr p0 (hk9 _ _ _ _ _ h)
    · have h := h
      obtain ⟨g6, h⟩ := oif_some h
      obtain ⟨v7, -, h⟩ := elet_some h
      rcases oif_or h with ⟨c8, h⟩ | ⟨c8, h⟩
      · have h := h
        obtain ⟨g9, h⟩ := oif_some h
        obtain ⟨r11, T10, eT10, h⟩ := obind2_some h
        have p1 : GL T T10 := GL.tr p0 (gl_sp (s_X5_raw eT10))
        exact GL.tr p1 (s_X5_finish_b55 hk9 ih _ _ _ _ _ _ _ h)
      · have h := h
        obtain ⟨g12, h⟩ := oif_some h
        obtain ⟨r14, T13, eT13, h⟩ := obind2_some h
        have p1 : GL T T13 := GL.tr p0 (gl_sp (s_X5_filtered eT13))
        exact GL.tr p1 (s_X5_finish_b55 hk9 ih _ _ _ _ _ _ _ h)
set_option maxHeartbeats 4000000 in
set_option maxRecDepth 100000 in
theorem s_X5_finish_b9 {T1 : AT} : ∀ n : Nat, ∀ (T : AT) (l0 : Nat) (l1 : Nat) (l2 : Nat) (l3 : Int32), g_X5_finish_b9 n T l0 l1 l2 l3 = some T1 → GL T T1 := by
  intro n
  induction n with
  | zero =>
    intro T l0 l1 l2 l3 h
    have h : (none : Option (AT)) = some T1 := h
    cases h
  | succ n ih =>
    intro T l0 l1 l2 l3 h
    have p0 := GL.rf T
    unfold g_X5_finish_b9 at h
    obtain ⟨g2, h⟩ := oif_some h
    obtain ⟨v3, -, h⟩ := elet_some h
    rcases oif_or h with ⟨c4, h⟩ | ⟨c4, h⟩
    · have h := h
      obtain ⟨g5, h⟩ := oif_some h
      obtain ⟨T6, eT6, h⟩ := elet_some h
      have p1 : GL T T6 := GL.tr p0 (by rw [eT6]; exact gl_sp sp_uI)
      rw [← osome1 h]
      exact p1
    · have h := h
      exact GL.tr p0 (s_X5_finish_b20 ih _ _ _ _ _ _ _ h)
set_option maxHeartbeats 4000000 in
set_option maxRecDepth 100000 in
theorem s_X5_finish {T : AT} {o : Nat} {a0 : Nat} {a1 : Nat} {T1 : AT} (h : g_X5_finish T o a0 a1 = some T1) : GL T T1 := by
  have p0 := GL.rf T
  unfold g_X5_finish at h
  obtain ⟨g2, h⟩ := oif_some h
  obtain ⟨n3, en3, h⟩ := obind_some h
  obtain ⟨g4, h⟩ := oif_some h
  obtain ⟨T5, eT5, h⟩ := obind_some h
  have p1 : GL T T5 := GL.tr p0 (gl_sp (s_X10_narrow eT5))
  exact GL.tr p1 (s_X5_finish_b9 _ _ _ _ _ _ h)
set_option maxHeartbeats 4000000 in
set_option maxRecDepth 100000 in
theorem a_X5_finish_b87 {p : Program} {l : Launch} {e : Env} {s : State} {m : MethodId} {args : Array Value} {below : List Frame} {meth : Method} {c : Code} {Q : State → Prop} {D : va_G} {A : Nat → Prop} {cI cJ cZ cMic cSrc cSt cAI cAJ : ClassId} {ad0 : Nat → Nat} {T0 : AT} {T1 : AT} (E : cE p c cX5_finish s m args (Cond.code yX5_finish cX5_finish 6 none :: wsA) D RX5 (CT cI cJ cZ cMic cSrc cSt cAI cAJ)) (hA : ∀ q : Nat, s.heap.size ≤ q → A q) (hX : xT A s) (hN : nX s) (hml : c.maxLocals = 6) (hst : l.stackTraces = false) (kr104 : ∀ (ad : Nat → Nat) (H : Heap) (locs : List Loc) (ls : Array Slot), (∀ n, n < T0.1 → ad n = ad0 n) → gC cI cJ cZ cMic cSrc cSt cAI cAJ D ad A s.heap H locs T1 → W p l e { frames := 4, cells := T1.1 - T0.1, slots := sg T1 - sg T0, locals := 71 } s m args below meth c H locs (T1.1 - T0.1) (sg T1 - sg T0) Q (F0 m 104 ls [])) {k9 : AT → Nat → Nat → Nat → Int32 → Option (AT)} {k20 : AT → Nat → Nat → Nat → Int32 → Int32 → Option (AT)} (hs9 : ∀ (T : AT) (l0 : Nat) (l1 : Nat) (l2 : Nat) (l3 : Int32), k9 T l0 l1 l2 l3 = some T1 → GL T T1) (hk9 : ∀ (T : AT) (ad : Nat → Nat) (H : Heap) (locs : List Loc) (ls : Array Slot) (l0 : Nat) (l1 : Nat) (l2 : Nat) (l3 : Int32), k9 T l0 l1 l2 l3 = some T1 → GL T0 T → RC T → (∀ n, n < T0.1 → ad n = ad0 n) → l0 < T.1 → l1 < T.1 → l2 < T.1 → gC cI cJ cZ cMic cSrc cSt cAI cAJ D ad A s.heap H locs T → lv_has ls 6 [(0, .ref (ad l0)), (1, .ref (ad l1)), (2, .ref (ad l2)), (3, .int l3)] → W p l e { frames := 4, cells := T1.1 - T0.1, slots := sg T1 - sg T0, locals := 71 } s m args below meth c H locs (T.1 - T0.1) (sg T - sg T0) Q (F0 m 9 ls [])) (hs20 : ∀ (T : AT) (l0 : Nat) (l1 : Nat) (l2 : Nat) (l3 : Int32) (l4 : Int32), k20 T l0 l1 l2 l3 l4 = some T1 → GL T T1) (hk20 : ∀ (T : AT) (ad : Nat → Nat) (H : Heap) (locs : List Loc) (ls : Array Slot) (l0 : Nat) (l1 : Nat) (l2 : Nat) (l3 : Int32) (l4 : Int32), k20 T l0 l1 l2 l3 l4 = some T1 → GL T0 T → RC T → (∀ n, n < T0.1 → ad n = ad0 n) → l0 < T.1 → l1 < T.1 → l2 < T.1 → gC cI cJ cZ cMic cSrc cSt cAI cAJ D ad A s.heap H locs T → lv_has ls 6 [(0, .ref (ad l0)), (1, .ref (ad l1)), (2, .ref (ad l2)), (3, .int l3), (4, .int l4)] → W p l e { frames := 4, cells := T1.1 - T0.1, slots := sg T1 - sg T0, locals := 71 } s m args below meth c H locs (T.1 - T0.1) (sg T - sg T0) Q (F0 m 20 ls [])) : ∀ (T : AT) (ad : Nat → Nat) (H : Heap) (locs : List Loc) (ls : Array Slot) (l0 : Nat) (l1 : Nat) (l2 : Nat) (l3 : Int32) (l4 : Int32), g_X5_finish_b87 k9 k20 T l0 l1 l2 l3 l4 = some T1 → GL T0 T → RC T → (∀ n, n < T0.1 → ad n = ad0 n) → l0 < T.1 → l1 < T.1 → l2 < T.1 → gC cI cJ cZ cMic cSrc cSt cAI cAJ D ad A s.heap H locs T → lv_has ls 6 [(0, .ref (ad l0)), (1, .ref (ad l1)), (2, .ref (ad l2)), (3, .int l3), (4, .int l4)] → W p l e { frames := 4, cells := T1.1 - T0.1, slots := sg T1 - sg T0, locals := 71 } s m args below meth c H locs (T.1 - T0.1) (sg T - sg T0) Q (F0 m 87 ls []) := by
  have hx := E.1
  have hb := E.2.1
  have hts := E.2.2.1
  have hown := E.2.2.2.1
  have hK := E.2.2.2.2
  intro T ad H locs ls l0 l1 l2 l3 l4 h hgl hrc had h_l0 h_l1 h_l2 G hl
  have hT1 := s_X5_finish_b87 hs9 hs20 _ _ _ _ _ _ h
  have hcs := cs_ok hgl hT1
  have cp0 := cpr0 hrc
  unfold g_X5_finish_b87 at h
  obtain ⟨v2, ev2, h⟩ := elet_some h
  refine lv_iinc (v := v2) (lv' := [(4, .int v2), (0, .ref (ad l0)), (1, .ref (ad l1)), (2, .ref (ad l2)), (3, .int l3)]) hx hb dX5_finish_87 hl (k := 4) rfl ev2.symm (by decide) rfl (fun ls hl => ?_)
  refine lv_goto (tgt := 20) hx hb dX5_finish_90 (by decide) ?_
  have hl := lv_sub hl [1, 2, 3, 4, 0] rfl
  refine w_cast (c2 := T.1 - T0.1) (s2 := sg T - sg T0) (by rw [cp0.1] <;> rfl) (by rw [sg_cpr cp0] <;> rfl) ?_
  exact hk20 _ _ _ _ _ _ _ _ _ _ h (gl_cpr hgl cp0) cp0.2.2 had (by rw [cp0.1]; exact h_l0) (by rw [cp0.1]; exact h_l1) (by rw [cp0.1]; exact h_l2) G hl
set_option maxHeartbeats 4000000 in
set_option maxRecDepth 100000 in
theorem a_X5_finish_b55 {p : Program} {l : Launch} {e : Env} {s : State} {m : MethodId} {args : Array Value} {below : List Frame} {meth : Method} {c : Code} {Q : State → Prop} {D : va_G} {A : Nat → Prop} {cI cJ cZ cMic cSrc cSt cAI cAJ : ClassId} {ad0 : Nat → Nat} {T0 : AT} {T1 : AT} (E : cE p c cX5_finish s m args (Cond.code yX5_finish cX5_finish 6 none :: wsA) D RX5 (CT cI cJ cZ cMic cSrc cSt cAI cAJ)) (hA : ∀ q : Nat, s.heap.size ≤ q → A q) (hX : xT A s) (hN : nX s) (hml : c.maxLocals = 6) (hst : l.stackTraces = false) (kr104 : ∀ (ad : Nat → Nat) (H : Heap) (locs : List Loc) (ls : Array Slot), (∀ n, n < T0.1 → ad n = ad0 n) → gC cI cJ cZ cMic cSrc cSt cAI cAJ D ad A s.heap H locs T1 → W p l e { frames := 4, cells := T1.1 - T0.1, slots := sg T1 - sg T0, locals := 71 } s m args below meth c H locs (T1.1 - T0.1) (sg T1 - sg T0) Q (F0 m 104 ls [])) {k9 : AT → Nat → Nat → Nat → Int32 → Option (AT)} {k20 : AT → Nat → Nat → Nat → Int32 → Int32 → Option (AT)} (hs9 : ∀ (T : AT) (l0 : Nat) (l1 : Nat) (l2 : Nat) (l3 : Int32), k9 T l0 l1 l2 l3 = some T1 → GL T T1) (hk9 : ∀ (T : AT) (ad : Nat → Nat) (H : Heap) (locs : List Loc) (ls : Array Slot) (l0 : Nat) (l1 : Nat) (l2 : Nat) (l3 : Int32), k9 T l0 l1 l2 l3 = some T1 → GL T0 T → RC T → (∀ n, n < T0.1 → ad n = ad0 n) → l0 < T.1 → l1 < T.1 → l2 < T.1 → gC cI cJ cZ cMic cSrc cSt cAI cAJ D ad A s.heap H locs T → lv_has ls 6 [(0, .ref (ad l0)), (1, .ref (ad l1)), (2, .ref (ad l2)), (3, .int l3)] → W p l e { frames := 4, cells := T1.1 - T0.1, slots := sg T1 - sg T0, locals := 71 } s m args below meth c H locs (T.1 - T0.1) (sg T - sg T0) Q (F0 m 9 ls [])) (hs20 : ∀ (T : AT) (l0 : Nat) (l1 : Nat) (l2 : Nat) (l3 : Int32) (l4 : Int32), k20 T l0 l1 l2 l3 l4 = some T1 → GL T T1) (hk20 : ∀ (T : AT) (ad : Nat → Nat) (H : Heap) (locs : List Loc) (ls : Array Slot) (l0 : Nat) (l1 : Nat) (l2 : Nat) (l3 : Int32) (l4 : Int32), k20 T l0 l1 l2 l3 l4 = some T1 → GL T0 T → RC T → (∀ n, n < T0.1 → ad n = ad0 n) → l0 < T.1 → l1 < T.1 → l2 < T.1 → gC cI cJ cZ cMic cSrc cSt cAI cAJ D ad A s.heap H locs T → lv_has ls 6 [(0, .ref (ad l0)), (1, .ref (ad l1)), (2, .ref (ad l2)), (3, .int l3), (4, .int l4)] → W p l e { frames := 4, cells := T1.1 - T0.1, slots := sg T1 - sg T0, locals := 71 } s m args below meth c H locs (T.1 - T0.1) (sg T - sg T0) Q (F0 m 20 ls [])) : ∀ (T : AT) (ad : Nat → Nat) (H : Heap) (locs : List Loc) (ls : Array Slot) (s0 : Int32) (l0 : Nat) (l1 : Nat) (l2 : Nat) (l3 : Int32) (l4 : Int32), g_X5_finish_b55 k9 k20 T s0 l0 l1 l2 l3 l4 = some T1 → GL T0 T → RC T → (∀ n, n < T0.1 → ad n = ad0 n) → l0 < T.1 → l1 < T.1 → l2 < T.1 → gC cI cJ cZ cMic cSrc cSt cAI cAJ D ad A s.heap H locs T → lv_has ls 6 [(0, .ref (ad l0)), (1, .ref (ad l1)), (2, .ref (ad l2)), (3, .int l3), (4, .int l4)] → W p l e { frames := 4, cells := T1.1 - T0.1, slots := sg T1 - sg T0, locals := 71 } s m args below meth c H locs (T.1 - T0.1) (sg T - sg T0) Q (F0 m 55 ls [.int s0]) := by
  have hx := E.1
  have hb := E.2.1
  have hts := E.2.2.1
  have hown := E.2.2.2.1
  have hK := E.2.2.2.2
  intro T ad H locs ls s0 l0 l1 l2 l3 l4 h hgl hrc had h_l0 h_l1 h_l2 G hl
  have hT1 := s_X5_finish_b55 hs9 hs20 _ _ _ _ _ _ _ h
  have hcs := cs_ok hgl hT1
  have cp0 := cpr0 hrc
  unfold g_X5_finish_b55 at h
  refine lv_istore (lv' := [(5, .int s0), (0, .ref (ad l0)), (1, .ref (ad l1)), (2, .ref (ad l2)), (3, .int l3), (4, .int l4)]) hx hb dX5_finish_55 hl (by decide) rfl (fun ls hl => ?_)
  refine lv_aload_n hx hb dX5_finish_57 rfl (lv_at hl 3 rfl) ?_
  obtain ⟨g2, h⟩ := oif_some h
  obtain ⟨n3, en3, h⟩ := obind_some h
  have h_n3 : n3 < T.1 := by rw [← cp0.1]; exact cp0.2.2 _ _ _ en3
  refine c_get E G l2 10 (v := .ref (ad n3)) (oO_k g2).1 (cc_o8 (oO_k g2).2) rfl (fun w h => .tail _ (iA_16 h)) (by decide) (.tail _ qA_523) rfl (by rw [en3]; rfl) dX5_finish_58 ?_
  clear en3
  refine lv_iload_n hx hb dX5_finish_61 rfl (lv_at hl 4 rfl) ?_
  refine lv_iload hx hb dX5_finish_62 (lv_at hl 5 rfl) ?_
  obtain ⟨r4, er4, h⟩ := obind_some h
  refine q_sti (As := [.int l3, .int l4]) (rest := [.ref (ad n3)]) ⟨hx, hb, hml, hown, hts⟩ hN (u_X8_placeOf l l3 l4 er4) ⟨callB_of 2 hts (gaC qA_89) rfl rfl rfl (hts _ (.tail _ qA_47)) (hts _ (.tail _ qA_541)) (by decide +kernel) ⟨Nat.le_of_ble_eq_true rfl, Nat.le_of_ble_eq_true rfl⟩, hts _ (.tail _ qA_88)⟩ rfl hl.1 rfl (lv_room (Nat.le_of_ble_eq_true rfl)) dX5_finish_64 hcs (fun q5 hq => ?_)
  refine lv_to hq ?_
  clear hq er4
  refine lv_aload_n hx hb dX5_finish_67 rfl (lv_at hl 2 rfl) ?_
  obtain ⟨g6, h⟩ := oif_some h
  refine c_get E G l1 3 (oO_k g6).1 (cc_o6 (oO_k g6).2) rfl (fun w h => .tail _ (iA_14 h)) (by decide) (.tail _ qA_525) rfl rfl dX5_finish_68 ?_
  refine lv_topi (fun v7 ev7 => ?_)
  have h := elet_at ev7 h
  clear ev7
  refine lv_ineg hx hb dX5_finish_71 ?_
  refine lv_topi (fun v8 ev8 => ?_)
  have h := elet_at ev8 h
  clear ev8
  refine lv_aload_n hx hb dX5_finish_72 rfl (lv_at hl 2 rfl) ?_
  obtain ⟨g9, h⟩ := oif_some h
  refine c_get E G l1 3 (oO_k g9).1 (cc_o6 (oO_k g9).2) rfl (fun w h => .tail _ (iA_14 h)) (by decide) (.tail _ qA_525) rfl rfl dX5_finish_73 ?_
  refine lv_topi (fun v10 ev10 => ?_)
  have h := elet_at ev10 h
  clear ev10
  refine lv_iload hx hb dX5_finish_76 (lv_at hl 0 rfl) ?_
  refine va_mmin hx hb (hml.trans hl.1.symm) hown (hts _ (.tail _ qA_526)) (hts _ (.tail _ qA_50)) (hts _ (.tail _ qA_18)) (hts _ (.tail _ qA_51)) (Nat.le_of_ble_eq_true rfl) (Nat.le_of_ble_eq_true rfl) hcs.1 hcs.2 dX5_finish_78 ?_
  refine lv_topi (fun v11 ev11 => ?_)
  have h := elet_at ev11 h
  clear ev11
  refine va_mmax hx hb (hml.trans hl.1.symm) hown (hts _ (.tail _ qA_527)) (hts _ (.tail _ qA_17)) (hts _ (.tail _ qA_18)) (hts _ (.tail _ qA_19)) (Nat.le_of_ble_eq_true rfl) (Nat.le_of_ble_eq_true rfl) hcs.1 hcs.2 dX5_finish_81 ?_
  refine lv_topi (fun v12 ev12 => ?_)
  have h := elet_at ev12 h
  clear ev12
  obtain ⟨g13, h⟩ := oif_some h
  obtain ⟨T14, eT14, h⟩ := obind_some h
  have hg2 := s_X10_put eT14
  have hrc2 := hg2.2.2 cp0.2.2
  have hT2 := s_X5_finish_b87 hs9 hs20 _ _ _ _ _ _ h
  refine q_avv (As := [.int r4, .int v12]) (rest := []) E G hA hX hN hml (a_X10_put l hst D cI cJ cZ cMic cSrc cSt cAI cAJ ad T n3 r4 v12 eT14 cp0.2.2 (by rw [cp0.1]; exact h_n3)) (cwV 2 hts (gaV qA_542 qA_543 qA_544 qA_6 qA_545) rfl rfl rfl (by decide +kernel) ⟨Nat.le_of_ble_eq_true rfl, Nat.le_of_ble_eq_true rfl⟩) (oO_k g13).1 (cc_o10 (oO_k g13).2) rfl rfl hl.1 rfl (lv_room (Nat.le_of_ble_eq_true rfl)) dX5_finish_84 (cs_av hgl cp0 hg2 hT2) (fun ad2 H locs hga G => ?_)
  refine w_cast (c2 := T14.1 - T0.1) (s2 := sg T14 - sg T0) (cs_f1 hgl cp0 hg2) (cs_f2 hgl cp0 hg2) ?_
  have hl := lv_sub hl [1, 2, 3, 4, 5] rfl
  rw [show ad l0 = ad2 l0 from (hga l0 (by rw [cp0.1]; exact h_l0)).symm] at hl
  rw [show ad l1 = ad2 l1 from (hga l1 (by rw [cp0.1]; exact h_l1)).symm] at hl
  rw [show ad l2 = ad2 l2 from (hga l2 (by rw [cp0.1]; exact h_l2)).symm] at hl
  exact a_X5_finish_b87 E hA hX hN hml hst kr104 hs9 hk9 hs20 hk20 _ _ _ _ _ _ _ _ _ _ h (GL.tr (gl_cpr hgl cp0) hg2) hrc2 (fun n hn => (hga n (by rw [cp0.1]; exact Nat.lt_of_lt_of_le hn hgl.1)).trans (had n hn)) (Nat.lt_of_lt_of_le (by rw [cp0.1]; exact h_l0) hg2.1) (Nat.lt_of_lt_of_le (by rw [cp0.1]; exact h_l1) hg2.1) (Nat.lt_of_lt_of_le (by rw [cp0.1]; exact h_l2) hg2.1) G hl
set_option maxHeartbeats 4000000 in
set_option maxRecDepth 100000 in
theorem a_X5_finish_b20 {p : Program} {l : Launch} {e : Env} {s : State} {m : MethodId} {args : Array Value} {below : List Frame} {meth : Method} {c : Code} {Q : State → Prop} {D : va_G} {A : Nat → Prop} {cI cJ cZ cMic cSrc cSt cAI cAJ : ClassId} {ad0 : Nat → Nat} {T0 : AT} {T1 : AT} (E : cE p c cX5_finish s m args (Cond.code yX5_finish cX5_finish 6 none :: wsA) D RX5 (CT cI cJ cZ cMic cSrc cSt cAI cAJ)) (hA : ∀ q : Nat, s.heap.size ≤ q → A q) (hX : xT A s) (hN : nX s) (hml : c.maxLocals = 6) (hst : l.stackTraces = false) (kr104 : ∀ (ad : Nat → Nat) (H : Heap) (locs : List Loc) (ls : Array Slot), (∀ n, n < T0.1 → ad n = ad0 n) → gC cI cJ cZ cMic cSrc cSt cAI cAJ D ad A s.heap H locs T1 → W p l e { frames := 4, cells := T1.1 - T0.1, slots := sg T1 - sg T0, locals := 71 } s m args below meth c H locs (T1.1 - T0.1) (sg T1 - sg T0) Q (F0 m 104 ls [])) {k9 : AT → Nat → Nat → Nat → Int32 → Option (AT)} (hs9 : ∀ (T : AT) (l0 : Nat) (l1 : Nat) (l2 : Nat) (l3 : Int32), k9 T l0 l1 l2 l3 = some T1 → GL T T1) (hk9 : ∀ (T : AT) (ad : Nat → Nat) (H : Heap) (locs : List Loc) (ls : Array Slot) (l0 : Nat) (l1 : Nat) (l2 : Nat) (l3 : Int32), k9 T l0 l1 l2 l3 = some T1 → GL T0 T → RC T → (∀ n, n < T0.1 → ad n = ad0 n) → l0 < T.1 → l1 < T.1 → l2 < T.1 → gC cI cJ cZ cMic cSrc cSt cAI cAJ D ad A s.heap H locs T → lv_has ls 6 [(0, .ref (ad l0)), (1, .ref (ad l1)), (2, .ref (ad l2)), (3, .int l3)] → W p l e { frames := 4, cells := T1.1 - T0.1, slots := sg T1 - sg T0, locals := 71 } s m args below meth c H locs (T.1 - T0.1) (sg T - sg T0) Q (F0 m 9 ls [])) : ∀ n : Nat, ∀ (T : AT) (ad : Nat → Nat) (H : Heap) (locs : List Loc) (ls : Array Slot) (l0 : Nat) (l1 : Nat) (l2 : Nat) (l3 : Int32) (l4 : Int32), g_X5_finish_b20 k9 n T l0 l1 l2 l3 l4 = some T1 → GL T0 T → RC T → (∀ n, n < T0.1 → ad n = ad0 n) → l0 < T.1 → l1 < T.1 → l2 < T.1 → gC cI cJ cZ cMic cSrc cSt cAI cAJ D ad A s.heap H locs T → lv_has ls 6 [(0, .ref (ad l0)), (1, .ref (ad l1)), (2, .ref (ad l2)), (3, .int l3), (4, .int l4)] → W p l e { frames := 4, cells := T1.1 - T0.1, slots := sg T1 - sg T0, locals := 71 } s m args below meth c H locs (T.1 - T0.1) (sg T - sg T0) Q (F0 m 20 ls []) := by
  have hx := E.1
  have hb := E.2.1
  have hts := E.2.2.1
  have hown := E.2.2.2.1
  have hK := E.2.2.2.2
  intro n
  induction n with
  | zero =>
    intro T ad H locs ls l0 l1 l2 l3 l4 h
    have h : (none : Option (AT)) = some T1 := h
    cases h
  | succ n ih =>
    intro T ad H locs ls l0 l1 l2 l3 l4 h hgl hrc had h_l0 h_l1 h_l2 G hl
    have hT1 := s_X5_finish_b20 hs9 _ _ _ _ _ _ _ h
    have hcs := cs_ok hgl hT1
    have cp0 := cpr0 hrc
    unfold g_X5_finish_b20 at h
    refine lv_iload hx hb dX5_finish_20 (lv_at hl 4 rfl) ?_
    refine lv_aload_n hx hb dX5_finish_22 rfl (lv_at hl 1 rfl) ?_
    obtain ⟨g2, h⟩ := oif_some h
    refine c_get E G l1 2 (oO_k g2).1 (cc_o6 (oO_k g2).2) rfl (fun w h => .tail _ (iA_14 h)) (by decide) (.tail _ qA_467) rfl rfl dX5_finish_23 ?_
    refine lv_topi (fun v3 ev3 => ?_)
    have h := elet_at ev3 h
    clear ev3
    refine lv_icmp_ge (tgt := 93) hx hb dX5_finish_26 (by decide) (fun c4 => ?_) (fun c4 => ?_)
    · have h := oif_pos c4 h
      obtain ⟨v5, ev5, h⟩ := elet_some h
      refine lv_iinc (v := v5) (lv' := [(3, .int v5), (0, .ref (ad l0)), (1, .ref (ad l1)), (2, .ref (ad l2)), (4, .int l4)]) hx hb dX5_finish_93 hl (k := 3) rfl ev5.symm (by decide) rfl (fun ls hl => ?_)
      refine lv_goto (tgt := 9) hx hb dX5_finish_96 (by decide) ?_
      have hl := lv_sub hl [1, 2, 3, 0] rfl
      refine w_cast (c2 := T.1 - T0.1) (s2 := sg T - sg T0) (by rw [cp0.1] <;> rfl) (by rw [sg_cpr cp0] <;> rfl) ?_
      exact hk9 _ _ _ _ _ _ _ _ _ h (gl_cpr hgl cp0) cp0.2.2 had (by rw [cp0.1]; exact h_l0) (by rw [cp0.1]; exact h_l1) (by rw [cp0.1]; exact h_l2) G hl
    · have h := oif_neg c4 h
      refine lv_aload_n hx hb dX5_finish_29 rfl (lv_at hl 1 rfl) ?_
      obtain ⟨g6, h⟩ := oif_some h
      refine c_get E G l1 14 (oO_k g6).1 (cc_o6 (oO_k g6).2) rfl (fun w h => .tail _ (iA_14 h)) (by decide) (.tail _ qA_524) rfl rfl dX5_finish_30 ?_
      refine lv_topi (fun v7 ev7 => ?_)
      have h := elet_at ev7 h
      clear ev7
      refine lv_if_le (tgt := 47) hx hb dX5_finish_33 (by decide) (fun c8 => ?_) (fun c8 => ?_)
      · have h := oif_pos c8 h
        refine lv_aload_n hx hb dX5_finish_47 rfl (lv_at hl 0 rfl) ?_
        refine lv_aload_n hx hb dX5_finish_48 rfl (lv_at hl 1 rfl) ?_
        refine lv_iload_n hx hb dX5_finish_49 rfl (lv_at hl 3 rfl) ?_
        refine lv_iload hx hb dX5_finish_50 (lv_at hl 4 rfl) ?_
        obtain ⟨g9, h⟩ := oif_some h
        obtain ⟨r12, T10, eT10, h⟩ := obind2_some h
        refine q_cvi (As := [.ref (ad l1), .int l3, .int l4]) (rest := []) E G hA hX hN hml (u_X5_raw l hst D cI cJ cZ cMic cSrc cSt cAI cAJ ad T l0 l1 l3 l4 eT10) (cwV 3 hts (gaV qA_535 qA_536 qA_537 qA_475 qA_538) rfl rfl rfl (by decide +kernel) ⟨Nat.le_of_ble_eq_true rfl, Nat.le_of_ble_eq_true rfl⟩) (oO_k g9).1 (cc_o5 (oO_k g9).2) rfl rfl hl.1 rfl (lv_room (Nat.le_of_ble_eq_true rfl)) dX5_finish_52 hcs (fun q13 T11 H locs hq G => ?_)
        obtain ⟨hq1, hq2⟩ := hq
        rw [hq2] at G
        refine lv_to hq1 ?_
        clear hq1 hq2
        have cp1 := cpr_sp cp0 (s_X5_raw eT10)
        have hl := lv_sub hl [0, 1, 2, 3, 4] rfl
        refine w_cast (c2 := T10.1 - T0.1) (s2 := sg T10 - sg T0) (by rw [cp1.1] <;> rfl) (by rw [sg_cpr cp1] <;> rfl) ?_
        exact a_X5_finish_b55 E hA hX hN hml hst kr104 hs9 hk9 (s_X5_finish_b20 hs9 n) ih _ _ _ _ _ _ _ _ _ _ _ h (gl_cpr hgl cp1) cp1.2.2 had (by rw [cp1.1]; exact h_l0) (by rw [cp1.1]; exact h_l1) (by rw [cp1.1]; exact h_l2) G hl
      · have h := oif_neg c8 h
        refine lv_aload_n hx hb dX5_finish_36 rfl (lv_at hl 0 rfl) ?_
        refine lv_aload_n hx hb dX5_finish_37 rfl (lv_at hl 1 rfl) ?_
        refine lv_iload_n hx hb dX5_finish_38 rfl (lv_at hl 3 rfl) ?_
        refine lv_iload hx hb dX5_finish_39 (lv_at hl 4 rfl) ?_
        obtain ⟨g14, h⟩ := oif_some h
        obtain ⟨r17, T15, eT15, h⟩ := obind2_some h
        refine q_cvi (As := [.ref (ad l1), .int l3, .int l4]) (rest := []) E G hA hX hN hml (u_X5_filtered l hst D cI cJ cZ cMic cSrc cSt cAI cAJ ad T l0 l1 l3 l4 eT15) (cwV 3 hts (gaV qA_530 qA_531 qA_532 qA_475 qA_533) rfl rfl rfl (by decide +kernel) ⟨Nat.le_of_ble_eq_true rfl, Nat.le_of_ble_eq_true rfl⟩) (oO_k g14).1 (cc_o5 (oO_k g14).2) rfl rfl hl.1 rfl (lv_room (Nat.le_of_ble_eq_true rfl)) dX5_finish_41 hcs (fun q18 T16 H locs hq G => ?_)
        obtain ⟨hq1, hq2⟩ := hq
        rw [hq2] at G
        refine lv_to hq1 ?_
        clear hq1 hq2
        have cp1 := cpr_sp cp0 (s_X5_filtered eT15)
        refine lv_goto (tgt := 55) hx hb dX5_finish_44 (by decide) ?_
        have hl := lv_sub hl [0, 1, 2, 3, 4] rfl
        refine w_cast (c2 := T15.1 - T0.1) (s2 := sg T15 - sg T0) (by rw [cp1.1] <;> rfl) (by rw [sg_cpr cp1] <;> rfl) ?_
        exact a_X5_finish_b55 E hA hX hN hml hst kr104 hs9 hk9 (s_X5_finish_b20 hs9 n) ih _ _ _ _ _ _ _ _ _ _ _ h (gl_cpr hgl cp1) cp1.2.2 had (by rw [cp1.1]; exact h_l0) (by rw [cp1.1]; exact h_l1) (by rw [cp1.1]; exact h_l2) G hl
set_option maxHeartbeats 4000000 in
set_option maxRecDepth 100000 in
theorem a_X5_finish_b9 {p : Program} {l : Launch} {e : Env} {s : State} {m : MethodId} {args : Array Value} {below : List Frame} {meth : Method} {c : Code} {Q : State → Prop} {D : va_G} {A : Nat → Prop} {cI cJ cZ cMic cSrc cSt cAI cAJ : ClassId} {ad0 : Nat → Nat} {T0 : AT} {T1 : AT} (E : cE p c cX5_finish s m args (Cond.code yX5_finish cX5_finish 6 none :: wsA) D RX5 (CT cI cJ cZ cMic cSrc cSt cAI cAJ)) (hA : ∀ q : Nat, s.heap.size ≤ q → A q) (hX : xT A s) (hN : nX s) (hml : c.maxLocals = 6) (hst : l.stackTraces = false) (kr104 : ∀ (ad : Nat → Nat) (H : Heap) (locs : List Loc) (ls : Array Slot), (∀ n, n < T0.1 → ad n = ad0 n) → gC cI cJ cZ cMic cSrc cSt cAI cAJ D ad A s.heap H locs T1 → W p l e { frames := 4, cells := T1.1 - T0.1, slots := sg T1 - sg T0, locals := 71 } s m args below meth c H locs (T1.1 - T0.1) (sg T1 - sg T0) Q (F0 m 104 ls [])) : ∀ n : Nat, ∀ (T : AT) (ad : Nat → Nat) (H : Heap) (locs : List Loc) (ls : Array Slot) (l0 : Nat) (l1 : Nat) (l2 : Nat) (l3 : Int32), g_X5_finish_b9 n T l0 l1 l2 l3 = some T1 → GL T0 T → RC T → (∀ n, n < T0.1 → ad n = ad0 n) → l0 < T.1 → l1 < T.1 → l2 < T.1 → gC cI cJ cZ cMic cSrc cSt cAI cAJ D ad A s.heap H locs T → lv_has ls 6 [(0, .ref (ad l0)), (1, .ref (ad l1)), (2, .ref (ad l2)), (3, .int l3)] → W p l e { frames := 4, cells := T1.1 - T0.1, slots := sg T1 - sg T0, locals := 71 } s m args below meth c H locs (T.1 - T0.1) (sg T - sg T0) Q (F0 m 9 ls []) := by
  have hx := E.1
  have hb := E.2.1
  have hts := E.2.2.1
  have hown := E.2.2.2.1
  have hK := E.2.2.2.2
  intro n
  induction n with
  | zero =>
    intro T ad H locs ls l0 l1 l2 l3 h
    have h : (none : Option (AT)) = some T1 := h
    cases h
  | succ n ih =>
    intro T ad H locs ls l0 l1 l2 l3 h hgl hrc had h_l0 h_l1 h_l2 G hl
    have hT1 := s_X5_finish_b9 _ _ _ _ _ _ h
    have hcs := cs_ok hgl hT1
    have cp0 := cpr0 hrc
    unfold g_X5_finish_b9 at h
    refine lv_iload_n hx hb dX5_finish_9 rfl (lv_at hl 3 rfl) ?_
    refine lv_aload_n hx hb dX5_finish_10 rfl (lv_at hl 1 rfl) ?_
    obtain ⟨g2, h⟩ := oif_some h
    refine c_get E G l1 5 (oO_k g2).1 (cc_o6 (oO_k g2).2) rfl (fun w h => .tail _ (iA_14 h)) (by decide) (.tail _ qA_487) rfl rfl dX5_finish_11 ?_
    refine lv_topi (fun v3 ev3 => ?_)
    have h := elet_at ev3 h
    clear ev3
    refine lv_icmp_ge (tgt := 99) hx hb dX5_finish_14 (by decide) (fun c4 => ?_) (fun c4 => ?_)
    · have h := oif_pos c4 h
      refine lv_aload_n hx hb dX5_finish_99 rfl (lv_at hl 2 rfl) ?_
      refine lv_iconst (v := 0) hx hb dX5_finish_100 (by decide) ?_
      obtain ⟨g5, h⟩ := oif_some h
      refine c_put E G l2 2 (v := .int 0) (oO_k g5).1 (cc_o8 (oO_k g5).2) rfl (fun w h => .tail _ (iA_16 h)) tyX8 tyX8_ok nmX8 (by decide) (.tail _ qA_528) ⟨rfl, rfl, rfl⟩ rfl rfl (Nat.le_of_ble_eq_true rfl) dX5_finish_101 (fun H locs G => ?_)
      have G := gC_up_i (f := upd (T.2.2.1 l2) 2 0) (by rw [(oO_k g5).2]; rfl) G
      obtain ⟨T6, eT6, h⟩ := elet_some h
      have G : gC cI cJ cZ cMic cSrc cSt cAI cAJ D ad A s.heap H locs T6 := by rw [eT6]; exact G
      have cp1 := show CPR T T6 from by rw [eT6]; exact cpr_sp cp0 sp_uI
      clear eT6
      rw [osome1 h] at G
      refine w_cast (c2 := T1.1 - T0.1) (s2 := sg T1 - sg T0) (by rw [← osome1 h, cp1.1] <;> rfl) (by rw [← osome1 h, sg_cpr cp1] <;> rfl) ?_
      exact kr104 ad _ _ _ had G
    · have h := oif_neg c4 h
      refine lv_iconst (v := 0) hx hb dX5_finish_17 (by decide) ?_
      refine lv_istore (lv' := [(4, .int 0), (0, .ref (ad l0)), (1, .ref (ad l1)), (2, .ref (ad l2)), (3, .int l3)]) hx hb dX5_finish_18 hl (by decide) rfl (fun ls hl => ?_)
      have hl := lv_sub hl [1, 2, 3, 4, 0] rfl
      refine w_cast (c2 := T.1 - T0.1) (s2 := sg T - sg T0) (by rw [cp0.1] <;> rfl) (by rw [sg_cpr cp0] <;> rfl) ?_
      exact a_X5_finish_b20 E hA hX hN hml hst kr104 (s_X5_finish_b9 n) ih _ _ _ _ _ _ _ _ _ _ _ h (gl_cpr hgl cp0) cp0.2.2 had (by rw [cp0.1]; exact h_l0) (by rw [cp0.1]; exact h_l1) (by rw [cp0.1]; exact h_l2) G hl
set_option maxHeartbeats 4000000 in
set_option maxRecDepth 100000 in
theorem a_X5_finish (l : Launch) (hst : l.stackTraces = false) (D : va_G) (cI cJ cZ cMic cSrc cSt cAI cAJ : ClassId) (ad : Nat → Nat) (T : AT) (o : Nat) (a0 : Nat) (a1 : Nat) {T1 : AT} (h : g_X5_finish T o a0 a1 = some T1) (hrc : RC T) (h_o : o < T.1) (h_a0 : a0 < T.1) (h_a1 : a1 < T.1) : kAv l yX5_finish (Cond.code yX5_finish cX5_finish 6 none :: wsA) 4 71 cI cJ cZ cMic cSrc cSt cAI cAJ D ad T [.ref (ad o), .ref (ad a0), .ref (ad a1)] T1 := by
  intro sz
  refine Met.ofW (cc := cX5_finish) (maxL := 6) (ret := none) (by decide) rfl ?_
  intro p e s m args below meth c s₁ B hml hv
  obtain ⟨rfl, hsz, hP, hK, hD0, hX, hN⟩ := hv
  have hx := B.exec
  have hb := B.bytes
  have hr := B.returns
  have hts := atoms_spec (ws := (Cond.code yX5_finish cX5_finish 6 none :: wsA)) B.pre
  have hown : s.vm.findClass RX5 = some m.cls := findClass_of_methodNamed B.named
  have hlocks := B.notSynchronized
  subst hsz
  have hD := hD0.self (sz := s.heap.size)
  generalize hAe : va_A (cW ad T.1 (cc cI cJ cZ cMic cSrc cSt cAI cAJ ad T)) s.heap.size = A at hD hX ⊢
  have hA : ∀ q : Nat, s.heap.size ≤ q → A q := fun q h => by rw [← hAe]; exact Or.inr h
  have G : gC cI cJ cZ cMic cSrc cSt cAI cAJ D ad A s.heap s.heap [] T := ⟨hP, hD, va_S.rf⟩
  have E : cE p c cX5_finish s m ([.ref (ad o), .ref (ad a0), .ref (ad a1)] : List Value).toArray (Cond.code yX5_finish cX5_finish 6 none :: wsA) D RX5 (CT cI cJ cZ cMic cSrc cSt cAI cAJ) := ⟨hx, hb, hts, hown, hK⟩
  have hl := lv_entry ([.ref (ad o), .ref (ad a0), .ref (ad a1)]) (n := 6) (Nat.le_of_ble_eq_true rfl)
  rw [lg_entry_eq]
  generalize (lg_sl ([.ref (ad o), .ref (ad a0), .ref (ad a1)]) ++ List.replicate (6 - (lg_sl ([.ref (ad o), .ref (ad a0), .ref (ad a1)])).length) Slot.unset).toArray = ls at hl ⊢
  have hl : lv_has ls 6 [(0, .ref (ad o)), (1, .ref (ad a0)), (2, .ref (ad a1))] := hl
  have hgl := GL.rf T
  have had : ∀ n, n < T.1 → ad n = ad n := fun _ _ => rfl
  have hT1 := s_X5_finish h
  have hcs := cs_ok hgl hT1
  refine w_cast (Nat.sub_self T.1).symm (Nat.sub_self (sg T)).symm ?_
  have cp0 := cpr0 hrc
  unfold g_X5_finish at h
  refine lv_aload_n hx hb dX5_finish_0 rfl (lv_at hl 2 rfl) ?_
  obtain ⟨g2, h⟩ := oif_some h
  obtain ⟨n3, en3, h⟩ := obind_some h
  have h_n3 : n3 < T.1 := by rw [← cp0.1]; exact cp0.2.2 _ _ _ en3
  refine c_get E G a1 10 (v := .ref (ad n3)) (oO_k g2).1 (cc_o8 (oO_k g2).2) rfl (fun w h => .tail _ (iA_16 h)) (by decide) (.tail _ qA_523) rfl (by rw [en3]; rfl) dX5_finish_1 ?_
  clear en3
  obtain ⟨g4, h⟩ := oif_some h
  obtain ⟨T5, eT5, h⟩ := obind_some h
  refine q_cvv (As := []) (rest := []) E G hA hX hN hml (u_X10_narrow l hst D cI cJ cZ cMic cSrc cSt cAI cAJ ad T n3 eT5) (cwV 0 hts (gaV qA_529 qA_25 qA_26 qA_6 qA_27) rfl rfl rfl (by decide +kernel) ⟨Nat.le_of_ble_eq_true rfl, Nat.le_of_ble_eq_true rfl⟩) (oO_k g4).1 (cc_o10 (oO_k g4).2) rfl rfl hl.1 rfl (lv_room (Nat.le_of_ble_eq_true rfl)) dX5_finish_4 hcs (fun T6 H locs hq G => ?_)
  rw [hq] at G
  clear hq
  have cp1 := cpr_sp cp0 (s_X10_narrow eT5)
  refine lv_iconst (v := 0) hx hb dX5_finish_7 (by decide) ?_
  refine lv_istore_n (lv' := [(3, .int 0), (0, .ref (ad o)), (1, .ref (ad a0)), (2, .ref (ad a1))]) hx hb dX5_finish_8 rfl hl (by decide) rfl (fun ls hl => ?_)
  have hl := lv_sub hl [1, 2, 3, 0] rfl
  refine w_cast (c2 := T5.1 - T.1) (s2 := sg T5 - sg T) (by rw [cp1.1] <;> rfl) (by rw [sg_cpr cp1] <;> rfl) ?_
  exact a_X5_finish_b9 E hA hX hN hml hst (fun ad H locs ls had G => W.vret hx hb hr (fun t ht hW => ⟨⟨(T1, ad), rfl, ⟨rfl, had⟩, ⟨by rw [ht]; exact G.1, va_K.moved hW.alike hK, G.2.1⟩⟩, G.2.2.F ht⟩) G.2.2.2.2 dX5_finish_104) _ _ _ _ _ _ _ _ _ _ h (gl_cpr hgl cp1) cp1.2.2 had (by rw [cp1.1]; exact h_o) (by rw [cp1.1]; exact h_a0) (by rw [cp1.1]; exact h_a1) G hl
def g_X11_moved  (a0 : Int32) (a1 : Int32) (a2 : Int32) : Option (Int32) := elet (a1 * a2) fun v2 => elet (v2 / 100) fun v3 => elet (a0 + v3) fun v4 => some v4
set_option maxHeartbeats 4000000 in
set_option maxRecDepth 100000 in
theorem u_X11_moved (l : Launch) (a0 : Int32) (a1 : Int32) (a2 : Int32) {r1 : Int32} (h : g_X11_moved a0 a1 a2 = some r1) : Met l yX11_moved (Cond.code yX11_moved cX11_moved 3 (some .int) :: wsA) { frames := 1, cells := 0, slots := 0, locals := 0 } (va_Pc [.int a0, .int a1, .int a2] nX) (vp_Si (fun r => r = r1)) 0 0 (fun _ => False) := by
  refine Met.ofW (cc := cX11_moved) (maxL := 3) (ret := (some .int)) (by decide) rfl ?_
  intro p e s m args below meth c s₁ B hml hv
  obtain ⟨rfl, hN⟩ := hv
  have hx := B.exec
  have hb := B.bytes
  have hr := B.returns
  have hts := atoms_spec (ws := (Cond.code yX11_moved cX11_moved 3 (some .int) :: wsA)) B.pre
  have hown : s.vm.findClass RX11 = some m.cls := findClass_of_methodNamed B.named
  have hlocks := B.notSynchronized
  have E : p.tables.exec = Jvm.exec ∧ c.code = cX11_moved ∧ (∀ w ∈ (Cond.code yX11_moved cX11_moved 3 (some .int) :: wsA), w.before ([.int a0, .int a1, .int a2] : List Value).toArray s = true) ∧ s.vm.findClass RX11 = some m.cls := ⟨hx, hb, hts, hown⟩
  have hl := lv_entry ([.int a0, .int a1, .int a2]) (n := 3) (Nat.le_of_ble_eq_true rfl)
  rw [lg_entry_eq]
  generalize (lg_sl ([.int a0, .int a1, .int a2]) ++ List.replicate (3 - (lg_sl ([.int a0, .int a1, .int a2])).length) Slot.unset).toArray = ls at hl ⊢
  have hl : lv_has ls 3 [(0, .int a0), (1, .int a1), (2, .int a2)] := hl
  unfold g_X11_moved at h
  refine lv_iload_n hx hb dX11_moved_0 rfl (lv_at hl 0 rfl) ?_
  refine lv_iload_n hx hb dX11_moved_1 rfl (lv_at hl 1 rfl) ?_
  refine lv_iload_n hx hb dX11_moved_2 rfl (lv_at hl 2 rfl) ?_
  refine lv_imul hx hb dX11_moved_3 ?_
  refine lv_topi (fun v2 ev2 => ?_)
  have h := elet_at ev2 h
  clear ev2
  refine lv_bipush (v := 100) hx hb dX11_moved_4 (by decide) ?_
  refine lv_idiv hx hb dX11_moved_6 (by decide) ?_
  refine lv_topi (fun v3 ev3 => ?_)
  have h := elet_at ev3 h
  clear ev3
  refine lv_iadd hx hb dX11_moved_7 ?_
  refine lv_topi (fun v4 ev4 => ?_)
  have h := elet_at ev4 h
  clear ev4
  exact W.iret (v := v4) hx hb hr (fun t ht hW => ⟨v4, rfl, osome1 h, ht⟩) (fun _ h => absurd h List.not_mem_nil) dX11_moved_8
def g_X11_root_b23 (k6 : Int32 → Int32 → Int32 → Option (Int32))  (l0 : Int32) (l1 : Int32) (l2 : Int32) : Option (Int32) := elet (l2 >>> (1 &&& 31)) fun v2 => k6 l0 l1 v2
set_option maxHeartbeats 4000000 in
set_option maxRecDepth 100000 in
theorem u_X11_root_b23 {p : Program} {l : Launch} {e : Env} {s : State} {m : MethodId} {args : Array Value} {below : List Frame} {meth : Method} {c : Code} {Q : State → Prop} {r1 : Int32}  (E : p.tables.exec = Jvm.exec ∧ c.code = cX11_root ∧ (∀ w ∈ (Cond.code yX11_root cX11_root 4 (some .int) :: wsA), w.before args s = true) ∧ s.vm.findClass RX11 = some m.cls) (hN : nX s) (hml : c.maxLocals = 4) (kr31 : ∀ (ls : Array Slot), W p l e { frames := 1, cells := 0, slots := 0, locals := 0 } s m args below meth c s.heap [] 0 0 Q (F0 m 31 ls [.int r1])) {k6 : Int32 → Int32 → Int32 → Option (Int32)} (hk6 : ∀ (ls : Array Slot) (l0 : Int32) (l1 : Int32) (l2 : Int32), k6 l0 l1 l2 = some r1 → lv_has ls 4 [(0, .int l0), (1, .int l1), (2, .int l2)] → W p l e { frames := 1, cells := 0, slots := 0, locals := 0 } s m args below meth c s.heap [] 0 0 Q (F0 m 6 ls [])) : ∀ (ls : Array Slot) (l0 : Int32) (l1 : Int32) (l2 : Int32), g_X11_root_b23 k6 l0 l1 l2 = some r1 → lv_has ls 4 [(0, .int l0), (1, .int l1), (2, .int l2)] → W p l e { frames := 1, cells := 0, slots := 0, locals := 0 } s m args below meth c s.heap [] 0 0 Q (F0 m 23 ls []) := by
  have hx := E.1
  have hb := E.2.1
  have hts := E.2.2.1
  have hown := E.2.2.2
  intro ls l0 l1 l2 h hl
  unfold g_X11_root_b23 at h
  refine lv_iload_n hx hb dX11_root_23 rfl (lv_at hl 2 rfl) ?_
  refine lv_iconst (v := 1) hx hb dX11_root_24 (by decide) ?_
  refine lv_ishr hx hb dX11_root_25 ?_
  refine lv_topi (fun v2 ev2 => ?_)
  have h := elet_at ev2 h
  clear ev2
  refine lv_istore_n (lv' := [(2, .int v2), (0, .int l0), (1, .int l1)]) hx hb dX11_root_26 rfl hl (by decide) rfl (fun ls hl => ?_)
  refine lv_goto (tgt := 6) hx hb dX11_root_27 (by decide) ?_
  have hl := lv_sub hl [1, 2, 0] rfl
  exact hk6 _ _ _ _ h hl
def g_X11_root_b6  : Nat → Int32 → Int32 → Int32 → Option (Int32)
  | 0, _, _, _ => none
  | n + 1, l0, l1, l2 => if l2 ≤ 0 then (some l1) else (elet (l1 + l2) fun v3 => elet (v3 * v3) fun v4 => if l0 < v4 then (g_X11_root_b23 (g_X11_root_b6 n) l0 l1 l2) else (g_X11_root_b23 (g_X11_root_b6 n) l0 v3 l2))
set_option maxHeartbeats 4000000 in
set_option maxRecDepth 100000 in
theorem u_X11_root_b6 {p : Program} {l : Launch} {e : Env} {s : State} {m : MethodId} {args : Array Value} {below : List Frame} {meth : Method} {c : Code} {Q : State → Prop} {r1 : Int32}  (E : p.tables.exec = Jvm.exec ∧ c.code = cX11_root ∧ (∀ w ∈ (Cond.code yX11_root cX11_root 4 (some .int) :: wsA), w.before args s = true) ∧ s.vm.findClass RX11 = some m.cls) (hN : nX s) (hml : c.maxLocals = 4) (kr31 : ∀ (ls : Array Slot), W p l e { frames := 1, cells := 0, slots := 0, locals := 0 } s m args below meth c s.heap [] 0 0 Q (F0 m 31 ls [.int r1])) : ∀ n : Nat, ∀ (ls : Array Slot) (l0 : Int32) (l1 : Int32) (l2 : Int32), g_X11_root_b6 n l0 l1 l2 = some r1 → lv_has ls 4 [(0, .int l0), (1, .int l1), (2, .int l2)] → W p l e { frames := 1, cells := 0, slots := 0, locals := 0 } s m args below meth c s.heap [] 0 0 Q (F0 m 6 ls []) := by
  have hx := E.1
  have hb := E.2.1
  have hts := E.2.2.1
  have hown := E.2.2.2
  intro n
  induction n with
  | zero =>
    intro ls l0 l1 l2 h
    have h : (none : Option (Int32)) = some r1 := h
    cases h
  | succ n ih =>
    intro ls l0 l1 l2 h hl
    unfold g_X11_root_b6 at h
    refine lv_iload_n hx hb dX11_root_6 rfl (lv_at hl 2 rfl) ?_
    refine lv_if_le (tgt := 30) hx hb dX11_root_7 (by decide) (fun c2 => ?_) (fun c2 => ?_)
    · have h := oif_pos c2 h
      refine lv_iload_n hx hb dX11_root_30 rfl (lv_at hl 1 rfl) ?_
      refine lv_to (osome1 h) ?_
      exact kr31 _
    · have h := oif_neg c2 h
      refine lv_iload_n hx hb dX11_root_10 rfl (lv_at hl 1 rfl) ?_
      refine lv_iload_n hx hb dX11_root_11 rfl (lv_at hl 2 rfl) ?_
      refine lv_iadd hx hb dX11_root_12 ?_
      refine lv_topi (fun v3 ev3 => ?_)
      have h := elet_at ev3 h
      clear ev3
      refine lv_istore_n (lv' := [(3, .int v3), (0, .int l0), (1, .int l1), (2, .int l2)]) hx hb dX11_root_13 rfl hl (by decide) rfl (fun ls hl => ?_)
      refine lv_iload_n hx hb dX11_root_14 rfl (lv_at hl 0 rfl) ?_
      refine lv_iload_n hx hb dX11_root_15 rfl (lv_at hl 0 rfl) ?_
      refine lv_imul hx hb dX11_root_16 ?_
      refine lv_topi (fun v4 ev4 => ?_)
      have h := elet_at ev4 h
      clear ev4
      refine lv_iload_n hx hb dX11_root_17 rfl (lv_at hl 1 rfl) ?_
      refine lv_icmp_gt (tgt := 23) hx hb dX11_root_18 (by decide) (fun c5 => ?_) (fun c5 => ?_)
      · have h := oif_pos c5 h
        have hl := lv_sub hl [1, 2, 3] rfl
        exact u_X11_root_b23 E hN hml kr31 ih _ _ _ _ h hl
      · have h := oif_neg c5 h
        refine lv_iload_n hx hb dX11_root_21 rfl (lv_at hl 0 rfl) ?_
        refine lv_istore_n (lv' := [(1, .int v3), (3, .int v3), (0, .int l0), (2, .int l2)]) hx hb dX11_root_22 rfl hl (by decide) rfl (fun ls hl => ?_)
        have hl := lv_sub hl [2, 0, 3] rfl
        exact u_X11_root_b23 E hN hml kr31 ih _ _ _ _ h hl
def g_X11_root  (a0 : Int32) : Option (Int32) := g_X11_root_b6 16384 a0 0 16384
set_option maxHeartbeats 4000000 in
set_option maxRecDepth 100000 in
theorem u_X11_root (l : Launch) (a0 : Int32) {r1 : Int32} (h : g_X11_root a0 = some r1) : Met l yX11_root (Cond.code yX11_root cX11_root 4 (some .int) :: wsA) { frames := 1, cells := 0, slots := 0, locals := 0 } (va_Pc [.int a0] nX) (vp_Si (fun r => r = r1)) 0 0 (fun _ => False) := by
  refine Met.ofW (cc := cX11_root) (maxL := 4) (ret := (some .int)) (by decide) rfl ?_
  intro p e s m args below meth c s₁ B hml hv
  obtain ⟨rfl, hN⟩ := hv
  have hx := B.exec
  have hb := B.bytes
  have hr := B.returns
  have hts := atoms_spec (ws := (Cond.code yX11_root cX11_root 4 (some .int) :: wsA)) B.pre
  have hown : s.vm.findClass RX11 = some m.cls := findClass_of_methodNamed B.named
  have hlocks := B.notSynchronized
  have E : p.tables.exec = Jvm.exec ∧ c.code = cX11_root ∧ (∀ w ∈ (Cond.code yX11_root cX11_root 4 (some .int) :: wsA), w.before ([.int a0] : List Value).toArray s = true) ∧ s.vm.findClass RX11 = some m.cls := ⟨hx, hb, hts, hown⟩
  have hl := lv_entry ([.int a0]) (n := 4) (Nat.le_of_ble_eq_true rfl)
  rw [lg_entry_eq]
  generalize (lg_sl ([.int a0]) ++ List.replicate (4 - (lg_sl ([.int a0])).length) Slot.unset).toArray = ls at hl ⊢
  have hl : lv_has ls 4 [(0, .int a0)] := hl
  unfold g_X11_root at h
  refine lv_iconst (v := 0) hx hb dX11_root_0 (by decide) ?_
  refine lv_istore_n (lv' := [(1, .int 0), (0, .int a0)]) hx hb dX11_root_1 rfl hl (by decide) rfl (fun ls hl => ?_)
  refine lv_sipush (v := 16384) hx hb dX11_root_2 (by decide) ?_
  refine lv_istore_n (lv' := [(2, .int 16384), (1, .int 0), (0, .int a0)]) hx hb dX11_root_5 rfl hl (by decide) rfl (fun ls hl => ?_)
  have hl := lv_sub hl [2, 1, 0] rfl
  exact u_X11_root_b6 E hN hml (fun ls => W.iret (v := r1) hx hb hr (fun t ht hW => ⟨r1, rfl, rfl, ht⟩) (fun _ h => absurd h List.not_mem_nil) dX11_root_31) _ _ _ _ _ h hl
def g_X6_delayFrom (T : AT) (o : Nat) (a0 : Nat) (a1 : Int32) (a2 : Int32) : Option (Int32 × AT) := oif (oO T a0 2 = true) <| elet (T.2.2.1 a0 0) fun v3 => elet (a1 - v3) fun v4 => oif (oO T a0 2 = true) <| elet (T.2.2.1 a0 1) fun v6 => elet (a2 - v6) fun v7 => elet (v4 * v4) fun v8 => elet (v7 * v7) fun v9 => elet (v8 + v9) fun v10 => oif (oO T o 6 = true) <| elet (T.2.2.1 o 0) fun v12 => oif (oO T o 6 = true) <| elet (T.2.2.1 o 0) fun v14 => elet (v12 * v14) fun v15 => elet (v10 + v15) fun v16 => obind (g_X11_root v16) fun r17 => elet (r17.toInt64) fun v19 => oif (oO T o 6 = true) <| elet (T.2.2.1 o 1) fun v21 => elet (v21.toInt64) fun v22 => obind (g_X11_quotient v19 v22) fun r23 => oif (oO T o 6 = true) <| elet (T.2.2.1 o 0) fun v26 => elet (v26.toInt64) fun v27 => oif (oO T o 6 = true) <| elet (T.2.2.1 o 1) fun v29 => elet (v29.toInt64) fun v30 => obind (g_X11_quotient v27 v30) fun r31 => elet (r23 - r31) fun v33 => elet (v33.toInt32) fun v34 => some (v34, T)
set_option maxHeartbeats 4000000 in
set_option maxRecDepth 100000 in
theorem u_X6_delayFrom (l : Launch) (hst : l.stackTraces = false) (D : va_G) (cI cJ cZ cMic cSrc cSt cAI cAJ : ClassId) (ad : Nat → Nat) (T : AT) (o : Nat) (a0 : Nat) (a1 : Int32) (a2 : Int32) {r1 : Int32} {T1 : AT} (h : g_X6_delayFrom T o a0 a1 a2 = some (r1, T1)) : kCi l yX6_delayFrom (Cond.code yX6_delayFrom cX6_delayFrom 7 (some .int) :: wsA) 2 23 cI cJ cZ cMic cSrc cSt cAI cAJ D ad T [.ref (ad o), .ref (ad a0), .int a1, .int a2] (fun r T9 => r = r1 ∧ T9 = T1) := by
  intro sz
  refine Met.ofW (cc := cX6_delayFrom) (maxL := 7) (ret := (some .int)) (by decide) rfl ?_
  intro p e s m args below meth c s₁ B hml hv
  obtain ⟨rfl, hsz, hP, hK, hD0, hX, hN⟩ := hv
  have hx := B.exec
  have hb := B.bytes
  have hr := B.returns
  have hts := atoms_spec (ws := (Cond.code yX6_delayFrom cX6_delayFrom 7 (some .int) :: wsA)) B.pre
  have hown : s.vm.findClass RX6 = some m.cls := findClass_of_methodNamed B.named
  have hlocks := B.notSynchronized
  subst hsz
  have hD := hD0.self (sz := s.heap.size)
  generalize hAe : va_A (cW ad T.1 (cc cI cJ cZ cMic cSrc cSt cAI cAJ ad T)) s.heap.size = A at hD hX ⊢
  have hA : ∀ q : Nat, s.heap.size ≤ q → A q := fun q h => by rw [← hAe]; exact Or.inr h
  have G : gC cI cJ cZ cMic cSrc cSt cAI cAJ D ad A s.heap s.heap [] T := ⟨hP, hD, va_S.rf⟩
  have E : cE p c cX6_delayFrom s m ([.ref (ad o), .ref (ad a0), .int a1, .int a2] : List Value).toArray (Cond.code yX6_delayFrom cX6_delayFrom 7 (some .int) :: wsA) D RX6 (CT cI cJ cZ cMic cSrc cSt cAI cAJ) := ⟨hx, hb, hts, hown, hK⟩
  have hl := lv_entry ([.ref (ad o), .ref (ad a0), .int a1, .int a2]) (n := 7) (Nat.le_of_ble_eq_true rfl)
  rw [lg_entry_eq]
  generalize (lg_sl ([.ref (ad o), .ref (ad a0), .int a1, .int a2]) ++ List.replicate (7 - (lg_sl ([.ref (ad o), .ref (ad a0), .int a1, .int a2])).length) Slot.unset).toArray = ls at hl ⊢
  have hl : lv_has ls 7 [(0, .ref (ad o)), (1, .ref (ad a0)), (2, .int a1), (3, .int a2)] := hl
  unfold g_X6_delayFrom at h
  refine lv_iload_n hx hb dX6_delayFrom_0 rfl (lv_at hl 2 rfl) ?_
  refine lv_aload_n hx hb dX6_delayFrom_1 rfl (lv_at hl 1 rfl) ?_
  obtain ⟨g2, h⟩ := oif_some h
  refine c_get E G a0 0 (oO_k g2).1 (cc_o2 (oO_k g2).2) rfl (fun w h => .tail _ (iA_19 h)) (by decide) (.tail _ qA_496) rfl rfl dX6_delayFrom_2 ?_
  refine lv_topi (fun v3 ev3 => ?_)
  have h := elet_at ev3 h
  clear ev3
  refine lv_isub hx hb dX6_delayFrom_5 ?_
  refine lv_topi (fun v4 ev4 => ?_)
  have h := elet_at ev4 h
  clear ev4
  refine lv_istore (lv' := [(4, .int v4), (0, .ref (ad o)), (1, .ref (ad a0)), (2, .int a1), (3, .int a2)]) hx hb dX6_delayFrom_6 hl (by decide) rfl (fun ls hl => ?_)
  refine lv_iload_n hx hb dX6_delayFrom_8 rfl (lv_at hl 4 rfl) ?_
  refine lv_aload_n hx hb dX6_delayFrom_9 rfl (lv_at hl 2 rfl) ?_
  obtain ⟨g5, h⟩ := oif_some h
  refine c_get E G a0 1 (oO_k g5).1 (cc_o2 (oO_k g5).2) rfl (fun w h => .tail _ (iA_19 h)) (by decide) (.tail _ qA_497) rfl rfl dX6_delayFrom_10 ?_
  refine lv_topi (fun v6 ev6 => ?_)
  have h := elet_at ev6 h
  clear ev6
  refine lv_isub hx hb dX6_delayFrom_13 ?_
  refine lv_topi (fun v7 ev7 => ?_)
  have h := elet_at ev7 h
  clear ev7
  refine lv_istore (lv' := [(5, .int v7), (4, .int v4), (0, .ref (ad o)), (1, .ref (ad a0)), (2, .int a1), (3, .int a2)]) hx hb dX6_delayFrom_14 hl (by decide) rfl (fun ls hl => ?_)
  refine lv_iload hx hb dX6_delayFrom_16 (lv_at hl 1 rfl) ?_
  refine lv_iload hx hb dX6_delayFrom_18 (lv_at hl 1 rfl) ?_
  refine lv_imul hx hb dX6_delayFrom_20 ?_
  refine lv_topi (fun v8 ev8 => ?_)
  have h := elet_at ev8 h
  clear ev8
  refine lv_iload hx hb dX6_delayFrom_21 (lv_at hl 0 rfl) ?_
  refine lv_iload hx hb dX6_delayFrom_23 (lv_at hl 0 rfl) ?_
  refine lv_imul hx hb dX6_delayFrom_25 ?_
  refine lv_topi (fun v9 ev9 => ?_)
  have h := elet_at ev9 h
  clear ev9
  refine lv_iadd hx hb dX6_delayFrom_26 ?_
  refine lv_topi (fun v10 ev10 => ?_)
  have h := elet_at ev10 h
  clear ev10
  refine lv_aload_n hx hb dX6_delayFrom_27 rfl (lv_at hl 2 rfl) ?_
  obtain ⟨g11, h⟩ := oif_some h
  refine c_get E G o 0 (oO_k g11).1 (cc_o6 (oO_k g11).2) rfl (fun w h => .tail _ (iA_14 h)) (by decide) (.tail _ qA_498) rfl rfl dX6_delayFrom_28 ?_
  refine lv_topi (fun v12 ev12 => ?_)
  have h := elet_at ev12 h
  clear ev12
  refine lv_aload_n hx hb dX6_delayFrom_31 rfl (lv_at hl 2 rfl) ?_
  obtain ⟨g13, h⟩ := oif_some h
  refine c_get E G o 0 (oO_k g13).1 (cc_o6 (oO_k g13).2) rfl (fun w h => .tail _ (iA_14 h)) (by decide) (.tail _ qA_498) rfl rfl dX6_delayFrom_32 ?_
  refine lv_topi (fun v14 ev14 => ?_)
  have h := elet_at ev14 h
  clear ev14
  refine lv_imul hx hb dX6_delayFrom_35 ?_
  refine lv_topi (fun v15 ev15 => ?_)
  have h := elet_at ev15 h
  clear ev15
  refine lv_iadd hx hb dX6_delayFrom_36 ?_
  refine lv_topi (fun v16 ev16 => ?_)
  have h := elet_at ev16 h
  clear ev16
  obtain ⟨r17, er17, h⟩ := obind_some h
  refine q_stiN (As := [.int v16]) (rest := []) ⟨hx, hb, hml, hown, hts⟩ hN (u_X11_root l v16 er17) ⟨va_cnB (host := "AcousticCamera") 1 hts (gaC qA_501) rfl rfl rfl (hN.2.2.2.2.2 _ (List.mem_of_getElem? (i := 11) rfl)) (hts _ (.tail _ qA_131)) (by decide +kernel) ⟨Nat.le_of_ble_eq_true rfl, Nat.le_of_ble_eq_true rfl⟩, hts _ (.tail _ qA_500), trivial⟩ rfl hl.1 rfl (lv_room (Nat.le_of_ble_eq_true rfl)) dX6_delayFrom_37 ⟨Nat.zero_le _, Nat.zero_le _⟩ (fun q18 hq => ?_)
  refine lv_to hq ?_
  clear hq er17
  refine lv_istore (lv' := [(6, .int r17), (5, .int v7), (4, .int v4), (0, .ref (ad o)), (1, .ref (ad a0)), (2, .int a1), (3, .int a2)]) hx hb dX6_delayFrom_40 hl (by decide) rfl (fun ls hl => ?_)
  refine lv_iload hx hb dX6_delayFrom_42 (lv_at hl 0 rfl) ?_
  refine lv_i2l (v := r17.toInt64) hx hb dX6_delayFrom_44 rfl ?_
  refine lv_topl (fun v19 ev19 => ?_)
  have h := elet_at ev19 h
  clear ev19
  refine lv_aload_n hx hb dX6_delayFrom_45 rfl (lv_at hl 3 rfl) ?_
  obtain ⟨g20, h⟩ := oif_some h
  refine c_get E G o 1 (oO_k g20).1 (cc_o6 (oO_k g20).2) rfl (fun w h => .tail _ (iA_14 h)) (by decide) (.tail _ qA_499) rfl rfl dX6_delayFrom_46 ?_
  refine lv_topi (fun v21 ev21 => ?_)
  have h := elet_at ev21 h
  clear ev21
  refine lv_i2l (v := v21.toInt64) hx hb dX6_delayFrom_49 rfl ?_
  refine lv_topl (fun v22 ev22 => ?_)
  have h := elet_at ev22 h
  clear ev22
  obtain ⟨r23, er23, h⟩ := obind_some h
  refine q_stlN (As := [.long v19, .long v22]) (rest := []) ⟨hx, hb, hml, hown, hts⟩ hN (u_X11_quotient l v19 v22 er23) ⟨va_cnB (host := "AcousticCamera") 2 hts (gaC qA_132) rfl rfl rfl (hN.2.2.2.2.2 _ (List.mem_of_getElem? (i := 12) rfl)) (hts _ (.tail _ qA_131)) (by decide +kernel) ⟨Nat.le_of_ble_eq_true rfl, Nat.le_of_ble_eq_true rfl⟩, hts _ (.tail _ qA_130), trivial⟩ rfl hl.1 rfl (lv_room (Nat.le_of_ble_eq_true rfl)) dX6_delayFrom_50 ⟨Nat.zero_le _, Nat.zero_le _⟩ (fun q24 hq => ?_)
  refine lv_tol hq ?_
  clear hq er23
  refine lv_aload_n hx hb dX6_delayFrom_53 rfl (lv_at hl 3 rfl) ?_
  obtain ⟨g25, h⟩ := oif_some h
  refine c_get E G o 0 (oO_k g25).1 (cc_o6 (oO_k g25).2) rfl (fun w h => .tail _ (iA_14 h)) (by decide) (.tail _ qA_498) rfl rfl dX6_delayFrom_54 ?_
  refine lv_topi (fun v26 ev26 => ?_)
  have h := elet_at ev26 h
  clear ev26
  refine lv_i2l (v := v26.toInt64) hx hb dX6_delayFrom_57 rfl ?_
  refine lv_topl (fun v27 ev27 => ?_)
  have h := elet_at ev27 h
  clear ev27
  refine lv_aload_n hx hb dX6_delayFrom_58 rfl (lv_at hl 3 rfl) ?_
  obtain ⟨g28, h⟩ := oif_some h
  refine c_get E G o 1 (oO_k g28).1 (cc_o6 (oO_k g28).2) rfl (fun w h => .tail _ (iA_14 h)) (by decide) (.tail _ qA_499) rfl rfl dX6_delayFrom_59 ?_
  refine lv_topi (fun v29 ev29 => ?_)
  have h := elet_at ev29 h
  clear ev29
  refine lv_i2l (v := v29.toInt64) hx hb dX6_delayFrom_62 rfl ?_
  refine lv_topl (fun v30 ev30 => ?_)
  have h := elet_at ev30 h
  clear ev30
  obtain ⟨r31, er31, h⟩ := obind_some h
  refine q_stlN (As := [.long v27, .long v30]) (rest := [.long r23]) ⟨hx, hb, hml, hown, hts⟩ hN (u_X11_quotient l v27 v30 er31) ⟨va_cnB (host := "AcousticCamera") 2 hts (gaC qA_132) rfl rfl rfl (hN.2.2.2.2.2 _ (List.mem_of_getElem? (i := 12) rfl)) (hts _ (.tail _ qA_131)) (by decide +kernel) ⟨Nat.le_of_ble_eq_true rfl, Nat.le_of_ble_eq_true rfl⟩, hts _ (.tail _ qA_130), trivial⟩ rfl hl.1 rfl (lv_room (Nat.le_of_ble_eq_true rfl)) dX6_delayFrom_63 ⟨Nat.zero_le _, Nat.zero_le _⟩ (fun q32 hq => ?_)
  refine lv_tol hq ?_
  clear hq er31
  refine lv_lsub hx hb dX6_delayFrom_66 ?_
  refine lv_topl (fun v33 ev33 => ?_)
  have h := elet_at ev33 h
  clear ev33
  refine lv_l2i (v := v33.toInt32) hx hb dX6_delayFrom_67 rfl ?_
  refine lv_topi (fun v34 ev34 => ?_)
  have h := elet_at ev34 h
  clear ev34
  exact W.iret (v := v34) hx hb hr (fun t ht hW => ⟨⟨v34, T, rfl, osome2 h, ⟨by rw [ht]; exact G.1, va_K.moved hW.alike hK, G.2.1⟩⟩, G.2.2.F ht⟩) G.2.2.2.2 dX6_delayFrom_68
set_option maxHeartbeats 4000000 in
set_option maxRecDepth 100000 in
theorem s_X6_delayFrom {T : AT} {o : Nat} {a0 : Nat} {a1 : Int32} {a2 : Int32} {r1 : Int32} {T1 : AT} (h : g_X6_delayFrom T o a0 a1 a2 = some (r1, T1)) : SP T T1 := by
  have p0 := SP.rf T
  unfold g_X6_delayFrom at h
  obtain ⟨g2, h⟩ := oif_some h
  obtain ⟨v3, -, h⟩ := elet_some h
  obtain ⟨v4, -, h⟩ := elet_some h
  obtain ⟨g5, h⟩ := oif_some h
  obtain ⟨v6, -, h⟩ := elet_some h
  obtain ⟨v7, -, h⟩ := elet_some h
  obtain ⟨v8, -, h⟩ := elet_some h
  obtain ⟨v9, -, h⟩ := elet_some h
  obtain ⟨v10, -, h⟩ := elet_some h
  obtain ⟨g11, h⟩ := oif_some h
  obtain ⟨v12, -, h⟩ := elet_some h
  obtain ⟨g13, h⟩ := oif_some h
  obtain ⟨v14, -, h⟩ := elet_some h
  obtain ⟨v15, -, h⟩ := elet_some h
  obtain ⟨v16, -, h⟩ := elet_some h
  obtain ⟨r17, -, h⟩ := obind_some h
  obtain ⟨v18, -, h⟩ := elet_some h
  obtain ⟨g19, h⟩ := oif_some h
  obtain ⟨v20, -, h⟩ := elet_some h
  obtain ⟨v21, -, h⟩ := elet_some h
  obtain ⟨r22, -, h⟩ := obind_some h
  obtain ⟨g23, h⟩ := oif_some h
  obtain ⟨v24, -, h⟩ := elet_some h
  obtain ⟨v25, -, h⟩ := elet_some h
  obtain ⟨g26, h⟩ := oif_some h
  obtain ⟨v27, -, h⟩ := elet_some h
  obtain ⟨v28, -, h⟩ := elet_some h
  obtain ⟨r29, -, h⟩ := obind_some h
  obtain ⟨v30, -, h⟩ := elet_some h
  obtain ⟨v31, -, h⟩ := elet_some h
  rw [← (osome2 h).2]
  exact p0
def g_X7_valueAt_b78  (T : AT) (s0 : Int32) : Option (Int32 × AT) := some (s0, T)
set_option maxHeartbeats 4000000 in
set_option maxRecDepth 100000 in
theorem u_X7_valueAt_b78 {p : Program} {l : Launch} {e : Env} {s : State} {m : MethodId} {args : Array Value} {below : List Frame} {meth : Method} {c : Code} {Q : State → Prop} {D : va_G} {A : Nat → Prop} {cI cJ cZ cMic cSrc cSt cAI cAJ : ClassId} {ad : Nat → Nat} {r1 : Int32} {T1 : AT} (E : cE p c cX7_valueAt s m args (Cond.code yX7_valueAt cX7_valueAt 3 (some .int) :: wsA) D RX7 (CT cI cJ cZ cMic cSrc cSt cAI cAJ)) (hA : ∀ q : Nat, s.heap.size ≤ q → A q) (hX : xT A s) (hN : nX s) (hml : c.maxLocals = 3) (hst : l.stackTraces = false) (kr9 : ∀ (H : Heap) (locs : List Loc) (ls : Array Slot), gC cI cJ cZ cMic cSrc cSt cAI cAJ D ad A s.heap H locs T1 → W p l e { frames := 2, cells := 0, slots := 0, locals := 23 } s m args below meth c H locs 0 0 Q (F0 m 9 ls [.int r1])) (kr78 : ∀ (H : Heap) (locs : List Loc) (ls : Array Slot), gC cI cJ cZ cMic cSrc cSt cAI cAJ D ad A s.heap H locs T1 → W p l e { frames := 2, cells := 0, slots := 0, locals := 23 } s m args below meth c H locs 0 0 Q (F0 m 78 ls [.int r1])) (kr112 : ∀ (H : Heap) (locs : List Loc) (ls : Array Slot), gC cI cJ cZ cMic cSrc cSt cAI cAJ D ad A s.heap H locs T1 → W p l e { frames := 2, cells := 0, slots := 0, locals := 23 } s m args below meth c H locs 0 0 Q (F0 m 112 ls [.int r1])) (kr125 : ∀ (H : Heap) (locs : List Loc) (ls : Array Slot), gC cI cJ cZ cMic cSrc cSt cAI cAJ D ad A s.heap H locs T1 → W p l e { frames := 2, cells := 0, slots := 0, locals := 23 } s m args below meth c H locs 0 0 Q (F0 m 125 ls [.int r1])) (kr162 : ∀ (H : Heap) (locs : List Loc) (ls : Array Slot), gC cI cJ cZ cMic cSrc cSt cAI cAJ D ad A s.heap H locs T1 → W p l e { frames := 2, cells := 0, slots := 0, locals := 23 } s m args below meth c H locs 0 0 Q (F0 m 162 ls [.int r1])) : ∀ (T : AT) (H : Heap) (locs : List Loc) (ls : Array Slot) (s0 : Int32), g_X7_valueAt_b78 T s0 = some (r1, T1) → gC cI cJ cZ cMic cSrc cSt cAI cAJ D ad A s.heap H locs T → lv_has ls 3 [] → W p l e { frames := 2, cells := 0, slots := 0, locals := 23 } s m args below meth c H locs 0 0 Q (F0 m 78 ls [.int s0]) := by
  have hx := E.1
  have hb := E.2.1
  have hts := E.2.2.1
  have hown := E.2.2.2.1
  have hK := E.2.2.2.2
  intro T H locs ls s0 h G hl
  unfold g_X7_valueAt_b78 at h
  rw [(osome2 h).2] at G
  refine lv_to (osome2 h).1 ?_
  exact kr78 _ _ _ G
def g_X7_valueAt_b125  (T : AT) (s0 : Int32) : Option (Int32 × AT) := some (s0, T)
set_option maxHeartbeats 4000000 in
set_option maxRecDepth 100000 in
theorem u_X7_valueAt_b125 {p : Program} {l : Launch} {e : Env} {s : State} {m : MethodId} {args : Array Value} {below : List Frame} {meth : Method} {c : Code} {Q : State → Prop} {D : va_G} {A : Nat → Prop} {cI cJ cZ cMic cSrc cSt cAI cAJ : ClassId} {ad : Nat → Nat} {r1 : Int32} {T1 : AT} (E : cE p c cX7_valueAt s m args (Cond.code yX7_valueAt cX7_valueAt 3 (some .int) :: wsA) D RX7 (CT cI cJ cZ cMic cSrc cSt cAI cAJ)) (hA : ∀ q : Nat, s.heap.size ≤ q → A q) (hX : xT A s) (hN : nX s) (hml : c.maxLocals = 3) (hst : l.stackTraces = false) (kr9 : ∀ (H : Heap) (locs : List Loc) (ls : Array Slot), gC cI cJ cZ cMic cSrc cSt cAI cAJ D ad A s.heap H locs T1 → W p l e { frames := 2, cells := 0, slots := 0, locals := 23 } s m args below meth c H locs 0 0 Q (F0 m 9 ls [.int r1])) (kr78 : ∀ (H : Heap) (locs : List Loc) (ls : Array Slot), gC cI cJ cZ cMic cSrc cSt cAI cAJ D ad A s.heap H locs T1 → W p l e { frames := 2, cells := 0, slots := 0, locals := 23 } s m args below meth c H locs 0 0 Q (F0 m 78 ls [.int r1])) (kr112 : ∀ (H : Heap) (locs : List Loc) (ls : Array Slot), gC cI cJ cZ cMic cSrc cSt cAI cAJ D ad A s.heap H locs T1 → W p l e { frames := 2, cells := 0, slots := 0, locals := 23 } s m args below meth c H locs 0 0 Q (F0 m 112 ls [.int r1])) (kr125 : ∀ (H : Heap) (locs : List Loc) (ls : Array Slot), gC cI cJ cZ cMic cSrc cSt cAI cAJ D ad A s.heap H locs T1 → W p l e { frames := 2, cells := 0, slots := 0, locals := 23 } s m args below meth c H locs 0 0 Q (F0 m 125 ls [.int r1])) (kr162 : ∀ (H : Heap) (locs : List Loc) (ls : Array Slot), gC cI cJ cZ cMic cSrc cSt cAI cAJ D ad A s.heap H locs T1 → W p l e { frames := 2, cells := 0, slots := 0, locals := 23 } s m args below meth c H locs 0 0 Q (F0 m 162 ls [.int r1])) : ∀ (T : AT) (H : Heap) (locs : List Loc) (ls : Array Slot) (s0 : Int32), g_X7_valueAt_b125 T s0 = some (r1, T1) → gC cI cJ cZ cMic cSrc cSt cAI cAJ D ad A s.heap H locs T → lv_has ls 3 [] → W p l e { frames := 2, cells := 0, slots := 0, locals := 23 } s m args below meth c H locs 0 0 Q (F0 m 125 ls [.int s0]) := by
  have hx := E.1
  have hb := E.2.1
  have hts := E.2.2.1
  have hown := E.2.2.2.1
  have hK := E.2.2.2.2
  intro T H locs ls s0 h G hl
  unfold g_X7_valueAt_b125 at h
  rw [(osome2 h).2] at G
  refine lv_to (osome2 h).1 ?_
  exact kr125 _ _ _ G
def g_X7_valueAt (T : AT) (o : Nat) (a0 : Int32) : Option (Int32 × AT) := oif (oO T o 7 = true) <| elet (T.2.2.1 o 8) fun v3 => if v3 ≤ a0 then (oif (oO T o 7 = true) <| elet (T.2.2.1 o 7) fun v6 => elet (a0 + v6) fun v7 => oif (oO T o 7 = true) <| elet (T.2.2.1 o 6) fun v9 => obind (g_X11_remainder v7 v9) fun r10 => oif (oO T o 7 = true) <| elet (T.2.2.1 o 0) fun v13 => if v13 = 0 then (oif (oO T o 7 = true) <| elet (T.2.2.1 o 6) fun v16 => elet (v16 / 2) fun v17 => if v17 ≤ r10 then (oif (oO T o 7 = true) <| elet (T.2.2.1 o 5) fun v20 => elet (-v20) fun v21 => g_X7_valueAt_b78 T v21) else (oif (oO T o 7 = true) <| elet (T.2.2.1 o 5) fun v23 => g_X7_valueAt_b78 T v23)) else (if v13 = 1 then (oif (oO T o 7 = true) <| elet (T.2.2.1 o 5) fun v26 => oif (oO T o 7 = true) <| elet (T.2.2.1 o 6) fun v28 => elet (v28 / 2) fun v29 => elet (r10 - v29) fun v30 => elet (if 0 ≤ v30 then v30 else 0 - v30) fun v31 => elet (4 * v31) fun v32 => oif (oO T o 7 = true) <| elet (T.2.2.1 o 6) fun v34 => elet (v32 - v34) fun v35 => elet (v26 * v35) fun v36 => elet (v36.toInt64) fun v37 => oif (oO T o 7 = true) <| elet (T.2.2.1 o 6) fun v39 => elet (v39.toInt64) fun v40 => obind (g_X11_quotient v37 v40) fun r41 => elet (r41.toInt32) fun v43 => some (v43, T)) else (if v13 = 2 then (if r10 = 0 then (oif (oO T o 7 = true) <| elet (T.2.2.1 o 5) fun v47 => g_X7_valueAt_b125 T v47) else (g_X7_valueAt_b125 T 0)) else (elet (31 * a0) fun v48 => elet (v48 * a0) fun v49 => elet (7919 * a0) fun v50 => elet (v49 + v50) fun v51 => oif (oO T o 7 = true) <| elet (T.2.2.1 o 7) fun v53 => elet (104729 * v53) fun v54 => elet (v51 + v54) fun v55 => oif (oO T o 7 = true) <| elet (T.2.2.1 o 5) fun v57 => elet (2 * v57) fun v58 => elet (v58 + 1) fun v59 => obind (g_X11_remainder v55 v59) fun r60 => oif (oO T o 7 = true) <| elet (T.2.2.1 o 5) fun v63 => elet (r60 - v63) fun v64 => some (v64, T))))) else (some (0, T))
set_option maxHeartbeats 4000000 in
set_option maxRecDepth 100000 in
theorem u_X7_valueAt (l : Launch) (hst : l.stackTraces = false) (D : va_G) (cI cJ cZ cMic cSrc cSt cAI cAJ : ClassId) (ad : Nat → Nat) (T : AT) (o : Nat) (a0 : Int32) {r1 : Int32} {T1 : AT} (h : g_X7_valueAt T o a0 = some (r1, T1)) : kCi l yX7_valueAt (Cond.code yX7_valueAt cX7_valueAt 3 (some .int) :: wsA) 2 23 cI cJ cZ cMic cSrc cSt cAI cAJ D ad T [.ref (ad o), .int a0] (fun r T9 => r = r1 ∧ T9 = T1) := by
  intro sz
  refine Met.ofW (cc := cX7_valueAt) (maxL := 3) (ret := (some .int)) (by decide) rfl ?_
  intro p e s m args below meth c s₁ B hml hv
  obtain ⟨rfl, hsz, hP, hK, hD0, hX, hN⟩ := hv
  have hx := B.exec
  have hb := B.bytes
  have hr := B.returns
  have hts := atoms_spec (ws := (Cond.code yX7_valueAt cX7_valueAt 3 (some .int) :: wsA)) B.pre
  have hown : s.vm.findClass RX7 = some m.cls := findClass_of_methodNamed B.named
  have hlocks := B.notSynchronized
  subst hsz
  have hD := hD0.self (sz := s.heap.size)
  generalize hAe : va_A (cW ad T.1 (cc cI cJ cZ cMic cSrc cSt cAI cAJ ad T)) s.heap.size = A at hD hX ⊢
  have hA : ∀ q : Nat, s.heap.size ≤ q → A q := fun q h => by rw [← hAe]; exact Or.inr h
  have G : gC cI cJ cZ cMic cSrc cSt cAI cAJ D ad A s.heap s.heap [] T := ⟨hP, hD, va_S.rf⟩
  have E : cE p c cX7_valueAt s m ([.ref (ad o), .int a0] : List Value).toArray (Cond.code yX7_valueAt cX7_valueAt 3 (some .int) :: wsA) D RX7 (CT cI cJ cZ cMic cSrc cSt cAI cAJ) := ⟨hx, hb, hts, hown, hK⟩
  have hl := lv_entry ([.ref (ad o), .int a0]) (n := 3) (Nat.le_of_ble_eq_true rfl)
  rw [lg_entry_eq]
  generalize (lg_sl ([.ref (ad o), .int a0]) ++ List.replicate (3 - (lg_sl ([.ref (ad o), .int a0])).length) Slot.unset).toArray = ls at hl ⊢
  have hl : lv_has ls 3 [(0, .ref (ad o)), (1, .int a0)] := hl
  unfold g_X7_valueAt at h
  refine lv_iload_n hx hb dX7_valueAt_0 rfl (lv_at hl 1 rfl) ?_
  refine lv_aload_n hx hb dX7_valueAt_1 rfl (lv_at hl 0 rfl) ?_
  obtain ⟨g2, h⟩ := oif_some h
  refine c_get E G o 8 (oO_k g2).1 (cc_o7 (oO_k g2).2) rfl (fun w h => .tail _ (iA_20 h)) (by decide) (.tail _ qA_510) rfl rfl dX7_valueAt_2 ?_
  refine lv_topi (fun v3 ev3 => ?_)
  have h := elet_at ev3 h
  clear ev3
  refine lv_icmp_ge (tgt := 10) hx hb dX7_valueAt_5 (by decide) (fun c4 => ?_) (fun c4 => ?_)
  · have h := oif_pos c4 h
    refine lv_iload_n hx hb dX7_valueAt_10 rfl (lv_at hl 1 rfl) ?_
    refine lv_aload_n hx hb dX7_valueAt_11 rfl (lv_at hl 0 rfl) ?_
    obtain ⟨g5, h⟩ := oif_some h
    refine c_get E G o 7 (oO_k g5).1 (cc_o7 (oO_k g5).2) rfl (fun w h => .tail _ (iA_20 h)) (by decide) (.tail _ qA_511) rfl rfl dX7_valueAt_12 ?_
    refine lv_topi (fun v6 ev6 => ?_)
    have h := elet_at ev6 h
    clear ev6
    refine lv_iadd hx hb dX7_valueAt_15 ?_
    refine lv_topi (fun v7 ev7 => ?_)
    have h := elet_at ev7 h
    clear ev7
    refine lv_aload_n hx hb dX7_valueAt_16 rfl (lv_at hl 0 rfl) ?_
    obtain ⟨g8, h⟩ := oif_some h
    refine c_get E G o 6 (oO_k g8).1 (cc_o7 (oO_k g8).2) rfl (fun w h => .tail _ (iA_20 h)) (by decide) (.tail _ qA_512) rfl rfl dX7_valueAt_17 ?_
    refine lv_topi (fun v9 ev9 => ?_)
    have h := elet_at ev9 h
    clear ev9
    obtain ⟨r10, er10, h⟩ := obind_some h
    refine q_stiN (As := [.int v7, .int v9]) (rest := []) ⟨hx, hb, hml, hown, hts⟩ hN (u_X11_remainder l v7 v9 er10) ⟨va_cnB (host := "AcousticCamera") 2 hts (gaC qA_145) rfl rfl rfl (hN.2.2.2.2.2 _ (List.mem_of_getElem? (i := 14) rfl)) (hts _ (.tail _ qA_131)) (by decide +kernel) ⟨Nat.le_of_ble_eq_true rfl, Nat.le_of_ble_eq_true rfl⟩, hts _ (.tail _ qA_144), trivial⟩ rfl hl.1 rfl (lv_room (Nat.le_of_ble_eq_true rfl)) dX7_valueAt_20 ⟨Nat.zero_le _, Nat.zero_le _⟩ (fun q11 hq => ?_)
    refine lv_to hq ?_
    clear hq er10
    refine lv_istore_n (lv' := [(2, .int r10), (0, .ref (ad o)), (1, .int a0)]) hx hb dX7_valueAt_23 rfl hl (by decide) rfl (fun ls hl => ?_)
    refine lv_aload_n hx hb dX7_valueAt_24 rfl (lv_at hl 1 rfl) ?_
    obtain ⟨g12, h⟩ := oif_some h
    refine c_get E G o 0 (oO_k g12).1 (cc_o7 (oO_k g12).2) rfl (fun w h => .tail _ (iA_20 h)) (by decide) (.tail _ qA_513) rfl rfl dX7_valueAt_25 ?_
    refine lv_topi (fun v13 ev13 => ?_)
    have h := elet_at ev13 h
    clear ev13
    by_cases c14 : v13 = 0
    · have h := oif_pos c14 h
      refine lv_tableIn (off := 28) (tgt := 56) hx hb dX7_valueAt_28 (by rw [c14]; decide) (by rw [c14]; decide) (by rw [c14]; rfl) (by decide) ?_
      refine lv_iload_n hx hb dX7_valueAt_56 rfl (lv_at hl 0 rfl) ?_
      refine lv_aload_n hx hb dX7_valueAt_57 rfl (lv_at hl 1 rfl) ?_
      obtain ⟨g15, h⟩ := oif_some h
      refine c_get E G o 6 (oO_k g15).1 (cc_o7 (oO_k g15).2) rfl (fun w h => .tail _ (iA_20 h)) (by decide) (.tail _ qA_512) rfl rfl dX7_valueAt_58 ?_
      refine lv_topi (fun v16 ev16 => ?_)
      have h := elet_at ev16 h
      clear ev16
      refine lv_iconst (v := 2) hx hb dX7_valueAt_61 (by decide) ?_
      refine lv_idiv hx hb dX7_valueAt_62 (by decide) ?_
      refine lv_topi (fun v17 ev17 => ?_)
      have h := elet_at ev17 h
      clear ev17
      refine lv_icmp_ge (tgt := 73) hx hb dX7_valueAt_63 (by decide) (fun c18 => ?_) (fun c18 => ?_)
      · have h := oif_pos c18 h
        refine lv_aload_n hx hb dX7_valueAt_73 rfl (lv_at hl 1 rfl) ?_
        obtain ⟨g19, h⟩ := oif_some h
        refine c_get E G o 5 (oO_k g19).1 (cc_o7 (oO_k g19).2) rfl (fun w h => .tail _ (iA_20 h)) (by decide) (.tail _ qA_514) rfl rfl dX7_valueAt_74 ?_
        refine lv_topi (fun v20 ev20 => ?_)
        have h := elet_at ev20 h
        clear ev20
        refine lv_ineg hx hb dX7_valueAt_77 ?_
        refine lv_topi (fun v21 ev21 => ?_)
        have h := elet_at ev21 h
        clear ev21
        have hl := lv_sub hl [] rfl
        exact u_X7_valueAt_b78 E hA hX hN hml hst (fun H locs ls G => W.iret (v := r1) hx hb hr (fun t ht hW => ⟨⟨r1, T1, rfl, ⟨rfl, rfl⟩, ⟨by rw [ht]; exact G.1, va_K.moved hW.alike hK, G.2.1⟩⟩, G.2.2.F ht⟩) G.2.2.2.2 dX7_valueAt_9) (fun H locs ls G => W.iret (v := r1) hx hb hr (fun t ht hW => ⟨⟨r1, T1, rfl, ⟨rfl, rfl⟩, ⟨by rw [ht]; exact G.1, va_K.moved hW.alike hK, G.2.1⟩⟩, G.2.2.F ht⟩) G.2.2.2.2 dX7_valueAt_78) (fun H locs ls G => W.iret (v := r1) hx hb hr (fun t ht hW => ⟨⟨r1, T1, rfl, ⟨rfl, rfl⟩, ⟨by rw [ht]; exact G.1, va_K.moved hW.alike hK, G.2.1⟩⟩, G.2.2.F ht⟩) G.2.2.2.2 dX7_valueAt_112) (fun H locs ls G => W.iret (v := r1) hx hb hr (fun t ht hW => ⟨⟨r1, T1, rfl, ⟨rfl, rfl⟩, ⟨by rw [ht]; exact G.1, va_K.moved hW.alike hK, G.2.1⟩⟩, G.2.2.F ht⟩) G.2.2.2.2 dX7_valueAt_125) (fun H locs ls G => W.iret (v := r1) hx hb hr (fun t ht hW => ⟨⟨r1, T1, rfl, ⟨rfl, rfl⟩, ⟨by rw [ht]; exact G.1, va_K.moved hW.alike hK, G.2.1⟩⟩, G.2.2.F ht⟩) G.2.2.2.2 dX7_valueAt_162) _ _ _ _ _ h G hl
      · have h := oif_neg c18 h
        refine lv_aload_n hx hb dX7_valueAt_66 rfl (lv_at hl 1 rfl) ?_
        obtain ⟨g22, h⟩ := oif_some h
        refine c_get E G o 5 (oO_k g22).1 (cc_o7 (oO_k g22).2) rfl (fun w h => .tail _ (iA_20 h)) (by decide) (.tail _ qA_514) rfl rfl dX7_valueAt_67 ?_
        refine lv_topi (fun v23 ev23 => ?_)
        have h := elet_at ev23 h
        clear ev23
        refine lv_goto (tgt := 78) hx hb dX7_valueAt_70 (by decide) ?_
        have hl := lv_sub hl [] rfl
        exact u_X7_valueAt_b78 E hA hX hN hml hst (fun H locs ls G => W.iret (v := r1) hx hb hr (fun t ht hW => ⟨⟨r1, T1, rfl, ⟨rfl, rfl⟩, ⟨by rw [ht]; exact G.1, va_K.moved hW.alike hK, G.2.1⟩⟩, G.2.2.F ht⟩) G.2.2.2.2 dX7_valueAt_9) (fun H locs ls G => W.iret (v := r1) hx hb hr (fun t ht hW => ⟨⟨r1, T1, rfl, ⟨rfl, rfl⟩, ⟨by rw [ht]; exact G.1, va_K.moved hW.alike hK, G.2.1⟩⟩, G.2.2.F ht⟩) G.2.2.2.2 dX7_valueAt_78) (fun H locs ls G => W.iret (v := r1) hx hb hr (fun t ht hW => ⟨⟨r1, T1, rfl, ⟨rfl, rfl⟩, ⟨by rw [ht]; exact G.1, va_K.moved hW.alike hK, G.2.1⟩⟩, G.2.2.F ht⟩) G.2.2.2.2 dX7_valueAt_112) (fun H locs ls G => W.iret (v := r1) hx hb hr (fun t ht hW => ⟨⟨r1, T1, rfl, ⟨rfl, rfl⟩, ⟨by rw [ht]; exact G.1, va_K.moved hW.alike hK, G.2.1⟩⟩, G.2.2.F ht⟩) G.2.2.2.2 dX7_valueAt_125) (fun H locs ls G => W.iret (v := r1) hx hb hr (fun t ht hW => ⟨⟨r1, T1, rfl, ⟨rfl, rfl⟩, ⟨by rw [ht]; exact G.1, va_K.moved hW.alike hK, G.2.1⟩⟩, G.2.2.F ht⟩) G.2.2.2.2 dX7_valueAt_162) _ _ _ _ _ h G hl
    have h := oif_neg c14 h
    by_cases c24 : v13 = 1
    · have h := oif_pos c24 h
      refine lv_tableIn (off := 51) (tgt := 79) hx hb dX7_valueAt_28 (by rw [c24]; decide) (by rw [c24]; decide) (by rw [c24]; rfl) (by decide) ?_
      refine lv_aload_n hx hb dX7_valueAt_79 rfl (lv_at hl 1 rfl) ?_
      obtain ⟨g25, h⟩ := oif_some h
      refine c_get E G o 5 (oO_k g25).1 (cc_o7 (oO_k g25).2) rfl (fun w h => .tail _ (iA_20 h)) (by decide) (.tail _ qA_514) rfl rfl dX7_valueAt_80 ?_
      refine lv_topi (fun v26 ev26 => ?_)
      have h := elet_at ev26 h
      clear ev26
      refine lv_iconst (v := 4) hx hb dX7_valueAt_83 (by decide) ?_
      refine lv_iload_n hx hb dX7_valueAt_84 rfl (lv_at hl 0 rfl) ?_
      refine lv_aload_n hx hb dX7_valueAt_85 rfl (lv_at hl 1 rfl) ?_
      obtain ⟨g27, h⟩ := oif_some h
      refine c_get E G o 6 (oO_k g27).1 (cc_o7 (oO_k g27).2) rfl (fun w h => .tail _ (iA_20 h)) (by decide) (.tail _ qA_512) rfl rfl dX7_valueAt_86 ?_
      refine lv_topi (fun v28 ev28 => ?_)
      have h := elet_at ev28 h
      clear ev28
      refine lv_iconst (v := 2) hx hb dX7_valueAt_89 (by decide) ?_
      refine lv_idiv hx hb dX7_valueAt_90 (by decide) ?_
      refine lv_topi (fun v29 ev29 => ?_)
      have h := elet_at ev29 h
      clear ev29
      refine lv_isub hx hb dX7_valueAt_91 ?_
      refine lv_topi (fun v30 ev30 => ?_)
      have h := elet_at ev30 h
      clear ev30
      refine va_mabs hx hb (hml.trans hl.1.symm) hown (hts _ (.tail _ qA_515)) (hts _ (.tail _ qA_516)) (hts _ (.tail _ qA_18)) (hts _ (.tail _ qA_517)) (Nat.le_of_ble_eq_true rfl) (Nat.le_of_ble_eq_true rfl) (Nat.zero_le _) (Nat.zero_le _) dX7_valueAt_92 ?_
      refine lv_topi (fun v31 ev31 => ?_)
      have h := elet_at ev31 h
      clear ev31
      refine lv_imul hx hb dX7_valueAt_95 ?_
      refine lv_topi (fun v32 ev32 => ?_)
      have h := elet_at ev32 h
      clear ev32
      refine lv_aload_n hx hb dX7_valueAt_96 rfl (lv_at hl 1 rfl) ?_
      obtain ⟨g33, h⟩ := oif_some h
      refine c_get E G o 6 (oO_k g33).1 (cc_o7 (oO_k g33).2) rfl (fun w h => .tail _ (iA_20 h)) (by decide) (.tail _ qA_512) rfl rfl dX7_valueAt_97 ?_
      refine lv_topi (fun v34 ev34 => ?_)
      have h := elet_at ev34 h
      clear ev34
      refine lv_isub hx hb dX7_valueAt_100 ?_
      refine lv_topi (fun v35 ev35 => ?_)
      have h := elet_at ev35 h
      clear ev35
      refine lv_imul hx hb dX7_valueAt_101 ?_
      refine lv_topi (fun v36 ev36 => ?_)
      have h := elet_at ev36 h
      clear ev36
      refine lv_i2l (v := v36.toInt64) hx hb dX7_valueAt_102 rfl ?_
      refine lv_topl (fun v37 ev37 => ?_)
      have h := elet_at ev37 h
      clear ev37
      refine lv_aload_n hx hb dX7_valueAt_103 rfl (lv_at hl 1 rfl) ?_
      obtain ⟨g38, h⟩ := oif_some h
      refine c_get E G o 6 (oO_k g38).1 (cc_o7 (oO_k g38).2) rfl (fun w h => .tail _ (iA_20 h)) (by decide) (.tail _ qA_512) rfl rfl dX7_valueAt_104 ?_
      refine lv_topi (fun v39 ev39 => ?_)
      have h := elet_at ev39 h
      clear ev39
      refine lv_i2l (v := v39.toInt64) hx hb dX7_valueAt_107 rfl ?_
      refine lv_topl (fun v40 ev40 => ?_)
      have h := elet_at ev40 h
      clear ev40
      obtain ⟨r41, er41, h⟩ := obind_some h
      refine q_stlN (As := [.long v37, .long v40]) (rest := []) ⟨hx, hb, hml, hown, hts⟩ hN (u_X11_quotient l v37 v40 er41) ⟨va_cnB (host := "AcousticCamera") 2 hts (gaC qA_132) rfl rfl rfl (hN.2.2.2.2.2 _ (List.mem_of_getElem? (i := 15) rfl)) (hts _ (.tail _ qA_131)) (by decide +kernel) ⟨Nat.le_of_ble_eq_true rfl, Nat.le_of_ble_eq_true rfl⟩, hts _ (.tail _ qA_130), trivial⟩ rfl hl.1 rfl (lv_room (Nat.le_of_ble_eq_true rfl)) dX7_valueAt_108 ⟨Nat.zero_le _, Nat.zero_le _⟩ (fun q42 hq => ?_)
      refine lv_tol hq ?_
      clear hq er41
      refine lv_l2i (v := r41.toInt32) hx hb dX7_valueAt_111 rfl ?_
      refine lv_topi (fun v43 ev43 => ?_)
      have h := elet_at ev43 h
      clear ev43
      exact W.iret (v := v43) hx hb hr (fun t ht hW => ⟨⟨v43, T, rfl, osome2 h, ⟨by rw [ht]; exact G.1, va_K.moved hW.alike hK, G.2.1⟩⟩, G.2.2.F ht⟩) G.2.2.2.2 dX7_valueAt_112
    have h := oif_neg c24 h
    by_cases c44 : v13 = 2
    · have h := oif_pos c44 h
      refine lv_tableIn (off := 85) (tgt := 113) hx hb dX7_valueAt_28 (by rw [c44]; decide) (by rw [c44]; decide) (by rw [c44]; rfl) (by decide) ?_
      refine lv_iload_n hx hb dX7_valueAt_113 rfl (lv_at hl 0 rfl) ?_
      refine lv_if_ne (tgt := 124) hx hb dX7_valueAt_114 (by decide) (fun c45 => ?_) (fun c45 => ?_)
      · have h := oif_neg c45 h
        refine lv_iconst (v := 0) hx hb dX7_valueAt_124 (by decide) ?_
        have hl := lv_sub hl [] rfl
        exact u_X7_valueAt_b125 E hA hX hN hml hst (fun H locs ls G => W.iret (v := r1) hx hb hr (fun t ht hW => ⟨⟨r1, T1, rfl, ⟨rfl, rfl⟩, ⟨by rw [ht]; exact G.1, va_K.moved hW.alike hK, G.2.1⟩⟩, G.2.2.F ht⟩) G.2.2.2.2 dX7_valueAt_9) (fun H locs ls G => W.iret (v := r1) hx hb hr (fun t ht hW => ⟨⟨r1, T1, rfl, ⟨rfl, rfl⟩, ⟨by rw [ht]; exact G.1, va_K.moved hW.alike hK, G.2.1⟩⟩, G.2.2.F ht⟩) G.2.2.2.2 dX7_valueAt_78) (fun H locs ls G => W.iret (v := r1) hx hb hr (fun t ht hW => ⟨⟨r1, T1, rfl, ⟨rfl, rfl⟩, ⟨by rw [ht]; exact G.1, va_K.moved hW.alike hK, G.2.1⟩⟩, G.2.2.F ht⟩) G.2.2.2.2 dX7_valueAt_112) (fun H locs ls G => W.iret (v := r1) hx hb hr (fun t ht hW => ⟨⟨r1, T1, rfl, ⟨rfl, rfl⟩, ⟨by rw [ht]; exact G.1, va_K.moved hW.alike hK, G.2.1⟩⟩, G.2.2.F ht⟩) G.2.2.2.2 dX7_valueAt_125) (fun H locs ls G => W.iret (v := r1) hx hb hr (fun t ht hW => ⟨⟨r1, T1, rfl, ⟨rfl, rfl⟩, ⟨by rw [ht]; exact G.1, va_K.moved hW.alike hK, G.2.1⟩⟩, G.2.2.F ht⟩) G.2.2.2.2 dX7_valueAt_162) _ _ _ _ _ h G hl
      · have h := oif_pos c45 h
        refine lv_aload_n hx hb dX7_valueAt_117 rfl (lv_at hl 1 rfl) ?_
        obtain ⟨g46, h⟩ := oif_some h
        refine c_get E G o 5 (oO_k g46).1 (cc_o7 (oO_k g46).2) rfl (fun w h => .tail _ (iA_20 h)) (by decide) (.tail _ qA_514) rfl rfl dX7_valueAt_118 ?_
        refine lv_topi (fun v47 ev47 => ?_)
        have h := elet_at ev47 h
        clear ev47
        refine lv_goto (tgt := 125) hx hb dX7_valueAt_121 (by decide) ?_
        have hl := lv_sub hl [] rfl
        exact u_X7_valueAt_b125 E hA hX hN hml hst (fun H locs ls G => W.iret (v := r1) hx hb hr (fun t ht hW => ⟨⟨r1, T1, rfl, ⟨rfl, rfl⟩, ⟨by rw [ht]; exact G.1, va_K.moved hW.alike hK, G.2.1⟩⟩, G.2.2.F ht⟩) G.2.2.2.2 dX7_valueAt_9) (fun H locs ls G => W.iret (v := r1) hx hb hr (fun t ht hW => ⟨⟨r1, T1, rfl, ⟨rfl, rfl⟩, ⟨by rw [ht]; exact G.1, va_K.moved hW.alike hK, G.2.1⟩⟩, G.2.2.F ht⟩) G.2.2.2.2 dX7_valueAt_78) (fun H locs ls G => W.iret (v := r1) hx hb hr (fun t ht hW => ⟨⟨r1, T1, rfl, ⟨rfl, rfl⟩, ⟨by rw [ht]; exact G.1, va_K.moved hW.alike hK, G.2.1⟩⟩, G.2.2.F ht⟩) G.2.2.2.2 dX7_valueAt_112) (fun H locs ls G => W.iret (v := r1) hx hb hr (fun t ht hW => ⟨⟨r1, T1, rfl, ⟨rfl, rfl⟩, ⟨by rw [ht]; exact G.1, va_K.moved hW.alike hK, G.2.1⟩⟩, G.2.2.F ht⟩) G.2.2.2.2 dX7_valueAt_125) (fun H locs ls G => W.iret (v := r1) hx hb hr (fun t ht hW => ⟨⟨r1, T1, rfl, ⟨rfl, rfl⟩, ⟨by rw [ht]; exact G.1, va_K.moved hW.alike hK, G.2.1⟩⟩, G.2.2.F ht⟩) G.2.2.2.2 dX7_valueAt_162) _ _ _ _ _ h G hl
    have h := oif_neg c44 h
    refine lv_tableOut (tgt := 126) hx hb dX7_valueAt_28 (tsw_0_2 c14 c24 c44) (by decide) ?_
    refine lv_bipush (v := 31) hx hb dX7_valueAt_126 (by decide) ?_
    refine lv_iload_n hx hb dX7_valueAt_128 rfl (lv_at hl 2 rfl) ?_
    refine lv_imul hx hb dX7_valueAt_129 ?_
    refine lv_topi (fun v48 ev48 => ?_)
    have h := elet_at ev48 h
    clear ev48
    refine lv_iload_n hx hb dX7_valueAt_130 rfl (lv_at hl 2 rfl) ?_
    refine lv_imul hx hb dX7_valueAt_131 ?_
    refine lv_topi (fun v49 ev49 => ?_)
    have h := elet_at ev49 h
    clear ev49
    refine lv_sipush (v := 7919) hx hb dX7_valueAt_132 (by decide) ?_
    refine lv_iload_n hx hb dX7_valueAt_135 rfl (lv_at hl 2 rfl) ?_
    refine lv_imul hx hb dX7_valueAt_136 ?_
    refine lv_topi (fun v50 ev50 => ?_)
    have h := elet_at ev50 h
    clear ev50
    refine lv_iadd hx hb dX7_valueAt_137 ?_
    refine lv_topi (fun v51 ev51 => ?_)
    have h := elet_at ev51 h
    clear ev51
    refine lv_ldc (v := 104729) hx hb hown (hts (.constant RX7 41 (104729)) (.tail _ qA_518)) dX7_valueAt_138 ?_
    refine lv_aload_n hx hb dX7_valueAt_140 rfl (lv_at hl 1 rfl) ?_
    obtain ⟨g52, h⟩ := oif_some h
    refine c_get E G o 7 (oO_k g52).1 (cc_o7 (oO_k g52).2) rfl (fun w h => .tail _ (iA_20 h)) (by decide) (.tail _ qA_511) rfl rfl dX7_valueAt_141 ?_
    refine lv_topi (fun v53 ev53 => ?_)
    have h := elet_at ev53 h
    clear ev53
    refine lv_imul hx hb dX7_valueAt_144 ?_
    refine lv_topi (fun v54 ev54 => ?_)
    have h := elet_at ev54 h
    clear ev54
    refine lv_iadd hx hb dX7_valueAt_145 ?_
    refine lv_topi (fun v55 ev55 => ?_)
    have h := elet_at ev55 h
    clear ev55
    refine lv_iconst (v := 2) hx hb dX7_valueAt_146 (by decide) ?_
    refine lv_aload_n hx hb dX7_valueAt_147 rfl (lv_at hl 1 rfl) ?_
    obtain ⟨g56, h⟩ := oif_some h
    refine c_get E G o 5 (oO_k g56).1 (cc_o7 (oO_k g56).2) rfl (fun w h => .tail _ (iA_20 h)) (by decide) (.tail _ qA_514) rfl rfl dX7_valueAt_148 ?_
    refine lv_topi (fun v57 ev57 => ?_)
    have h := elet_at ev57 h
    clear ev57
    refine lv_imul hx hb dX7_valueAt_151 ?_
    refine lv_topi (fun v58 ev58 => ?_)
    have h := elet_at ev58 h
    clear ev58
    refine lv_iconst (v := 1) hx hb dX7_valueAt_152 (by decide) ?_
    refine lv_iadd hx hb dX7_valueAt_153 ?_
    refine lv_topi (fun v59 ev59 => ?_)
    have h := elet_at ev59 h
    clear ev59
    obtain ⟨r60, er60, h⟩ := obind_some h
    refine q_stiN (As := [.int v55, .int v59]) (rest := []) ⟨hx, hb, hml, hown, hts⟩ hN (u_X11_remainder l v55 v59 er60) ⟨va_cnB (host := "AcousticCamera") 2 hts (gaC qA_145) rfl rfl rfl (hN.2.2.2.2.2 _ (List.mem_of_getElem? (i := 14) rfl)) (hts _ (.tail _ qA_131)) (by decide +kernel) ⟨Nat.le_of_ble_eq_true rfl, Nat.le_of_ble_eq_true rfl⟩, hts _ (.tail _ qA_144), trivial⟩ rfl hl.1 rfl (lv_room (Nat.le_of_ble_eq_true rfl)) dX7_valueAt_154 ⟨Nat.zero_le _, Nat.zero_le _⟩ (fun q61 hq => ?_)
    refine lv_to hq ?_
    clear hq er60
    refine lv_aload_n hx hb dX7_valueAt_157 rfl (lv_at hl 1 rfl) ?_
    obtain ⟨g62, h⟩ := oif_some h
    refine c_get E G o 5 (oO_k g62).1 (cc_o7 (oO_k g62).2) rfl (fun w h => .tail _ (iA_20 h)) (by decide) (.tail _ qA_514) rfl rfl dX7_valueAt_158 ?_
    refine lv_topi (fun v63 ev63 => ?_)
    have h := elet_at ev63 h
    clear ev63
    refine lv_isub hx hb dX7_valueAt_161 ?_
    refine lv_topi (fun v64 ev64 => ?_)
    have h := elet_at ev64 h
    clear ev64
    exact W.iret (v := v64) hx hb hr (fun t ht hW => ⟨⟨v64, T, rfl, osome2 h, ⟨by rw [ht]; exact G.1, va_K.moved hW.alike hK, G.2.1⟩⟩, G.2.2.F ht⟩) G.2.2.2.2 dX7_valueAt_162
  · have h := oif_neg c4 h
    refine lv_iconst (v := 0) hx hb dX7_valueAt_8 (by decide) ?_
    exact W.iret (v := 0) hx hb hr (fun t ht hW => ⟨⟨0, T, rfl, osome2 h, ⟨by rw [ht]; exact G.1, va_K.moved hW.alike hK, G.2.1⟩⟩, G.2.2.F ht⟩) G.2.2.2.2 dX7_valueAt_9
set_option maxHeartbeats 4000000 in
set_option maxRecDepth 100000 in
theorem s_X7_valueAt_b78 {r1 : Int32} {T1 : AT} : ∀ (T : AT) (s0 : Int32), g_X7_valueAt_b78 T s0 = some (r1, T1) → SP T T1 := by
  intro T s0 h
  have p0 := SP.rf T
  unfold g_X7_valueAt_b78 at h
  rw [← (osome2 h).2]
  exact p0
set_option maxHeartbeats 4000000 in
set_option maxRecDepth 100000 in
theorem s_X7_valueAt_b125 {r1 : Int32} {T1 : AT} : ∀ (T : AT) (s0 : Int32), g_X7_valueAt_b125 T s0 = some (r1, T1) → SP T T1 := by
  intro T s0 h
  have p0 := SP.rf T
  unfold g_X7_valueAt_b125 at h
  rw [← (osome2 h).2]
  exact p0
set_option maxHeartbeats 4000000 in
set_option maxRecDepth 100000 in
theorem s_X7_valueAt {T : AT} {o : Nat} {a0 : Int32} {r1 : Int32} {T1 : AT} (h : g_X7_valueAt T o a0 = some (r1, T1)) : SP T T1 := by
  have p0 := SP.rf T
  unfold g_X7_valueAt at h
  obtain ⟨g2, h⟩ := oif_some h
  obtain ⟨v3, -, h⟩ := elet_some h
  rcases oif_or h with ⟨c4, h⟩ | ⟨c4, h⟩
  · have h := h
    obtain ⟨g5, h⟩ := oif_some h
    obtain ⟨v6, -, h⟩ := elet_some h
    obtain ⟨v7, -, h⟩ := elet_some h
    obtain ⟨g8, h⟩ := oif_some h
    obtain ⟨v9, -, h⟩ := elet_some h
    obtain ⟨r10, -, h⟩ := obind_some h
    obtain ⟨g11, h⟩ := oif_some h
    obtain ⟨v12, -, h⟩ := elet_some h
    by_cases c13 : v12 = 0
    · have h := oif_pos c13 h
      obtain ⟨g14, h⟩ := oif_some h
      obtain ⟨v15, -, h⟩ := elet_some h
      obtain ⟨v16, -, h⟩ := elet_some h
      rcases oif_or h with ⟨c17, h⟩ | ⟨c17, h⟩
      · have h := h
        obtain ⟨g18, h⟩ := oif_some h
        obtain ⟨v19, -, h⟩ := elet_some h
        obtain ⟨v20, -, h⟩ := elet_some h
        exact SP.tr p0 (s_X7_valueAt_b78 _ _ h)
      · have h := h
        obtain ⟨g21, h⟩ := oif_some h
        obtain ⟨v22, -, h⟩ := elet_some h
        exact SP.tr p0 (s_X7_valueAt_b78 _ _ h)
    have h := oif_neg c13 h
    by_cases c23 : v12 = 1
    · have h := oif_pos c23 h
      obtain ⟨g24, h⟩ := oif_some h
      obtain ⟨v25, -, h⟩ := elet_some h
      obtain ⟨g26, h⟩ := oif_some h
      obtain ⟨v27, -, h⟩ := elet_some h
      obtain ⟨v28, -, h⟩ := elet_some h
      obtain ⟨v29, -, h⟩ := elet_some h
      obtain ⟨v30, -, h⟩ := elet_some h
      obtain ⟨v31, -, h⟩ := elet_some h
      obtain ⟨g32, h⟩ := oif_some h
      obtain ⟨v33, -, h⟩ := elet_some h
      obtain ⟨v34, -, h⟩ := elet_some h
      obtain ⟨v35, -, h⟩ := elet_some h
      obtain ⟨v36, -, h⟩ := elet_some h
      obtain ⟨g37, h⟩ := oif_some h
      obtain ⟨v38, -, h⟩ := elet_some h
      obtain ⟨v39, -, h⟩ := elet_some h
      obtain ⟨r40, -, h⟩ := obind_some h
      obtain ⟨v41, -, h⟩ := elet_some h
      rw [← (osome2 h).2]
      exact p0
    have h := oif_neg c23 h
    by_cases c42 : v12 = 2
    · have h := oif_pos c42 h
      rcases oif_or h with ⟨c43, h⟩ | ⟨c43, h⟩
      · have h := h
        obtain ⟨g44, h⟩ := oif_some h
        obtain ⟨v45, -, h⟩ := elet_some h
        exact SP.tr p0 (s_X7_valueAt_b125 _ _ h)
      · have h := h
        exact SP.tr p0 (s_X7_valueAt_b125 _ _ h)
    have h := oif_neg c42 h
    obtain ⟨v46, -, h⟩ := elet_some h
    obtain ⟨v47, -, h⟩ := elet_some h
    obtain ⟨v48, -, h⟩ := elet_some h
    obtain ⟨v49, -, h⟩ := elet_some h
    obtain ⟨g50, h⟩ := oif_some h
    obtain ⟨v51, -, h⟩ := elet_some h
    obtain ⟨v52, -, h⟩ := elet_some h
    obtain ⟨v53, -, h⟩ := elet_some h
    obtain ⟨g54, h⟩ := oif_some h
    obtain ⟨v55, -, h⟩ := elet_some h
    obtain ⟨v56, -, h⟩ := elet_some h
    obtain ⟨v57, -, h⟩ := elet_some h
    obtain ⟨r58, -, h⟩ := obind_some h
    obtain ⟨g59, h⟩ := oif_some h
    obtain ⟨v60, -, h⟩ := elet_some h
    obtain ⟨v61, -, h⟩ := elet_some h
    rw [← (osome2 h).2]
    exact p0
  · have h := h
    rw [← (osome2 h).2]
    exact p0
def g_X5_arriving_b47  (T : AT) (s0 : Int32) : Option (Int32 × AT) := some (s0, T)
set_option maxHeartbeats 4000000 in
set_option maxRecDepth 100000 in
theorem u_X5_arriving_b47 {p : Program} {l : Launch} {e : Env} {s : State} {m : MethodId} {args : Array Value} {below : List Frame} {meth : Method} {c : Code} {Q : State → Prop} {D : va_G} {A : Nat → Prop} {cI cJ cZ cMic cSrc cSt cAI cAJ : ClassId} {ad : Nat → Nat} {r1 : Int32} {T1 : AT} (E : cE p c cX5_arriving s m args (Cond.code yX5_arriving cX5_arriving 5 (some .int) :: wsA) D RX5 (CT cI cJ cZ cMic cSrc cSt cAI cAJ)) (hA : ∀ q : Nat, s.heap.size ≤ q → A q) (hX : xT A s) (hN : nX s) (hml : c.maxLocals = 5) (hst : l.stackTraces = false) (kr6 : ∀ (H : Heap) (locs : List Loc) (ls : Array Slot), gC cI cJ cZ cMic cSrc cSt cAI cAJ D ad A s.heap H locs T1 → W p l e { frames := 3, cells := 0, slots := 0, locals := 45 } s m args below meth c H locs 0 0 Q (F0 m 6 ls [.int r1])) (kr47 : ∀ (H : Heap) (locs : List Loc) (ls : Array Slot), gC cI cJ cZ cMic cSrc cSt cAI cAJ D ad A s.heap H locs T1 → W p l e { frames := 3, cells := 0, slots := 0, locals := 45 } s m args below meth c H locs 0 0 Q (F0 m 47 ls [.int r1])) : ∀ (T : AT) (H : Heap) (locs : List Loc) (ls : Array Slot) (s0 : Int32), g_X5_arriving_b47 T s0 = some (r1, T1) → gC cI cJ cZ cMic cSrc cSt cAI cAJ D ad A s.heap H locs T → lv_has ls 5 [] → W p l e { frames := 3, cells := 0, slots := 0, locals := 45 } s m args below meth c H locs 0 0 Q (F0 m 47 ls [.int s0]) := by
  have hx := E.1
  have hb := E.2.1
  have hts := E.2.2.1
  have hown := E.2.2.2.1
  have hK := E.2.2.2.2
  intro T H locs ls s0 h G hl
  unfold g_X5_arriving_b47 at h
  rw [(osome2 h).2] at G
  refine lv_to (osome2 h).1 ?_
  exact kr47 _ _ _ G
def g_X5_arriving (T : AT) (a0 : Nat) (a1 : Nat) (a2 : Int32) (a3 : Int32) : Option (Int32 × AT) := if a2 ≤ a3 then (elet (a3 - a2) fun v3 => oif (oO T a1 7 = true) <| obind2 (g_X7_valueAt T a1 v3) fun r7 T5 => oif (oO T5 a0 6 = true) <| elet (T5.2.2.1 a0 12) fun v10 => if v10 ≤ 0 then (g_X5_arriving_b47 T5 r7) else (oif (oO T5 a0 6 = true) <| elet (T5.2.2.1 a0 12) fun v13 => elet (r7 * v13) fun v14 => elet (v14.toInt64) fun v15 => oif (oO T5 a0 6 = true) <| elet (T5.2.2.1 a0 12) fun v17 => elet (v17 + a2) fun v18 => elet (v18.toInt64) fun v19 => obind (g_X11_quotient v15 v19) fun r20 => elet (r20.toInt32) fun v22 => g_X5_arriving_b47 T5 v22)) else (some (0, T))
set_option maxHeartbeats 4000000 in
set_option maxRecDepth 100000 in
theorem u_X5_arriving (l : Launch) (hst : l.stackTraces = false) (D : va_G) (cI cJ cZ cMic cSrc cSt cAI cAJ : ClassId) (ad : Nat → Nat) (T : AT) (a0 : Nat) (a1 : Nat) (a2 : Int32) (a3 : Int32) {r1 : Int32} {T1 : AT} (h : g_X5_arriving T a0 a1 a2 a3 = some (r1, T1)) : kCi l yX5_arriving (Cond.code yX5_arriving cX5_arriving 5 (some .int) :: wsA) 3 45 cI cJ cZ cMic cSrc cSt cAI cAJ D ad T [.ref (ad a0), .ref (ad a1), .int a2, .int a3] (fun r T9 => r = r1 ∧ T9 = T1) := by
  intro sz
  refine Met.ofW (cc := cX5_arriving) (maxL := 5) (ret := (some .int)) (by decide) rfl ?_
  intro p e s m args below meth c s₁ B hml hv
  obtain ⟨rfl, hsz, hP, hK, hD0, hX, hN⟩ := hv
  have hx := B.exec
  have hb := B.bytes
  have hr := B.returns
  have hts := atoms_spec (ws := (Cond.code yX5_arriving cX5_arriving 5 (some .int) :: wsA)) B.pre
  have hown : s.vm.findClass RX5 = some m.cls := findClass_of_methodNamed B.named
  have hlocks := B.notSynchronized
  subst hsz
  have hD := hD0.self (sz := s.heap.size)
  generalize hAe : va_A (cW ad T.1 (cc cI cJ cZ cMic cSrc cSt cAI cAJ ad T)) s.heap.size = A at hD hX ⊢
  have hA : ∀ q : Nat, s.heap.size ≤ q → A q := fun q h => by rw [← hAe]; exact Or.inr h
  have G : gC cI cJ cZ cMic cSrc cSt cAI cAJ D ad A s.heap s.heap [] T := ⟨hP, hD, va_S.rf⟩
  have E : cE p c cX5_arriving s m ([.ref (ad a0), .ref (ad a1), .int a2, .int a3] : List Value).toArray (Cond.code yX5_arriving cX5_arriving 5 (some .int) :: wsA) D RX5 (CT cI cJ cZ cMic cSrc cSt cAI cAJ) := ⟨hx, hb, hts, hown, hK⟩
  have hl := lv_entry ([.ref (ad a0), .ref (ad a1), .int a2, .int a3]) (n := 5) (Nat.le_of_ble_eq_true rfl)
  rw [lg_entry_eq]
  generalize (lg_sl ([.ref (ad a0), .ref (ad a1), .int a2, .int a3]) ++ List.replicate (5 - (lg_sl ([.ref (ad a0), .ref (ad a1), .int a2, .int a3])).length) Slot.unset).toArray = ls at hl ⊢
  have hl : lv_has ls 5 [(0, .ref (ad a0)), (1, .ref (ad a1)), (2, .int a2), (3, .int a3)] := hl
  unfold g_X5_arriving at h
  refine lv_iload_n hx hb dX5_arriving_0 rfl (lv_at hl 3 rfl) ?_
  refine lv_iload_n hx hb dX5_arriving_1 rfl (lv_at hl 2 rfl) ?_
  refine lv_icmp_ge (tgt := 7) hx hb dX5_arriving_2 (by decide) (fun c2 => ?_) (fun c2 => ?_)
  · have h := oif_pos c2 h
    refine lv_aload_n hx hb dX5_arriving_7 rfl (lv_at hl 1 rfl) ?_
    refine lv_iload_n hx hb dX5_arriving_8 rfl (lv_at hl 3 rfl) ?_
    refine lv_iload_n hx hb dX5_arriving_9 rfl (lv_at hl 2 rfl) ?_
    refine lv_isub hx hb dX5_arriving_10 ?_
    refine lv_topi (fun v3 ev3 => ?_)
    have h := elet_at ev3 h
    clear ev3
    obtain ⟨g4, h⟩ := oif_some h
    obtain ⟨r7, T5, eT5, h⟩ := obind2_some h
    refine q_cvi (As := [.int v3]) (rest := []) E G hA hX hN hml (u_X7_valueAt l hst D cI cJ cZ cMic cSrc cSt cAI cAJ ad T a1 v3 eT5) (cwV 1 hts (gaV qA_506 qA_507 qA_508 qA_458 qA_509) rfl rfl rfl (by decide +kernel) ⟨Nat.le_of_ble_eq_true rfl, Nat.le_of_ble_eq_true rfl⟩) (oO_k g4).1 (cc_o7 (oO_k g4).2) rfl rfl hl.1 rfl (lv_room (Nat.le_of_ble_eq_true rfl)) dX5_arriving_11 ⟨Nat.zero_le _, Nat.zero_le _⟩ (fun q8 T6 H locs hq G => ?_)
    obtain ⟨hq1, hq2⟩ := hq
    rw [hq2] at G
    refine lv_to hq1 ?_
    clear hq1 hq2 eT5
    refine lv_istore (lv' := [(4, .int r7), (0, .ref (ad a0)), (1, .ref (ad a1)), (2, .int a2), (3, .int a3)]) hx hb dX5_arriving_14 hl (by decide) rfl (fun ls hl => ?_)
    refine lv_aload_n hx hb dX5_arriving_16 rfl (lv_at hl 1 rfl) ?_
    obtain ⟨g9, h⟩ := oif_some h
    refine c_get E G a0 12 (oO_k g9).1 (cc_o6 (oO_k g9).2) rfl (fun w h => .tail _ (iA_14 h)) (by decide) (.tail _ qA_505) rfl rfl dX5_arriving_17 ?_
    refine lv_topi (fun v10 ev10 => ?_)
    have h := elet_at ev10 h
    clear ev10
    refine lv_if_le (tgt := 45) hx hb dX5_arriving_20 (by decide) (fun c11 => ?_) (fun c11 => ?_)
    · have h := oif_pos c11 h
      refine lv_iload hx hb dX5_arriving_45 (lv_at hl 0 rfl) ?_
      have hl := lv_sub hl [] rfl
      exact u_X5_arriving_b47 E hA hX hN hml hst (fun H locs ls G => W.iret (v := r1) hx hb hr (fun t ht hW => ⟨⟨r1, T1, rfl, ⟨rfl, rfl⟩, ⟨by rw [ht]; exact G.1, va_K.moved hW.alike hK, G.2.1⟩⟩, G.2.2.F ht⟩) G.2.2.2.2 dX5_arriving_6) (fun H locs ls G => W.iret (v := r1) hx hb hr (fun t ht hW => ⟨⟨r1, T1, rfl, ⟨rfl, rfl⟩, ⟨by rw [ht]; exact G.1, va_K.moved hW.alike hK, G.2.1⟩⟩, G.2.2.F ht⟩) G.2.2.2.2 dX5_arriving_47) _ _ _ _ _ h G hl
    · have h := oif_neg c11 h
      refine lv_iload hx hb dX5_arriving_23 (lv_at hl 0 rfl) ?_
      refine lv_aload_n hx hb dX5_arriving_25 rfl (lv_at hl 1 rfl) ?_
      obtain ⟨g12, h⟩ := oif_some h
      refine c_get E G a0 12 (oO_k g12).1 (cc_o6 (oO_k g12).2) rfl (fun w h => .tail _ (iA_14 h)) (by decide) (.tail _ qA_505) rfl rfl dX5_arriving_26 ?_
      refine lv_topi (fun v13 ev13 => ?_)
      have h := elet_at ev13 h
      clear ev13
      refine lv_imul hx hb dX5_arriving_29 ?_
      refine lv_topi (fun v14 ev14 => ?_)
      have h := elet_at ev14 h
      clear ev14
      refine lv_i2l (v := v14.toInt64) hx hb dX5_arriving_30 rfl ?_
      refine lv_topl (fun v15 ev15 => ?_)
      have h := elet_at ev15 h
      clear ev15
      refine lv_aload_n hx hb dX5_arriving_31 rfl (lv_at hl 1 rfl) ?_
      obtain ⟨g16, h⟩ := oif_some h
      refine c_get E G a0 12 (oO_k g16).1 (cc_o6 (oO_k g16).2) rfl (fun w h => .tail _ (iA_14 h)) (by decide) (.tail _ qA_505) rfl rfl dX5_arriving_32 ?_
      refine lv_topi (fun v17 ev17 => ?_)
      have h := elet_at ev17 h
      clear ev17
      refine lv_iload_n hx hb dX5_arriving_35 rfl (lv_at hl 3 rfl) ?_
      refine lv_iadd hx hb dX5_arriving_36 ?_
      refine lv_topi (fun v18 ev18 => ?_)
      have h := elet_at ev18 h
      clear ev18
      refine lv_i2l (v := v18.toInt64) hx hb dX5_arriving_37 rfl ?_
      refine lv_topl (fun v19 ev19 => ?_)
      have h := elet_at ev19 h
      clear ev19
      obtain ⟨r20, er20, h⟩ := obind_some h
      refine q_stlN (As := [.long v15, .long v19]) (rest := []) ⟨hx, hb, hml, hown, hts⟩ hN (u_X11_quotient l v15 v19 er20) ⟨va_cnB (host := "AcousticCamera") 2 hts (gaC qA_132) rfl rfl rfl (hN.2.2.2.2.2 _ (List.mem_of_getElem? (i := 16) rfl)) (hts _ (.tail _ qA_131)) (by decide +kernel) ⟨Nat.le_of_ble_eq_true rfl, Nat.le_of_ble_eq_true rfl⟩, hts _ (.tail _ qA_130), trivial⟩ rfl hl.1 rfl (lv_room (Nat.le_of_ble_eq_true rfl)) dX5_arriving_38 ⟨Nat.zero_le _, Nat.zero_le _⟩ (fun q21 hq => ?_)
      refine lv_tol hq ?_
      clear hq er20
      refine lv_l2i (v := r20.toInt32) hx hb dX5_arriving_41 rfl ?_
      refine lv_topi (fun v22 ev22 => ?_)
      have h := elet_at ev22 h
      clear ev22
      refine lv_goto (tgt := 47) hx hb dX5_arriving_42 (by decide) ?_
      have hl := lv_sub hl [] rfl
      exact u_X5_arriving_b47 E hA hX hN hml hst (fun H locs ls G => W.iret (v := r1) hx hb hr (fun t ht hW => ⟨⟨r1, T1, rfl, ⟨rfl, rfl⟩, ⟨by rw [ht]; exact G.1, va_K.moved hW.alike hK, G.2.1⟩⟩, G.2.2.F ht⟩) G.2.2.2.2 dX5_arriving_6) (fun H locs ls G => W.iret (v := r1) hx hb hr (fun t ht hW => ⟨⟨r1, T1, rfl, ⟨rfl, rfl⟩, ⟨by rw [ht]; exact G.1, va_K.moved hW.alike hK, G.2.1⟩⟩, G.2.2.F ht⟩) G.2.2.2.2 dX5_arriving_47) _ _ _ _ _ h G hl
  · have h := oif_neg c2 h
    refine lv_iconst (v := 0) hx hb dX5_arriving_5 (by decide) ?_
    exact W.iret (v := 0) hx hb hr (fun t ht hW => ⟨⟨0, T, rfl, osome2 h, ⟨by rw [ht]; exact G.1, va_K.moved hW.alike hK, G.2.1⟩⟩, G.2.2.F ht⟩) G.2.2.2.2 dX5_arriving_6
set_option maxHeartbeats 4000000 in
set_option maxRecDepth 100000 in
theorem s_X5_arriving_b47 {r1 : Int32} {T1 : AT} : ∀ (T : AT) (s0 : Int32), g_X5_arriving_b47 T s0 = some (r1, T1) → SP T T1 := by
  intro T s0 h
  have p0 := SP.rf T
  unfold g_X5_arriving_b47 at h
  rw [← (osome2 h).2]
  exact p0
set_option maxHeartbeats 4000000 in
set_option maxRecDepth 100000 in
theorem s_X5_arriving {T : AT} {a0 : Nat} {a1 : Nat} {a2 : Int32} {a3 : Int32} {r1 : Int32} {T1 : AT} (h : g_X5_arriving T a0 a1 a2 a3 = some (r1, T1)) : SP T T1 := by
  have p0 := SP.rf T
  unfold g_X5_arriving at h
  rcases oif_or h with ⟨c2, h⟩ | ⟨c2, h⟩
  · have h := h
    obtain ⟨v3, -, h⟩ := elet_some h
    obtain ⟨g4, h⟩ := oif_some h
    obtain ⟨r6, T5, eT5, h⟩ := obind2_some h
    have p1 : SP T T5 := SP.tr p0 (s_X7_valueAt eT5)
    obtain ⟨g7, h⟩ := oif_some h
    obtain ⟨v8, -, h⟩ := elet_some h
    rcases oif_or h with ⟨c9, h⟩ | ⟨c9, h⟩
    · have h := h
      exact SP.tr p1 (s_X5_arriving_b47 _ _ h)
    · have h := h
      obtain ⟨g10, h⟩ := oif_some h
      obtain ⟨v11, -, h⟩ := elet_some h
      obtain ⟨v12, -, h⟩ := elet_some h
      obtain ⟨v13, -, h⟩ := elet_some h
      obtain ⟨g14, h⟩ := oif_some h
      obtain ⟨v15, -, h⟩ := elet_some h
      obtain ⟨v16, -, h⟩ := elet_some h
      obtain ⟨v17, -, h⟩ := elet_some h
      obtain ⟨r18, -, h⟩ := obind_some h
      obtain ⟨v19, -, h⟩ := elet_some h
      exact SP.tr p1 (s_X5_arriving_b47 _ _ h)
  · have h := h
    rw [← (osome2 h).2]
    exact p0
def g_X5_hear_b42 (k3 : AT → Nat → Nat → Nat → Int32 → Int32 → Int32 → Int32 → Option (AT)) : Nat → AT → Nat → Nat → Nat → Int32 → Int32 → Int32 → Int32 → Nat → Int32 → Int32 → Option (AT)
  | 0, _, _, _, _, _, _, _, _, _, _, _ => none
  | n + 1, T, l0, l1, l2, l3, l4, l5, l6, l7, l8, l9 => oif (oO T l1 6 = true) <| elet (T.2.2.1 l1 11) fun v3 => if v3 ≤ l9 then (oif (oO T l0 5 = true) <| obind (T.2.2.2.2 l0 0) fun n6 => oif (aA T n6 106 = true) <| oif (inb l6 (T.2.1 n6).2 = true) <| obind (T.2.2.2.2 n6 l6.toNatClampNeg) fun n9 => oif (aA T n9 100 = true) <| oif (inb l5 (T.2.1 n9).2 = true) <| elet (T.2.2.1 n9 l5.toNatClampNeg) fun v12 => elet (v12 + l8) fun v13 => oif (aA T n9 100 = true) <| oif (inb l5 (T.2.1 n9).2 = true) <| elet (uI T n9 l5.toNatClampNeg v13) fun T16 => elet (l6 + Int32.ofInt (1)) fun v17 => k3 T16 l0 l1 l2 l3 l4 l5 v17) else (oif (oO T l1 6 = true) <| obind (T.2.2.2.2 l1 9) fun n19 => oif (aA T n19 100 = true) <| oif (inb l9 (T.2.1 n19).2 = true) <| elet (T.2.2.1 n19 l9.toNatClampNeg) fun v22 => elet (2 * v22) fun v23 => elet (v23 - l3) fun v24 => oif (oO T l1 6 = true) <| obind2 (g_X6_delayFrom T l1 l7 v24 l4) fun r28 T26 => obind2 (g_X5_arriving T26 l1 l2 r28 l5) fun r32 T30 => oif (oO T30 l1 6 = true) <| obind (T30.2.2.2.2 l1 10) fun n35 => oif (aA T30 n35 100 = true) <| oif (inb l9 (T30.2.1 n35).2 = true) <| elet (T30.2.2.1 n35 l9.toNatClampNeg) fun v38 => elet (r32 * v38) fun v39 => elet (v39 / 100) fun v40 => elet (l8 + v40) fun v41 => elet (l9 + Int32.ofInt (1)) fun v42 => g_X5_hear_b42 k3 n T30 l0 l1 l2 l3 l4 l5 l6 l7 v41 v42)
set_option maxHeartbeats 4000000 in
set_option maxRecDepth 100000 in
theorem u_X5_hear_b42 {p : Program} {l : Launch} {e : Env} {s : State} {m : MethodId} {args : Array Value} {below : List Frame} {meth : Method} {c : Code} {Q : State → Prop} {D : va_G} {A : Nat → Prop} {cI cJ cZ cMic cSrc cSt cAI cAJ : ClassId} {ad : Nat → Nat} {T1 : AT} (E : cE p c cX5_hear s m args (Cond.code yX5_hear cX5_hear 11 none :: wsA) D RX5 (CT cI cJ cZ cMic cSrc cSt cAI cAJ)) (hA : ∀ q : Nat, s.heap.size ≤ q → A q) (hX : xT A s) (hN : nX s) (hml : c.maxLocals = 11) (hst : l.stackTraces = false) (kr124 : ∀ (H : Heap) (locs : List Loc) (ls : Array Slot), gC cI cJ cZ cMic cSrc cSt cAI cAJ D ad A s.heap H locs T1 → W p l e { frames := 4, cells := 0, slots := 0, locals := 69 } s m args below meth c H locs 0 0 Q (F0 m 124 ls [])) {k3 : AT → Nat → Nat → Nat → Int32 → Int32 → Int32 → Int32 → Option (AT)} (hk3 : ∀ (T : AT) (H : Heap) (locs : List Loc) (ls : Array Slot) (l0 : Nat) (l1 : Nat) (l2 : Nat) (l3 : Int32) (l4 : Int32) (l5 : Int32) (l6 : Int32), k3 T l0 l1 l2 l3 l4 l5 l6 = some T1 → gC cI cJ cZ cMic cSrc cSt cAI cAJ D ad A s.heap H locs T → lv_has ls 11 [(0, .ref (ad l0)), (1, .ref (ad l1)), (2, .ref (ad l2)), (3, .int l3), (4, .int l4), (5, .int l5), (6, .int l6)] → W p l e { frames := 4, cells := 0, slots := 0, locals := 69 } s m args below meth c H locs 0 0 Q (F0 m 3 ls [])) : ∀ n : Nat, ∀ (T : AT) (H : Heap) (locs : List Loc) (ls : Array Slot) (l0 : Nat) (l1 : Nat) (l2 : Nat) (l3 : Int32) (l4 : Int32) (l5 : Int32) (l6 : Int32) (l7 : Nat) (l8 : Int32) (l9 : Int32), g_X5_hear_b42 k3 n T l0 l1 l2 l3 l4 l5 l6 l7 l8 l9 = some T1 → gC cI cJ cZ cMic cSrc cSt cAI cAJ D ad A s.heap H locs T → lv_has ls 11 [(0, .ref (ad l0)), (1, .ref (ad l1)), (2, .ref (ad l2)), (3, .int l3), (4, .int l4), (5, .int l5), (6, .int l6), (7, .ref (ad l7)), (8, .int l8), (9, .int l9)] → W p l e { frames := 4, cells := 0, slots := 0, locals := 69 } s m args below meth c H locs 0 0 Q (F0 m 42 ls []) := by
  have hx := E.1
  have hb := E.2.1
  have hts := E.2.2.1
  have hown := E.2.2.2.1
  have hK := E.2.2.2.2
  intro n
  induction n with
  | zero =>
    intro T H locs ls l0 l1 l2 l3 l4 l5 l6 l7 l8 l9 h
    have h : (none : Option (AT)) = some T1 := h
    cases h
  | succ n ih =>
    intro T H locs ls l0 l1 l2 l3 l4 l5 l6 l7 l8 l9 h G hl
    unfold g_X5_hear_b42 at h
    refine lv_iload hx hb dX5_hear_42 (lv_at hl 9 rfl) ?_
    refine lv_aload_n hx hb dX5_hear_44 rfl (lv_at hl 1 rfl) ?_
    obtain ⟨g2, h⟩ := oif_some h
    refine c_get E G l1 11 (oO_k g2).1 (cc_o6 (oO_k g2).2) rfl (fun w h => .tail _ (iA_14 h)) (by decide) (.tail _ qA_489) rfl rfl dX5_hear_45 ?_
    refine lv_topi (fun v3 ev3 => ?_)
    have h := elet_at ev3 h
    clear ev3
    refine lv_icmp_ge (tgt := 103) hx hb dX5_hear_48 (by decide) (fun c4 => ?_) (fun c4 => ?_)
    · have h := oif_pos c4 h
      refine lv_aload_n hx hb dX5_hear_103 rfl (lv_at hl 0 rfl) ?_
      obtain ⟨g5, h⟩ := oif_some h
      obtain ⟨n6, en6, h⟩ := obind_some h
      refine c_get E G l0 0 (v := .ref (ad n6)) (oO_k g5).1 (cc_o5 (oO_k g5).2) rfl (fun w h => .tail _ (iA_22 h)) (by decide) (.tail _ qA_455) rfl (by rw [en6]; rfl) dX5_hear_104 ?_
      clear en6
      refine lv_iload hx hb dX5_hear_107 (lv_at hl 6 rfl) ?_
      obtain ⟨g7, h⟩ := oif_some h
      obtain ⟨g8, h⟩ := oif_some h
      obtain ⟨n9, en9, h⟩ := obind_some h
      refine c_alda E G n6 6 (k := l6.toNatClampNeg) (v := .ref (ad n9)) (aA_k g7).1 (cc_a106 (aA_k g7).2.1) rfl (inb_k g8).1 (inb_k g8).2 (aA_k g7).2.2 (by show va_rf ((T.2.2.2.2 n6 l6.toNatClampNeg).map ad) = _; rw [en9]; rfl) dX5_hear_109 ?_
      clear en9
      refine lv_iload hx hb dX5_hear_110 (lv_at hl 5 rfl) ?_
      refine lv_dup2_11 hx hb dX5_hear_112 rfl rfl ?_
      obtain ⟨g10, h⟩ := oif_some h
      obtain ⟨g11, h⟩ := oif_some h
      refine c_iald E G n9 0 (k := l5.toNatClampNeg) (aA_k g10).1 (cc_a100 (aA_k g10).2.1) rfl (inb_k g11).1 (inb_k g11).2 (aA_k g10).2.2 dX5_hear_113 ?_
      refine lv_topi (fun v12 ev12 => ?_)
      have h := elet_at ev12 h
      clear ev12
      refine lv_iload hx hb dX5_hear_114 (lv_at hl 8 rfl) ?_
      refine lv_iadd hx hb dX5_hear_116 ?_
      refine lv_topi (fun v13 ev13 => ?_)
      have h := elet_at ev13 h
      clear ev13
      obtain ⟨g14, h⟩ := oif_some h
      obtain ⟨g15, h⟩ := oif_some h
      refine c_iast E G n9 0 (k := l5.toNatClampNeg) (v := v13) (aA_k g14).1 (cc_a100 (aA_k g14).2.1) rfl (inb_k g15).1 (inb_k g15).2 (aA_k g14).2.2 dX5_hear_117 (fun H locs G => ?_)
      have G := gC_up_i (f := upd (T.2.2.1 n9) l5.toNatClampNeg v13) (ccv_100 (aA_k g14).2.1) G
      obtain ⟨T16, eT16, h⟩ := elet_some h
      have G : gC cI cJ cZ cMic cSrc cSt cAI cAJ D ad A s.heap H locs T16 := by rw [eT16]; exact G
      clear eT16
      obtain ⟨v17, ev17, h⟩ := elet_some h
      refine lv_iinc (v := v17) (lv' := [(6, .int v17), (0, .ref (ad l0)), (1, .ref (ad l1)), (2, .ref (ad l2)), (3, .int l3), (4, .int l4), (5, .int l5), (7, .ref (ad l7)), (8, .int l8), (9, .int l9)]) hx hb dX5_hear_118 hl (k := 6) rfl ev17.symm (by decide) rfl (fun ls hl => ?_)
      refine lv_goto (tgt := 3) hx hb dX5_hear_121 (by decide) ?_
      have hl := lv_sub hl [1, 2, 3, 4, 5, 6, 0] rfl
      exact hk3 _ _ _ _ _ _ _ _ _ _ _ h G hl
    · have h := oif_neg c4 h
      refine lv_aload_n hx hb dX5_hear_51 rfl (lv_at hl 1 rfl) ?_
      refine lv_aload hx hb dX5_hear_52 (lv_at hl 7 rfl) ?_
      refine lv_iconst (v := 2) hx hb dX5_hear_54 (by decide) ?_
      refine lv_aload_n hx hb dX5_hear_55 rfl (lv_at hl 1 rfl) ?_
      obtain ⟨g18, h⟩ := oif_some h
      obtain ⟨n19, en19, h⟩ := obind_some h
      refine c_get E G l1 9 (v := .ref (ad n19)) (oO_k g18).1 (cc_o6 (oO_k g18).2) rfl (fun w h => .tail _ (iA_14 h)) (by decide) (.tail _ qA_490) rfl (by rw [en19]; rfl) dX5_hear_56 ?_
      clear en19
      refine lv_iload hx hb dX5_hear_59 (lv_at hl 9 rfl) ?_
      obtain ⟨g20, h⟩ := oif_some h
      obtain ⟨g21, h⟩ := oif_some h
      refine c_iald E G n19 0 (k := l9.toNatClampNeg) (aA_k g20).1 (cc_a100 (aA_k g20).2.1) rfl (inb_k g21).1 (inb_k g21).2 (aA_k g20).2.2 dX5_hear_61 ?_
      refine lv_topi (fun v22 ev22 => ?_)
      have h := elet_at ev22 h
      clear ev22
      refine lv_imul hx hb dX5_hear_62 ?_
      refine lv_topi (fun v23 ev23 => ?_)
      have h := elet_at ev23 h
      clear ev23
      refine lv_iload_n hx hb dX5_hear_63 rfl (lv_at hl 3 rfl) ?_
      refine lv_isub hx hb dX5_hear_64 ?_
      refine lv_topi (fun v24 ev24 => ?_)
      have h := elet_at ev24 h
      clear ev24
      refine lv_iload hx hb dX5_hear_65 (lv_at hl 4 rfl) ?_
      obtain ⟨g25, h⟩ := oif_some h
      obtain ⟨r28, T26, eT26, h⟩ := obind2_some h
      refine q_cvi (As := [.ref (ad l7), .int v24, .int l4]) (rest := []) E G hA hX hN hml (u_X6_delayFrom l hst D cI cJ cZ cMic cSrc cSt cAI cAJ ad T l1 l7 v24 l4 eT26) (cwV 3 hts (gaV qA_492 qA_493 qA_494 qA_207 qA_495) rfl rfl rfl (by decide +kernel) ⟨Nat.le_of_ble_eq_true rfl, Nat.le_of_ble_eq_true rfl⟩) (oO_k g25).1 (cc_o6 (oO_k g25).2) rfl rfl hl.1 rfl (lv_room (Nat.le_of_ble_eq_true rfl)) dX5_hear_67 ⟨Nat.zero_le _, Nat.zero_le _⟩ (fun q29 T27 H locs hq G => ?_)
      obtain ⟨hq1, hq2⟩ := hq
      rw [hq2] at G
      refine lv_to hq1 ?_
      clear hq1 hq2 eT26
      refine lv_istore (lv' := [(10, .int r28), (0, .ref (ad l0)), (1, .ref (ad l1)), (2, .ref (ad l2)), (3, .int l3), (4, .int l4), (5, .int l5), (6, .int l6), (7, .ref (ad l7)), (8, .int l8), (9, .int l9)]) hx hb dX5_hear_70 hl (by decide) rfl (fun ls hl => ?_)
      refine lv_iload hx hb dX5_hear_72 (lv_at hl 9 rfl) ?_
      refine lv_aload_n hx hb dX5_hear_74 rfl (lv_at hl 2 rfl) ?_
      refine lv_aload_n hx hb dX5_hear_75 rfl (lv_at hl 3 rfl) ?_
      refine lv_iload hx hb dX5_hear_76 (lv_at hl 0 rfl) ?_
      refine lv_iload hx hb dX5_hear_78 (lv_at hl 6 rfl) ?_
      obtain ⟨r32, T30, eT30, h⟩ := obind2_some h
      refine q_csi (As := [.ref (ad l1), .ref (ad l2), .int r28, .int l5]) (rest := [.int l8]) E G hA hX hN hml (u_X5_arriving l hst D cI cJ cZ cMic cSrc cSt cAI cAJ ad T26 l1 l2 r28 l5 eT30) (cwS 4 hts (gaS qA_502 qA_503 qA_475 qA_504) rfl rfl rfl (by decide +kernel) ⟨Nat.le_of_ble_eq_true rfl, Nat.le_of_ble_eq_true rfl⟩) rfl hl.1 rfl (lv_room (Nat.le_of_ble_eq_true rfl)) dX5_hear_80 ⟨Nat.zero_le _, Nat.zero_le _⟩ (fun q33 T31 H locs hq G => ?_)
      obtain ⟨hq1, hq2⟩ := hq
      rw [hq2] at G
      refine lv_to hq1 ?_
      clear hq1 hq2 eT30
      refine lv_aload_n hx hb dX5_hear_83 rfl (lv_at hl 2 rfl) ?_
      obtain ⟨g34, h⟩ := oif_some h
      obtain ⟨n35, en35, h⟩ := obind_some h
      refine c_get E G l1 10 (v := .ref (ad n35)) (oO_k g34).1 (cc_o6 (oO_k g34).2) rfl (fun w h => .tail _ (iA_14 h)) (by decide) (.tail _ qA_491) rfl (by rw [en35]; rfl) dX5_hear_84 ?_
      clear en35
      refine lv_iload hx hb dX5_hear_87 (lv_at hl 10 rfl) ?_
      obtain ⟨g36, h⟩ := oif_some h
      obtain ⟨g37, h⟩ := oif_some h
      refine c_iald E G n35 0 (k := l9.toNatClampNeg) (aA_k g36).1 (cc_a100 (aA_k g36).2.1) rfl (inb_k g37).1 (inb_k g37).2 (aA_k g36).2.2 dX5_hear_89 ?_
      refine lv_topi (fun v38 ev38 => ?_)
      have h := elet_at ev38 h
      clear ev38
      refine lv_imul hx hb dX5_hear_90 ?_
      refine lv_topi (fun v39 ev39 => ?_)
      have h := elet_at ev39 h
      clear ev39
      refine lv_bipush (v := 100) hx hb dX5_hear_91 (by decide) ?_
      refine lv_idiv hx hb dX5_hear_93 (by decide) ?_
      refine lv_topi (fun v40 ev40 => ?_)
      have h := elet_at ev40 h
      clear ev40
      refine lv_iadd hx hb dX5_hear_94 ?_
      refine lv_topi (fun v41 ev41 => ?_)
      have h := elet_at ev41 h
      clear ev41
      refine lv_istore (lv' := [(8, .int v41), (10, .int r28), (0, .ref (ad l0)), (1, .ref (ad l1)), (2, .ref (ad l2)), (3, .int l3), (4, .int l4), (5, .int l5), (6, .int l6), (7, .ref (ad l7)), (9, .int l9)]) hx hb dX5_hear_95 hl (by decide) rfl (fun ls hl => ?_)
      obtain ⟨v42, ev42, h⟩ := elet_some h
      refine lv_iinc (v := v42) (lv' := [(9, .int v42), (8, .int v41), (10, .int r28), (0, .ref (ad l0)), (1, .ref (ad l1)), (2, .ref (ad l2)), (3, .int l3), (4, .int l4), (5, .int l5), (6, .int l6), (7, .ref (ad l7))]) hx hb dX5_hear_97 hl (k := 10) rfl ev42.symm (by decide) rfl (fun ls hl => ?_)
      refine lv_goto (tgt := 42) hx hb dX5_hear_100 (by decide) ?_
      have hl := lv_sub hl [3, 4, 5, 6, 7, 8, 9, 10, 1, 0] rfl
      exact ih _ _ _ _ _ _ _ _ _ _ _ _ _ _ h G hl
def g_X5_hear_b3  : Nat → AT → Nat → Nat → Nat → Int32 → Int32 → Int32 → Int32 → Option (AT)
  | 0, _, _, _, _, _, _, _, _ => none
  | n + 1, T, l0, l1, l2, l3, l4, l5, l6 => oif (oO T l1 6 = true) <| elet (T.2.2.1 l1 5) fun v3 => if v3 ≤ l6 then (some T) else (oif (oO T l1 6 = true) <| obind (T.2.2.2.2 l1 4) fun n6 => oif (aA T n6 103 = true) <| oif (inb l6 (T.2.1 n6).2 = true) <| obind (T.2.2.2.2 n6 l6.toNatClampNeg) fun n9 => oif (oO T l1 6 = true) <| obind2 (g_X6_delayFrom T l1 n9 l3 l4) fun r13 T11 => obind2 (g_X5_arriving T11 l1 l2 r13 l5) fun r17 T15 => g_X5_hear_b42 (g_X5_hear_b3 n) 16384 T15 l0 l1 l2 l3 l4 l5 l6 n9 r17 0)
set_option maxHeartbeats 4000000 in
set_option maxRecDepth 100000 in
theorem u_X5_hear_b3 {p : Program} {l : Launch} {e : Env} {s : State} {m : MethodId} {args : Array Value} {below : List Frame} {meth : Method} {c : Code} {Q : State → Prop} {D : va_G} {A : Nat → Prop} {cI cJ cZ cMic cSrc cSt cAI cAJ : ClassId} {ad : Nat → Nat} {T1 : AT} (E : cE p c cX5_hear s m args (Cond.code yX5_hear cX5_hear 11 none :: wsA) D RX5 (CT cI cJ cZ cMic cSrc cSt cAI cAJ)) (hA : ∀ q : Nat, s.heap.size ≤ q → A q) (hX : xT A s) (hN : nX s) (hml : c.maxLocals = 11) (hst : l.stackTraces = false) (kr124 : ∀ (H : Heap) (locs : List Loc) (ls : Array Slot), gC cI cJ cZ cMic cSrc cSt cAI cAJ D ad A s.heap H locs T1 → W p l e { frames := 4, cells := 0, slots := 0, locals := 69 } s m args below meth c H locs 0 0 Q (F0 m 124 ls [])) : ∀ n : Nat, ∀ (T : AT) (H : Heap) (locs : List Loc) (ls : Array Slot) (l0 : Nat) (l1 : Nat) (l2 : Nat) (l3 : Int32) (l4 : Int32) (l5 : Int32) (l6 : Int32), g_X5_hear_b3 n T l0 l1 l2 l3 l4 l5 l6 = some T1 → gC cI cJ cZ cMic cSrc cSt cAI cAJ D ad A s.heap H locs T → lv_has ls 11 [(0, .ref (ad l0)), (1, .ref (ad l1)), (2, .ref (ad l2)), (3, .int l3), (4, .int l4), (5, .int l5), (6, .int l6)] → W p l e { frames := 4, cells := 0, slots := 0, locals := 69 } s m args below meth c H locs 0 0 Q (F0 m 3 ls []) := by
  have hx := E.1
  have hb := E.2.1
  have hts := E.2.2.1
  have hown := E.2.2.2.1
  have hK := E.2.2.2.2
  intro n
  induction n with
  | zero =>
    intro T H locs ls l0 l1 l2 l3 l4 l5 l6 h
    have h : (none : Option (AT)) = some T1 := h
    cases h
  | succ n ih =>
    intro T H locs ls l0 l1 l2 l3 l4 l5 l6 h G hl
    unfold g_X5_hear_b3 at h
    refine lv_iload hx hb dX5_hear_3 (lv_at hl 6 rfl) ?_
    refine lv_aload_n hx hb dX5_hear_5 rfl (lv_at hl 1 rfl) ?_
    obtain ⟨g2, h⟩ := oif_some h
    refine c_get E G l1 5 (oO_k g2).1 (cc_o6 (oO_k g2).2) rfl (fun w h => .tail _ (iA_14 h)) (by decide) (.tail _ qA_487) rfl rfl dX5_hear_6 ?_
    refine lv_topi (fun v3 ev3 => ?_)
    have h := elet_at ev3 h
    clear ev3
    refine lv_icmp_ge (tgt := 124) hx hb dX5_hear_9 (by decide) (fun c4 => ?_) (fun c4 => ?_)
    · have h := oif_pos c4 h
      rw [osome1 h] at G
      exact kr124 _ _ _ G
    · have h := oif_neg c4 h
      refine lv_aload_n hx hb dX5_hear_12 rfl (lv_at hl 1 rfl) ?_
      obtain ⟨g5, h⟩ := oif_some h
      obtain ⟨n6, en6, h⟩ := obind_some h
      refine c_get E G l1 4 (v := .ref (ad n6)) (oO_k g5).1 (cc_o6 (oO_k g5).2) rfl (fun w h => .tail _ (iA_14 h)) (by decide) (.tail _ qA_488) rfl (by rw [en6]; rfl) dX5_hear_13 ?_
      clear en6
      refine lv_iload hx hb dX5_hear_16 (lv_at hl 6 rfl) ?_
      obtain ⟨g7, h⟩ := oif_some h
      obtain ⟨g8, h⟩ := oif_some h
      obtain ⟨n9, en9, h⟩ := obind_some h
      refine c_aldq E G n6 3 (k := l6.toNatClampNeg) (v := .ref (ad n9)) (aA_k g7).1 (cc_a103 (aA_k g7).2.1) rfl (inb_k g8).1 (inb_k g8).2 (aA_k g7).2.2 (by show va_rf ((T.2.2.2.2 n6 l6.toNatClampNeg).map ad) = _; rw [en9]; rfl) dX5_hear_18 ?_
      clear en9
      refine lv_astore (lv' := [(7, .ref (ad n9)), (0, .ref (ad l0)), (1, .ref (ad l1)), (2, .ref (ad l2)), (3, .int l3), (4, .int l4), (5, .int l5), (6, .int l6)]) hx hb dX5_hear_19 hl (by decide) rfl (fun ls hl => ?_)
      refine lv_aload_n hx hb dX5_hear_21 rfl (lv_at hl 2 rfl) ?_
      refine lv_aload_n hx hb dX5_hear_22 rfl (lv_at hl 3 rfl) ?_
      refine lv_aload_n hx hb dX5_hear_23 rfl (lv_at hl 2 rfl) ?_
      refine lv_aload hx hb dX5_hear_24 (lv_at hl 0 rfl) ?_
      refine lv_iload_n hx hb dX5_hear_26 rfl (lv_at hl 4 rfl) ?_
      refine lv_iload hx hb dX5_hear_27 (lv_at hl 5 rfl) ?_
      obtain ⟨g10, h⟩ := oif_some h
      obtain ⟨r13, T11, eT11, h⟩ := obind2_some h
      refine q_cvi (As := [.ref (ad n9), .int l3, .int l4]) (rest := [.ref (ad l2), .ref (ad l1)]) E G hA hX hN hml (u_X6_delayFrom l hst D cI cJ cZ cMic cSrc cSt cAI cAJ ad T l1 n9 l3 l4 eT11) (cwV 3 hts (gaV qA_492 qA_493 qA_494 qA_207 qA_495) rfl rfl rfl (by decide +kernel) ⟨Nat.le_of_ble_eq_true rfl, Nat.le_of_ble_eq_true rfl⟩) (oO_k g10).1 (cc_o6 (oO_k g10).2) rfl rfl hl.1 rfl (lv_room (Nat.le_of_ble_eq_true rfl)) dX5_hear_29 ⟨Nat.zero_le _, Nat.zero_le _⟩ (fun q14 T12 H locs hq G => ?_)
      obtain ⟨hq1, hq2⟩ := hq
      rw [hq2] at G
      refine lv_to hq1 ?_
      clear hq1 hq2 eT11
      refine lv_iload hx hb dX5_hear_32 (lv_at hl 6 rfl) ?_
      obtain ⟨r17, T15, eT15, h⟩ := obind2_some h
      refine q_csi (As := [.ref (ad l1), .ref (ad l2), .int r13, .int l5]) (rest := []) E G hA hX hN hml (u_X5_arriving l hst D cI cJ cZ cMic cSrc cSt cAI cAJ ad T11 l1 l2 r13 l5 eT15) (cwS 4 hts (gaS qA_502 qA_503 qA_475 qA_504) rfl rfl rfl (by decide +kernel) ⟨Nat.le_of_ble_eq_true rfl, Nat.le_of_ble_eq_true rfl⟩) rfl hl.1 rfl (lv_room (Nat.le_of_ble_eq_true rfl)) dX5_hear_34 ⟨Nat.zero_le _, Nat.zero_le _⟩ (fun q18 T16 H locs hq G => ?_)
      obtain ⟨hq1, hq2⟩ := hq
      rw [hq2] at G
      refine lv_to hq1 ?_
      clear hq1 hq2 eT15
      refine lv_istore (lv' := [(8, .int r17), (7, .ref (ad n9)), (0, .ref (ad l0)), (1, .ref (ad l1)), (2, .ref (ad l2)), (3, .int l3), (4, .int l4), (5, .int l5), (6, .int l6)]) hx hb dX5_hear_37 hl (by decide) rfl (fun ls hl => ?_)
      refine lv_iconst (v := 0) hx hb dX5_hear_39 (by decide) ?_
      refine lv_istore (lv' := [(9, .int 0), (8, .int r17), (7, .ref (ad n9)), (0, .ref (ad l0)), (1, .ref (ad l1)), (2, .ref (ad l2)), (3, .int l3), (4, .int l4), (5, .int l5), (6, .int l6)]) hx hb dX5_hear_40 hl (by decide) rfl (fun ls hl => ?_)
      have hl := lv_sub hl [3, 4, 5, 6, 7, 8, 9, 2, 1, 0] rfl
      exact u_X5_hear_b42 E hA hX hN hml hst kr124 ih _ _ _ _ _ _ _ _ _ _ _ _ _ _ _ h G hl
def g_X5_hear (T : AT) (o : Nat) (a0 : Nat) (a1 : Nat) (a2 : Int32) (a3 : Int32) (a4 : Int32) : Option (AT) := g_X5_hear_b3 16384 T o a0 a1 a2 a3 a4 0
set_option maxHeartbeats 4000000 in
set_option maxRecDepth 100000 in
theorem u_X5_hear (l : Launch) (hst : l.stackTraces = false) (D : va_G) (cI cJ cZ cMic cSrc cSt cAI cAJ : ClassId) (ad : Nat → Nat) (T : AT) (o : Nat) (a0 : Nat) (a1 : Nat) (a2 : Int32) (a3 : Int32) (a4 : Int32) {T1 : AT} (h : g_X5_hear T o a0 a1 a2 a3 a4 = some T1) : kCv l yX5_hear (Cond.code yX5_hear cX5_hear 11 none :: wsA) 4 69 cI cJ cZ cMic cSrc cSt cAI cAJ D ad T [.ref (ad o), .ref (ad a0), .ref (ad a1), .int a2, .int a3, .int a4] (fun T9 => T9 = T1) := by
  intro sz
  refine Met.ofW (cc := cX5_hear) (maxL := 11) (ret := none) (by decide) rfl ?_
  intro p e s m args below meth c s₁ B hml hv
  obtain ⟨rfl, hsz, hP, hK, hD0, hX, hN⟩ := hv
  have hx := B.exec
  have hb := B.bytes
  have hr := B.returns
  have hts := atoms_spec (ws := (Cond.code yX5_hear cX5_hear 11 none :: wsA)) B.pre
  have hown : s.vm.findClass RX5 = some m.cls := findClass_of_methodNamed B.named
  have hlocks := B.notSynchronized
  subst hsz
  have hD := hD0.self (sz := s.heap.size)
  generalize hAe : va_A (cW ad T.1 (cc cI cJ cZ cMic cSrc cSt cAI cAJ ad T)) s.heap.size = A at hD hX ⊢
  have hA : ∀ q : Nat, s.heap.size ≤ q → A q := fun q h => by rw [← hAe]; exact Or.inr h
  have G : gC cI cJ cZ cMic cSrc cSt cAI cAJ D ad A s.heap s.heap [] T := ⟨hP, hD, va_S.rf⟩
  have E : cE p c cX5_hear s m ([.ref (ad o), .ref (ad a0), .ref (ad a1), .int a2, .int a3, .int a4] : List Value).toArray (Cond.code yX5_hear cX5_hear 11 none :: wsA) D RX5 (CT cI cJ cZ cMic cSrc cSt cAI cAJ) := ⟨hx, hb, hts, hown, hK⟩
  have hl := lv_entry ([.ref (ad o), .ref (ad a0), .ref (ad a1), .int a2, .int a3, .int a4]) (n := 11) (Nat.le_of_ble_eq_true rfl)
  rw [lg_entry_eq]
  generalize (lg_sl ([.ref (ad o), .ref (ad a0), .ref (ad a1), .int a2, .int a3, .int a4]) ++ List.replicate (11 - (lg_sl ([.ref (ad o), .ref (ad a0), .ref (ad a1), .int a2, .int a3, .int a4])).length) Slot.unset).toArray = ls at hl ⊢
  have hl : lv_has ls 11 [(0, .ref (ad o)), (1, .ref (ad a0)), (2, .ref (ad a1)), (3, .int a2), (4, .int a3), (5, .int a4)] := hl
  unfold g_X5_hear at h
  refine lv_iconst (v := 0) hx hb dX5_hear_0 (by decide) ?_
  refine lv_istore (lv' := [(6, .int 0), (0, .ref (ad o)), (1, .ref (ad a0)), (2, .ref (ad a1)), (3, .int a2), (4, .int a3), (5, .int a4)]) hx hb dX5_hear_1 hl (by decide) rfl (fun ls hl => ?_)
  have hl := lv_sub hl [1, 2, 3, 4, 5, 6, 0] rfl
  exact u_X5_hear_b3 E hA hX hN hml hst (fun H locs ls G => W.vret hx hb hr (fun t ht hW => ⟨⟨T1, rfl, rfl, ⟨by rw [ht]; exact G.1, va_K.moved hW.alike hK, G.2.1⟩⟩, G.2.2.F ht⟩) G.2.2.2.2 dX5_hear_124) _ _ _ _ _ _ _ _ _ _ _ _ h G hl
set_option maxHeartbeats 4000000 in
set_option maxRecDepth 100000 in
theorem s_X5_hear_b42 {T1 : AT} {k3 : AT → Nat → Nat → Nat → Int32 → Int32 → Int32 → Int32 → Option (AT)} (hk3 : ∀ (T : AT) (l0 : Nat) (l1 : Nat) (l2 : Nat) (l3 : Int32) (l4 : Int32) (l5 : Int32) (l6 : Int32), k3 T l0 l1 l2 l3 l4 l5 l6 = some T1 → SP T T1) : ∀ n : Nat, ∀ (T : AT) (l0 : Nat) (l1 : Nat) (l2 : Nat) (l3 : Int32) (l4 : Int32) (l5 : Int32) (l6 : Int32) (l7 : Nat) (l8 : Int32) (l9 : Int32), g_X5_hear_b42 k3 n T l0 l1 l2 l3 l4 l5 l6 l7 l8 l9 = some T1 → SP T T1 := by
  intro n
  induction n with
  | zero =>
    intro T l0 l1 l2 l3 l4 l5 l6 l7 l8 l9 h
    have h : (none : Option (AT)) = some T1 := h
    cases h
  | succ n ih =>
    intro T l0 l1 l2 l3 l4 l5 l6 l7 l8 l9 h
    have p0 := SP.rf T
    unfold g_X5_hear_b42 at h
    obtain ⟨g2, h⟩ := oif_some h
    obtain ⟨v3, -, h⟩ := elet_some h
    rcases oif_or h with ⟨c4, h⟩ | ⟨c4, h⟩
    · have h := h
      obtain ⟨g5, h⟩ := oif_some h
      obtain ⟨n6, en6, h⟩ := obind_some h
      obtain ⟨g7, h⟩ := oif_some h
      obtain ⟨g8, h⟩ := oif_some h
      obtain ⟨n9, en9, h⟩ := obind_some h
      obtain ⟨g10, h⟩ := oif_some h
      obtain ⟨g11, h⟩ := oif_some h
      obtain ⟨v12, -, h⟩ := elet_some h
      obtain ⟨v13, -, h⟩ := elet_some h
      obtain ⟨g14, h⟩ := oif_some h
      obtain ⟨g15, h⟩ := oif_some h
      obtain ⟨T16, eT16, h⟩ := elet_some h
      have p1 : SP T T16 := SP.tr p0 (by rw [eT16]; exact sp_uI)
      obtain ⟨v17, ev17, h⟩ := elet_some h
      exact SP.tr p1 (hk3 _ _ _ _ _ _ _ _ h)
    · have h := h
      obtain ⟨g18, h⟩ := oif_some h
      obtain ⟨n19, en19, h⟩ := obind_some h
      obtain ⟨g20, h⟩ := oif_some h
      obtain ⟨g21, h⟩ := oif_some h
      obtain ⟨v22, -, h⟩ := elet_some h
      obtain ⟨v23, -, h⟩ := elet_some h
      obtain ⟨v24, -, h⟩ := elet_some h
      obtain ⟨g25, h⟩ := oif_some h
      obtain ⟨r27, T26, eT26, h⟩ := obind2_some h
      have p1 : SP T T26 := SP.tr p0 (s_X6_delayFrom eT26)
      obtain ⟨r29, T28, eT28, h⟩ := obind2_some h
      have p2 : SP T T28 := SP.tr p1 (s_X5_arriving eT28)
      obtain ⟨g30, h⟩ := oif_some h
      obtain ⟨n31, en31, h⟩ := obind_some h
      obtain ⟨g32, h⟩ := oif_some h
      obtain ⟨g33, h⟩ := oif_some h
      obtain ⟨v34, -, h⟩ := elet_some h
      obtain ⟨v35, -, h⟩ := elet_some h
      obtain ⟨v36, -, h⟩ := elet_some h
      obtain ⟨v37, -, h⟩ := elet_some h
      obtain ⟨v38, ev38, h⟩ := elet_some h
      exact SP.tr p2 (ih _ _ _ _ _ _ _ _ _ _ _ h)
set_option maxHeartbeats 4000000 in
set_option maxRecDepth 100000 in
theorem s_X5_hear_b3 {T1 : AT} : ∀ n : Nat, ∀ (T : AT) (l0 : Nat) (l1 : Nat) (l2 : Nat) (l3 : Int32) (l4 : Int32) (l5 : Int32) (l6 : Int32), g_X5_hear_b3 n T l0 l1 l2 l3 l4 l5 l6 = some T1 → SP T T1 := by
  intro n
  induction n with
  | zero =>
    intro T l0 l1 l2 l3 l4 l5 l6 h
    have h : (none : Option (AT)) = some T1 := h
    cases h
  | succ n ih =>
    intro T l0 l1 l2 l3 l4 l5 l6 h
    have p0 := SP.rf T
    unfold g_X5_hear_b3 at h
    obtain ⟨g2, h⟩ := oif_some h
    obtain ⟨v3, -, h⟩ := elet_some h
    rcases oif_or h with ⟨c4, h⟩ | ⟨c4, h⟩
    · have h := h
      rw [← osome1 h]
      exact p0
    · have h := h
      obtain ⟨g5, h⟩ := oif_some h
      obtain ⟨n6, en6, h⟩ := obind_some h
      obtain ⟨g7, h⟩ := oif_some h
      obtain ⟨g8, h⟩ := oif_some h
      obtain ⟨n9, en9, h⟩ := obind_some h
      obtain ⟨g10, h⟩ := oif_some h
      obtain ⟨r12, T11, eT11, h⟩ := obind2_some h
      have p1 : SP T T11 := SP.tr p0 (s_X6_delayFrom eT11)
      obtain ⟨r14, T13, eT13, h⟩ := obind2_some h
      have p2 : SP T T13 := SP.tr p1 (s_X5_arriving eT13)
      exact SP.tr p2 (s_X5_hear_b42 ih _ _ _ _ _ _ _ _ _ _ _ _ h)
set_option maxHeartbeats 4000000 in
set_option maxRecDepth 100000 in
theorem s_X5_hear {T : AT} {o : Nat} {a0 : Nat} {a1 : Nat} {a2 : Int32} {a3 : Int32} {a4 : Int32} {T1 : AT} (h : g_X5_hear T o a0 a1 a2 a3 a4 = some T1) : SP T T1 := by
  have p0 := SP.rf T
  unfold g_X5_hear at h
  exact SP.tr p0 (s_X5_hear_b3 _ _ _ _ _ _ _ _ _ h)
def g_X5_record_b104  (T : AT)  : Option (AT) := some T
def g_X5_record_b92 (k6 : AT → Nat → Nat → Nat → Int32 → Option (AT)) (T : AT) (l0 : Nat) (l1 : Nat) (l2 : Nat) (l3 : Int32) : Option (AT) := elet (l3 + Int32.ofInt (1)) fun v2 => k6 T l0 l1 l2 v2
def g_X5_record_b34 (k6 : AT → Nat → Nat → Nat → Int32 → Option (AT)) : Nat → AT → Nat → Nat → Nat → Int32 → Nat → Int32 → Option (AT)
  | 0, _, _, _, _, _, _, _ => none
  | n + 1, T, l0, l1, l2, l3, l4, l5 => oif (oO T l1 6 = true) <| elet (T.2.2.1 l1 2) fun v3 => if v3 ≤ l5 then (g_X5_record_b92 k6 T l0 l1 l2 l3) else (oif (oO T l2 8 = true) <| obind (T.2.2.2.2 l2 6) fun n6 => oif (aA T n6 100 = true) <| oif (inb l3 (T.2.1 n6).2 = true) <| elet (T.2.2.1 n6 l3.toNatClampNeg) fun v9 => oif (oO T l2 8 = true) <| obind (T.2.2.2.2 l2 8) fun n11 => oif (aA T n11 100 = true) <| oif (inb l3 (T.2.1 n11).2 = true) <| elet (T.2.2.1 n11 l3.toNatClampNeg) fun v14 => obind (g_X11_moved v9 v14 l5) fun r15 => oif (oO T l2 8 = true) <| obind (T.2.2.2.2 l2 7) fun n18 => oif (aA T n18 100 = true) <| oif (inb l3 (T.2.1 n18).2 = true) <| elet (T.2.2.1 n18 l3.toNatClampNeg) fun v21 => oif (oO T l2 8 = true) <| obind (T.2.2.2.2 l2 9) fun n23 => oif (aA T n23 100 = true) <| oif (inb l3 (T.2.1 n23).2 = true) <| elet (T.2.2.1 n23 l3.toNatClampNeg) fun v26 => obind (g_X11_moved v21 v26 l5) fun r27 => oif (oO T l0 5 = true) <| obind (g_X5_hear T l0 l1 l4 r15 r27 l5) fun T30 => elet (l5 + Int32.ofInt (1)) fun v32 => g_X5_record_b34 k6 n T30 l0 l1 l2 l3 l4 v32)
def g_X5_record_b6  : Nat → AT → Nat → Nat → Nat → Int32 → Option (AT)
  | 0, _, _, _, _, _ => none
  | n + 1, T, l0, l1, l2, l3 => oif (oO T l1 6 = true) <| elet (T.2.2.1 l1 8) fun v3 => if v3 ≤ l3 then (oif (oO T l0 5 = true) <| obind (g_X5_finish T l0 l1 l2) fun T6 => g_X5_record_b104 T6) else (oif (oO T l2 8 = true) <| obind (T.2.2.2.2 l2 5) fun n9 => oif (aA T n9 102 = true) <| oif (inb l3 (T.2.1 n9).2 = true) <| elet (T.2.2.1 n9 l3.toNatClampNeg) fun v12 => if v12 = 0 then (g_X5_record_b92 (g_X5_record_b6 n) T l0 l1 l2 l3) else (oif (oO T l1 6 = true) <| obind (T.2.2.2.2 l1 7) fun n15 => oif (aA T n15 104 = true) <| oif (inb l3 (T.2.1 n15).2 = true) <| obind (T.2.2.2.2 n15 l3.toNatClampNeg) fun n18 => g_X5_record_b34 (g_X5_record_b6 n) 16384 T l0 l1 l2 l3 n18 0))
def g_X5_record (T : AT) (o : Nat) (a0 : Nat) (a1 : Nat) : Option (AT) := oif (oO T o 5 = true) <| obind (g_X5_silence T o) fun T3 => g_X5_record_b6 16384 T3 o a0 a1 0
set_option maxHeartbeats 4000000 in
set_option maxRecDepth 100000 in
theorem s_X5_record_b104 {T1 : AT} : ∀ (T : AT), g_X5_record_b104 T = some T1 → GL T T1 := by
  intro T h
  have p0 := GL.rf T
  unfold g_X5_record_b104 at h
  rw [← osome1 h]
  exact p0
set_option maxHeartbeats 4000000 in
set_option maxRecDepth 100000 in
theorem s_X5_record_b92 {T1 : AT} {k6 : AT → Nat → Nat → Nat → Int32 → Option (AT)} (hk6 : ∀ (T : AT) (l0 : Nat) (l1 : Nat) (l2 : Nat) (l3 : Int32), k6 T l0 l1 l2 l3 = some T1 → GL T T1) : ∀ (T : AT) (l0 : Nat) (l1 : Nat) (l2 : Nat) (l3 : Int32), g_X5_record_b92 k6 T l0 l1 l2 l3 = some T1 → GL T T1 := by
  intro T l0 l1 l2 l3 h
  have p0 := GL.rf T
  unfold g_X5_record_b92 at h
  obtain ⟨v2, ev2, h⟩ := elet_some h
  exact GL.tr p0 (hk6 _ _ _ _ _ h)
set_option maxHeartbeats 4000000 in
set_option maxRecDepth 100000 in
theorem s_X5_record_b34 {T1 : AT} {k6 : AT → Nat → Nat → Nat → Int32 → Option (AT)} (hk6 : ∀ (T : AT) (l0 : Nat) (l1 : Nat) (l2 : Nat) (l3 : Int32), k6 T l0 l1 l2 l3 = some T1 → GL T T1) : ∀ n : Nat, ∀ (T : AT) (l0 : Nat) (l1 : Nat) (l2 : Nat) (l3 : Int32) (l4 : Nat) (l5 : Int32), g_X5_record_b34 k6 n T l0 l1 l2 l3 l4 l5 = some T1 → GL T T1 := by
  intro n
  induction n with
  | zero =>
    intro T l0 l1 l2 l3 l4 l5 h
    have h : (none : Option (AT)) = some T1 := h
    cases h
  | succ n ih =>
    intro T l0 l1 l2 l3 l4 l5 h
    have p0 := GL.rf T
    unfold g_X5_record_b34 at h
    obtain ⟨g2, h⟩ := oif_some h
    obtain ⟨v3, -, h⟩ := elet_some h
    rcases oif_or h with ⟨c4, h⟩ | ⟨c4, h⟩
    · have h := h
      exact GL.tr p0 (s_X5_record_b92 hk6 _ _ _ _ _ h)
    · have h := h
      obtain ⟨g5, h⟩ := oif_some h
      obtain ⟨n6, en6, h⟩ := obind_some h
      obtain ⟨g7, h⟩ := oif_some h
      obtain ⟨g8, h⟩ := oif_some h
      obtain ⟨v9, -, h⟩ := elet_some h
      obtain ⟨g10, h⟩ := oif_some h
      obtain ⟨n11, en11, h⟩ := obind_some h
      obtain ⟨g12, h⟩ := oif_some h
      obtain ⟨g13, h⟩ := oif_some h
      obtain ⟨v14, -, h⟩ := elet_some h
      obtain ⟨r15, -, h⟩ := obind_some h
      obtain ⟨g16, h⟩ := oif_some h
      obtain ⟨n17, en17, h⟩ := obind_some h
      obtain ⟨g18, h⟩ := oif_some h
      obtain ⟨g19, h⟩ := oif_some h
      obtain ⟨v20, -, h⟩ := elet_some h
      obtain ⟨g21, h⟩ := oif_some h
      obtain ⟨n22, en22, h⟩ := obind_some h
      obtain ⟨g23, h⟩ := oif_some h
      obtain ⟨g24, h⟩ := oif_some h
      obtain ⟨v25, -, h⟩ := elet_some h
      obtain ⟨r26, -, h⟩ := obind_some h
      obtain ⟨g27, h⟩ := oif_some h
      obtain ⟨T28, eT28, h⟩ := obind_some h
      have p1 : GL T T28 := GL.tr p0 (gl_sp (s_X5_hear eT28))
      obtain ⟨v30, ev30, h⟩ := elet_some h
      exact GL.tr p1 (ih _ _ _ _ _ _ _ h)
set_option maxHeartbeats 4000000 in
set_option maxRecDepth 100000 in
theorem s_X5_record_b6 {T1 : AT} : ∀ n : Nat, ∀ (T : AT) (l0 : Nat) (l1 : Nat) (l2 : Nat) (l3 : Int32), g_X5_record_b6 n T l0 l1 l2 l3 = some T1 → GL T T1 := by
  intro n
  induction n with
  | zero =>
    intro T l0 l1 l2 l3 h
    have h : (none : Option (AT)) = some T1 := h
    cases h
  | succ n ih =>
    intro T l0 l1 l2 l3 h
    have p0 := GL.rf T
    unfold g_X5_record_b6 at h
    obtain ⟨g2, h⟩ := oif_some h
    obtain ⟨v3, -, h⟩ := elet_some h
    rcases oif_or h with ⟨c4, h⟩ | ⟨c4, h⟩
    · have h := h
      obtain ⟨g5, h⟩ := oif_some h
      obtain ⟨T6, eT6, h⟩ := obind_some h
      have p1 : GL T T6 := GL.tr p0 (s_X5_finish eT6)
      exact GL.tr p1 (s_X5_record_b104 _ h)
    · have h := h
      obtain ⟨g8, h⟩ := oif_some h
      obtain ⟨n9, en9, h⟩ := obind_some h
      obtain ⟨g10, h⟩ := oif_some h
      obtain ⟨g11, h⟩ := oif_some h
      obtain ⟨v12, -, h⟩ := elet_some h
      rcases oif_or h with ⟨c13, h⟩ | ⟨c13, h⟩
      · have h := h
        exact GL.tr p0 (s_X5_record_b92 ih _ _ _ _ _ h)
      · have h := h
        obtain ⟨g14, h⟩ := oif_some h
        obtain ⟨n15, en15, h⟩ := obind_some h
        obtain ⟨g16, h⟩ := oif_some h
        obtain ⟨g17, h⟩ := oif_some h
        obtain ⟨n18, en18, h⟩ := obind_some h
        exact GL.tr p0 (s_X5_record_b34 ih _ _ _ _ _ _ _ _ h)
set_option maxHeartbeats 4000000 in
set_option maxRecDepth 100000 in
theorem s_X5_record {T : AT} {o : Nat} {a0 : Nat} {a1 : Nat} {T1 : AT} (h : g_X5_record T o a0 a1 = some T1) : GL T T1 := by
  have p0 := GL.rf T
  unfold g_X5_record at h
  obtain ⟨g2, h⟩ := oif_some h
  obtain ⟨T3, eT3, h⟩ := obind_some h
  have p1 : GL T T3 := GL.tr p0 (gl_sp (s_X5_silence eT3))
  exact GL.tr p1 (s_X5_record_b6 _ _ _ _ _ _ h)
set_option maxHeartbeats 4000000 in
set_option maxRecDepth 100000 in
theorem a_X5_record_b104 {p : Program} {l : Launch} {e : Env} {s : State} {m : MethodId} {args : Array Value} {below : List Frame} {meth : Method} {c : Code} {Q : State → Prop} {D : va_G} {A : Nat → Prop} {cI cJ cZ cMic cSrc cSt cAI cAJ : ClassId} {ad0 : Nat → Nat} {T0 : AT} {T1 : AT} (E : cE p c cX5_record s m args (Cond.code yX5_record cX5_record 6 none :: wsA) D RX5 (CT cI cJ cZ cMic cSrc cSt cAI cAJ)) (hA : ∀ q : Nat, s.heap.size ≤ q → A q) (hX : xT A s) (hN : nX s) (hml : c.maxLocals = 6) (hst : l.stackTraces = false) (kr104 : ∀ (ad : Nat → Nat) (H : Heap) (locs : List Loc) (ls : Array Slot), (∀ n, n < T0.1 → ad n = ad0 n) → gC cI cJ cZ cMic cSrc cSt cAI cAJ D ad A s.heap H locs T1 → W p l e { frames := 5, cells := T1.1 - T0.1, slots := sg T1 - sg T0, locals := 99 } s m args below meth c H locs (T1.1 - T0.1) (sg T1 - sg T0) Q (F0 m 104 ls [])) : ∀ (T : AT) (ad : Nat → Nat) (H : Heap) (locs : List Loc) (ls : Array Slot), g_X5_record_b104 T = some T1 → GL T0 T → RC T → (∀ n, n < T0.1 → ad n = ad0 n) → gC cI cJ cZ cMic cSrc cSt cAI cAJ D ad A s.heap H locs T → lv_has ls 6 [] → W p l e { frames := 5, cells := T1.1 - T0.1, slots := sg T1 - sg T0, locals := 99 } s m args below meth c H locs (T.1 - T0.1) (sg T - sg T0) Q (F0 m 104 ls []) := by
  have hx := E.1
  have hb := E.2.1
  have hts := E.2.2.1
  have hown := E.2.2.2.1
  have hK := E.2.2.2.2
  intro T ad H locs ls h hgl hrc had G hl
  have hT1 := s_X5_record_b104 _ h
  have hcs := cs_ok hgl hT1
  have cp0 := cpr0 hrc
  unfold g_X5_record_b104 at h
  rw [osome1 h] at G
  refine w_cast (c2 := T1.1 - T0.1) (s2 := sg T1 - sg T0) (by rw [← osome1 h, cp0.1] <;> rfl) (by rw [← osome1 h, sg_cpr cp0] <;> rfl) ?_
  exact kr104 ad _ _ _ had G
set_option maxHeartbeats 4000000 in
set_option maxRecDepth 100000 in
theorem a_X5_record_b92 {p : Program} {l : Launch} {e : Env} {s : State} {m : MethodId} {args : Array Value} {below : List Frame} {meth : Method} {c : Code} {Q : State → Prop} {D : va_G} {A : Nat → Prop} {cI cJ cZ cMic cSrc cSt cAI cAJ : ClassId} {ad0 : Nat → Nat} {T0 : AT} {T1 : AT} (E : cE p c cX5_record s m args (Cond.code yX5_record cX5_record 6 none :: wsA) D RX5 (CT cI cJ cZ cMic cSrc cSt cAI cAJ)) (hA : ∀ q : Nat, s.heap.size ≤ q → A q) (hX : xT A s) (hN : nX s) (hml : c.maxLocals = 6) (hst : l.stackTraces = false) (kr104 : ∀ (ad : Nat → Nat) (H : Heap) (locs : List Loc) (ls : Array Slot), (∀ n, n < T0.1 → ad n = ad0 n) → gC cI cJ cZ cMic cSrc cSt cAI cAJ D ad A s.heap H locs T1 → W p l e { frames := 5, cells := T1.1 - T0.1, slots := sg T1 - sg T0, locals := 99 } s m args below meth c H locs (T1.1 - T0.1) (sg T1 - sg T0) Q (F0 m 104 ls [])) {k6 : AT → Nat → Nat → Nat → Int32 → Option (AT)} (hs6 : ∀ (T : AT) (l0 : Nat) (l1 : Nat) (l2 : Nat) (l3 : Int32), k6 T l0 l1 l2 l3 = some T1 → GL T T1) (hk6 : ∀ (T : AT) (ad : Nat → Nat) (H : Heap) (locs : List Loc) (ls : Array Slot) (l0 : Nat) (l1 : Nat) (l2 : Nat) (l3 : Int32), k6 T l0 l1 l2 l3 = some T1 → GL T0 T → RC T → (∀ n, n < T0.1 → ad n = ad0 n) → l0 < T.1 → l1 < T.1 → l2 < T.1 → gC cI cJ cZ cMic cSrc cSt cAI cAJ D ad A s.heap H locs T → lv_has ls 6 [(0, .ref (ad l0)), (1, .ref (ad l1)), (2, .ref (ad l2)), (3, .int l3)] → W p l e { frames := 5, cells := T1.1 - T0.1, slots := sg T1 - sg T0, locals := 99 } s m args below meth c H locs (T.1 - T0.1) (sg T - sg T0) Q (F0 m 6 ls [])) : ∀ (T : AT) (ad : Nat → Nat) (H : Heap) (locs : List Loc) (ls : Array Slot) (l0 : Nat) (l1 : Nat) (l2 : Nat) (l3 : Int32), g_X5_record_b92 k6 T l0 l1 l2 l3 = some T1 → GL T0 T → RC T → (∀ n, n < T0.1 → ad n = ad0 n) → l0 < T.1 → l1 < T.1 → l2 < T.1 → gC cI cJ cZ cMic cSrc cSt cAI cAJ D ad A s.heap H locs T → lv_has ls 6 [(0, .ref (ad l0)), (1, .ref (ad l1)), (2, .ref (ad l2)), (3, .int l3)] → W p l e { frames := 5, cells := T1.1 - T0.1, slots := sg T1 - sg T0, locals := 99 } s m args below meth c H locs (T.1 - T0.1) (sg T - sg T0) Q (F0 m 92 ls []) := by
  have hx := E.1
  have hb := E.2.1
  have hts := E.2.2.1
  have hown := E.2.2.2.1
  have hK := E.2.2.2.2
  intro T ad H locs ls l0 l1 l2 l3 h hgl hrc had h_l0 h_l1 h_l2 G hl
  have hT1 := s_X5_record_b92 hs6 _ _ _ _ _ h
  have hcs := cs_ok hgl hT1
  have cp0 := cpr0 hrc
  unfold g_X5_record_b92 at h
  obtain ⟨v2, ev2, h⟩ := elet_some h
  refine lv_iinc (v := v2) (lv' := [(3, .int v2), (0, .ref (ad l0)), (1, .ref (ad l1)), (2, .ref (ad l2))]) hx hb dX5_record_92 hl (k := 3) rfl ev2.symm (by decide) rfl (fun ls hl => ?_)
  refine lv_goto (tgt := 6) hx hb dX5_record_95 (by decide) ?_
  have hl := lv_sub hl [1, 2, 3, 0] rfl
  refine w_cast (c2 := T.1 - T0.1) (s2 := sg T - sg T0) (by rw [cp0.1] <;> rfl) (by rw [sg_cpr cp0] <;> rfl) ?_
  exact hk6 _ _ _ _ _ _ _ _ _ h (gl_cpr hgl cp0) cp0.2.2 had (by rw [cp0.1]; exact h_l0) (by rw [cp0.1]; exact h_l1) (by rw [cp0.1]; exact h_l2) G hl
set_option maxHeartbeats 4000000 in
set_option maxRecDepth 100000 in
theorem a_X5_record_b34 {p : Program} {l : Launch} {e : Env} {s : State} {m : MethodId} {args : Array Value} {below : List Frame} {meth : Method} {c : Code} {Q : State → Prop} {D : va_G} {A : Nat → Prop} {cI cJ cZ cMic cSrc cSt cAI cAJ : ClassId} {ad0 : Nat → Nat} {T0 : AT} {T1 : AT} (E : cE p c cX5_record s m args (Cond.code yX5_record cX5_record 6 none :: wsA) D RX5 (CT cI cJ cZ cMic cSrc cSt cAI cAJ)) (hA : ∀ q : Nat, s.heap.size ≤ q → A q) (hX : xT A s) (hN : nX s) (hml : c.maxLocals = 6) (hst : l.stackTraces = false) (kr104 : ∀ (ad : Nat → Nat) (H : Heap) (locs : List Loc) (ls : Array Slot), (∀ n, n < T0.1 → ad n = ad0 n) → gC cI cJ cZ cMic cSrc cSt cAI cAJ D ad A s.heap H locs T1 → W p l e { frames := 5, cells := T1.1 - T0.1, slots := sg T1 - sg T0, locals := 99 } s m args below meth c H locs (T1.1 - T0.1) (sg T1 - sg T0) Q (F0 m 104 ls [])) {k6 : AT → Nat → Nat → Nat → Int32 → Option (AT)} (hs6 : ∀ (T : AT) (l0 : Nat) (l1 : Nat) (l2 : Nat) (l3 : Int32), k6 T l0 l1 l2 l3 = some T1 → GL T T1) (hk6 : ∀ (T : AT) (ad : Nat → Nat) (H : Heap) (locs : List Loc) (ls : Array Slot) (l0 : Nat) (l1 : Nat) (l2 : Nat) (l3 : Int32), k6 T l0 l1 l2 l3 = some T1 → GL T0 T → RC T → (∀ n, n < T0.1 → ad n = ad0 n) → l0 < T.1 → l1 < T.1 → l2 < T.1 → gC cI cJ cZ cMic cSrc cSt cAI cAJ D ad A s.heap H locs T → lv_has ls 6 [(0, .ref (ad l0)), (1, .ref (ad l1)), (2, .ref (ad l2)), (3, .int l3)] → W p l e { frames := 5, cells := T1.1 - T0.1, slots := sg T1 - sg T0, locals := 99 } s m args below meth c H locs (T.1 - T0.1) (sg T - sg T0) Q (F0 m 6 ls [])) : ∀ n : Nat, ∀ (T : AT) (ad : Nat → Nat) (H : Heap) (locs : List Loc) (ls : Array Slot) (l0 : Nat) (l1 : Nat) (l2 : Nat) (l3 : Int32) (l4 : Nat) (l5 : Int32), g_X5_record_b34 k6 n T l0 l1 l2 l3 l4 l5 = some T1 → GL T0 T → RC T → (∀ n, n < T0.1 → ad n = ad0 n) → l0 < T.1 → l1 < T.1 → l2 < T.1 → l4 < T.1 → gC cI cJ cZ cMic cSrc cSt cAI cAJ D ad A s.heap H locs T → lv_has ls 6 [(0, .ref (ad l0)), (1, .ref (ad l1)), (2, .ref (ad l2)), (3, .int l3), (4, .ref (ad l4)), (5, .int l5)] → W p l e { frames := 5, cells := T1.1 - T0.1, slots := sg T1 - sg T0, locals := 99 } s m args below meth c H locs (T.1 - T0.1) (sg T - sg T0) Q (F0 m 34 ls []) := by
  have hx := E.1
  have hb := E.2.1
  have hts := E.2.2.1
  have hown := E.2.2.2.1
  have hK := E.2.2.2.2
  intro n
  induction n with
  | zero =>
    intro T ad H locs ls l0 l1 l2 l3 l4 l5 h
    have h : (none : Option (AT)) = some T1 := h
    cases h
  | succ n ih =>
    intro T ad H locs ls l0 l1 l2 l3 l4 l5 h hgl hrc had h_l0 h_l1 h_l2 h_l4 G hl
    have hT1 := s_X5_record_b34 hs6 _ _ _ _ _ _ _ _ h
    have hcs := cs_ok hgl hT1
    have cp0 := cpr0 hrc
    unfold g_X5_record_b34 at h
    refine lv_iload hx hb dX5_record_34 (lv_at hl 5 rfl) ?_
    refine lv_aload_n hx hb dX5_record_36 rfl (lv_at hl 1 rfl) ?_
    obtain ⟨g2, h⟩ := oif_some h
    refine c_get E G l1 2 (oO_k g2).1 (cc_o6 (oO_k g2).2) rfl (fun w h => .tail _ (iA_14 h)) (by decide) (.tail _ qA_467) rfl rfl dX5_record_37 ?_
    refine lv_topi (fun v3 ev3 => ?_)
    have h := elet_at ev3 h
    clear ev3
    refine lv_icmp_ge (tgt := 92) hx hb dX5_record_40 (by decide) (fun c4 => ?_) (fun c4 => ?_)
    · have h := oif_pos c4 h
      have hl := lv_sub hl [0, 1, 2, 3] rfl
      refine w_cast (c2 := T.1 - T0.1) (s2 := sg T - sg T0) (by rw [cp0.1] <;> rfl) (by rw [sg_cpr cp0] <;> rfl) ?_
      exact a_X5_record_b92 E hA hX hN hml hst kr104 hs6 hk6 _ _ _ _ _ _ _ _ _ h (gl_cpr hgl cp0) cp0.2.2 had (by rw [cp0.1]; exact h_l0) (by rw [cp0.1]; exact h_l1) (by rw [cp0.1]; exact h_l2) G hl
    · have h := oif_neg c4 h
      refine lv_aload_n hx hb dX5_record_43 rfl (lv_at hl 0 rfl) ?_
      refine lv_aload_n hx hb dX5_record_44 rfl (lv_at hl 1 rfl) ?_
      refine lv_aload hx hb dX5_record_45 (lv_at hl 4 rfl) ?_
      refine lv_aload_n hx hb dX5_record_47 rfl (lv_at hl 2 rfl) ?_
      obtain ⟨g5, h⟩ := oif_some h
      obtain ⟨n6, en6, h⟩ := obind_some h
      have h_n6 : n6 < T.1 := by rw [← cp0.1]; exact cp0.2.2 _ _ _ en6
      refine c_get E G l2 6 (v := .ref (ad n6)) (oO_k g5).1 (cc_o8 (oO_k g5).2) rfl (fun w h => .tail _ (iA_16 h)) (by decide) (.tail _ qA_468) rfl (by rw [en6]; rfl) dX5_record_48 ?_
      clear en6
      refine lv_iload_n hx hb dX5_record_51 rfl (lv_at hl 3 rfl) ?_
      obtain ⟨g7, h⟩ := oif_some h
      obtain ⟨g8, h⟩ := oif_some h
      refine c_iald E G n6 0 (k := l3.toNatClampNeg) (aA_k g7).1 (cc_a100 (aA_k g7).2.1) rfl (inb_k g8).1 (inb_k g8).2 (aA_k g7).2.2 dX5_record_52 ?_
      refine lv_topi (fun v9 ev9 => ?_)
      have h := elet_at ev9 h
      clear ev9
      refine lv_aload_n hx hb dX5_record_53 rfl (lv_at hl 2 rfl) ?_
      obtain ⟨g10, h⟩ := oif_some h
      obtain ⟨n11, en11, h⟩ := obind_some h
      have h_n11 : n11 < T.1 := by rw [← cp0.1]; exact cp0.2.2 _ _ _ en11
      refine c_get E G l2 8 (v := .ref (ad n11)) (oO_k g10).1 (cc_o8 (oO_k g10).2) rfl (fun w h => .tail _ (iA_16 h)) (by decide) (.tail _ qA_469) rfl (by rw [en11]; rfl) dX5_record_54 ?_
      clear en11
      refine lv_iload_n hx hb dX5_record_57 rfl (lv_at hl 3 rfl) ?_
      obtain ⟨g12, h⟩ := oif_some h
      obtain ⟨g13, h⟩ := oif_some h
      refine c_iald E G n11 0 (k := l3.toNatClampNeg) (aA_k g12).1 (cc_a100 (aA_k g12).2.1) rfl (inb_k g13).1 (inb_k g13).2 (aA_k g12).2.2 dX5_record_58 ?_
      refine lv_topi (fun v14 ev14 => ?_)
      have h := elet_at ev14 h
      clear ev14
      refine lv_iload hx hb dX5_record_59 (lv_at hl 5 rfl) ?_
      obtain ⟨r15, er15, h⟩ := obind_some h
      refine q_stiN (As := [.int v9, .int v14, .int l5]) (rest := [.ref (ad l4), .ref (ad l1), .ref (ad l0)]) ⟨hx, hb, hml, hown, hts⟩ hN (u_X11_moved l v9 v14 l5 er15) ⟨va_cnB (host := "AcousticCamera") 3 hts (gaC qA_482) rfl rfl rfl (hN.2.2.2.2.2 _ (List.mem_of_getElem? (i := 13) rfl)) (hts _ (.tail _ qA_131)) (by decide +kernel) ⟨Nat.le_of_ble_eq_true rfl, Nat.le_of_ble_eq_true rfl⟩, hts _ (.tail _ qA_481), trivial⟩ rfl hl.1 rfl (lv_room (Nat.le_of_ble_eq_true rfl)) dX5_record_61 hcs (fun q16 hq => ?_)
      refine lv_to hq ?_
      clear hq er15
      refine lv_aload_n hx hb dX5_record_64 rfl (lv_at hl 2 rfl) ?_
      obtain ⟨g17, h⟩ := oif_some h
      obtain ⟨n18, en18, h⟩ := obind_some h
      have h_n18 : n18 < T.1 := by rw [← cp0.1]; exact cp0.2.2 _ _ _ en18
      refine c_get E G l2 7 (v := .ref (ad n18)) (oO_k g17).1 (cc_o8 (oO_k g17).2) rfl (fun w h => .tail _ (iA_16 h)) (by decide) (.tail _ qA_470) rfl (by rw [en18]; rfl) dX5_record_65 ?_
      clear en18
      refine lv_iload_n hx hb dX5_record_68 rfl (lv_at hl 3 rfl) ?_
      obtain ⟨g19, h⟩ := oif_some h
      obtain ⟨g20, h⟩ := oif_some h
      refine c_iald E G n18 0 (k := l3.toNatClampNeg) (aA_k g19).1 (cc_a100 (aA_k g19).2.1) rfl (inb_k g20).1 (inb_k g20).2 (aA_k g19).2.2 dX5_record_69 ?_
      refine lv_topi (fun v21 ev21 => ?_)
      have h := elet_at ev21 h
      clear ev21
      refine lv_aload_n hx hb dX5_record_70 rfl (lv_at hl 2 rfl) ?_
      obtain ⟨g22, h⟩ := oif_some h
      obtain ⟨n23, en23, h⟩ := obind_some h
      have h_n23 : n23 < T.1 := by rw [← cp0.1]; exact cp0.2.2 _ _ _ en23
      refine c_get E G l2 9 (v := .ref (ad n23)) (oO_k g22).1 (cc_o8 (oO_k g22).2) rfl (fun w h => .tail _ (iA_16 h)) (by decide) (.tail _ qA_471) rfl (by rw [en23]; rfl) dX5_record_71 ?_
      clear en23
      refine lv_iload_n hx hb dX5_record_74 rfl (lv_at hl 3 rfl) ?_
      obtain ⟨g24, h⟩ := oif_some h
      obtain ⟨g25, h⟩ := oif_some h
      refine c_iald E G n23 0 (k := l3.toNatClampNeg) (aA_k g24).1 (cc_a100 (aA_k g24).2.1) rfl (inb_k g25).1 (inb_k g25).2 (aA_k g24).2.2 dX5_record_75 ?_
      refine lv_topi (fun v26 ev26 => ?_)
      have h := elet_at ev26 h
      clear ev26
      refine lv_iload hx hb dX5_record_76 (lv_at hl 5 rfl) ?_
      obtain ⟨r27, er27, h⟩ := obind_some h
      refine q_stiN (As := [.int v21, .int v26, .int l5]) (rest := [.int r15, .ref (ad l4), .ref (ad l1), .ref (ad l0)]) ⟨hx, hb, hml, hown, hts⟩ hN (u_X11_moved l v21 v26 l5 er27) ⟨va_cnB (host := "AcousticCamera") 3 hts (gaC qA_482) rfl rfl rfl (hN.2.2.2.2.2 _ (List.mem_of_getElem? (i := 13) rfl)) (hts _ (.tail _ qA_131)) (by decide +kernel) ⟨Nat.le_of_ble_eq_true rfl, Nat.le_of_ble_eq_true rfl⟩, hts _ (.tail _ qA_481), trivial⟩ rfl hl.1 rfl (lv_room (Nat.le_of_ble_eq_true rfl)) dX5_record_78 hcs (fun q28 hq => ?_)
      refine lv_to hq ?_
      clear hq er27
      refine lv_iload hx hb dX5_record_81 (lv_at hl 5 rfl) ?_
      obtain ⟨g29, h⟩ := oif_some h
      obtain ⟨T30, eT30, h⟩ := obind_some h
      refine q_cvv (As := [.ref (ad l1), .ref (ad l4), .int r15, .int r27, .int l5]) (rest := []) E G hA hX hN hml (u_X5_hear l hst D cI cJ cZ cMic cSrc cSt cAI cAJ ad T l0 l1 l4 r15 r27 l5 eT30) (cwV 5 hts (gaV qA_483 qA_484 qA_485 qA_475 qA_486) rfl rfl rfl (by decide +kernel) ⟨Nat.le_of_ble_eq_true rfl, Nat.le_of_ble_eq_true rfl⟩) (oO_k g29).1 (cc_o5 (oO_k g29).2) rfl rfl hl.1 rfl (lv_room (Nat.le_of_ble_eq_true rfl)) dX5_record_83 hcs (fun T31 H locs hq G => ?_)
      rw [hq] at G
      clear hq
      have cp1 := cpr_sp cp0 (s_X5_hear eT30)
      obtain ⟨v32, ev32, h⟩ := elet_some h
      refine lv_iinc (v := v32) (lv' := [(5, .int v32), (0, .ref (ad l0)), (1, .ref (ad l1)), (2, .ref (ad l2)), (3, .int l3), (4, .ref (ad l4))]) hx hb dX5_record_86 hl (k := 5) rfl ev32.symm (by decide) rfl (fun ls hl => ?_)
      refine lv_goto (tgt := 34) hx hb dX5_record_89 (by decide) ?_
      have hl := lv_sub hl [1, 2, 3, 4, 5, 0] rfl
      refine w_cast (c2 := T30.1 - T0.1) (s2 := sg T30 - sg T0) (by rw [cp1.1] <;> rfl) (by rw [sg_cpr cp1] <;> rfl) ?_
      exact ih _ _ _ _ _ _ _ _ _ _ _ h (gl_cpr hgl cp1) cp1.2.2 had (by rw [cp1.1]; exact h_l0) (by rw [cp1.1]; exact h_l1) (by rw [cp1.1]; exact h_l2) (by rw [cp1.1]; exact h_l4) G hl
set_option maxHeartbeats 4000000 in
set_option maxRecDepth 100000 in
theorem a_X5_record_b6 {p : Program} {l : Launch} {e : Env} {s : State} {m : MethodId} {args : Array Value} {below : List Frame} {meth : Method} {c : Code} {Q : State → Prop} {D : va_G} {A : Nat → Prop} {cI cJ cZ cMic cSrc cSt cAI cAJ : ClassId} {ad0 : Nat → Nat} {T0 : AT} {T1 : AT} (E : cE p c cX5_record s m args (Cond.code yX5_record cX5_record 6 none :: wsA) D RX5 (CT cI cJ cZ cMic cSrc cSt cAI cAJ)) (hA : ∀ q : Nat, s.heap.size ≤ q → A q) (hX : xT A s) (hN : nX s) (hml : c.maxLocals = 6) (hst : l.stackTraces = false) (kr104 : ∀ (ad : Nat → Nat) (H : Heap) (locs : List Loc) (ls : Array Slot), (∀ n, n < T0.1 → ad n = ad0 n) → gC cI cJ cZ cMic cSrc cSt cAI cAJ D ad A s.heap H locs T1 → W p l e { frames := 5, cells := T1.1 - T0.1, slots := sg T1 - sg T0, locals := 99 } s m args below meth c H locs (T1.1 - T0.1) (sg T1 - sg T0) Q (F0 m 104 ls [])) : ∀ n : Nat, ∀ (T : AT) (ad : Nat → Nat) (H : Heap) (locs : List Loc) (ls : Array Slot) (l0 : Nat) (l1 : Nat) (l2 : Nat) (l3 : Int32), g_X5_record_b6 n T l0 l1 l2 l3 = some T1 → GL T0 T → RC T → (∀ n, n < T0.1 → ad n = ad0 n) → l0 < T.1 → l1 < T.1 → l2 < T.1 → gC cI cJ cZ cMic cSrc cSt cAI cAJ D ad A s.heap H locs T → lv_has ls 6 [(0, .ref (ad l0)), (1, .ref (ad l1)), (2, .ref (ad l2)), (3, .int l3)] → W p l e { frames := 5, cells := T1.1 - T0.1, slots := sg T1 - sg T0, locals := 99 } s m args below meth c H locs (T.1 - T0.1) (sg T - sg T0) Q (F0 m 6 ls []) := by
  have hx := E.1
  have hb := E.2.1
  have hts := E.2.2.1
  have hown := E.2.2.2.1
  have hK := E.2.2.2.2
  intro n
  induction n with
  | zero =>
    intro T ad H locs ls l0 l1 l2 l3 h
    have h : (none : Option (AT)) = some T1 := h
    cases h
  | succ n ih =>
    intro T ad H locs ls l0 l1 l2 l3 h hgl hrc had h_l0 h_l1 h_l2 G hl
    have hT1 := s_X5_record_b6 _ _ _ _ _ _ h
    have hcs := cs_ok hgl hT1
    have cp0 := cpr0 hrc
    unfold g_X5_record_b6 at h
    refine lv_iload_n hx hb dX5_record_6 rfl (lv_at hl 3 rfl) ?_
    refine lv_aload_n hx hb dX5_record_7 rfl (lv_at hl 1 rfl) ?_
    obtain ⟨g2, h⟩ := oif_some h
    refine c_get E G l1 8 (oO_k g2).1 (cc_o6 (oO_k g2).2) rfl (fun w h => .tail _ (iA_14 h)) (by decide) (.tail _ qA_464) rfl rfl dX5_record_8 ?_
    refine lv_topi (fun v3 ev3 => ?_)
    have h := elet_at ev3 h
    clear ev3
    refine lv_icmp_ge (tgt := 98) hx hb dX5_record_11 (by decide) (fun c4 => ?_) (fun c4 => ?_)
    · have h := oif_pos c4 h
      refine lv_aload_n hx hb dX5_record_98 rfl (lv_at hl 0 rfl) ?_
      refine lv_aload_n hx hb dX5_record_99 rfl (lv_at hl 1 rfl) ?_
      refine lv_aload_n hx hb dX5_record_100 rfl (lv_at hl 2 rfl) ?_
      obtain ⟨g5, h⟩ := oif_some h
      obtain ⟨T6, eT6, h⟩ := obind_some h
      have hg2 := s_X5_finish eT6
      have hrc2 := hg2.2.2 cp0.2.2
      have hT2 := s_X5_record_b104 _ h
      refine q_avv (As := [.ref (ad l1), .ref (ad l2)]) (rest := []) E G hA hX hN hml (a_X5_finish l hst D cI cJ cZ cMic cSrc cSt cAI cAJ ad T l0 l1 l2 eT6 cp0.2.2 (by rw [cp0.1]; exact h_l0) (by rw [cp0.1]; exact h_l1) (by rw [cp0.1]; exact h_l2)) (cwV 2 hts (gaV qA_519 qA_520 qA_521 qA_475 qA_522) rfl rfl rfl (by decide +kernel) ⟨Nat.le_of_ble_eq_true rfl, Nat.le_of_ble_eq_true rfl⟩) (oO_k g5).1 (cc_o5 (oO_k g5).2) rfl rfl hl.1 rfl (lv_room (Nat.le_of_ble_eq_true rfl)) dX5_record_101 (cs_av hgl cp0 hg2 hT2) (fun ad2 H locs hga G => ?_)
      refine w_cast (c2 := T6.1 - T0.1) (s2 := sg T6 - sg T0) (cs_f1 hgl cp0 hg2) (cs_f2 hgl cp0 hg2) ?_
      have hl := lv_sub hl [] rfl
      exact a_X5_record_b104 E hA hX hN hml hst kr104 _ _ _ _ _ h (GL.tr (gl_cpr hgl cp0) hg2) hrc2 (fun n hn => (hga n (by rw [cp0.1]; exact Nat.lt_of_lt_of_le hn hgl.1)).trans (had n hn)) G hl
    · have h := oif_neg c4 h
      refine lv_aload_n hx hb dX5_record_14 rfl (lv_at hl 2 rfl) ?_
      obtain ⟨g8, h⟩ := oif_some h
      obtain ⟨n9, en9, h⟩ := obind_some h
      have h_n9 : n9 < T.1 := by rw [← cp0.1]; exact cp0.2.2 _ _ _ en9
      refine c_get E G l2 5 (v := .ref (ad n9)) (oO_k g8).1 (cc_o8 (oO_k g8).2) rfl (fun w h => .tail _ (iA_16 h)) (by decide) (.tail _ qA_465) rfl (by rw [en9]; rfl) dX5_record_15 ?_
      clear en9
      refine lv_iload_n hx hb dX5_record_18 rfl (lv_at hl 3 rfl) ?_
      obtain ⟨g10, h⟩ := oif_some h
      obtain ⟨g11, h⟩ := oif_some h
      refine c_zald E G n9 2 (k := l3.toNatClampNeg) (aA_k g10).1 (cc_a102 (aA_k g10).2.1) rfl (inb_k g11).1 (inb_k g11).2 (aA_k g10).2.2 dX5_record_19 ?_
      refine lv_topi (fun v12 ev12 => ?_)
      have h := elet_at ev12 h
      clear ev12
      refine lv_if_eq (tgt := 92) hx hb dX5_record_20 (by decide) (fun c13 => ?_) (fun c13 => ?_)
      · have h := oif_pos c13 h
        have hl := lv_sub hl [0, 1, 2, 3] rfl
        refine w_cast (c2 := T.1 - T0.1) (s2 := sg T - sg T0) (by rw [cp0.1] <;> rfl) (by rw [sg_cpr cp0] <;> rfl) ?_
        exact a_X5_record_b92 E hA hX hN hml hst kr104 (s_X5_record_b6 n) ih _ _ _ _ _ _ _ _ _ h (gl_cpr hgl cp0) cp0.2.2 had (by rw [cp0.1]; exact h_l0) (by rw [cp0.1]; exact h_l1) (by rw [cp0.1]; exact h_l2) G hl
      · have h := oif_neg c13 h
        refine lv_aload_n hx hb dX5_record_23 rfl (lv_at hl 1 rfl) ?_
        obtain ⟨g14, h⟩ := oif_some h
        obtain ⟨n15, en15, h⟩ := obind_some h
        have h_n15 : n15 < T.1 := by rw [← cp0.1]; exact cp0.2.2 _ _ _ en15
        refine c_get E G l1 7 (v := .ref (ad n15)) (oO_k g14).1 (cc_o6 (oO_k g14).2) rfl (fun w h => .tail _ (iA_14 h)) (by decide) (.tail _ qA_466) rfl (by rw [en15]; rfl) dX5_record_24 ?_
        clear en15
        refine lv_iload_n hx hb dX5_record_27 rfl (lv_at hl 3 rfl) ?_
        obtain ⟨g16, h⟩ := oif_some h
        obtain ⟨g17, h⟩ := oif_some h
        obtain ⟨n18, en18, h⟩ := obind_some h
        have h_n18 : n18 < T.1 := by rw [← cp0.1]; exact cp0.2.2 _ _ _ en18
        refine c_aldq E G n15 4 (k := l3.toNatClampNeg) (v := .ref (ad n18)) (aA_k g16).1 (cc_a104 (aA_k g16).2.1) rfl (inb_k g17).1 (inb_k g17).2 (aA_k g16).2.2 (by show va_rf ((T.2.2.2.2 n15 l3.toNatClampNeg).map ad) = _; rw [en18]; rfl) dX5_record_28 ?_
        clear en18
        refine lv_astore (lv' := [(4, .ref (ad n18)), (0, .ref (ad l0)), (1, .ref (ad l1)), (2, .ref (ad l2)), (3, .int l3)]) hx hb dX5_record_29 hl (by decide) rfl (fun ls hl => ?_)
        refine lv_iconst (v := 0) hx hb dX5_record_31 (by decide) ?_
        refine lv_istore (lv' := [(5, .int 0), (4, .ref (ad n18)), (0, .ref (ad l0)), (1, .ref (ad l1)), (2, .ref (ad l2)), (3, .int l3)]) hx hb dX5_record_32 hl (by decide) rfl (fun ls hl => ?_)
        have hl := lv_sub hl [2, 3, 4, 5, 1, 0] rfl
        refine w_cast (c2 := T.1 - T0.1) (s2 := sg T - sg T0) (by rw [cp0.1] <;> rfl) (by rw [sg_cpr cp0] <;> rfl) ?_
        exact a_X5_record_b34 E hA hX hN hml hst kr104 (s_X5_record_b6 n) ih _ _ _ _ _ _ _ _ _ _ _ _ h (gl_cpr hgl cp0) cp0.2.2 had (by rw [cp0.1]; exact h_l0) (by rw [cp0.1]; exact h_l1) (by rw [cp0.1]; exact h_l2) (by rw [cp0.1]; exact h_n18) G hl
set_option maxHeartbeats 4000000 in
set_option maxRecDepth 100000 in
theorem a_X5_record (l : Launch) (hst : l.stackTraces = false) (D : va_G) (cI cJ cZ cMic cSrc cSt cAI cAJ : ClassId) (ad : Nat → Nat) (T : AT) (o : Nat) (a0 : Nat) (a1 : Nat) {T1 : AT} (h : g_X5_record T o a0 a1 = some T1) (hrc : RC T) (h_o : o < T.1) (h_a0 : a0 < T.1) (h_a1 : a1 < T.1) : kAv l yX5_record (Cond.code yX5_record cX5_record 6 none :: wsA) 5 99 cI cJ cZ cMic cSrc cSt cAI cAJ D ad T [.ref (ad o), .ref (ad a0), .ref (ad a1)] T1 := by
  intro sz
  refine Met.ofW (cc := cX5_record) (maxL := 6) (ret := none) (by decide) rfl ?_
  intro p e s m args below meth c s₁ B hml hv
  obtain ⟨rfl, hsz, hP, hK, hD0, hX, hN⟩ := hv
  have hx := B.exec
  have hb := B.bytes
  have hr := B.returns
  have hts := atoms_spec (ws := (Cond.code yX5_record cX5_record 6 none :: wsA)) B.pre
  have hown : s.vm.findClass RX5 = some m.cls := findClass_of_methodNamed B.named
  have hlocks := B.notSynchronized
  subst hsz
  have hD := hD0.self (sz := s.heap.size)
  generalize hAe : va_A (cW ad T.1 (cc cI cJ cZ cMic cSrc cSt cAI cAJ ad T)) s.heap.size = A at hD hX ⊢
  have hA : ∀ q : Nat, s.heap.size ≤ q → A q := fun q h => by rw [← hAe]; exact Or.inr h
  have G : gC cI cJ cZ cMic cSrc cSt cAI cAJ D ad A s.heap s.heap [] T := ⟨hP, hD, va_S.rf⟩
  have E : cE p c cX5_record s m ([.ref (ad o), .ref (ad a0), .ref (ad a1)] : List Value).toArray (Cond.code yX5_record cX5_record 6 none :: wsA) D RX5 (CT cI cJ cZ cMic cSrc cSt cAI cAJ) := ⟨hx, hb, hts, hown, hK⟩
  have hl := lv_entry ([.ref (ad o), .ref (ad a0), .ref (ad a1)]) (n := 6) (Nat.le_of_ble_eq_true rfl)
  rw [lg_entry_eq]
  generalize (lg_sl ([.ref (ad o), .ref (ad a0), .ref (ad a1)]) ++ List.replicate (6 - (lg_sl ([.ref (ad o), .ref (ad a0), .ref (ad a1)])).length) Slot.unset).toArray = ls at hl ⊢
  have hl : lv_has ls 6 [(0, .ref (ad o)), (1, .ref (ad a0)), (2, .ref (ad a1))] := hl
  have hgl := GL.rf T
  have had : ∀ n, n < T.1 → ad n = ad n := fun _ _ => rfl
  have hT1 := s_X5_record h
  have hcs := cs_ok hgl hT1
  refine w_cast (Nat.sub_self T.1).symm (Nat.sub_self (sg T)).symm ?_
  have cp0 := cpr0 hrc
  unfold g_X5_record at h
  refine lv_aload_n hx hb dX5_record_0 rfl (lv_at hl 0 rfl) ?_
  obtain ⟨g2, h⟩ := oif_some h
  obtain ⟨T3, eT3, h⟩ := obind_some h
  refine q_cvv (As := []) (rest := []) E G hA hX hN hml (u_X5_silence l hst D cI cJ cZ cMic cSrc cSt cAI cAJ ad T o eT3) (cwV 0 hts (gaV qA_472 qA_473 qA_474 qA_475 qA_476) rfl rfl rfl (by decide +kernel) ⟨Nat.le_of_ble_eq_true rfl, Nat.le_of_ble_eq_true rfl⟩) (oO_k g2).1 (cc_o5 (oO_k g2).2) rfl rfl hl.1 rfl (lv_room (Nat.le_of_ble_eq_true rfl)) dX5_record_1 hcs (fun T4 H locs hq G => ?_)
  rw [hq] at G
  clear hq
  have cp1 := cpr_sp cp0 (s_X5_silence eT3)
  refine lv_iconst (v := 0) hx hb dX5_record_4 (by decide) ?_
  refine lv_istore_n (lv' := [(3, .int 0), (0, .ref (ad o)), (1, .ref (ad a0)), (2, .ref (ad a1))]) hx hb dX5_record_5 rfl hl (by decide) rfl (fun ls hl => ?_)
  have hl := lv_sub hl [1, 2, 3, 0] rfl
  refine w_cast (c2 := T3.1 - T.1) (s2 := sg T3 - sg T) (by rw [cp1.1] <;> rfl) (by rw [sg_cpr cp1] <;> rfl) ?_
  exact a_X5_record_b6 E hA hX hN hml hst (fun ad H locs ls had G => W.vret hx hb hr (fun t ht hW => ⟨⟨(T1, ad), rfl, ⟨rfl, had⟩, ⟨by rw [ht]; exact G.1, va_K.moved hW.alike hK, G.2.1⟩⟩, G.2.2.F ht⟩) G.2.2.2.2 dX5_record_104) _ _ _ _ _ _ _ _ _ _ h (gl_cpr hgl cp1) cp1.2.2 had (by rw [cp1.1]; exact h_o) (by rw [cp1.1]; exact h_a0) (by rw [cp1.1]; exact h_a1) G hl
def g_X5_recordPoint_b89  (T : AT)  : Option (AT) := some T
def g_X5_recordPoint_b53  : Nat → AT → Nat → Nat → Nat → Int32 → Int32 → Int32 → Option (AT)
  | 0, _, _, _, _, _, _, _ => none
  | n + 1, T, l0, l1, l2, l5, l6, l7 => oif (oO T l1 6 = true) <| elet (T.2.2.1 l1 2) fun v3 => if v3 ≤ l7 then (oif (oO T l0 5 = true) <| obind (g_X5_finish T l0 l1 l2) fun T6 => g_X5_recordPoint_b89 T6) else (oif (oO T l0 5 = true) <| obind (T.2.2.2.2 l0 1) fun n9 => oif (oO T l0 5 = true) <| obind (g_X5_hear T l0 l1 n9 l5 l6 l7) fun T11 => elet (l7 + Int32.ofInt (1)) fun v13 => g_X5_recordPoint_b53 n T11 l0 l1 l2 l5 l6 v13)
def g_X5_recordPoint (T : AT) (o : Nat) (a0 : Nat) (a1 : Nat) (a2 : Int32) (a3 : Int32) : Option (AT) := oif (oO T o 5 = true) <| obind (g_X5_silence T o) fun T3 => oif (oO T3 o 5 = true) <| obind (T3.2.2.2.2 o 1) fun n6 => oif (oO T3 n6 7 = true) <| elet (uI T3 n6 0 0) fun T8 => oif (oO T8 o 5 = true) <| obind (T8.2.2.2.2 o 1) fun n10 => oif (oO T8 n10 7 = true) <| elet (uI T8 n10 5 100) fun T12 => oif (oO T12 o 5 = true) <| obind (T12.2.2.2.2 o 1) fun n14 => oif (oO T12 n14 7 = true) <| elet (uI T12 n14 6 a3) fun T16 => oif (oO T16 a0 6 = true) <| obind (T16.2.2.2.2 a0 6) fun n18 => oif (oO T16 n18 1 = true) <| obind2 (g_X1_centreX T16 n18 a2) fun r22 T20 => oif (oO T20 a0 6 = true) <| obind (T20.2.2.2.2 a0 6) fun n25 => oif (oO T20 n25 1 = true) <| obind2 (g_X1_centreY T20 n25 a2) fun r29 T27 => g_X5_recordPoint_b53 16384 T27 o a0 a1 r22 r29 0
set_option maxHeartbeats 4000000 in
set_option maxRecDepth 100000 in
theorem s_X5_recordPoint_b89 {T1 : AT} : ∀ (T : AT), g_X5_recordPoint_b89 T = some T1 → GL T T1 := by
  intro T h
  have p0 := GL.rf T
  unfold g_X5_recordPoint_b89 at h
  rw [← osome1 h]
  exact p0
set_option maxHeartbeats 4000000 in
set_option maxRecDepth 100000 in
theorem s_X5_recordPoint_b53 {T1 : AT} : ∀ n : Nat, ∀ (T : AT) (l0 : Nat) (l1 : Nat) (l2 : Nat) (l5 : Int32) (l6 : Int32) (l7 : Int32), g_X5_recordPoint_b53 n T l0 l1 l2 l5 l6 l7 = some T1 → GL T T1 := by
  intro n
  induction n with
  | zero =>
    intro T l0 l1 l2 l5 l6 l7 h
    have h : (none : Option (AT)) = some T1 := h
    cases h
  | succ n ih =>
    intro T l0 l1 l2 l5 l6 l7 h
    have p0 := GL.rf T
    unfold g_X5_recordPoint_b53 at h
    obtain ⟨g2, h⟩ := oif_some h
    obtain ⟨v3, -, h⟩ := elet_some h
    rcases oif_or h with ⟨c4, h⟩ | ⟨c4, h⟩
    · have h := h
      obtain ⟨g5, h⟩ := oif_some h
      obtain ⟨T6, eT6, h⟩ := obind_some h
      have p1 : GL T T6 := GL.tr p0 (s_X5_finish eT6)
      exact GL.tr p1 (s_X5_recordPoint_b89 _ h)
    · have h := h
      obtain ⟨g8, h⟩ := oif_some h
      obtain ⟨n9, en9, h⟩ := obind_some h
      obtain ⟨g10, h⟩ := oif_some h
      obtain ⟨T11, eT11, h⟩ := obind_some h
      have p1 : GL T T11 := GL.tr p0 (gl_sp (s_X5_hear eT11))
      obtain ⟨v13, ev13, h⟩ := elet_some h
      exact GL.tr p1 (ih _ _ _ _ _ _ _ h)
set_option maxHeartbeats 4000000 in
set_option maxRecDepth 100000 in
theorem s_X5_recordPoint {T : AT} {o : Nat} {a0 : Nat} {a1 : Nat} {a2 : Int32} {a3 : Int32} {T1 : AT} (h : g_X5_recordPoint T o a0 a1 a2 a3 = some T1) : GL T T1 := by
  have p0 := GL.rf T
  unfold g_X5_recordPoint at h
  obtain ⟨g2, h⟩ := oif_some h
  obtain ⟨T3, eT3, h⟩ := obind_some h
  have p1 : GL T T3 := GL.tr p0 (gl_sp (s_X5_silence eT3))
  obtain ⟨g5, h⟩ := oif_some h
  obtain ⟨n6, en6, h⟩ := obind_some h
  obtain ⟨g7, h⟩ := oif_some h
  obtain ⟨T8, eT8, h⟩ := elet_some h
  have p2 : GL T T8 := GL.tr p1 (by rw [eT8]; exact gl_sp sp_uI)
  obtain ⟨g9, h⟩ := oif_some h
  obtain ⟨n10, en10, h⟩ := obind_some h
  obtain ⟨g11, h⟩ := oif_some h
  obtain ⟨T12, eT12, h⟩ := elet_some h
  have p3 : GL T T12 := GL.tr p2 (by rw [eT12]; exact gl_sp sp_uI)
  obtain ⟨g13, h⟩ := oif_some h
  obtain ⟨n14, en14, h⟩ := obind_some h
  obtain ⟨g15, h⟩ := oif_some h
  obtain ⟨T16, eT16, h⟩ := elet_some h
  have p4 : GL T T16 := GL.tr p3 (by rw [eT16]; exact gl_sp sp_uI)
  obtain ⟨g17, h⟩ := oif_some h
  obtain ⟨n18, en18, h⟩ := obind_some h
  obtain ⟨g19, h⟩ := oif_some h
  obtain ⟨r21, T20, eT20, h⟩ := obind2_some h
  have p5 : GL T T20 := GL.tr p4 (gl_sp (s_X1_centreX eT20))
  obtain ⟨g22, h⟩ := oif_some h
  obtain ⟨n23, en23, h⟩ := obind_some h
  obtain ⟨g24, h⟩ := oif_some h
  obtain ⟨r26, T25, eT25, h⟩ := obind2_some h
  have p6 : GL T T25 := GL.tr p5 (gl_sp (s_X1_centreY eT25))
  exact GL.tr p6 (s_X5_recordPoint_b53 _ _ _ _ _ _ _ _ h)
set_option maxHeartbeats 4000000 in
set_option maxRecDepth 100000 in
theorem a_X5_recordPoint_b89 {p : Program} {l : Launch} {e : Env} {s : State} {m : MethodId} {args : Array Value} {below : List Frame} {meth : Method} {c : Code} {Q : State → Prop} {D : va_G} {A : Nat → Prop} {cI cJ cZ cMic cSrc cSt cAI cAJ : ClassId} {ad0 : Nat → Nat} {T0 : AT} {T1 : AT} (E : cE p c cX5_recordPoint s m args (Cond.code yX5_recordPoint cX5_recordPoint 8 none :: wsA) D RX5 (CT cI cJ cZ cMic cSrc cSt cAI cAJ)) (hA : ∀ q : Nat, s.heap.size ≤ q → A q) (hX : xT A s) (hN : nX s) (hml : c.maxLocals = 8) (hst : l.stackTraces = false) (kr89 : ∀ (ad : Nat → Nat) (H : Heap) (locs : List Loc) (ls : Array Slot), (∀ n, n < T0.1 → ad n = ad0 n) → gC cI cJ cZ cMic cSrc cSt cAI cAJ D ad A s.heap H locs T1 → W p l e { frames := 5, cells := T1.1 - T0.1, slots := sg T1 - sg T0, locals := 99 } s m args below meth c H locs (T1.1 - T0.1) (sg T1 - sg T0) Q (F0 m 89 ls [])) : ∀ (T : AT) (ad : Nat → Nat) (H : Heap) (locs : List Loc) (ls : Array Slot), g_X5_recordPoint_b89 T = some T1 → GL T0 T → RC T → (∀ n, n < T0.1 → ad n = ad0 n) → gC cI cJ cZ cMic cSrc cSt cAI cAJ D ad A s.heap H locs T → lv_has ls 8 [] → W p l e { frames := 5, cells := T1.1 - T0.1, slots := sg T1 - sg T0, locals := 99 } s m args below meth c H locs (T.1 - T0.1) (sg T - sg T0) Q (F0 m 89 ls []) := by
  have hx := E.1
  have hb := E.2.1
  have hts := E.2.2.1
  have hown := E.2.2.2.1
  have hK := E.2.2.2.2
  intro T ad H locs ls h hgl hrc had G hl
  have hT1 := s_X5_recordPoint_b89 _ h
  have hcs := cs_ok hgl hT1
  have cp0 := cpr0 hrc
  unfold g_X5_recordPoint_b89 at h
  rw [osome1 h] at G
  refine w_cast (c2 := T1.1 - T0.1) (s2 := sg T1 - sg T0) (by rw [← osome1 h, cp0.1] <;> rfl) (by rw [← osome1 h, sg_cpr cp0] <;> rfl) ?_
  exact kr89 ad _ _ _ had G
set_option maxHeartbeats 4000000 in
set_option maxRecDepth 100000 in
theorem a_X5_recordPoint_b53 {p : Program} {l : Launch} {e : Env} {s : State} {m : MethodId} {args : Array Value} {below : List Frame} {meth : Method} {c : Code} {Q : State → Prop} {D : va_G} {A : Nat → Prop} {cI cJ cZ cMic cSrc cSt cAI cAJ : ClassId} {ad0 : Nat → Nat} {T0 : AT} {T1 : AT} (E : cE p c cX5_recordPoint s m args (Cond.code yX5_recordPoint cX5_recordPoint 8 none :: wsA) D RX5 (CT cI cJ cZ cMic cSrc cSt cAI cAJ)) (hA : ∀ q : Nat, s.heap.size ≤ q → A q) (hX : xT A s) (hN : nX s) (hml : c.maxLocals = 8) (hst : l.stackTraces = false) (kr89 : ∀ (ad : Nat → Nat) (H : Heap) (locs : List Loc) (ls : Array Slot), (∀ n, n < T0.1 → ad n = ad0 n) → gC cI cJ cZ cMic cSrc cSt cAI cAJ D ad A s.heap H locs T1 → W p l e { frames := 5, cells := T1.1 - T0.1, slots := sg T1 - sg T0, locals := 99 } s m args below meth c H locs (T1.1 - T0.1) (sg T1 - sg T0) Q (F0 m 89 ls [])) : ∀ n : Nat, ∀ (T : AT) (ad : Nat → Nat) (H : Heap) (locs : List Loc) (ls : Array Slot) (l0 : Nat) (l1 : Nat) (l2 : Nat) (l5 : Int32) (l6 : Int32) (l7 : Int32), g_X5_recordPoint_b53 n T l0 l1 l2 l5 l6 l7 = some T1 → GL T0 T → RC T → (∀ n, n < T0.1 → ad n = ad0 n) → l0 < T.1 → l1 < T.1 → l2 < T.1 → gC cI cJ cZ cMic cSrc cSt cAI cAJ D ad A s.heap H locs T → lv_has ls 8 [(0, .ref (ad l0)), (1, .ref (ad l1)), (2, .ref (ad l2)), (5, .int l5), (6, .int l6), (7, .int l7)] → W p l e { frames := 5, cells := T1.1 - T0.1, slots := sg T1 - sg T0, locals := 99 } s m args below meth c H locs (T.1 - T0.1) (sg T - sg T0) Q (F0 m 53 ls []) := by
  have hx := E.1
  have hb := E.2.1
  have hts := E.2.2.1
  have hown := E.2.2.2.1
  have hK := E.2.2.2.2
  intro n
  induction n with
  | zero =>
    intro T ad H locs ls l0 l1 l2 l5 l6 l7 h
    have h : (none : Option (AT)) = some T1 := h
    cases h
  | succ n ih =>
    intro T ad H locs ls l0 l1 l2 l5 l6 l7 h hgl hrc had h_l0 h_l1 h_l2 G hl
    have hT1 := s_X5_recordPoint_b53 _ _ _ _ _ _ _ _ h
    have hcs := cs_ok hgl hT1
    have cp0 := cpr0 hrc
    unfold g_X5_recordPoint_b53 at h
    refine lv_iload hx hb dX5_recordPoint_53 (lv_at hl 5 rfl) ?_
    refine lv_aload_n hx hb dX5_recordPoint_55 rfl (lv_at hl 1 rfl) ?_
    obtain ⟨g2, h⟩ := oif_some h
    refine c_get E G l1 2 (oO_k g2).1 (cc_o6 (oO_k g2).2) rfl (fun w h => .tail _ (iA_14 h)) (by decide) (.tail _ qA_467) rfl rfl dX5_recordPoint_56 ?_
    refine lv_topi (fun v3 ev3 => ?_)
    have h := elet_at ev3 h
    clear ev3
    refine lv_icmp_ge (tgt := 83) hx hb dX5_recordPoint_59 (by decide) (fun c4 => ?_) (fun c4 => ?_)
    · have h := oif_pos c4 h
      refine lv_aload_n hx hb dX5_recordPoint_83 rfl (lv_at hl 0 rfl) ?_
      refine lv_aload_n hx hb dX5_recordPoint_84 rfl (lv_at hl 1 rfl) ?_
      refine lv_aload_n hx hb dX5_recordPoint_85 rfl (lv_at hl 2 rfl) ?_
      obtain ⟨g5, h⟩ := oif_some h
      obtain ⟨T6, eT6, h⟩ := obind_some h
      have hg2 := s_X5_finish eT6
      have hrc2 := hg2.2.2 cp0.2.2
      have hT2 := s_X5_recordPoint_b89 _ h
      refine q_avv (As := [.ref (ad l1), .ref (ad l2)]) (rest := []) E G hA hX hN hml (a_X5_finish l hst D cI cJ cZ cMic cSrc cSt cAI cAJ ad T l0 l1 l2 eT6 cp0.2.2 (by rw [cp0.1]; exact h_l0) (by rw [cp0.1]; exact h_l1) (by rw [cp0.1]; exact h_l2)) (cwV 2 hts (gaV qA_519 qA_520 qA_521 qA_475 qA_522) rfl rfl rfl (by decide +kernel) ⟨Nat.le_of_ble_eq_true rfl, Nat.le_of_ble_eq_true rfl⟩) (oO_k g5).1 (cc_o5 (oO_k g5).2) rfl rfl hl.1 rfl (lv_room (Nat.le_of_ble_eq_true rfl)) dX5_recordPoint_86 (cs_av hgl cp0 hg2 hT2) (fun ad2 H locs hga G => ?_)
      refine w_cast (c2 := T6.1 - T0.1) (s2 := sg T6 - sg T0) (cs_f1 hgl cp0 hg2) (cs_f2 hgl cp0 hg2) ?_
      have hl := lv_sub hl [] rfl
      exact a_X5_recordPoint_b89 E hA hX hN hml hst kr89 _ _ _ _ _ h (GL.tr (gl_cpr hgl cp0) hg2) hrc2 (fun n hn => (hga n (by rw [cp0.1]; exact Nat.lt_of_lt_of_le hn hgl.1)).trans (had n hn)) G hl
    · have h := oif_neg c4 h
      refine lv_aload_n hx hb dX5_recordPoint_62 rfl (lv_at hl 0 rfl) ?_
      refine lv_aload_n hx hb dX5_recordPoint_63 rfl (lv_at hl 1 rfl) ?_
      refine lv_aload_n hx hb dX5_recordPoint_64 rfl (lv_at hl 0 rfl) ?_
      obtain ⟨g8, h⟩ := oif_some h
      obtain ⟨n9, en9, h⟩ := obind_some h
      have h_n9 : n9 < T.1 := by rw [← cp0.1]; exact cp0.2.2 _ _ _ en9
      refine c_get E G l0 1 (v := .ref (ad n9)) (oO_k g8).1 (cc_o5 (oO_k g8).2) rfl (fun w h => .tail _ (iA_22 h)) (by decide) (.tail _ qA_459) rfl (by rw [en9]; rfl) dX5_recordPoint_65 ?_
      clear en9
      refine lv_iload hx hb dX5_recordPoint_68 (lv_at hl 3 rfl) ?_
      refine lv_iload hx hb dX5_recordPoint_70 (lv_at hl 4 rfl) ?_
      refine lv_iload hx hb dX5_recordPoint_72 (lv_at hl 5 rfl) ?_
      obtain ⟨g10, h⟩ := oif_some h
      obtain ⟨T11, eT11, h⟩ := obind_some h
      refine q_cvv (As := [.ref (ad l1), .ref (ad n9), .int l5, .int l6, .int l7]) (rest := []) E G hA hX hN hml (u_X5_hear l hst D cI cJ cZ cMic cSrc cSt cAI cAJ ad T l0 l1 n9 l5 l6 l7 eT11) (cwV 5 hts (gaV qA_483 qA_484 qA_485 qA_475 qA_486) rfl rfl rfl (by decide +kernel) ⟨Nat.le_of_ble_eq_true rfl, Nat.le_of_ble_eq_true rfl⟩) (oO_k g10).1 (cc_o5 (oO_k g10).2) rfl rfl hl.1 rfl (lv_room (Nat.le_of_ble_eq_true rfl)) dX5_recordPoint_74 hcs (fun T12 H locs hq G => ?_)
      rw [hq] at G
      clear hq
      have cp1 := cpr_sp cp0 (s_X5_hear eT11)
      obtain ⟨v13, ev13, h⟩ := elet_some h
      refine lv_iinc (v := v13) (lv' := [(7, .int v13), (0, .ref (ad l0)), (1, .ref (ad l1)), (2, .ref (ad l2)), (5, .int l5), (6, .int l6)]) hx hb dX5_recordPoint_77 hl (k := 5) rfl ev13.symm (by decide) rfl (fun ls hl => ?_)
      refine lv_goto (tgt := 53) hx hb dX5_recordPoint_80 (by decide) ?_
      have hl := lv_sub hl [1, 2, 3, 4, 5, 0] rfl
      refine w_cast (c2 := T11.1 - T0.1) (s2 := sg T11 - sg T0) (by rw [cp1.1] <;> rfl) (by rw [sg_cpr cp1] <;> rfl) ?_
      exact ih _ _ _ _ _ _ _ _ _ _ _ h (gl_cpr hgl cp1) cp1.2.2 had (by rw [cp1.1]; exact h_l0) (by rw [cp1.1]; exact h_l1) (by rw [cp1.1]; exact h_l2) G hl
set_option maxHeartbeats 4000000 in
set_option maxRecDepth 100000 in
theorem a_X5_recordPoint (l : Launch) (hst : l.stackTraces = false) (D : va_G) (cI cJ cZ cMic cSrc cSt cAI cAJ : ClassId) (ad : Nat → Nat) (T : AT) (o : Nat) (a0 : Nat) (a1 : Nat) (a2 : Int32) (a3 : Int32) {T1 : AT} (h : g_X5_recordPoint T o a0 a1 a2 a3 = some T1) (hrc : RC T) (h_o : o < T.1) (h_a0 : a0 < T.1) (h_a1 : a1 < T.1) : kAv l yX5_recordPoint (Cond.code yX5_recordPoint cX5_recordPoint 8 none :: wsA) 5 99 cI cJ cZ cMic cSrc cSt cAI cAJ D ad T [.ref (ad o), .ref (ad a0), .ref (ad a1), .int a2, .int a3] T1 := by
  intro sz
  refine Met.ofW (cc := cX5_recordPoint) (maxL := 8) (ret := none) (by decide) rfl ?_
  intro p e s m args below meth c s₁ B hml hv
  obtain ⟨rfl, hsz, hP, hK, hD0, hX, hN⟩ := hv
  have hx := B.exec
  have hb := B.bytes
  have hr := B.returns
  have hts := atoms_spec (ws := (Cond.code yX5_recordPoint cX5_recordPoint 8 none :: wsA)) B.pre
  have hown : s.vm.findClass RX5 = some m.cls := findClass_of_methodNamed B.named
  have hlocks := B.notSynchronized
  subst hsz
  have hD := hD0.self (sz := s.heap.size)
  generalize hAe : va_A (cW ad T.1 (cc cI cJ cZ cMic cSrc cSt cAI cAJ ad T)) s.heap.size = A at hD hX ⊢
  have hA : ∀ q : Nat, s.heap.size ≤ q → A q := fun q h => by rw [← hAe]; exact Or.inr h
  have G : gC cI cJ cZ cMic cSrc cSt cAI cAJ D ad A s.heap s.heap [] T := ⟨hP, hD, va_S.rf⟩
  have E : cE p c cX5_recordPoint s m ([.ref (ad o), .ref (ad a0), .ref (ad a1), .int a2, .int a3] : List Value).toArray (Cond.code yX5_recordPoint cX5_recordPoint 8 none :: wsA) D RX5 (CT cI cJ cZ cMic cSrc cSt cAI cAJ) := ⟨hx, hb, hts, hown, hK⟩
  have hl := lv_entry ([.ref (ad o), .ref (ad a0), .ref (ad a1), .int a2, .int a3]) (n := 8) (Nat.le_of_ble_eq_true rfl)
  rw [lg_entry_eq]
  generalize (lg_sl ([.ref (ad o), .ref (ad a0), .ref (ad a1), .int a2, .int a3]) ++ List.replicate (8 - (lg_sl ([.ref (ad o), .ref (ad a0), .ref (ad a1), .int a2, .int a3])).length) Slot.unset).toArray = ls at hl ⊢
  have hl : lv_has ls 8 [(0, .ref (ad o)), (1, .ref (ad a0)), (2, .ref (ad a1)), (3, .int a2), (4, .int a3)] := hl
  have hgl := GL.rf T
  have had : ∀ n, n < T.1 → ad n = ad n := fun _ _ => rfl
  have hT1 := s_X5_recordPoint h
  have hcs := cs_ok hgl hT1
  refine w_cast (Nat.sub_self T.1).symm (Nat.sub_self (sg T)).symm ?_
  have cp0 := cpr0 hrc
  unfold g_X5_recordPoint at h
  refine lv_aload_n hx hb dX5_recordPoint_0 rfl (lv_at hl 0 rfl) ?_
  obtain ⟨g2, h⟩ := oif_some h
  obtain ⟨T3, eT3, h⟩ := obind_some h
  refine q_cvv (As := []) (rest := []) E G hA hX hN hml (u_X5_silence l hst D cI cJ cZ cMic cSrc cSt cAI cAJ ad T o eT3) (cwV 0 hts (gaV qA_472 qA_473 qA_474 qA_475 qA_476) rfl rfl rfl (by decide +kernel) ⟨Nat.le_of_ble_eq_true rfl, Nat.le_of_ble_eq_true rfl⟩) (oO_k g2).1 (cc_o5 (oO_k g2).2) rfl rfl hl.1 rfl (lv_room (Nat.le_of_ble_eq_true rfl)) dX5_recordPoint_1 hcs (fun T4 H locs hq G => ?_)
  rw [hq] at G
  clear hq
  have cp1 := cpr_sp cp0 (s_X5_silence eT3)
  refine lv_aload_n hx hb dX5_recordPoint_4 rfl (lv_at hl 0 rfl) ?_
  obtain ⟨g5, h⟩ := oif_some h
  obtain ⟨n6, en6, h⟩ := obind_some h
  have h_n6 : n6 < T.1 := by rw [← cp1.1]; exact cp1.2.2 _ _ _ en6
  refine c_get E G o 1 (v := .ref (ad n6)) (oO_k g5).1 (cc_o5 (oO_k g5).2) rfl (fun w h => .tail _ (iA_22 h)) (by decide) (.tail _ qA_459) rfl (by rw [en6]; rfl) dX5_recordPoint_5 ?_
  clear en6
  refine lv_iconst (v := 0) hx hb dX5_recordPoint_8 (by decide) ?_
  obtain ⟨g7, h⟩ := oif_some h
  refine c_put E G n6 0 (v := .int 0) (oO_k g7).1 (cc_o7 (oO_k g7).2) rfl (fun w h => .tail _ (iA_20 h)) tyX7 tyX7_ok nmX7 (by decide) (.tail _ qA_547) ⟨rfl, rfl, rfl⟩ rfl rfl (Nat.le_of_ble_eq_true rfl) dX5_recordPoint_9 (fun H locs G => ?_)
  have G := gC_up_i (f := upd (T3.2.2.1 n6) 0 0) (by rw [(oO_k g7).2]; rfl) G
  obtain ⟨T8, eT8, h⟩ := elet_some h
  have G : gC cI cJ cZ cMic cSrc cSt cAI cAJ D ad A s.heap H locs T8 := by rw [eT8]; exact G
  have cp2 := show CPR T T8 from by rw [eT8]; exact cpr_sp cp1 sp_uI
  clear eT8
  refine lv_aload_n hx hb dX5_recordPoint_12 rfl (lv_at hl 0 rfl) ?_
  obtain ⟨g9, h⟩ := oif_some h
  obtain ⟨n10, en10, h⟩ := obind_some h
  have h_n10 : n10 < T.1 := by rw [← cp2.1]; exact cp2.2.2 _ _ _ en10
  refine c_get E G o 1 (v := .ref (ad n10)) (oO_k g9).1 (cc_o5 (oO_k g9).2) rfl (fun w h => .tail _ (iA_22 h)) (by decide) (.tail _ qA_459) rfl (by rw [en10]; rfl) dX5_recordPoint_13 ?_
  clear en10
  refine lv_bipush (v := 100) hx hb dX5_recordPoint_16 (by decide) ?_
  obtain ⟨g11, h⟩ := oif_some h
  refine c_put E G n10 5 (v := .int 100) (oO_k g11).1 (cc_o7 (oO_k g11).2) rfl (fun w h => .tail _ (iA_20 h)) tyX7 tyX7_ok nmX7 (by decide) (.tail _ qA_548) ⟨rfl, rfl, rfl⟩ rfl rfl (Nat.le_of_ble_eq_true rfl) dX5_recordPoint_18 (fun H locs G => ?_)
  have G := gC_up_i (f := upd (T8.2.2.1 n10) 5 100) (by rw [(oO_k g11).2]; rfl) G
  obtain ⟨T12, eT12, h⟩ := elet_some h
  have G : gC cI cJ cZ cMic cSrc cSt cAI cAJ D ad A s.heap H locs T12 := by rw [eT12]; exact G
  have cp3 := show CPR T T12 from by rw [eT12]; exact cpr_sp cp2 sp_uI
  clear eT12
  refine lv_aload_n hx hb dX5_recordPoint_21 rfl (lv_at hl 0 rfl) ?_
  obtain ⟨g13, h⟩ := oif_some h
  obtain ⟨n14, en14, h⟩ := obind_some h
  have h_n14 : n14 < T.1 := by rw [← cp3.1]; exact cp3.2.2 _ _ _ en14
  refine c_get E G o 1 (v := .ref (ad n14)) (oO_k g13).1 (cc_o5 (oO_k g13).2) rfl (fun w h => .tail _ (iA_22 h)) (by decide) (.tail _ qA_459) rfl (by rw [en14]; rfl) dX5_recordPoint_22 ?_
  clear en14
  refine lv_iload hx hb dX5_recordPoint_25 (lv_at hl 4 rfl) ?_
  obtain ⟨g15, h⟩ := oif_some h
  refine c_put E G n14 6 (v := .int a3) (oO_k g15).1 (cc_o7 (oO_k g15).2) rfl (fun w h => .tail _ (iA_20 h)) tyX7 tyX7_ok nmX7 (by decide) (.tail _ qA_549) ⟨rfl, rfl, rfl⟩ rfl rfl (Nat.le_of_ble_eq_true rfl) dX5_recordPoint_27 (fun H locs G => ?_)
  have G := gC_up_i (f := upd (T12.2.2.1 n14) 6 a3) (by rw [(oO_k g15).2]; rfl) G
  obtain ⟨T16, eT16, h⟩ := elet_some h
  have G : gC cI cJ cZ cMic cSrc cSt cAI cAJ D ad A s.heap H locs T16 := by rw [eT16]; exact G
  have cp4 := show CPR T T16 from by rw [eT16]; exact cpr_sp cp3 sp_uI
  clear eT16
  refine lv_aload_n hx hb dX5_recordPoint_30 rfl (lv_at hl 1 rfl) ?_
  obtain ⟨g17, h⟩ := oif_some h
  obtain ⟨n18, en18, h⟩ := obind_some h
  have h_n18 : n18 < T.1 := by rw [← cp4.1]; exact cp4.2.2 _ _ _ en18
  refine c_get E G a0 6 (v := .ref (ad n18)) (oO_k g17).1 (cc_o6 (oO_k g17).2) rfl (fun w h => .tail _ (iA_14 h)) (by decide) (.tail _ qA_550) rfl (by rw [en18]; rfl) dX5_recordPoint_31 ?_
  clear en18
  refine lv_iload_n hx hb dX5_recordPoint_34 rfl (lv_at hl 3 rfl) ?_
  obtain ⟨g19, h⟩ := oif_some h
  obtain ⟨r22, T20, eT20, h⟩ := obind2_some h
  refine q_cvi (As := [.int a2]) (rest := []) E G hA hX hN hml (u_X1_centreX l hst D cI cJ cZ cMic cSrc cSt cAI cAJ ad T16 n18 a2 eT20) (cwV 1 hts (gaV qA_551 qA_552 qA_553 qA_37 qA_164) rfl rfl rfl (by decide +kernel) ⟨Nat.le_of_ble_eq_true rfl, Nat.le_of_ble_eq_true rfl⟩) (oO_k g19).1 (cc_o1 (oO_k g19).2) rfl rfl hl.1 rfl (lv_room (Nat.le_of_ble_eq_true rfl)) dX5_recordPoint_35 hcs (fun q23 T21 H locs hq G => ?_)
  obtain ⟨hq1, hq2⟩ := hq
  rw [hq2] at G
  refine lv_to hq1 ?_
  clear hq1 hq2
  have cp5 := cpr_sp cp4 (s_X1_centreX eT20)
  refine lv_istore (lv' := [(5, .int r22), (0, .ref (ad o)), (1, .ref (ad a0)), (2, .ref (ad a1)), (3, .int a2), (4, .int a3)]) hx hb dX5_recordPoint_38 hl (by decide) rfl (fun ls hl => ?_)
  refine lv_aload_n hx hb dX5_recordPoint_40 rfl (lv_at hl 2 rfl) ?_
  obtain ⟨g24, h⟩ := oif_some h
  obtain ⟨n25, en25, h⟩ := obind_some h
  have h_n25 : n25 < T.1 := by rw [← cp5.1]; exact cp5.2.2 _ _ _ en25
  refine c_get E G a0 6 (v := .ref (ad n25)) (oO_k g24).1 (cc_o6 (oO_k g24).2) rfl (fun w h => .tail _ (iA_14 h)) (by decide) (.tail _ qA_550) rfl (by rw [en25]; rfl) dX5_recordPoint_41 ?_
  clear en25
  refine lv_iload_n hx hb dX5_recordPoint_44 rfl (lv_at hl 4 rfl) ?_
  obtain ⟨g26, h⟩ := oif_some h
  obtain ⟨r29, T27, eT27, h⟩ := obind2_some h
  refine q_cvi (As := [.int a2]) (rest := []) E G hA hX hN hml (u_X1_centreY l hst D cI cJ cZ cMic cSrc cSt cAI cAJ ad T20 n25 a2 eT27) (cwV 1 hts (gaV qA_554 qA_555 qA_556 qA_37 qA_167) rfl rfl rfl (by decide +kernel) ⟨Nat.le_of_ble_eq_true rfl, Nat.le_of_ble_eq_true rfl⟩) (oO_k g26).1 (cc_o1 (oO_k g26).2) rfl rfl hl.1 rfl (lv_room (Nat.le_of_ble_eq_true rfl)) dX5_recordPoint_45 hcs (fun q30 T28 H locs hq G => ?_)
  obtain ⟨hq1, hq2⟩ := hq
  rw [hq2] at G
  refine lv_to hq1 ?_
  clear hq1 hq2
  have cp6 := cpr_sp cp5 (s_X1_centreY eT27)
  refine lv_istore (lv' := [(6, .int r29), (5, .int r22), (0, .ref (ad o)), (1, .ref (ad a0)), (2, .ref (ad a1)), (3, .int a2), (4, .int a3)]) hx hb dX5_recordPoint_48 hl (by decide) rfl (fun ls hl => ?_)
  refine lv_iconst (v := 0) hx hb dX5_recordPoint_50 (by decide) ?_
  refine lv_istore (lv' := [(7, .int 0), (6, .int r29), (5, .int r22), (0, .ref (ad o)), (1, .ref (ad a0)), (2, .ref (ad a1)), (3, .int a2), (4, .int a3)]) hx hb dX5_recordPoint_51 hl (by decide) rfl (fun ls hl => ?_)
  have hl := lv_sub hl [3, 4, 5, 2, 1, 0] rfl
  refine w_cast (c2 := T27.1 - T.1) (s2 := sg T27 - sg T) (by rw [cp6.1] <;> rfl) (by rw [sg_cpr cp6] <;> rfl) ?_
  exact a_X5_recordPoint_b53 E hA hX hN hml hst (fun ad H locs ls had G => W.vret hx hb hr (fun t ht hW => ⟨⟨(T1, ad), rfl, ⟨rfl, had⟩, ⟨by rw [ht]; exact G.1, va_K.moved hW.alike hK, G.2.1⟩⟩, G.2.2.F ht⟩) G.2.2.2.2 dX5_recordPoint_89) _ _ _ _ _ _ _ _ _ _ _ _ h (gl_cpr hgl cp6) cp6.2.2 had (by rw [cp6.1]; exact h_o) (by rw [cp6.1]; exact h_a0) (by rw [cp6.1]; exact h_a1) G hl
def g_X6_delaysFrom_b3  : Nat → AT → Nat → Int32 → Int32 → Nat → Int32 → Option (AT)
  | 0, _, _, _, _, _, _ => none
  | n + 1, T, l0, l1, l2, l3, l4 => oif (oO T l0 6 = true) <| elet (T.2.2.1 l0 5) fun v3 => if v3 ≤ l4 then (some T) else (oif (oO T l0 6 = true) <| obind (T.2.2.2.2 l0 4) fun n6 => oif (aA T n6 103 = true) <| oif (inb l4 (T.2.1 n6).2 = true) <| obind (T.2.2.2.2 n6 l4.toNatClampNeg) fun n9 => oif (oO T l0 6 = true) <| obind2 (g_X6_delayFrom T l0 n9 l1 l2) fun r13 T11 => oif (aA T11 l3 100 = true) <| oif (inb l4 (T11.2.1 l3).2 = true) <| elet (uI T11 l3 l4.toNatClampNeg r13) fun T17 => elet (l4 + Int32.ofInt (1)) fun v18 => g_X6_delaysFrom_b3 n T17 l0 l1 l2 l3 v18)
set_option maxHeartbeats 4000000 in
set_option maxRecDepth 100000 in
theorem u_X6_delaysFrom_b3 {p : Program} {l : Launch} {e : Env} {s : State} {m : MethodId} {args : Array Value} {below : List Frame} {meth : Method} {c : Code} {Q : State → Prop} {D : va_G} {A : Nat → Prop} {cI cJ cZ cMic cSrc cSt cAI cAJ : ClassId} {ad : Nat → Nat} {T1 : AT} (E : cE p c cX6_delaysFrom s m args (Cond.code yX6_delaysFrom cX6_delaysFrom 5 none :: wsA) D RX6 (CT cI cJ cZ cMic cSrc cSt cAI cAJ)) (hA : ∀ q : Nat, s.heap.size ≤ q → A q) (hX : xT A s) (hN : nX s) (hml : c.maxLocals = 5) (hst : l.stackTraces = false) (kr35 : ∀ (H : Heap) (locs : List Loc) (ls : Array Slot), gC cI cJ cZ cMic cSrc cSt cAI cAJ D ad A s.heap H locs T1 → W p l e { frames := 3, cells := 0, slots := 0, locals := 49 } s m args below meth c H locs 0 0 Q (F0 m 35 ls [])) : ∀ n : Nat, ∀ (T : AT) (H : Heap) (locs : List Loc) (ls : Array Slot) (l0 : Nat) (l1 : Int32) (l2 : Int32) (l3 : Nat) (l4 : Int32), g_X6_delaysFrom_b3 n T l0 l1 l2 l3 l4 = some T1 → gC cI cJ cZ cMic cSrc cSt cAI cAJ D ad A s.heap H locs T → lv_has ls 5 [(0, .ref (ad l0)), (1, .int l1), (2, .int l2), (3, .ref (ad l3)), (4, .int l4)] → W p l e { frames := 3, cells := 0, slots := 0, locals := 49 } s m args below meth c H locs 0 0 Q (F0 m 3 ls []) := by
  have hx := E.1
  have hb := E.2.1
  have hts := E.2.2.1
  have hown := E.2.2.2.1
  have hK := E.2.2.2.2
  intro n
  induction n with
  | zero =>
    intro T H locs ls l0 l1 l2 l3 l4 h
    have h : (none : Option (AT)) = some T1 := h
    cases h
  | succ n ih =>
    intro T H locs ls l0 l1 l2 l3 l4 h G hl
    unfold g_X6_delaysFrom_b3 at h
    refine lv_iload hx hb dX6_delaysFrom_3 (lv_at hl 4 rfl) ?_
    refine lv_aload_n hx hb dX6_delaysFrom_5 rfl (lv_at hl 0 rfl) ?_
    obtain ⟨g2, h⟩ := oif_some h
    refine c_get E G l0 5 (oO_k g2).1 (cc_o6 (oO_k g2).2) rfl (fun w h => .tail _ (iA_14 h)) (by decide) (.tail _ qA_210) rfl rfl dX6_delaysFrom_6 ?_
    refine lv_topi (fun v3 ev3 => ?_)
    have h := elet_at ev3 h
    clear ev3
    refine lv_icmp_ge (tgt := 35) hx hb dX6_delaysFrom_9 (by decide) (fun c4 => ?_) (fun c4 => ?_)
    · have h := oif_pos c4 h
      rw [osome1 h] at G
      exact kr35 _ _ _ G
    · have h := oif_neg c4 h
      refine lv_aload_n hx hb dX6_delaysFrom_12 rfl (lv_at hl 3 rfl) ?_
      refine lv_iload hx hb dX6_delaysFrom_13 (lv_at hl 4 rfl) ?_
      refine lv_aload_n hx hb dX6_delaysFrom_15 rfl (lv_at hl 0 rfl) ?_
      refine lv_aload_n hx hb dX6_delaysFrom_16 rfl (lv_at hl 0 rfl) ?_
      obtain ⟨g5, h⟩ := oif_some h
      obtain ⟨n6, en6, h⟩ := obind_some h
      refine c_get E G l0 4 (v := .ref (ad n6)) (oO_k g5).1 (cc_o6 (oO_k g5).2) rfl (fun w h => .tail _ (iA_14 h)) (by decide) (.tail _ qA_560) rfl (by rw [en6]; rfl) dX6_delaysFrom_17 ?_
      clear en6
      refine lv_iload hx hb dX6_delaysFrom_20 (lv_at hl 4 rfl) ?_
      obtain ⟨g7, h⟩ := oif_some h
      obtain ⟨g8, h⟩ := oif_some h
      obtain ⟨n9, en9, h⟩ := obind_some h
      refine c_aldq E G n6 3 (k := l4.toNatClampNeg) (v := .ref (ad n9)) (aA_k g7).1 (cc_a103 (aA_k g7).2.1) rfl (inb_k g8).1 (inb_k g8).2 (aA_k g7).2.2 (by show va_rf ((T.2.2.2.2 n6 l4.toNatClampNeg).map ad) = _; rw [en9]; rfl) dX6_delaysFrom_22 ?_
      clear en9
      refine lv_iload_n hx hb dX6_delaysFrom_23 rfl (lv_at hl 1 rfl) ?_
      refine lv_iload_n hx hb dX6_delaysFrom_24 rfl (lv_at hl 2 rfl) ?_
      obtain ⟨g10, h⟩ := oif_some h
      obtain ⟨r13, T11, eT11, h⟩ := obind2_some h
      refine q_cvi (As := [.ref (ad n9), .int l1, .int l2]) (rest := [.int l4, .ref (ad l3)]) E G hA hX hN hml (u_X6_delayFrom l hst D cI cJ cZ cMic cSrc cSt cAI cAJ ad T l0 n9 l1 l2 eT11) (cwV 3 hts (gaV qA_574 qA_493 qA_494 qA_207 qA_495) rfl rfl rfl (by decide +kernel) ⟨Nat.le_of_ble_eq_true rfl, Nat.le_of_ble_eq_true rfl⟩) (oO_k g10).1 (cc_o6 (oO_k g10).2) rfl rfl hl.1 rfl (lv_room (Nat.le_of_ble_eq_true rfl)) dX6_delaysFrom_25 ⟨Nat.zero_le _, Nat.zero_le _⟩ (fun q14 T12 H locs hq G => ?_)
      obtain ⟨hq1, hq2⟩ := hq
      rw [hq2] at G
      refine lv_to hq1 ?_
      clear hq1 hq2 eT11
      obtain ⟨g15, h⟩ := oif_some h
      obtain ⟨g16, h⟩ := oif_some h
      refine c_iast E G l3 0 (k := l4.toNatClampNeg) (v := r13) (aA_k g15).1 (cc_a100 (aA_k g15).2.1) rfl (inb_k g16).1 (inb_k g16).2 (aA_k g15).2.2 dX6_delaysFrom_28 (fun H locs G => ?_)
      have G := gC_up_i (f := upd (T11.2.2.1 l3) l4.toNatClampNeg r13) (ccv_100 (aA_k g15).2.1) G
      obtain ⟨T17, eT17, h⟩ := elet_some h
      have G : gC cI cJ cZ cMic cSrc cSt cAI cAJ D ad A s.heap H locs T17 := by rw [eT17]; exact G
      clear eT17
      obtain ⟨v18, ev18, h⟩ := elet_some h
      refine lv_iinc (v := v18) (lv' := [(4, .int v18), (0, .ref (ad l0)), (1, .int l1), (2, .int l2), (3, .ref (ad l3))]) hx hb dX6_delaysFrom_29 hl (k := 4) rfl ev18.symm (by decide) rfl (fun ls hl => ?_)
      refine lv_goto (tgt := 3) hx hb dX6_delaysFrom_32 (by decide) ?_
      have hl := lv_sub hl [1, 2, 3, 4, 0] rfl
      exact ih _ _ _ _ _ _ _ _ _ h G hl
def g_X6_delaysFrom (T : AT) (o : Nat) (a0 : Int32) (a1 : Int32) (a2 : Nat) : Option (AT) := g_X6_delaysFrom_b3 16384 T o a0 a1 a2 0
set_option maxHeartbeats 4000000 in
set_option maxRecDepth 100000 in
theorem u_X6_delaysFrom (l : Launch) (hst : l.stackTraces = false) (D : va_G) (cI cJ cZ cMic cSrc cSt cAI cAJ : ClassId) (ad : Nat → Nat) (T : AT) (o : Nat) (a0 : Int32) (a1 : Int32) (a2 : Nat) {T1 : AT} (h : g_X6_delaysFrom T o a0 a1 a2 = some T1) : kCv l yX6_delaysFrom (Cond.code yX6_delaysFrom cX6_delaysFrom 5 none :: wsA) 3 49 cI cJ cZ cMic cSrc cSt cAI cAJ D ad T [.ref (ad o), .int a0, .int a1, .ref (ad a2)] (fun T9 => T9 = T1) := by
  intro sz
  refine Met.ofW (cc := cX6_delaysFrom) (maxL := 5) (ret := none) (by decide) rfl ?_
  intro p e s m args below meth c s₁ B hml hv
  obtain ⟨rfl, hsz, hP, hK, hD0, hX, hN⟩ := hv
  have hx := B.exec
  have hb := B.bytes
  have hr := B.returns
  have hts := atoms_spec (ws := (Cond.code yX6_delaysFrom cX6_delaysFrom 5 none :: wsA)) B.pre
  have hown : s.vm.findClass RX6 = some m.cls := findClass_of_methodNamed B.named
  have hlocks := B.notSynchronized
  subst hsz
  have hD := hD0.self (sz := s.heap.size)
  generalize hAe : va_A (cW ad T.1 (cc cI cJ cZ cMic cSrc cSt cAI cAJ ad T)) s.heap.size = A at hD hX ⊢
  have hA : ∀ q : Nat, s.heap.size ≤ q → A q := fun q h => by rw [← hAe]; exact Or.inr h
  have G : gC cI cJ cZ cMic cSrc cSt cAI cAJ D ad A s.heap s.heap [] T := ⟨hP, hD, va_S.rf⟩
  have E : cE p c cX6_delaysFrom s m ([.ref (ad o), .int a0, .int a1, .ref (ad a2)] : List Value).toArray (Cond.code yX6_delaysFrom cX6_delaysFrom 5 none :: wsA) D RX6 (CT cI cJ cZ cMic cSrc cSt cAI cAJ) := ⟨hx, hb, hts, hown, hK⟩
  have hl := lv_entry ([.ref (ad o), .int a0, .int a1, .ref (ad a2)]) (n := 5) (Nat.le_of_ble_eq_true rfl)
  rw [lg_entry_eq]
  generalize (lg_sl ([.ref (ad o), .int a0, .int a1, .ref (ad a2)]) ++ List.replicate (5 - (lg_sl ([.ref (ad o), .int a0, .int a1, .ref (ad a2)])).length) Slot.unset).toArray = ls at hl ⊢
  have hl : lv_has ls 5 [(0, .ref (ad o)), (1, .int a0), (2, .int a1), (3, .ref (ad a2))] := hl
  unfold g_X6_delaysFrom at h
  refine lv_iconst (v := 0) hx hb dX6_delaysFrom_0 (by decide) ?_
  refine lv_istore (lv' := [(4, .int 0), (0, .ref (ad o)), (1, .int a0), (2, .int a1), (3, .ref (ad a2))]) hx hb dX6_delaysFrom_1 hl (by decide) rfl (fun ls hl => ?_)
  have hl := lv_sub hl [1, 2, 3, 4, 0] rfl
  exact u_X6_delaysFrom_b3 E hA hX hN hml hst (fun H locs ls G => W.vret hx hb hr (fun t ht hW => ⟨⟨T1, rfl, rfl, ⟨by rw [ht]; exact G.1, va_K.moved hW.alike hK, G.2.1⟩⟩, G.2.2.F ht⟩) G.2.2.2.2 dX6_delaysFrom_35) _ _ _ _ _ _ _ _ _ _ h G hl
set_option maxHeartbeats 4000000 in
set_option maxRecDepth 100000 in
theorem s_X6_delaysFrom_b3 {T1 : AT} : ∀ n : Nat, ∀ (T : AT) (l0 : Nat) (l1 : Int32) (l2 : Int32) (l3 : Nat) (l4 : Int32), g_X6_delaysFrom_b3 n T l0 l1 l2 l3 l4 = some T1 → SP T T1 := by
  intro n
  induction n with
  | zero =>
    intro T l0 l1 l2 l3 l4 h
    have h : (none : Option (AT)) = some T1 := h
    cases h
  | succ n ih =>
    intro T l0 l1 l2 l3 l4 h
    have p0 := SP.rf T
    unfold g_X6_delaysFrom_b3 at h
    obtain ⟨g2, h⟩ := oif_some h
    obtain ⟨v3, -, h⟩ := elet_some h
    rcases oif_or h with ⟨c4, h⟩ | ⟨c4, h⟩
    · have h := h
      rw [← osome1 h]
      exact p0
    · have h := h
      obtain ⟨g5, h⟩ := oif_some h
      obtain ⟨n6, en6, h⟩ := obind_some h
      obtain ⟨g7, h⟩ := oif_some h
      obtain ⟨g8, h⟩ := oif_some h
      obtain ⟨n9, en9, h⟩ := obind_some h
      obtain ⟨g10, h⟩ := oif_some h
      obtain ⟨r12, T11, eT11, h⟩ := obind2_some h
      have p1 : SP T T11 := SP.tr p0 (s_X6_delayFrom eT11)
      obtain ⟨g13, h⟩ := oif_some h
      obtain ⟨g14, h⟩ := oif_some h
      obtain ⟨T15, eT15, h⟩ := elet_some h
      have p2 : SP T T15 := SP.tr p1 (by rw [eT15]; exact sp_uI)
      obtain ⟨v16, ev16, h⟩ := elet_some h
      exact SP.tr p2 (ih _ _ _ _ _ _ h)
set_option maxHeartbeats 4000000 in
set_option maxRecDepth 100000 in
theorem s_X6_delaysFrom {T : AT} {o : Nat} {a0 : Int32} {a1 : Int32} {a2 : Nat} {T1 : AT} (h : g_X6_delaysFrom T o a0 a1 a2 = some T1) : SP T T1 := by
  have p0 := SP.rf T
  unfold g_X6_delaysFrom at h
  exact SP.tr p0 (s_X6_delaysFrom_b3 _ _ _ _ _ _ _ h)
def g_X6_measureDelays_b2  : Nat → AT → Nat → Int32 → Option (AT)
  | 0, _, _, _ => none
  | n + 1, T, l0, l1 => oif (oO T l0 6 = true) <| obind (T.2.2.2.2 l0 6) fun n3 => oif (oO T n3 1 = true) <| obind2 (g_X1_cells T n3) fun r7 T5 => if r7 ≤ l1 then (some T5) else (oif (oO T5 l0 6 = true) <| obind (T5.2.2.2.2 l0 6) fun n11 => oif (oO T5 n11 1 = true) <| obind2 (g_X1_centreX T5 n11 l1) fun r15 T13 => oif (oO T13 l0 6 = true) <| obind (T13.2.2.2.2 l0 6) fun n18 => oif (oO T13 n18 1 = true) <| obind2 (g_X1_centreY T13 n18 l1) fun r22 T20 => oif (oO T20 l0 6 = true) <| obind (T20.2.2.2.2 l0 17) fun n25 => oif (aA T20 n25 106 = true) <| oif (inb l1 (T20.2.1 n25).2 = true) <| obind (T20.2.2.2.2 n25 l1.toNatClampNeg) fun n28 => oif (oO T20 l0 6 = true) <| obind (g_X6_delaysFrom T20 l0 r15 r22 n28) fun T30 => elet (l1 + Int32.ofInt (1)) fun v32 => g_X6_measureDelays_b2 n T30 l0 v32)
set_option maxHeartbeats 4000000 in
set_option maxRecDepth 100000 in
theorem u_X6_measureDelays_b2 {p : Program} {l : Launch} {e : Env} {s : State} {m : MethodId} {args : Array Value} {below : List Frame} {meth : Method} {c : Code} {Q : State → Prop} {D : va_G} {A : Nat → Prop} {cI cJ cZ cMic cSrc cSt cAI cAJ : ClassId} {ad : Nat → Nat} {T1 : AT} (E : cE p c cX6_measureDelays s m args (Cond.code yX6_measureDelays cX6_measureDelays 2 none :: wsA) D RX6 (CT cI cJ cZ cMic cSrc cSt cAI cAJ)) (hA : ∀ q : Nat, s.heap.size ≤ q → A q) (hX : xT A s) (hN : nX s) (hml : c.maxLocals = 2) (hst : l.stackTraces = false) (kr45 : ∀ (H : Heap) (locs : List Loc) (ls : Array Slot), gC cI cJ cZ cMic cSrc cSt cAI cAJ D ad A s.heap H locs T1 → W p l e { frames := 4, cells := 0, slots := 0, locals := 73 } s m args below meth c H locs 0 0 Q (F0 m 45 ls [])) : ∀ n : Nat, ∀ (T : AT) (H : Heap) (locs : List Loc) (ls : Array Slot) (l0 : Nat) (l1 : Int32), g_X6_measureDelays_b2 n T l0 l1 = some T1 → gC cI cJ cZ cMic cSrc cSt cAI cAJ D ad A s.heap H locs T → lv_has ls 2 [(0, .ref (ad l0)), (1, .int l1)] → W p l e { frames := 4, cells := 0, slots := 0, locals := 73 } s m args below meth c H locs 0 0 Q (F0 m 2 ls []) := by
  have hx := E.1
  have hb := E.2.1
  have hts := E.2.2.1
  have hown := E.2.2.2.1
  have hK := E.2.2.2.2
  intro n
  induction n with
  | zero =>
    intro T H locs ls l0 l1 h
    have h : (none : Option (AT)) = some T1 := h
    cases h
  | succ n ih =>
    intro T H locs ls l0 l1 h G hl
    unfold g_X6_measureDelays_b2 at h
    refine lv_iload_n hx hb dX6_measureDelays_2 rfl (lv_at hl 1 rfl) ?_
    refine lv_aload_n hx hb dX6_measureDelays_3 rfl (lv_at hl 0 rfl) ?_
    obtain ⟨g2, h⟩ := oif_some h
    obtain ⟨n3, en3, h⟩ := obind_some h
    refine c_get E G l0 6 (v := .ref (ad n3)) (oO_k g2).1 (cc_o6 (oO_k g2).2) rfl (fun w h => .tail _ (iA_14 h)) (by decide) (.tail _ qA_209) rfl (by rw [en3]; rfl) dX6_measureDelays_4 ?_
    clear en3
    obtain ⟨g4, h⟩ := oif_some h
    obtain ⟨r7, T5, eT5, h⟩ := obind2_some h
    refine q_cvi (As := []) (rest := [.int l1]) E G hA hX hN hml (u_X1_cells l hst D cI cJ cZ cMic cSrc cSt cAI cAJ ad T n3 eT5) (cwV 0 hts (gaV qA_576 qA_35 qA_36 qA_37 qA_38) rfl rfl rfl (by decide +kernel) ⟨Nat.le_of_ble_eq_true rfl, Nat.le_of_ble_eq_true rfl⟩) (oO_k g4).1 (cc_o1 (oO_k g4).2) rfl rfl hl.1 rfl (lv_room (Nat.le_of_ble_eq_true rfl)) dX6_measureDelays_7 ⟨Nat.zero_le _, Nat.zero_le _⟩ (fun q8 T6 H locs hq G => ?_)
    obtain ⟨hq1, hq2⟩ := hq
    rw [hq2] at G
    refine lv_to hq1 ?_
    clear hq1 hq2 eT5
    refine lv_icmp_ge (tgt := 45) hx hb dX6_measureDelays_10 (by decide) (fun c9 => ?_) (fun c9 => ?_)
    · have h := oif_pos c9 h
      rw [osome1 h] at G
      exact kr45 _ _ _ G
    · have h := oif_neg c9 h
      refine lv_aload_n hx hb dX6_measureDelays_13 rfl (lv_at hl 0 rfl) ?_
      refine lv_aload_n hx hb dX6_measureDelays_14 rfl (lv_at hl 0 rfl) ?_
      obtain ⟨g10, h⟩ := oif_some h
      obtain ⟨n11, en11, h⟩ := obind_some h
      refine c_get E G l0 6 (v := .ref (ad n11)) (oO_k g10).1 (cc_o6 (oO_k g10).2) rfl (fun w h => .tail _ (iA_14 h)) (by decide) (.tail _ qA_209) rfl (by rw [en11]; rfl) dX6_measureDelays_15 ?_
      clear en11
      refine lv_iload_n hx hb dX6_measureDelays_18 rfl (lv_at hl 1 rfl) ?_
      obtain ⟨g12, h⟩ := oif_some h
      obtain ⟨r15, T13, eT13, h⟩ := obind2_some h
      refine q_cvi (As := [.int l1]) (rest := [.ref (ad l0)]) E G hA hX hN hml (u_X1_centreX l hst D cI cJ cZ cMic cSrc cSt cAI cAJ ad T5 n11 l1 eT13) (cwV 1 hts (gaV qA_577 qA_552 qA_553 qA_37 qA_164) rfl rfl rfl (by decide +kernel) ⟨Nat.le_of_ble_eq_true rfl, Nat.le_of_ble_eq_true rfl⟩) (oO_k g12).1 (cc_o1 (oO_k g12).2) rfl rfl hl.1 rfl (lv_room (Nat.le_of_ble_eq_true rfl)) dX6_measureDelays_19 ⟨Nat.zero_le _, Nat.zero_le _⟩ (fun q16 T14 H locs hq G => ?_)
      obtain ⟨hq1, hq2⟩ := hq
      rw [hq2] at G
      refine lv_to hq1 ?_
      clear hq1 hq2 eT13
      refine lv_aload_n hx hb dX6_measureDelays_22 rfl (lv_at hl 0 rfl) ?_
      obtain ⟨g17, h⟩ := oif_some h
      obtain ⟨n18, en18, h⟩ := obind_some h
      refine c_get E G l0 6 (v := .ref (ad n18)) (oO_k g17).1 (cc_o6 (oO_k g17).2) rfl (fun w h => .tail _ (iA_14 h)) (by decide) (.tail _ qA_209) rfl (by rw [en18]; rfl) dX6_measureDelays_23 ?_
      clear en18
      refine lv_iload_n hx hb dX6_measureDelays_26 rfl (lv_at hl 1 rfl) ?_
      obtain ⟨g19, h⟩ := oif_some h
      obtain ⟨r22, T20, eT20, h⟩ := obind2_some h
      refine q_cvi (As := [.int l1]) (rest := [.int r15, .ref (ad l0)]) E G hA hX hN hml (u_X1_centreY l hst D cI cJ cZ cMic cSrc cSt cAI cAJ ad T13 n18 l1 eT20) (cwV 1 hts (gaV qA_578 qA_555 qA_556 qA_37 qA_167) rfl rfl rfl (by decide +kernel) ⟨Nat.le_of_ble_eq_true rfl, Nat.le_of_ble_eq_true rfl⟩) (oO_k g19).1 (cc_o1 (oO_k g19).2) rfl rfl hl.1 rfl (lv_room (Nat.le_of_ble_eq_true rfl)) dX6_measureDelays_27 ⟨Nat.zero_le _, Nat.zero_le _⟩ (fun q23 T21 H locs hq G => ?_)
      obtain ⟨hq1, hq2⟩ := hq
      rw [hq2] at G
      refine lv_to hq1 ?_
      clear hq1 hq2 eT20
      refine lv_aload_n hx hb dX6_measureDelays_30 rfl (lv_at hl 0 rfl) ?_
      obtain ⟨g24, h⟩ := oif_some h
      obtain ⟨n25, en25, h⟩ := obind_some h
      refine c_get E G l0 17 (v := .ref (ad n25)) (oO_k g24).1 (cc_o6 (oO_k g24).2) rfl (fun w h => .tail _ (iA_14 h)) (by decide) (.tail _ qA_568) rfl (by rw [en25]; rfl) dX6_measureDelays_31 ?_
      clear en25
      refine lv_iload_n hx hb dX6_measureDelays_34 rfl (lv_at hl 1 rfl) ?_
      obtain ⟨g26, h⟩ := oif_some h
      obtain ⟨g27, h⟩ := oif_some h
      obtain ⟨n28, en28, h⟩ := obind_some h
      refine c_alda E G n25 6 (k := l1.toNatClampNeg) (v := .ref (ad n28)) (aA_k g26).1 (cc_a106 (aA_k g26).2.1) rfl (inb_k g27).1 (inb_k g27).2 (aA_k g26).2.2 (by show va_rf ((T20.2.2.2.2 n25 l1.toNatClampNeg).map ad) = _; rw [en28]; rfl) dX6_measureDelays_35 ?_
      clear en28
      obtain ⟨g29, h⟩ := oif_some h
      obtain ⟨T30, eT30, h⟩ := obind_some h
      refine q_cvv (As := [.int r15, .int r22, .ref (ad n28)]) (rest := []) E G hA hX hN hml (u_X6_delaysFrom l hst D cI cJ cZ cMic cSrc cSt cAI cAJ ad T20 l0 r15 r22 n28 eT30) (cwV 3 hts (gaV qA_579 qA_580 qA_581 qA_207 qA_573) rfl rfl rfl (by decide +kernel) ⟨Nat.le_of_ble_eq_true rfl, Nat.le_of_ble_eq_true rfl⟩) (oO_k g29).1 (cc_o6 (oO_k g29).2) rfl rfl hl.1 rfl (lv_room (Nat.le_of_ble_eq_true rfl)) dX6_measureDelays_36 ⟨Nat.zero_le _, Nat.zero_le _⟩ (fun T31 H locs hq G => ?_)
      rw [hq] at G
      clear hq eT30
      obtain ⟨v32, ev32, h⟩ := elet_some h
      refine lv_iinc (v := v32) (lv' := [(1, .int v32), (0, .ref (ad l0))]) hx hb dX6_measureDelays_39 hl (k := 1) rfl ev32.symm (by decide) rfl (fun ls hl => ?_)
      refine lv_goto (tgt := 2) hx hb dX6_measureDelays_42 (by decide) ?_
      have hl := lv_sub hl [1, 0] rfl
      exact ih _ _ _ _ _ _ h G hl
def g_X6_measureDelays (T : AT) (o : Nat) : Option (AT) := g_X6_measureDelays_b2 16384 T o 0
set_option maxHeartbeats 4000000 in
set_option maxRecDepth 100000 in
theorem u_X6_measureDelays (l : Launch) (hst : l.stackTraces = false) (D : va_G) (cI cJ cZ cMic cSrc cSt cAI cAJ : ClassId) (ad : Nat → Nat) (T : AT) (o : Nat) {T1 : AT} (h : g_X6_measureDelays T o = some T1) : kCv l yX6_measureDelays (Cond.code yX6_measureDelays cX6_measureDelays 2 none :: wsA) 4 73 cI cJ cZ cMic cSrc cSt cAI cAJ D ad T [.ref (ad o)] (fun T9 => T9 = T1) := by
  intro sz
  refine Met.ofW (cc := cX6_measureDelays) (maxL := 2) (ret := none) (by decide) rfl ?_
  intro p e s m args below meth c s₁ B hml hv
  obtain ⟨rfl, hsz, hP, hK, hD0, hX, hN⟩ := hv
  have hx := B.exec
  have hb := B.bytes
  have hr := B.returns
  have hts := atoms_spec (ws := (Cond.code yX6_measureDelays cX6_measureDelays 2 none :: wsA)) B.pre
  have hown : s.vm.findClass RX6 = some m.cls := findClass_of_methodNamed B.named
  have hlocks := B.notSynchronized
  subst hsz
  have hD := hD0.self (sz := s.heap.size)
  generalize hAe : va_A (cW ad T.1 (cc cI cJ cZ cMic cSrc cSt cAI cAJ ad T)) s.heap.size = A at hD hX ⊢
  have hA : ∀ q : Nat, s.heap.size ≤ q → A q := fun q h => by rw [← hAe]; exact Or.inr h
  have G : gC cI cJ cZ cMic cSrc cSt cAI cAJ D ad A s.heap s.heap [] T := ⟨hP, hD, va_S.rf⟩
  have E : cE p c cX6_measureDelays s m ([.ref (ad o)] : List Value).toArray (Cond.code yX6_measureDelays cX6_measureDelays 2 none :: wsA) D RX6 (CT cI cJ cZ cMic cSrc cSt cAI cAJ) := ⟨hx, hb, hts, hown, hK⟩
  have hl := lv_entry ([.ref (ad o)]) (n := 2) (Nat.le_of_ble_eq_true rfl)
  rw [lg_entry_eq]
  generalize (lg_sl ([.ref (ad o)]) ++ List.replicate (2 - (lg_sl ([.ref (ad o)])).length) Slot.unset).toArray = ls at hl ⊢
  have hl : lv_has ls 2 [(0, .ref (ad o))] := hl
  unfold g_X6_measureDelays at h
  refine lv_iconst (v := 0) hx hb dX6_measureDelays_0 (by decide) ?_
  refine lv_istore_n (lv' := [(1, .int 0), (0, .ref (ad o))]) hx hb dX6_measureDelays_1 rfl hl (by decide) rfl (fun ls hl => ?_)
  have hl := lv_sub hl [1, 0] rfl
  exact u_X6_measureDelays_b2 E hA hX hN hml hst (fun H locs ls G => W.vret hx hb hr (fun t ht hW => ⟨⟨T1, rfl, rfl, ⟨by rw [ht]; exact G.1, va_K.moved hW.alike hK, G.2.1⟩⟩, G.2.2.F ht⟩) G.2.2.2.2 dX6_measureDelays_45) _ _ _ _ _ _ _ h G hl
set_option maxHeartbeats 4000000 in
set_option maxRecDepth 100000 in
theorem s_X6_measureDelays_b2 {T1 : AT} : ∀ n : Nat, ∀ (T : AT) (l0 : Nat) (l1 : Int32), g_X6_measureDelays_b2 n T l0 l1 = some T1 → SP T T1 := by
  intro n
  induction n with
  | zero =>
    intro T l0 l1 h
    have h : (none : Option (AT)) = some T1 := h
    cases h
  | succ n ih =>
    intro T l0 l1 h
    have p0 := SP.rf T
    unfold g_X6_measureDelays_b2 at h
    obtain ⟨g2, h⟩ := oif_some h
    obtain ⟨n3, en3, h⟩ := obind_some h
    obtain ⟨g4, h⟩ := oif_some h
    obtain ⟨r6, T5, eT5, h⟩ := obind2_some h
    have p1 : SP T T5 := SP.tr p0 (s_X1_cells eT5)
    rcases oif_or h with ⟨c7, h⟩ | ⟨c7, h⟩
    · have h := h
      rw [← osome1 h]
      exact p1
    · have h := h
      obtain ⟨g8, h⟩ := oif_some h
      obtain ⟨n9, en9, h⟩ := obind_some h
      obtain ⟨g10, h⟩ := oif_some h
      obtain ⟨r12, T11, eT11, h⟩ := obind2_some h
      have p2 : SP T T11 := SP.tr p1 (s_X1_centreX eT11)
      obtain ⟨g13, h⟩ := oif_some h
      obtain ⟨n14, en14, h⟩ := obind_some h
      obtain ⟨g15, h⟩ := oif_some h
      obtain ⟨r17, T16, eT16, h⟩ := obind2_some h
      have p3 : SP T T16 := SP.tr p2 (s_X1_centreY eT16)
      obtain ⟨g18, h⟩ := oif_some h
      obtain ⟨n19, en19, h⟩ := obind_some h
      obtain ⟨g20, h⟩ := oif_some h
      obtain ⟨g21, h⟩ := oif_some h
      obtain ⟨n22, en22, h⟩ := obind_some h
      obtain ⟨g23, h⟩ := oif_some h
      obtain ⟨T24, eT24, h⟩ := obind_some h
      have p4 : SP T T24 := SP.tr p3 (s_X6_delaysFrom eT24)
      obtain ⟨v26, ev26, h⟩ := elet_some h
      exact SP.tr p4 (ih _ _ _ h)
set_option maxHeartbeats 4000000 in
set_option maxRecDepth 100000 in
theorem s_X6_measureDelays {T : AT} {o : Nat} {T1 : AT} (h : g_X6_measureDelays T o = some T1) : SP T T1 := by
  have p0 := SP.rf T
  unfold g_X6_measureDelays at h
  exact SP.tr p0 (s_X6_measureDelays_b2 _ _ _ _ h)
end
