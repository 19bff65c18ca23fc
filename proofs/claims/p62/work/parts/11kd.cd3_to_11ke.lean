section
/-! 11kd.cd3.lean.txt -/
def g_X0_trackCellIn_b55  (T : AT) (l3 : Int32) : Option (Int32 × AT) := some (l3, T)
set_option maxHeartbeats 4000000 in
set_option maxRecDepth 100000 in
theorem u_X0_trackCellIn_b55 {p : Program} {l : Launch} {e : Env} {s : State} {m : MethodId} {args : Array Value} {below : List Frame} {meth : Method} {c : Code} {Q : State → Prop} {D : va_G} {A : Nat → Prop} {cI cJ cZ cMic cSrc cSt cAI cAJ : ClassId} {ad : Nat → Nat} {r1 : Int32} {T1 : AT} (E : cE p c cX0_trackCellIn s m args (Cond.code yX0_trackCellIn cX0_trackCellIn 5 (some .int) :: wsA) D RX0 (CT cI cJ cZ cMic cSrc cSt cAI cAJ)) (hA : ∀ q : Nat, s.heap.size ≤ q → A q) (hX : xT A s) (hN : nX s) (hml : c.maxLocals = 5) (hst : l.stackTraces = false) (kr56 : ∀ (H : Heap) (locs : List Loc) (ls : Array Slot), gC cI cJ cZ cMic cSrc cSt cAI cAJ D ad A s.heap H locs T1 → W p l e { frames := 4, cells := 0, slots := 0, locals := 74 } s m args below meth c H locs 0 0 Q (F0 m 56 ls [.int r1])) : ∀ (T : AT) (H : Heap) (locs : List Loc) (ls : Array Slot) (l3 : Int32), g_X0_trackCellIn_b55 T l3 = some (r1, T1) → gC cI cJ cZ cMic cSrc cSt cAI cAJ D ad A s.heap H locs T → lv_has ls 5 [(3, .int l3)] → W p l e { frames := 4, cells := 0, slots := 0, locals := 74 } s m args below meth c H locs 0 0 Q (F0 m 55 ls []) := by
  have hx := E.1
  have hb := E.2.1
  have hts := E.2.2.1
  have hown := E.2.2.2.1
  have hK := E.2.2.2.2
  intro T H locs ls l3 h G hl
  unfold g_X0_trackCellIn_b55 at h
  refine lv_iload_n hx hb dX0_trackCellIn_55 rfl (lv_at hl 0 rfl) ?_
  rw [(osome2 h).2] at G
  refine lv_to (osome2 h).1 ?_
  exact kr56 _ _ _ G
def g_X0_trackCellIn_b17  : Nat → AT → Nat → Nat → Int32 → Int32 → Int32 → Option (Int32 × AT)
  | 0, _, _, _, _, _, _ => none
  | n + 1, T, l0, l1, l2, l3, l4 => if l2 < l4 then (g_X0_trackCellIn_b55 T l3) else (if 50 ≤ l4 then (g_X0_trackCellIn_b55 T l3) else (oif (oO T l1 1 = true) <| obind2 (g_X1_areaAround T l1 l3) fun n7 T5 => oif (oO T5 l0 0 = true) <| obind (T5.2.2.2.2 l0 0) fun n9 => obind (g_X0_rowStart l4) fun r10 => oif (oO T5 l1 1 = true) <| obind2 (g_X1_bestIn T5 l1 n7 n9 r10) fun r15 T13 => elet (l4 + Int32.ofInt (1)) fun v17 => g_X0_trackCellIn_b17 n T13 l0 l1 l2 r15 v17))
set_option maxHeartbeats 4000000 in
set_option maxRecDepth 100000 in
theorem u_X0_trackCellIn_b17 {p : Program} {l : Launch} {e : Env} {s : State} {m : MethodId} {args : Array Value} {below : List Frame} {meth : Method} {c : Code} {Q : State → Prop} {D : va_G} {A : Nat → Prop} {cI cJ cZ cMic cSrc cSt cAI cAJ : ClassId} {ad : Nat → Nat} {r1 : Int32} {T1 : AT} (E : cE p c cX0_trackCellIn s m args (Cond.code yX0_trackCellIn cX0_trackCellIn 5 (some .int) :: wsA) D RX0 (CT cI cJ cZ cMic cSrc cSt cAI cAJ)) (hA : ∀ q : Nat, s.heap.size ≤ q → A q) (hX : xT A s) (hN : nX s) (hml : c.maxLocals = 5) (hst : l.stackTraces = false) (kr56 : ∀ (H : Heap) (locs : List Loc) (ls : Array Slot), gC cI cJ cZ cMic cSrc cSt cAI cAJ D ad A s.heap H locs T1 → W p l e { frames := 4, cells := 0, slots := 0, locals := 74 } s m args below meth c H locs 0 0 Q (F0 m 56 ls [.int r1])) : ∀ n : Nat, ∀ (T : AT) (H : Heap) (locs : List Loc) (ls : Array Slot) (l0 : Nat) (l1 : Nat) (l2 : Int32) (l3 : Int32) (l4 : Int32), g_X0_trackCellIn_b17 n T l0 l1 l2 l3 l4 = some (r1, T1) → gC cI cJ cZ cMic cSrc cSt cAI cAJ D ad A s.heap H locs T → lv_has ls 5 [(0, .ref (ad l0)), (1, .ref (ad l1)), (2, .int l2), (3, .int l3), (4, .int l4)] → W p l e { frames := 4, cells := 0, slots := 0, locals := 74 } s m args below meth c H locs 0 0 Q (F0 m 17 ls []) := by
  have hx := E.1
  have hb := E.2.1
  have hts := E.2.2.1
  have hown := E.2.2.2.1
  have hK := E.2.2.2.2
  intro n
  induction n with
  | zero =>
    intro T H locs ls l0 l1 l2 l3 l4 h
    have h : (none : Option (Int32 × AT)) = some (r1, T1) := h
    cases h
  | succ n ih =>
    intro T H locs ls l0 l1 l2 l3 l4 h G hl
    unfold g_X0_trackCellIn_b17 at h
    refine lv_iload hx hb dX0_trackCellIn_17 (lv_at hl 4 rfl) ?_
    refine lv_iload_n hx hb dX0_trackCellIn_19 rfl (lv_at hl 2 rfl) ?_
    refine lv_icmp_gt (tgt := 55) hx hb dX0_trackCellIn_20 (by decide) (fun c2 => ?_) (fun c2 => ?_)
    · have h := oif_pos c2 h
      have hl := lv_sub hl [3] rfl
      exact u_X0_trackCellIn_b55 E hA hX hN hml hst kr56 _ _ _ _ _ h G hl
    · have h := oif_neg c2 h
      refine lv_iload hx hb dX0_trackCellIn_23 (lv_at hl 4 rfl) ?_
      refine lv_bipush (v := 50) hx hb dX0_trackCellIn_25 (by decide) ?_
      refine lv_icmp_ge (tgt := 55) hx hb dX0_trackCellIn_27 (by decide) (fun c3 => ?_) (fun c3 => ?_)
      · have h := oif_pos c3 h
        have hl := lv_sub hl [3] rfl
        exact u_X0_trackCellIn_b55 E hA hX hN hml hst kr56 _ _ _ _ _ h G hl
      · have h := oif_neg c3 h
        refine lv_aload_n hx hb dX0_trackCellIn_30 rfl (lv_at hl 1 rfl) ?_
        refine lv_aload_n hx hb dX0_trackCellIn_31 rfl (lv_at hl 1 rfl) ?_
        refine lv_iload_n hx hb dX0_trackCellIn_32 rfl (lv_at hl 3 rfl) ?_
        obtain ⟨g4, h⟩ := oif_some h
        obtain ⟨n7, T5, eT5, h⟩ := obind2_some h
        refine q_cvr (As := [.int l3]) (rest := [.ref (ad l1)]) E G hA hX hN hml (u_X1_areaAround l hst D cI cJ cZ cMic cSrc cSt cAI cAJ ad T l1 l3 eT5) (cwV 1 hts (gaV qA_133 qA_134 qA_135 qA_37 qA_136) rfl rfl rfl (by decide +kernel) ⟨Nat.le_of_ble_eq_true rfl, Nat.le_of_ble_eq_true rfl⟩) (oO_k g4).1 (cc_o1 (oO_k g4).2) rfl rfl hl.1 rfl (lv_room (Nat.le_of_ble_eq_true rfl)) dX0_trackCellIn_33 ⟨Nat.zero_le _, Nat.zero_le _⟩ (fun T6 H locs hq G => ?_)
        rw [hq] at G
        clear hq eT5
        refine lv_aload_n hx hb dX0_trackCellIn_36 rfl (lv_at hl 0 rfl) ?_
        obtain ⟨g8, h⟩ := oif_some h
        obtain ⟨n9, en9, h⟩ := obind_some h
        refine c_get E G l0 0 (v := .ref (ad n9)) (oO_k g8).1 (cc_o0 (oO_k g8).2) rfl (fun w h => .tail _ (iA_13 h)) (by decide) (.tail _ qA_7) rfl (by rw [en9]; rfl) dX0_trackCellIn_37 ?_
        clear en9
        refine lv_iload hx hb dX0_trackCellIn_40 (lv_at hl 4 rfl) ?_
        obtain ⟨r10, er10, h⟩ := obind_some h
        refine q_sti (As := [.int l4]) (rest := [.ref (ad n9), .ref (ad n7), .ref (ad l1)]) ⟨hx, hb, hml, hown, hts⟩ hN (u_X0_rowStart l l4 er10) (cwS 1 hts (gaS qA_41 qA_42 qA_31 qA_43) rfl rfl rfl (by decide +kernel) ⟨Nat.le_of_ble_eq_true rfl, Nat.le_of_ble_eq_true rfl⟩) rfl hl.1 rfl (lv_room (Nat.le_of_ble_eq_true rfl)) dX0_trackCellIn_42 ⟨Nat.zero_le _, Nat.zero_le _⟩ (fun q11 hq => ?_)
        refine lv_to hq ?_
        clear hq er10
        obtain ⟨g12, h⟩ := oif_some h
        obtain ⟨r15, T13, eT13, h⟩ := obind2_some h
        refine q_cvi (As := [.ref (ad n7), .ref (ad n9), .int r10]) (rest := []) E G hA hX hN hml (u_X1_bestIn l hst D cI cJ cZ cMic cSrc cSt cAI cAJ ad T5 l1 n7 n9 r10 eT13) (cwV 3 hts (gaV qA_115 qA_116 qA_117 qA_37 qA_118) rfl rfl rfl (by decide +kernel) ⟨Nat.le_of_ble_eq_true rfl, Nat.le_of_ble_eq_true rfl⟩) (oO_k g12).1 (cc_o1 (oO_k g12).2) rfl rfl hl.1 rfl (lv_room (Nat.le_of_ble_eq_true rfl)) dX0_trackCellIn_45 ⟨Nat.zero_le _, Nat.zero_le _⟩ (fun q16 T14 H locs hq G => ?_)
        obtain ⟨hq1, hq2⟩ := hq
        rw [hq2] at G
        refine lv_to hq1 ?_
        clear hq1 hq2 eT13
        refine lv_istore_n (lv' := [(3, .int r15), (0, .ref (ad l0)), (1, .ref (ad l1)), (2, .int l2), (4, .int l4)]) hx hb dX0_trackCellIn_48 rfl hl (by decide) rfl (fun ls hl => ?_)
        obtain ⟨v17, ev17, h⟩ := elet_some h
        refine lv_iinc (v := v17) (lv' := [(4, .int v17), (3, .int r15), (0, .ref (ad l0)), (1, .ref (ad l1)), (2, .int l2)]) hx hb dX0_trackCellIn_49 hl (k := 4) rfl ev17.symm (by decide) rfl (fun ls hl => ?_)
        refine lv_goto (tgt := 17) hx hb dX0_trackCellIn_52 (by decide) ?_
        have hl := lv_sub hl [2, 3, 4, 1, 0] rfl
        exact ih _ _ _ _ _ _ _ _ _ h G hl
def g_X0_trackCellIn (T : AT) (o : Nat) (a0 : Nat) (a1 : Int32) : Option (Int32 × AT) := oif (oO T a0 1 = true) <| obind (T.2.2.2.2 a0 5) fun n3 => oif (oO T o 0 = true) <| obind (T.2.2.2.2 o 0) fun n5 => oif (oO T a0 1 = true) <| obind2 (g_X1_bestIn T a0 n3 n5 (0 : Int32)) fun r9 T7 => g_X0_trackCellIn_b17 16384 T7 o a0 a1 r9 1
set_option maxHeartbeats 4000000 in
set_option maxRecDepth 100000 in
theorem u_X0_trackCellIn (l : Launch) (hst : l.stackTraces = false) (D : va_G) (cI cJ cZ cMic cSrc cSt cAI cAJ : ClassId) (ad : Nat → Nat) (T : AT) (o : Nat) (a0 : Nat) (a1 : Int32) {r1 : Int32} {T1 : AT} (h : g_X0_trackCellIn T o a0 a1 = some (r1, T1)) : kCi l yX0_trackCellIn (Cond.code yX0_trackCellIn cX0_trackCellIn 5 (some .int) :: wsA) 4 74 cI cJ cZ cMic cSrc cSt cAI cAJ D ad T [.ref (ad o), .ref (ad a0), .int a1] (fun r T9 => r = r1 ∧ T9 = T1) := by
  intro sz
  refine Met.ofW (cc := cX0_trackCellIn) (maxL := 5) (ret := (some .int)) (by decide) rfl ?_
  intro p e s m args below meth c s₁ B hml hv
  obtain ⟨rfl, hsz, hP, hK, hD0, hX, hN⟩ := hv
  have hx := B.exec
  have hb := B.bytes
  have hr := B.returns
  have hts := atoms_spec (ws := (Cond.code yX0_trackCellIn cX0_trackCellIn 5 (some .int) :: wsA)) B.pre
  have hown : s.vm.findClass RX0 = some m.cls := findClass_of_methodNamed B.named
  have hlocks := B.notSynchronized
  subst hsz
  have hD := hD0.self (sz := s.heap.size)
  generalize hAe : va_A (cW ad T.1 (cc cI cJ cZ cMic cSrc cSt cAI cAJ ad T)) s.heap.size = A at hD hX ⊢
  have hA : ∀ q : Nat, s.heap.size ≤ q → A q := fun q h => by rw [← hAe]; exact Or.inr h
  have G : gC cI cJ cZ cMic cSrc cSt cAI cAJ D ad A s.heap s.heap [] T := ⟨hP, hD, va_S.rf⟩
  have E : cE p c cX0_trackCellIn s m ([.ref (ad o), .ref (ad a0), .int a1] : List Value).toArray (Cond.code yX0_trackCellIn cX0_trackCellIn 5 (some .int) :: wsA) D RX0 (CT cI cJ cZ cMic cSrc cSt cAI cAJ) := ⟨hx, hb, hts, hown, hK⟩
  have hl := lv_entry ([.ref (ad o), .ref (ad a0), .int a1]) (n := 5) (Nat.le_of_ble_eq_true rfl)
  rw [lg_entry_eq]
  generalize (lg_sl ([.ref (ad o), .ref (ad a0), .int a1]) ++ List.replicate (5 - (lg_sl ([.ref (ad o), .ref (ad a0), .int a1])).length) Slot.unset).toArray = ls at hl ⊢
  have hl : lv_has ls 5 [(0, .ref (ad o)), (1, .ref (ad a0)), (2, .int a1)] := hl
  unfold g_X0_trackCellIn at h
  refine lv_aload_n hx hb dX0_trackCellIn_0 rfl (lv_at hl 1 rfl) ?_
  refine lv_aload_n hx hb dX0_trackCellIn_1 rfl (lv_at hl 1 rfl) ?_
  obtain ⟨g2, h⟩ := oif_some h
  obtain ⟨n3, en3, h⟩ := obind_some h
  refine c_get E G a0 5 (v := .ref (ad n3)) (oO_k g2).1 (cc_o1 (oO_k g2).2) rfl (fun w h => .tail _ (iA_15 h)) (by decide) (.tail _ qA_23) rfl (by rw [en3]; rfl) dX0_trackCellIn_2 ?_
  clear en3
  refine lv_aload_n hx hb dX0_trackCellIn_5 rfl (lv_at hl 0 rfl) ?_
  obtain ⟨g4, h⟩ := oif_some h
  obtain ⟨n5, en5, h⟩ := obind_some h
  refine c_get E G o 0 (v := .ref (ad n5)) (oO_k g4).1 (cc_o0 (oO_k g4).2) rfl (fun w h => .tail _ (iA_13 h)) (by decide) (.tail _ qA_7) rfl (by rw [en5]; rfl) dX0_trackCellIn_6 ?_
  clear en5
  refine lv_iconst (v := 0) hx hb dX0_trackCellIn_9 (by decide) ?_
  obtain ⟨g6, h⟩ := oif_some h
  obtain ⟨r9, T7, eT7, h⟩ := obind2_some h
  refine q_cvi (As := [.ref (ad n3), .ref (ad n5), .int 0]) (rest := []) E G hA hX hN hml (u_X1_bestIn l hst D cI cJ cZ cMic cSrc cSt cAI cAJ ad T a0 n3 n5 (0 : Int32) eT7) (cwV 3 hts (gaV qA_115 qA_116 qA_117 qA_37 qA_118) rfl rfl rfl (by decide +kernel) ⟨Nat.le_of_ble_eq_true rfl, Nat.le_of_ble_eq_true rfl⟩) (oO_k g6).1 (cc_o1 (oO_k g6).2) rfl rfl hl.1 rfl (lv_room (Nat.le_of_ble_eq_true rfl)) dX0_trackCellIn_10 ⟨Nat.zero_le _, Nat.zero_le _⟩ (fun q10 T8 H locs hq G => ?_)
  obtain ⟨hq1, hq2⟩ := hq
  rw [hq2] at G
  refine lv_to hq1 ?_
  clear hq1 hq2 eT7
  refine lv_istore_n (lv' := [(3, .int r9), (0, .ref (ad o)), (1, .ref (ad a0)), (2, .int a1)]) hx hb dX0_trackCellIn_13 rfl hl (by decide) rfl (fun ls hl => ?_)
  refine lv_iconst (v := 1) hx hb dX0_trackCellIn_14 (by decide) ?_
  refine lv_istore (lv' := [(4, .int 1), (3, .int r9), (0, .ref (ad o)), (1, .ref (ad a0)), (2, .int a1)]) hx hb dX0_trackCellIn_15 hl (by decide) rfl (fun ls hl => ?_)
  have hl := lv_sub hl [2, 3, 4, 1, 0] rfl
  exact u_X0_trackCellIn_b17 E hA hX hN hml hst (fun H locs ls G => W.iret (v := r1) hx hb hr (fun t ht hW => ⟨⟨r1, T1, rfl, ⟨rfl, rfl⟩, ⟨by rw [ht]; exact G.1, va_K.moved hW.alike hK, G.2.1⟩⟩, G.2.2.F ht⟩) G.2.2.2.2 dX0_trackCellIn_56) _ _ _ _ _ _ _ _ _ _ h G hl
set_option maxHeartbeats 4000000 in
set_option maxRecDepth 100000 in
theorem s_X0_trackCellIn_b55 {r1 : Int32} {T1 : AT} : ∀ (T : AT) (l3 : Int32), g_X0_trackCellIn_b55 T l3 = some (r1, T1) → SP T T1 := by
  intro T l3 h
  have p0 := SP.rf T
  unfold g_X0_trackCellIn_b55 at h
  rw [← (osome2 h).2]
  exact p0
set_option maxHeartbeats 4000000 in
set_option maxRecDepth 100000 in
theorem s_X0_trackCellIn_b17 {r1 : Int32} {T1 : AT} : ∀ n : Nat, ∀ (T : AT) (l0 : Nat) (l1 : Nat) (l2 : Int32) (l3 : Int32) (l4 : Int32), g_X0_trackCellIn_b17 n T l0 l1 l2 l3 l4 = some (r1, T1) → SP T T1 := by
  intro n
  induction n with
  | zero =>
    intro T l0 l1 l2 l3 l4 h
    have h : (none : Option (Int32 × AT)) = some (r1, T1) := h
    cases h
  | succ n ih =>
    intro T l0 l1 l2 l3 l4 h
    have p0 := SP.rf T
    unfold g_X0_trackCellIn_b17 at h
    rcases oif_or h with ⟨c2, h⟩ | ⟨c2, h⟩
    · have h := h
      exact SP.tr p0 (s_X0_trackCellIn_b55 _ _ h)
    · have h := h
      rcases oif_or h with ⟨c3, h⟩ | ⟨c3, h⟩
      · have h := h
        exact SP.tr p0 (s_X0_trackCellIn_b55 _ _ h)
      · have h := h
        obtain ⟨g4, h⟩ := oif_some h
        obtain ⟨r6, T5, eT5, h⟩ := obind2_some h
        have p1 : SP T T5 := SP.tr p0 (s_X1_areaAround eT5)
        obtain ⟨g7, h⟩ := oif_some h
        obtain ⟨n8, en8, h⟩ := obind_some h
        obtain ⟨r9, -, h⟩ := obind_some h
        obtain ⟨g10, h⟩ := oif_some h
        obtain ⟨r12, T11, eT11, h⟩ := obind2_some h
        have p2 : SP T T11 := SP.tr p1 (s_X1_bestIn eT11)
        obtain ⟨v13, ev13, h⟩ := elet_some h
        exact SP.tr p2 (ih _ _ _ _ _ _ h)
set_option maxHeartbeats 4000000 in
set_option maxRecDepth 100000 in
theorem s_X0_trackCellIn {T : AT} {o : Nat} {a0 : Nat} {a1 : Int32} {r1 : Int32} {T1 : AT} (h : g_X0_trackCellIn T o a0 a1 = some (r1, T1)) : SP T T1 := by
  have p0 := SP.rf T
  unfold g_X0_trackCellIn at h
  obtain ⟨g2, h⟩ := oif_some h
  obtain ⟨n3, en3, h⟩ := obind_some h
  obtain ⟨g4, h⟩ := oif_some h
  obtain ⟨n5, en5, h⟩ := obind_some h
  obtain ⟨g6, h⟩ := oif_some h
  obtain ⟨r8, T7, eT7, h⟩ := obind2_some h
  have p1 : SP T T7 := SP.tr p0 (s_X1_bestIn eT7)
  exact SP.tr p1 (s_X0_trackCellIn_b17 _ _ _ _ _ _ _ h)
def g_X1_clear (T : AT) (o : Nat) : Option (AT) := oif (oO T o 1 = true) <| elet (uI T o 3 0) fun T3 => oif (oO T3 o 1 = true) <| elet (uI T3 o 4 0) fun T5 => oif (oO T5 o 1 = true) <| elet (uI T5 o 7 0) fun T7 => some T7
set_option maxHeartbeats 4000000 in
set_option maxRecDepth 100000 in
theorem u_X1_clear (l : Launch) (hst : l.stackTraces = false) (D : va_G) (cI cJ cZ cMic cSrc cSt cAI cAJ : ClassId) (ad : Nat → Nat) (T : AT) (o : Nat) {T1 : AT} (h : g_X1_clear T o = some T1) : kCv l yX1_clear (Cond.code yX1_clear cX1_clear 1 none :: wsA) 1 0 cI cJ cZ cMic cSrc cSt cAI cAJ D ad T [.ref (ad o)] (fun T9 => T9 = T1) := by
  intro sz
  refine Met.ofW (cc := cX1_clear) (maxL := 1) (ret := none) (by decide) rfl ?_
  intro p e s m args below meth c s₁ B hml hv
  obtain ⟨rfl, hsz, hP, hK, hD0, hX, hN⟩ := hv
  have hx := B.exec
  have hb := B.bytes
  have hr := B.returns
  have hts := atoms_spec (ws := (Cond.code yX1_clear cX1_clear 1 none :: wsA)) B.pre
  have hown : s.vm.findClass RX1 = some m.cls := findClass_of_methodNamed B.named
  have hlocks := B.notSynchronized
  subst hsz
  have hD := hD0.self (sz := s.heap.size)
  generalize hAe : va_A (cW ad T.1 (cc cI cJ cZ cMic cSrc cSt cAI cAJ ad T)) s.heap.size = A at hD hX ⊢
  have hA : ∀ q : Nat, s.heap.size ≤ q → A q := fun q h => by rw [← hAe]; exact Or.inr h
  have G : gC cI cJ cZ cMic cSrc cSt cAI cAJ D ad A s.heap s.heap [] T := ⟨hP, hD, va_S.rf⟩
  have E : cE p c cX1_clear s m ([.ref (ad o)] : List Value).toArray (Cond.code yX1_clear cX1_clear 1 none :: wsA) D RX1 (CT cI cJ cZ cMic cSrc cSt cAI cAJ) := ⟨hx, hb, hts, hown, hK⟩
  have hl := lv_entry ([.ref (ad o)]) (n := 1) (Nat.le_of_ble_eq_true rfl)
  rw [lg_entry_eq]
  generalize (lg_sl ([.ref (ad o)]) ++ List.replicate (1 - (lg_sl ([.ref (ad o)])).length) Slot.unset).toArray = ls at hl ⊢
  have hl : lv_has ls 1 [(0, .ref (ad o))] := hl
  unfold g_X1_clear at h
  refine lv_aload_n hx hb dX1_clear_0 rfl (lv_at hl 0 rfl) ?_
  refine lv_iconst (v := 0) hx hb dX1_clear_1 (by decide) ?_
  obtain ⟨g2, h⟩ := oif_some h
  refine c_put E G o 3 (v := .int 0) (oO_k g2).1 (cc_o1 (oO_k g2).2) rfl (fun w h => .tail _ (iA_15 h)) tyX1 tyX1_ok nmX1 (by decide) (.tail _ qA_39) ⟨rfl, rfl, rfl⟩ rfl rfl (Nat.le_of_ble_eq_true rfl) dX1_clear_2 (fun H locs G => ?_)
  have G := gC_up_i (f := upd (T.2.2.1 o) 3 0) (by rw [(oO_k g2).2]; rfl) G
  obtain ⟨T3, eT3, h⟩ := elet_some h
  have G : gC cI cJ cZ cMic cSrc cSt cAI cAJ D ad A s.heap H locs T3 := by rw [eT3]; exact G
  clear eT3
  refine lv_aload_n hx hb dX1_clear_5 rfl (lv_at hl 0 rfl) ?_
  refine lv_iconst (v := 0) hx hb dX1_clear_6 (by decide) ?_
  obtain ⟨g4, h⟩ := oif_some h
  refine c_put E G o 4 (v := .int 0) (oO_k g4).1 (cc_o1 (oO_k g4).2) rfl (fun w h => .tail _ (iA_15 h)) tyX1 tyX1_ok nmX1 (by decide) (.tail _ qA_40) ⟨rfl, rfl, rfl⟩ rfl rfl (Nat.le_of_ble_eq_true rfl) dX1_clear_7 (fun H locs G => ?_)
  have G := gC_up_i (f := upd (T3.2.2.1 o) 4 0) (by rw [(oO_k g4).2]; rfl) G
  obtain ⟨T5, eT5, h⟩ := elet_some h
  have G : gC cI cJ cZ cMic cSrc cSt cAI cAJ D ad A s.heap H locs T5 := by rw [eT5]; exact G
  clear eT5
  refine lv_aload_n hx hb dX1_clear_10 rfl (lv_at hl 0 rfl) ?_
  refine lv_iconst (v := 0) hx hb dX1_clear_11 (by decide) ?_
  obtain ⟨g6, h⟩ := oif_some h
  refine c_put E G o 7 (v := .int 0) (oO_k g6).1 (cc_o1 (oO_k g6).2) rfl (fun w h => .tail _ (iA_15 h)) tyX1 tyX1_ok nmX1 (by decide) (.tail _ qA_162) ⟨rfl, rfl, rfl⟩ rfl rfl (Nat.le_of_ble_eq_true rfl) dX1_clear_12 (fun H locs G => ?_)
  have G := gC_up_i (f := upd (T5.2.2.1 o) 7 0) (by rw [(oO_k g6).2]; rfl) G
  obtain ⟨T7, eT7, h⟩ := elet_some h
  have G : gC cI cJ cZ cMic cSrc cSt cAI cAJ D ad A s.heap H locs T7 := by rw [eT7]; exact G
  clear eT7
  exact W.vret hx hb hr (fun t ht hW => ⟨⟨T7, rfl, osome1 h, ⟨by rw [ht]; exact G.1, va_K.moved hW.alike hK, G.2.1⟩⟩, G.2.2.F ht⟩) G.2.2.2.2 dX1_clear_15
set_option maxHeartbeats 4000000 in
set_option maxRecDepth 100000 in
theorem s_X1_clear {T : AT} {o : Nat} {T1 : AT} (h : g_X1_clear T o = some T1) : SP T T1 := by
  have p0 := SP.rf T
  unfold g_X1_clear at h
  obtain ⟨g2, h⟩ := oif_some h
  obtain ⟨T3, eT3, h⟩ := elet_some h
  have p1 : SP T T3 := SP.tr p0 (by rw [eT3]; exact sp_uI)
  obtain ⟨g4, h⟩ := oif_some h
  obtain ⟨T5, eT5, h⟩ := elet_some h
  have p2 : SP T T5 := SP.tr p1 (by rw [eT5]; exact sp_uI)
  obtain ⟨g6, h⟩ := oif_some h
  obtain ⟨T7, eT7, h⟩ := elet_some h
  have p3 : SP T T7 := SP.tr p2 (by rw [eT7]; exact sp_uI)
  rw [← osome1 h]
  exact p3
def g_X1_open (T : AT) (o : Nat) (a0 : Int32) (a1 : Int32) : Option (AT) := oif (oO T o 1 = true) <| elet (uI T o 3 a0) fun T3 => oif (oO T3 o 1 = true) <| elet (uI T3 o 4 a1) fun T5 => oif (oO T5 o 1 = true) <| obind (T5.2.2.2.2 o 5) fun n7 => elet (a0 - 1) fun v8 => oif (aA T5 n7 100 = true) <| oif (inb 2 (T5.2.1 n7).2 = true) <| elet (uI T5 n7 (2 : Int32).toNatClampNeg v8) fun T11 => oif (oO T11 o 1 = true) <| obind (T11.2.2.2.2 o 5) fun n13 => elet (a1 - 1) fun v14 => oif (aA T11 n13 100 = true) <| oif (inb 3 (T11.2.1 n13).2 = true) <| elet (uI T11 n13 (3 : Int32).toNatClampNeg v14) fun T17 => some T17
set_option maxHeartbeats 4000000 in
set_option maxRecDepth 100000 in
theorem u_X1_open (l : Launch) (hst : l.stackTraces = false) (D : va_G) (cI cJ cZ cMic cSrc cSt cAI cAJ : ClassId) (ad : Nat → Nat) (T : AT) (o : Nat) (a0 : Int32) (a1 : Int32) {T1 : AT} (h : g_X1_open T o a0 a1 = some T1) : kCv l yX1_open (Cond.code yX1_open cX1_open 3 none :: wsA) 1 0 cI cJ cZ cMic cSrc cSt cAI cAJ D ad T [.ref (ad o), .int a0, .int a1] (fun T9 => T9 = T1) := by
  intro sz
  refine Met.ofW (cc := cX1_open) (maxL := 3) (ret := none) (by decide) rfl ?_
  intro p e s m args below meth c s₁ B hml hv
  obtain ⟨rfl, hsz, hP, hK, hD0, hX, hN⟩ := hv
  have hx := B.exec
  have hb := B.bytes
  have hr := B.returns
  have hts := atoms_spec (ws := (Cond.code yX1_open cX1_open 3 none :: wsA)) B.pre
  have hown : s.vm.findClass RX1 = some m.cls := findClass_of_methodNamed B.named
  have hlocks := B.notSynchronized
  subst hsz
  have hD := hD0.self (sz := s.heap.size)
  generalize hAe : va_A (cW ad T.1 (cc cI cJ cZ cMic cSrc cSt cAI cAJ ad T)) s.heap.size = A at hD hX ⊢
  have hA : ∀ q : Nat, s.heap.size ≤ q → A q := fun q h => by rw [← hAe]; exact Or.inr h
  have G : gC cI cJ cZ cMic cSrc cSt cAI cAJ D ad A s.heap s.heap [] T := ⟨hP, hD, va_S.rf⟩
  have E : cE p c cX1_open s m ([.ref (ad o), .int a0, .int a1] : List Value).toArray (Cond.code yX1_open cX1_open 3 none :: wsA) D RX1 (CT cI cJ cZ cMic cSrc cSt cAI cAJ) := ⟨hx, hb, hts, hown, hK⟩
  have hl := lv_entry ([.ref (ad o), .int a0, .int a1]) (n := 3) (Nat.le_of_ble_eq_true rfl)
  rw [lg_entry_eq]
  generalize (lg_sl ([.ref (ad o), .int a0, .int a1]) ++ List.replicate (3 - (lg_sl ([.ref (ad o), .int a0, .int a1])).length) Slot.unset).toArray = ls at hl ⊢
  have hl : lv_has ls 3 [(0, .ref (ad o)), (1, .int a0), (2, .int a1)] := hl
  unfold g_X1_open at h
  refine lv_aload_n hx hb dX1_open_0 rfl (lv_at hl 0 rfl) ?_
  refine lv_iload_n hx hb dX1_open_1 rfl (lv_at hl 1 rfl) ?_
  obtain ⟨g2, h⟩ := oif_some h
  refine c_put E G o 3 (v := .int a0) (oO_k g2).1 (cc_o1 (oO_k g2).2) rfl (fun w h => .tail _ (iA_15 h)) tyX1 tyX1_ok nmX1 (by decide) (.tail _ qA_39) ⟨rfl, rfl, rfl⟩ rfl rfl (Nat.le_of_ble_eq_true rfl) dX1_open_2 (fun H locs G => ?_)
  have G := gC_up_i (f := upd (T.2.2.1 o) 3 a0) (by rw [(oO_k g2).2]; rfl) G
  obtain ⟨T3, eT3, h⟩ := elet_some h
  have G : gC cI cJ cZ cMic cSrc cSt cAI cAJ D ad A s.heap H locs T3 := by rw [eT3]; exact G
  clear eT3
  refine lv_aload_n hx hb dX1_open_5 rfl (lv_at hl 0 rfl) ?_
  refine lv_iload_n hx hb dX1_open_6 rfl (lv_at hl 2 rfl) ?_
  obtain ⟨g4, h⟩ := oif_some h
  refine c_put E G o 4 (v := .int a1) (oO_k g4).1 (cc_o1 (oO_k g4).2) rfl (fun w h => .tail _ (iA_15 h)) tyX1 tyX1_ok nmX1 (by decide) (.tail _ qA_40) ⟨rfl, rfl, rfl⟩ rfl rfl (Nat.le_of_ble_eq_true rfl) dX1_open_7 (fun H locs G => ?_)
  have G := gC_up_i (f := upd (T3.2.2.1 o) 4 a1) (by rw [(oO_k g4).2]; rfl) G
  obtain ⟨T5, eT5, h⟩ := elet_some h
  have G : gC cI cJ cZ cMic cSrc cSt cAI cAJ D ad A s.heap H locs T5 := by rw [eT5]; exact G
  clear eT5
  refine lv_aload_n hx hb dX1_open_10 rfl (lv_at hl 0 rfl) ?_
  obtain ⟨g6, h⟩ := oif_some h
  obtain ⟨n7, en7, h⟩ := obind_some h
  refine c_get E G o 5 (v := .ref (ad n7)) (oO_k g6).1 (cc_o1 (oO_k g6).2) rfl (fun w h => .tail _ (iA_15 h)) (by decide) (.tail _ qA_158) rfl (by rw [en7]; rfl) dX1_open_11 ?_
  clear en7
  refine lv_iconst (v := 2) hx hb dX1_open_14 (by decide) ?_
  refine lv_iload_n hx hb dX1_open_15 rfl (lv_at hl 1 rfl) ?_
  refine lv_iconst (v := 1) hx hb dX1_open_16 (by decide) ?_
  refine lv_isub hx hb dX1_open_17 ?_
  refine lv_topi (fun v8 ev8 => ?_)
  have h := elet_at ev8 h
  clear ev8
  obtain ⟨g9, h⟩ := oif_some h
  obtain ⟨g10, h⟩ := oif_some h
  refine c_iast E G n7 0 (k := (2 : Int32).toNatClampNeg) (v := v8) (aA_k g9).1 (cc_a100 (aA_k g9).2.1) rfl (inb_k g10).1 (inb_k g10).2 (aA_k g9).2.2 dX1_open_18 (fun H locs G => ?_)
  have G := gC_up_i (f := upd (T5.2.2.1 n7) (2 : Int32).toNatClampNeg v8) (ccv_100 (aA_k g9).2.1) G
  obtain ⟨T11, eT11, h⟩ := elet_some h
  have G : gC cI cJ cZ cMic cSrc cSt cAI cAJ D ad A s.heap H locs T11 := by rw [eT11]; exact G
  clear eT11
  refine lv_aload_n hx hb dX1_open_19 rfl (lv_at hl 0 rfl) ?_
  obtain ⟨g12, h⟩ := oif_some h
  obtain ⟨n13, en13, h⟩ := obind_some h
  refine c_get E G o 5 (v := .ref (ad n13)) (oO_k g12).1 (cc_o1 (oO_k g12).2) rfl (fun w h => .tail _ (iA_15 h)) (by decide) (.tail _ qA_158) rfl (by rw [en13]; rfl) dX1_open_20 ?_
  clear en13
  refine lv_iconst (v := 3) hx hb dX1_open_23 (by decide) ?_
  refine lv_iload_n hx hb dX1_open_24 rfl (lv_at hl 2 rfl) ?_
  refine lv_iconst (v := 1) hx hb dX1_open_25 (by decide) ?_
  refine lv_isub hx hb dX1_open_26 ?_
  refine lv_topi (fun v14 ev14 => ?_)
  have h := elet_at ev14 h
  clear ev14
  obtain ⟨g15, h⟩ := oif_some h
  obtain ⟨g16, h⟩ := oif_some h
  refine c_iast E G n13 0 (k := (3 : Int32).toNatClampNeg) (v := v14) (aA_k g15).1 (cc_a100 (aA_k g15).2.1) rfl (inb_k g16).1 (inb_k g16).2 (aA_k g15).2.2 dX1_open_27 (fun H locs G => ?_)
  have G := gC_up_i (f := upd (T11.2.2.1 n13) (3 : Int32).toNatClampNeg v14) (ccv_100 (aA_k g15).2.1) G
  obtain ⟨T17, eT17, h⟩ := elet_some h
  have G : gC cI cJ cZ cMic cSrc cSt cAI cAJ D ad A s.heap H locs T17 := by rw [eT17]; exact G
  clear eT17
  exact W.vret hx hb hr (fun t ht hW => ⟨⟨T17, rfl, osome1 h, ⟨by rw [ht]; exact G.1, va_K.moved hW.alike hK, G.2.1⟩⟩, G.2.2.F ht⟩) G.2.2.2.2 dX1_open_28
set_option maxHeartbeats 4000000 in
set_option maxRecDepth 100000 in
theorem s_X1_open {T : AT} {o : Nat} {a0 : Int32} {a1 : Int32} {T1 : AT} (h : g_X1_open T o a0 a1 = some T1) : SP T T1 := by
  have p0 := SP.rf T
  unfold g_X1_open at h
  obtain ⟨g2, h⟩ := oif_some h
  obtain ⟨T3, eT3, h⟩ := elet_some h
  have p1 : SP T T3 := SP.tr p0 (by rw [eT3]; exact sp_uI)
  obtain ⟨g4, h⟩ := oif_some h
  obtain ⟨T5, eT5, h⟩ := elet_some h
  have p2 : SP T T5 := SP.tr p1 (by rw [eT5]; exact sp_uI)
  obtain ⟨g6, h⟩ := oif_some h
  obtain ⟨n7, en7, h⟩ := obind_some h
  obtain ⟨v8, -, h⟩ := elet_some h
  obtain ⟨g9, h⟩ := oif_some h
  obtain ⟨g10, h⟩ := oif_some h
  obtain ⟨T11, eT11, h⟩ := elet_some h
  have p3 : SP T T11 := SP.tr p2 (by rw [eT11]; exact sp_uI)
  obtain ⟨g12, h⟩ := oif_some h
  obtain ⟨n13, en13, h⟩ := obind_some h
  obtain ⟨v14, -, h⟩ := elet_some h
  obtain ⟨g15, h⟩ := oif_some h
  obtain ⟨g16, h⟩ := oif_some h
  obtain ⟨T17, eT17, h⟩ := elet_some h
  have p4 : SP T T17 := SP.tr p3 (by rw [eT17]; exact sp_uI)
  rw [← osome1 h]
  exact p4
def g_X1_centreX (T : AT) (o : Nat) (a0 : Int32) : Option (Int32 × AT) := oif (oO T o 1 = true) <| elet (T.2.2.1 o 0) fun v3 => oif (oO T o 1 = true) <| elet (T.2.2.1 o 2) fun v5 => oif (oO T o 1 = true) <| obind2 (g_X1_columnOf T o a0) fun r9 T7 => elet (v5 * r9) fun v11 => elet (v3 + v11) fun v12 => some (v12, T7)
set_option maxHeartbeats 4000000 in
set_option maxRecDepth 100000 in
theorem u_X1_centreX (l : Launch) (hst : l.stackTraces = false) (D : va_G) (cI cJ cZ cMic cSrc cSt cAI cAJ : ClassId) (ad : Nat → Nat) (T : AT) (o : Nat) (a0 : Int32) {r1 : Int32} {T1 : AT} (h : g_X1_centreX T o a0 = some (r1, T1)) : kCi l yX1_centreX (Cond.code yX1_centreX cX1_centreX 2 (some .int) :: wsA) 3 42 cI cJ cZ cMic cSrc cSt cAI cAJ D ad T [.ref (ad o), .int a0] (fun r T9 => r = r1 ∧ T9 = T1) := by
  intro sz
  refine Met.ofW (cc := cX1_centreX) (maxL := 2) (ret := (some .int)) (by decide) rfl ?_
  intro p e s m args below meth c s₁ B hml hv
  obtain ⟨rfl, hsz, hP, hK, hD0, hX, hN⟩ := hv
  have hx := B.exec
  have hb := B.bytes
  have hr := B.returns
  have hts := atoms_spec (ws := (Cond.code yX1_centreX cX1_centreX 2 (some .int) :: wsA)) B.pre
  have hown : s.vm.findClass RX1 = some m.cls := findClass_of_methodNamed B.named
  have hlocks := B.notSynchronized
  subst hsz
  have hD := hD0.self (sz := s.heap.size)
  generalize hAe : va_A (cW ad T.1 (cc cI cJ cZ cMic cSrc cSt cAI cAJ ad T)) s.heap.size = A at hD hX ⊢
  have hA : ∀ q : Nat, s.heap.size ≤ q → A q := fun q h => by rw [← hAe]; exact Or.inr h
  have G : gC cI cJ cZ cMic cSrc cSt cAI cAJ D ad A s.heap s.heap [] T := ⟨hP, hD, va_S.rf⟩
  have E : cE p c cX1_centreX s m ([.ref (ad o), .int a0] : List Value).toArray (Cond.code yX1_centreX cX1_centreX 2 (some .int) :: wsA) D RX1 (CT cI cJ cZ cMic cSrc cSt cAI cAJ) := ⟨hx, hb, hts, hown, hK⟩
  have hl := lv_entry ([.ref (ad o), .int a0]) (n := 2) (Nat.le_of_ble_eq_true rfl)
  rw [lg_entry_eq]
  generalize (lg_sl ([.ref (ad o), .int a0]) ++ List.replicate (2 - (lg_sl ([.ref (ad o), .int a0])).length) Slot.unset).toArray = ls at hl ⊢
  have hl : lv_has ls 2 [(0, .ref (ad o)), (1, .int a0)] := hl
  unfold g_X1_centreX at h
  refine lv_aload_n hx hb dX1_centreX_0 rfl (lv_at hl 0 rfl) ?_
  obtain ⟨g2, h⟩ := oif_some h
  refine c_get E G o 0 (oO_k g2).1 (cc_o1 (oO_k g2).2) rfl (fun w h => .tail _ (iA_15 h)) (by decide) (.tail _ qA_165) rfl rfl dX1_centreX_1 ?_
  refine lv_topi (fun v3 ev3 => ?_)
  have h := elet_at ev3 h
  clear ev3
  refine lv_aload_n hx hb dX1_centreX_4 rfl (lv_at hl 0 rfl) ?_
  obtain ⟨g4, h⟩ := oif_some h
  refine c_get E G o 2 (oO_k g4).1 (cc_o1 (oO_k g4).2) rfl (fun w h => .tail _ (iA_15 h)) (by decide) (.tail _ qA_166) rfl rfl dX1_centreX_5 ?_
  refine lv_topi (fun v5 ev5 => ?_)
  have h := elet_at ev5 h
  clear ev5
  refine lv_aload_n hx hb dX1_centreX_8 rfl (lv_at hl 0 rfl) ?_
  refine lv_iload_n hx hb dX1_centreX_9 rfl (lv_at hl 1 rfl) ?_
  obtain ⟨g6, h⟩ := oif_some h
  obtain ⟨r9, T7, eT7, h⟩ := obind2_some h
  refine q_cvi (As := [.int a0]) (rest := [.int v5, .int v3]) E G hA hX hN hml (u_X1_columnOf l hst D cI cJ cZ cMic cSrc cSt cAI cAJ ad T o a0 eT7) (cwV 1 hts (gaV qA_140 qA_141 qA_142 qA_37 qA_143) rfl rfl rfl (by decide +kernel) ⟨Nat.le_of_ble_eq_true rfl, Nat.le_of_ble_eq_true rfl⟩) (oO_k g6).1 (cc_o1 (oO_k g6).2) rfl rfl hl.1 rfl (lv_room (Nat.le_of_ble_eq_true rfl)) dX1_centreX_10 ⟨Nat.zero_le _, Nat.zero_le _⟩ (fun q10 T8 H locs hq G => ?_)
  obtain ⟨hq1, hq2⟩ := hq
  rw [hq2] at G
  refine lv_to hq1 ?_
  clear hq1 hq2 eT7
  refine lv_imul hx hb dX1_centreX_13 ?_
  refine lv_topi (fun v11 ev11 => ?_)
  have h := elet_at ev11 h
  clear ev11
  refine lv_iadd hx hb dX1_centreX_14 ?_
  refine lv_topi (fun v12 ev12 => ?_)
  have h := elet_at ev12 h
  clear ev12
  exact W.iret (v := v12) hx hb hr (fun t ht hW => ⟨⟨v12, T7, rfl, osome2 h, ⟨by rw [ht]; exact G.1, va_K.moved hW.alike hK, G.2.1⟩⟩, G.2.2.F ht⟩) G.2.2.2.2 dX1_centreX_15
set_option maxHeartbeats 4000000 in
set_option maxRecDepth 100000 in
theorem s_X1_centreX {T : AT} {o : Nat} {a0 : Int32} {r1 : Int32} {T1 : AT} (h : g_X1_centreX T o a0 = some (r1, T1)) : SP T T1 := by
  have p0 := SP.rf T
  unfold g_X1_centreX at h
  obtain ⟨g2, h⟩ := oif_some h
  obtain ⟨v3, -, h⟩ := elet_some h
  obtain ⟨g4, h⟩ := oif_some h
  obtain ⟨v5, -, h⟩ := elet_some h
  obtain ⟨g6, h⟩ := oif_some h
  obtain ⟨r8, T7, eT7, h⟩ := obind2_some h
  have p1 : SP T T7 := SP.tr p0 (s_X1_columnOf eT7)
  obtain ⟨v9, -, h⟩ := elet_some h
  obtain ⟨v10, -, h⟩ := elet_some h
  rw [← (osome2 h).2]
  exact p1
def g_X1_centreY (T : AT) (o : Nat) (a0 : Int32) : Option (Int32 × AT) := oif (oO T o 1 = true) <| elet (T.2.2.1 o 1) fun v3 => oif (oO T o 1 = true) <| elet (T.2.2.1 o 2) fun v5 => oif (oO T o 1 = true) <| obind2 (g_X1_rowOf T o a0) fun r9 T7 => elet (v5 * r9) fun v11 => elet (v3 + v11) fun v12 => some (v12, T7)
set_option maxHeartbeats 4000000 in
set_option maxRecDepth 100000 in
theorem u_X1_centreY (l : Launch) (hst : l.stackTraces = false) (D : va_G) (cI cJ cZ cMic cSrc cSt cAI cAJ : ClassId) (ad : Nat → Nat) (T : AT) (o : Nat) (a0 : Int32) {r1 : Int32} {T1 : AT} (h : g_X1_centreY T o a0 = some (r1, T1)) : kCi l yX1_centreY (Cond.code yX1_centreY cX1_centreY 2 (some .int) :: wsA) 3 44 cI cJ cZ cMic cSrc cSt cAI cAJ D ad T [.ref (ad o), .int a0] (fun r T9 => r = r1 ∧ T9 = T1) := by
  intro sz
  refine Met.ofW (cc := cX1_centreY) (maxL := 2) (ret := (some .int)) (by decide) rfl ?_
  intro p e s m args below meth c s₁ B hml hv
  obtain ⟨rfl, hsz, hP, hK, hD0, hX, hN⟩ := hv
  have hx := B.exec
  have hb := B.bytes
  have hr := B.returns
  have hts := atoms_spec (ws := (Cond.code yX1_centreY cX1_centreY 2 (some .int) :: wsA)) B.pre
  have hown : s.vm.findClass RX1 = some m.cls := findClass_of_methodNamed B.named
  have hlocks := B.notSynchronized
  subst hsz
  have hD := hD0.self (sz := s.heap.size)
  generalize hAe : va_A (cW ad T.1 (cc cI cJ cZ cMic cSrc cSt cAI cAJ ad T)) s.heap.size = A at hD hX ⊢
  have hA : ∀ q : Nat, s.heap.size ≤ q → A q := fun q h => by rw [← hAe]; exact Or.inr h
  have G : gC cI cJ cZ cMic cSrc cSt cAI cAJ D ad A s.heap s.heap [] T := ⟨hP, hD, va_S.rf⟩
  have E : cE p c cX1_centreY s m ([.ref (ad o), .int a0] : List Value).toArray (Cond.code yX1_centreY cX1_centreY 2 (some .int) :: wsA) D RX1 (CT cI cJ cZ cMic cSrc cSt cAI cAJ) := ⟨hx, hb, hts, hown, hK⟩
  have hl := lv_entry ([.ref (ad o), .int a0]) (n := 2) (Nat.le_of_ble_eq_true rfl)
  rw [lg_entry_eq]
  generalize (lg_sl ([.ref (ad o), .int a0]) ++ List.replicate (2 - (lg_sl ([.ref (ad o), .int a0])).length) Slot.unset).toArray = ls at hl ⊢
  have hl : lv_has ls 2 [(0, .ref (ad o)), (1, .int a0)] := hl
  unfold g_X1_centreY at h
  refine lv_aload_n hx hb dX1_centreY_0 rfl (lv_at hl 0 rfl) ?_
  obtain ⟨g2, h⟩ := oif_some h
  refine c_get E G o 1 (oO_k g2).1 (cc_o1 (oO_k g2).2) rfl (fun w h => .tail _ (iA_15 h)) (by decide) (.tail _ qA_168) rfl rfl dX1_centreY_1 ?_
  refine lv_topi (fun v3 ev3 => ?_)
  have h := elet_at ev3 h
  clear ev3
  refine lv_aload_n hx hb dX1_centreY_4 rfl (lv_at hl 0 rfl) ?_
  obtain ⟨g4, h⟩ := oif_some h
  refine c_get E G o 2 (oO_k g4).1 (cc_o1 (oO_k g4).2) rfl (fun w h => .tail _ (iA_15 h)) (by decide) (.tail _ qA_166) rfl rfl dX1_centreY_5 ?_
  refine lv_topi (fun v5 ev5 => ?_)
  have h := elet_at ev5 h
  clear ev5
  refine lv_aload_n hx hb dX1_centreY_8 rfl (lv_at hl 0 rfl) ?_
  refine lv_iload_n hx hb dX1_centreY_9 rfl (lv_at hl 1 rfl) ?_
  obtain ⟨g6, h⟩ := oif_some h
  obtain ⟨r9, T7, eT7, h⟩ := obind2_some h
  refine q_cvi (As := [.int a0]) (rest := [.int v5, .int v3]) E G hA hX hN hml (u_X1_rowOf l hst D cI cJ cZ cMic cSrc cSt cAI cAJ ad T o a0 eT7) (cwV 1 hts (gaV qA_146 qA_147 qA_148 qA_37 qA_149) rfl rfl rfl (by decide +kernel) ⟨Nat.le_of_ble_eq_true rfl, Nat.le_of_ble_eq_true rfl⟩) (oO_k g6).1 (cc_o1 (oO_k g6).2) rfl rfl hl.1 rfl (lv_room (Nat.le_of_ble_eq_true rfl)) dX1_centreY_10 ⟨Nat.zero_le _, Nat.zero_le _⟩ (fun q10 T8 H locs hq G => ?_)
  obtain ⟨hq1, hq2⟩ := hq
  rw [hq2] at G
  refine lv_to hq1 ?_
  clear hq1 hq2 eT7
  refine lv_imul hx hb dX1_centreY_13 ?_
  refine lv_topi (fun v11 ev11 => ?_)
  have h := elet_at ev11 h
  clear ev11
  refine lv_iadd hx hb dX1_centreY_14 ?_
  refine lv_topi (fun v12 ev12 => ?_)
  have h := elet_at ev12 h
  clear ev12
  exact W.iret (v := v12) hx hb hr (fun t ht hW => ⟨⟨v12, T7, rfl, osome2 h, ⟨by rw [ht]; exact G.1, va_K.moved hW.alike hK, G.2.1⟩⟩, G.2.2.F ht⟩) G.2.2.2.2 dX1_centreY_15
set_option maxHeartbeats 4000000 in
set_option maxRecDepth 100000 in
theorem s_X1_centreY {T : AT} {o : Nat} {a0 : Int32} {r1 : Int32} {T1 : AT} (h : g_X1_centreY T o a0 = some (r1, T1)) : SP T T1 := by
  have p0 := SP.rf T
  unfold g_X1_centreY at h
  obtain ⟨g2, h⟩ := oif_some h
  obtain ⟨v3, -, h⟩ := elet_some h
  obtain ⟨g4, h⟩ := oif_some h
  obtain ⟨v5, -, h⟩ := elet_some h
  obtain ⟨g6, h⟩ := oif_some h
  obtain ⟨r8, T7, eT7, h⟩ := obind2_some h
  have p1 : SP T T7 := SP.tr p0 (s_X1_rowOf eT7)
  obtain ⟨v9, -, h⟩ := elet_some h
  obtain ⟨v10, -, h⟩ := elet_some h
  rw [← (osome2 h).2]
  exact p1
def g_X9_runEnd_b32  (T : AT) (l5 : Int32) : Option (Int32 × AT) := some (l5, T)
set_option maxHeartbeats 4000000 in
set_option maxRecDepth 100000 in
theorem u_X9_runEnd_b32 {p : Program} {l : Launch} {e : Env} {s : State} {m : MethodId} {args : Array Value} {below : List Frame} {meth : Method} {c : Code} {Q : State → Prop} {D : va_G} {A : Nat → Prop} {cI cJ cZ cMic cSrc cSt cAI cAJ : ClassId} {ad : Nat → Nat} {r1 : Int32} {T1 : AT} (E : cE p c cX9_runEnd s m args (Cond.code yX9_runEnd cX9_runEnd 6 (some .int) :: wsA) D RX9 (CT cI cJ cZ cMic cSrc cSt cAI cAJ)) (hA : ∀ q : Nat, s.heap.size ≤ q → A q) (hX : xT A s) (hN : nX s) (hml : c.maxLocals = 6) (hst : l.stackTraces = false) (kr34 : ∀ (H : Heap) (locs : List Loc) (ls : Array Slot), gC cI cJ cZ cMic cSrc cSt cAI cAJ D ad A s.heap H locs T1 → W p l e { frames := 1, cells := 0, slots := 0, locals := 0 } s m args below meth c H locs 0 0 Q (F0 m 34 ls [.int r1])) (kr42 : ∀ (H : Heap) (locs : List Loc) (ls : Array Slot), gC cI cJ cZ cMic cSrc cSt cAI cAJ D ad A s.heap H locs T1 → W p l e { frames := 1, cells := 0, slots := 0, locals := 0 } s m args below meth c H locs 0 0 Q (F0 m 42 ls [.int r1])) : ∀ (T : AT) (H : Heap) (locs : List Loc) (ls : Array Slot) (l5 : Int32), g_X9_runEnd_b32 T l5 = some (r1, T1) → gC cI cJ cZ cMic cSrc cSt cAI cAJ D ad A s.heap H locs T → lv_has ls 6 [(5, .int l5)] → W p l e { frames := 1, cells := 0, slots := 0, locals := 0 } s m args below meth c H locs 0 0 Q (F0 m 32 ls []) := by
  have hx := E.1
  have hb := E.2.1
  have hts := E.2.2.1
  have hown := E.2.2.2.1
  have hK := E.2.2.2.2
  intro T H locs ls l5 h G hl
  unfold g_X9_runEnd_b32 at h
  refine lv_iload hx hb dX9_runEnd_32 (lv_at hl 0 rfl) ?_
  rw [(osome2 h).2] at G
  refine lv_to (osome2 h).1 ?_
  exact kr34 _ _ _ G
def g_X9_runEnd_b3  : Nat → AT → Nat → Int32 → Int32 → Int32 → Int32 → Option (Int32 × AT)
  | 0, _, _, _, _, _, _ => none
  | n + 1, T, l0, l1, l3, l4, l5 => if l1 ≤ l5 then (some (l1, T)) else (oif (oO T l0 9 = true) <| obind (T.2.2.2.2 l0 0) fun n4 => oif (aA T n4 100 = true) <| oif (inb l5 (T.2.1 n4).2 = true) <| elet (T.2.2.1 n4 l5.toNatClampNeg) fun v7 => if v7 < l3 then (g_X9_runEnd_b32 T l5) else (oif (oO T l0 9 = true) <| obind (T.2.2.2.2 l0 0) fun n10 => oif (aA T n10 100 = true) <| oif (inb l5 (T.2.1 n10).2 = true) <| elet (T.2.2.1 n10 l5.toNatClampNeg) fun v13 => if v13 ≤ l4 then (elet (l5 + Int32.ofInt (1)) fun v15 => g_X9_runEnd_b3 n T l0 l1 l3 l4 v15) else (g_X9_runEnd_b32 T l5)))
set_option maxHeartbeats 4000000 in
set_option maxRecDepth 100000 in
theorem u_X9_runEnd_b3 {p : Program} {l : Launch} {e : Env} {s : State} {m : MethodId} {args : Array Value} {below : List Frame} {meth : Method} {c : Code} {Q : State → Prop} {D : va_G} {A : Nat → Prop} {cI cJ cZ cMic cSrc cSt cAI cAJ : ClassId} {ad : Nat → Nat} {r1 : Int32} {T1 : AT} (E : cE p c cX9_runEnd s m args (Cond.code yX9_runEnd cX9_runEnd 6 (some .int) :: wsA) D RX9 (CT cI cJ cZ cMic cSrc cSt cAI cAJ)) (hA : ∀ q : Nat, s.heap.size ≤ q → A q) (hX : xT A s) (hN : nX s) (hml : c.maxLocals = 6) (hst : l.stackTraces = false) (kr34 : ∀ (H : Heap) (locs : List Loc) (ls : Array Slot), gC cI cJ cZ cMic cSrc cSt cAI cAJ D ad A s.heap H locs T1 → W p l e { frames := 1, cells := 0, slots := 0, locals := 0 } s m args below meth c H locs 0 0 Q (F0 m 34 ls [.int r1])) (kr42 : ∀ (H : Heap) (locs : List Loc) (ls : Array Slot), gC cI cJ cZ cMic cSrc cSt cAI cAJ D ad A s.heap H locs T1 → W p l e { frames := 1, cells := 0, slots := 0, locals := 0 } s m args below meth c H locs 0 0 Q (F0 m 42 ls [.int r1])) : ∀ n : Nat, ∀ (T : AT) (H : Heap) (locs : List Loc) (ls : Array Slot) (l0 : Nat) (l1 : Int32) (l3 : Int32) (l4 : Int32) (l5 : Int32), g_X9_runEnd_b3 n T l0 l1 l3 l4 l5 = some (r1, T1) → gC cI cJ cZ cMic cSrc cSt cAI cAJ D ad A s.heap H locs T → lv_has ls 6 [(0, .ref (ad l0)), (1, .int l1), (3, .int l3), (4, .int l4), (5, .int l5)] → W p l e { frames := 1, cells := 0, slots := 0, locals := 0 } s m args below meth c H locs 0 0 Q (F0 m 3 ls []) := by
  have hx := E.1
  have hb := E.2.1
  have hts := E.2.2.1
  have hown := E.2.2.2.1
  have hK := E.2.2.2.2
  intro n
  induction n with
  | zero =>
    intro T H locs ls l0 l1 l3 l4 l5 h
    have h : (none : Option (Int32 × AT)) = some (r1, T1) := h
    cases h
  | succ n ih =>
    intro T H locs ls l0 l1 l3 l4 l5 h G hl
    unfold g_X9_runEnd_b3 at h
    refine lv_iload hx hb dX9_runEnd_3 (lv_at hl 4 rfl) ?_
    refine lv_iload_n hx hb dX9_runEnd_5 rfl (lv_at hl 1 rfl) ?_
    refine lv_icmp_ge (tgt := 41) hx hb dX9_runEnd_6 (by decide) (fun c2 => ?_) (fun c2 => ?_)
    · have h := oif_pos c2 h
      refine lv_iload_n hx hb dX9_runEnd_41 rfl (lv_at hl 1 rfl) ?_
      rw [(osome2 h).2] at G
      refine lv_to (osome2 h).1 ?_
      exact kr42 _ _ _ G
    · have h := oif_neg c2 h
      refine lv_aload_n hx hb dX9_runEnd_9 rfl (lv_at hl 0 rfl) ?_
      obtain ⟨g3, h⟩ := oif_some h
      obtain ⟨n4, en4, h⟩ := obind_some h
      refine c_get E G l0 0 (v := .ref (ad n4)) (oO_k g3).1 (cc_o9 (oO_k g3).2) rfl (fun w h => .tail _ (iA_18 h)) (by decide) (.tail _ qA_192) rfl (by rw [en4]; rfl) dX9_runEnd_10 ?_
      clear en4
      refine lv_iload hx hb dX9_runEnd_13 (lv_at hl 4 rfl) ?_
      obtain ⟨g5, h⟩ := oif_some h
      obtain ⟨g6, h⟩ := oif_some h
      refine c_iald E G n4 0 (k := l5.toNatClampNeg) (aA_k g5).1 (cc_a100 (aA_k g5).2.1) rfl (inb_k g6).1 (inb_k g6).2 (aA_k g5).2.2 dX9_runEnd_15 ?_
      refine lv_topi (fun v7 ev7 => ?_)
      have h := elet_at ev7 h
      clear ev7
      refine lv_iload_n hx hb dX9_runEnd_16 rfl (lv_at hl 2 rfl) ?_
      refine lv_icmp_lt (tgt := 32) hx hb dX9_runEnd_17 (by decide) (fun c8 => ?_) (fun c8 => ?_)
      · have h := oif_pos c8 h
        have hl := lv_sub hl [4] rfl
        exact u_X9_runEnd_b32 E hA hX hN hml hst kr34 kr42 _ _ _ _ _ h G hl
      · have h := oif_neg c8 h
        refine lv_aload_n hx hb dX9_runEnd_20 rfl (lv_at hl 0 rfl) ?_
        obtain ⟨g9, h⟩ := oif_some h
        obtain ⟨n10, en10, h⟩ := obind_some h
        refine c_get E G l0 0 (v := .ref (ad n10)) (oO_k g9).1 (cc_o9 (oO_k g9).2) rfl (fun w h => .tail _ (iA_18 h)) (by decide) (.tail _ qA_192) rfl (by rw [en10]; rfl) dX9_runEnd_21 ?_
        clear en10
        refine lv_iload hx hb dX9_runEnd_24 (lv_at hl 4 rfl) ?_
        obtain ⟨g11, h⟩ := oif_some h
        obtain ⟨g12, h⟩ := oif_some h
        refine c_iald E G n10 0 (k := l5.toNatClampNeg) (aA_k g11).1 (cc_a100 (aA_k g11).2.1) rfl (inb_k g12).1 (inb_k g12).2 (aA_k g11).2.2 dX9_runEnd_26 ?_
        refine lv_topi (fun v13 ev13 => ?_)
        have h := elet_at ev13 h
        clear ev13
        refine lv_iload hx hb dX9_runEnd_27 (lv_at hl 3 rfl) ?_
        refine lv_icmp_le (tgt := 35) hx hb dX9_runEnd_29 (by decide) (fun c14 => ?_) (fun c14 => ?_)
        · have h := oif_pos c14 h
          obtain ⟨v15, ev15, h⟩ := elet_some h
          refine lv_iinc (v := v15) (lv' := [(5, .int v15), (0, .ref (ad l0)), (1, .int l1), (3, .int l3), (4, .int l4)]) hx hb dX9_runEnd_35 hl (k := 4) rfl ev15.symm (by decide) rfl (fun ls hl => ?_)
          refine lv_goto (tgt := 3) hx hb dX9_runEnd_38 (by decide) ?_
          have hl := lv_sub hl [1, 2, 3, 4, 0] rfl
          exact ih _ _ _ _ _ _ _ _ _ h G hl
        · have h := oif_neg c14 h
          have hl := lv_sub hl [4] rfl
          exact u_X9_runEnd_b32 E hA hX hN hml hst kr34 kr42 _ _ _ _ _ h G hl
def g_X9_runEnd (T : AT) (o : Nat) (a0 : Int32) (a1 : Int32) (a2 : Int32) (a3 : Int32) : Option (Int32 × AT) := g_X9_runEnd_b3 16384 T o a0 a2 a3 a1
set_option maxHeartbeats 4000000 in
set_option maxRecDepth 100000 in
theorem u_X9_runEnd (l : Launch) (hst : l.stackTraces = false) (D : va_G) (cI cJ cZ cMic cSrc cSt cAI cAJ : ClassId) (ad : Nat → Nat) (T : AT) (o : Nat) (a0 : Int32) (a1 : Int32) (a2 : Int32) (a3 : Int32) {r1 : Int32} {T1 : AT} (h : g_X9_runEnd T o a0 a1 a2 a3 = some (r1, T1)) : kCi l yX9_runEnd (Cond.code yX9_runEnd cX9_runEnd 6 (some .int) :: wsA) 1 0 cI cJ cZ cMic cSrc cSt cAI cAJ D ad T [.ref (ad o), .int a0, .int a1, .int a2, .int a3] (fun r T9 => r = r1 ∧ T9 = T1) := by
  intro sz
  refine Met.ofW (cc := cX9_runEnd) (maxL := 6) (ret := (some .int)) (by decide) rfl ?_
  intro p e s m args below meth c s₁ B hml hv
  obtain ⟨rfl, hsz, hP, hK, hD0, hX, hN⟩ := hv
  have hx := B.exec
  have hb := B.bytes
  have hr := B.returns
  have hts := atoms_spec (ws := (Cond.code yX9_runEnd cX9_runEnd 6 (some .int) :: wsA)) B.pre
  have hown : s.vm.findClass RX9 = some m.cls := findClass_of_methodNamed B.named
  have hlocks := B.notSynchronized
  subst hsz
  have hD := hD0.self (sz := s.heap.size)
  generalize hAe : va_A (cW ad T.1 (cc cI cJ cZ cMic cSrc cSt cAI cAJ ad T)) s.heap.size = A at hD hX ⊢
  have hA : ∀ q : Nat, s.heap.size ≤ q → A q := fun q h => by rw [← hAe]; exact Or.inr h
  have G : gC cI cJ cZ cMic cSrc cSt cAI cAJ D ad A s.heap s.heap [] T := ⟨hP, hD, va_S.rf⟩
  have E : cE p c cX9_runEnd s m ([.ref (ad o), .int a0, .int a1, .int a2, .int a3] : List Value).toArray (Cond.code yX9_runEnd cX9_runEnd 6 (some .int) :: wsA) D RX9 (CT cI cJ cZ cMic cSrc cSt cAI cAJ) := ⟨hx, hb, hts, hown, hK⟩
  have hl := lv_entry ([.ref (ad o), .int a0, .int a1, .int a2, .int a3]) (n := 6) (Nat.le_of_ble_eq_true rfl)
  rw [lg_entry_eq]
  generalize (lg_sl ([.ref (ad o), .int a0, .int a1, .int a2, .int a3]) ++ List.replicate (6 - (lg_sl ([.ref (ad o), .int a0, .int a1, .int a2, .int a3])).length) Slot.unset).toArray = ls at hl ⊢
  have hl : lv_has ls 6 [(0, .ref (ad o)), (1, .int a0), (2, .int a1), (3, .int a2), (4, .int a3)] := hl
  unfold g_X9_runEnd at h
  refine lv_iload_n hx hb dX9_runEnd_0 rfl (lv_at hl 2 rfl) ?_
  refine lv_istore (lv' := [(5, .int a1), (0, .ref (ad o)), (1, .int a0), (2, .int a1), (3, .int a2), (4, .int a3)]) hx hb dX9_runEnd_1 hl (by decide) rfl (fun ls hl => ?_)
  have hl := lv_sub hl [1, 2, 4, 5, 0] rfl
  exact u_X9_runEnd_b3 E hA hX hN hml hst (fun H locs ls G => W.iret (v := r1) hx hb hr (fun t ht hW => ⟨⟨r1, T1, rfl, ⟨rfl, rfl⟩, ⟨by rw [ht]; exact G.1, va_K.moved hW.alike hK, G.2.1⟩⟩, G.2.2.F ht⟩) G.2.2.2.2 dX9_runEnd_34) (fun H locs ls G => W.iret (v := r1) hx hb hr (fun t ht hW => ⟨⟨r1, T1, rfl, ⟨rfl, rfl⟩, ⟨by rw [ht]; exact G.1, va_K.moved hW.alike hK, G.2.1⟩⟩, G.2.2.F ht⟩) G.2.2.2.2 dX9_runEnd_42) _ _ _ _ _ _ _ _ _ _ h G hl
set_option maxHeartbeats 4000000 in
set_option maxRecDepth 100000 in
theorem s_X9_runEnd_b32 {r1 : Int32} {T1 : AT} : ∀ (T : AT) (l5 : Int32), g_X9_runEnd_b32 T l5 = some (r1, T1) → SP T T1 := by
  intro T l5 h
  have p0 := SP.rf T
  unfold g_X9_runEnd_b32 at h
  rw [← (osome2 h).2]
  exact p0
set_option maxHeartbeats 4000000 in
set_option maxRecDepth 100000 in
theorem s_X9_runEnd_b3 {r1 : Int32} {T1 : AT} : ∀ n : Nat, ∀ (T : AT) (l0 : Nat) (l1 : Int32) (l3 : Int32) (l4 : Int32) (l5 : Int32), g_X9_runEnd_b3 n T l0 l1 l3 l4 l5 = some (r1, T1) → SP T T1 := by
  intro n
  induction n with
  | zero =>
    intro T l0 l1 l3 l4 l5 h
    have h : (none : Option (Int32 × AT)) = some (r1, T1) := h
    cases h
  | succ n ih =>
    intro T l0 l1 l3 l4 l5 h
    have p0 := SP.rf T
    unfold g_X9_runEnd_b3 at h
    rcases oif_or h with ⟨c2, h⟩ | ⟨c2, h⟩
    · have h := h
      rw [← (osome2 h).2]
      exact p0
    · have h := h
      obtain ⟨g3, h⟩ := oif_some h
      obtain ⟨n4, en4, h⟩ := obind_some h
      obtain ⟨g5, h⟩ := oif_some h
      obtain ⟨g6, h⟩ := oif_some h
      obtain ⟨v7, -, h⟩ := elet_some h
      rcases oif_or h with ⟨c8, h⟩ | ⟨c8, h⟩
      · have h := h
        exact SP.tr p0 (s_X9_runEnd_b32 _ _ h)
      · have h := h
        obtain ⟨g9, h⟩ := oif_some h
        obtain ⟨n10, en10, h⟩ := obind_some h
        obtain ⟨g11, h⟩ := oif_some h
        obtain ⟨g12, h⟩ := oif_some h
        obtain ⟨v13, -, h⟩ := elet_some h
        rcases oif_or h with ⟨c14, h⟩ | ⟨c14, h⟩
        · have h := h
          obtain ⟨v15, ev15, h⟩ := elet_some h
          exact SP.tr p0 (ih _ _ _ _ _ _ h)
        · have h := h
          exact SP.tr p0 (s_X9_runEnd_b32 _ _ h)
set_option maxHeartbeats 4000000 in
set_option maxRecDepth 100000 in
theorem s_X9_runEnd {T : AT} {o : Nat} {a0 : Int32} {a1 : Int32} {a2 : Int32} {a3 : Int32} {r1 : Int32} {T1 : AT} (h : g_X9_runEnd T o a0 a1 a2 a3 = some (r1, T1)) : SP T T1 := by
  have p0 := SP.rf T
  unfold g_X9_runEnd at h
  exact SP.tr p0 (s_X9_runEnd_b3 _ _ _ _ _ _ _ h)
def g_X9_add_b52  (T : AT)  : Option (AT) := some T
set_option maxHeartbeats 4000000 in
set_option maxRecDepth 100000 in
theorem u_X9_add_b52 {p : Program} {l : Launch} {e : Env} {s : State} {m : MethodId} {args : Array Value} {below : List Frame} {meth : Method} {c : Code} {Q : State → Prop} {D : va_G} {A : Nat → Prop} {cI cJ cZ cMic cSrc cSt cAI cAJ : ClassId} {ad : Nat → Nat} {T1 : AT} (E : cE p c cX9_add s m args (Cond.code yX9_add cX9_add 4 none :: wsA) D RX9 (CT cI cJ cZ cMic cSrc cSt cAI cAJ)) (hA : ∀ q : Nat, s.heap.size ≤ q → A q) (hX : xT A s) (hN : nX s) (hml : c.maxLocals = 4) (hst : l.stackTraces = false) (kr52 : ∀ (H : Heap) (locs : List Loc) (ls : Array Slot), gC cI cJ cZ cMic cSrc cSt cAI cAJ D ad A s.heap H locs T1 → W p l e { frames := 1, cells := 0, slots := 0, locals := 0 } s m args below meth c H locs 0 0 Q (F0 m 52 ls [])) : ∀ (T : AT) (H : Heap) (locs : List Loc) (ls : Array Slot), g_X9_add_b52 T = some T1 → gC cI cJ cZ cMic cSrc cSt cAI cAJ D ad A s.heap H locs T → lv_has ls 4 [] → W p l e { frames := 1, cells := 0, slots := 0, locals := 0 } s m args below meth c H locs 0 0 Q (F0 m 52 ls []) := by
  have hx := E.1
  have hb := E.2.1
  have hts := E.2.2.1
  have hown := E.2.2.2.1
  have hK := E.2.2.2.2
  intro T H locs ls h G hl
  unfold g_X9_add_b52 at h
  rw [osome1 h] at G
  exact kr52 _ _ _ G
def g_X9_add (T : AT) (o : Nat) (a0 : Int32) (a1 : Int32) (a2 : Int32) : Option (AT) := oif (oO T o 9 = true) <| elet (T.2.2.1 o 5) fun v3 => oif (oO T o 9 = true) <| obind (T.2.2.2.2 o 2) fun n5 => oif (aA T n5 100 = true) <| elet (nI (T.2.1 n5).2) fun v7 => if v7 ≤ v3 then (g_X9_add_b52 T) else (oif (oO T o 9 = true) <| obind (T.2.2.2.2 o 2) fun n10 => oif (oO T o 9 = true) <| elet (T.2.2.1 o 5) fun v12 => oif (aA T n10 100 = true) <| oif (inb v12 (T.2.1 n10).2 = true) <| elet (uI T n10 v12.toNatClampNeg a0) fun T15 => oif (oO T15 o 9 = true) <| obind (T15.2.2.2.2 o 3) fun n17 => oif (oO T15 o 9 = true) <| elet (T15.2.2.1 o 5) fun v19 => oif (aA T15 n17 100 = true) <| oif (inb v19 (T15.2.1 n17).2 = true) <| elet (uI T15 n17 v19.toNatClampNeg a1) fun T22 => oif (oO T22 o 9 = true) <| obind (T22.2.2.2.2 o 4) fun n24 => oif (oO T22 o 9 = true) <| elet (T22.2.2.1 o 5) fun v26 => oif (aA T22 n24 100 = true) <| oif (inb v26 (T22.2.1 n24).2 = true) <| elet (uI T22 n24 v26.toNatClampNeg a2) fun T29 => oif (oO T29 o 9 = true) <| elet (T29.2.2.1 o 5) fun v31 => elet (v31 + 1) fun v32 => oif (oO T29 o 9 = true) <| elet (uI T29 o 5 v32) fun T34 => g_X9_add_b52 T34)
set_option maxHeartbeats 4000000 in
set_option maxRecDepth 100000 in
theorem u_X9_add (l : Launch) (hst : l.stackTraces = false) (D : va_G) (cI cJ cZ cMic cSrc cSt cAI cAJ : ClassId) (ad : Nat → Nat) (T : AT) (o : Nat) (a0 : Int32) (a1 : Int32) (a2 : Int32) {T1 : AT} (h : g_X9_add T o a0 a1 a2 = some T1) : kCv l yX9_add (Cond.code yX9_add cX9_add 4 none :: wsA) 1 0 cI cJ cZ cMic cSrc cSt cAI cAJ D ad T [.ref (ad o), .int a0, .int a1, .int a2] (fun T9 => T9 = T1) := by
  intro sz
  refine Met.ofW (cc := cX9_add) (maxL := 4) (ret := none) (by decide) rfl ?_
  intro p e s m args below meth c s₁ B hml hv
  obtain ⟨rfl, hsz, hP, hK, hD0, hX, hN⟩ := hv
  have hx := B.exec
  have hb := B.bytes
  have hr := B.returns
  have hts := atoms_spec (ws := (Cond.code yX9_add cX9_add 4 none :: wsA)) B.pre
  have hown : s.vm.findClass RX9 = some m.cls := findClass_of_methodNamed B.named
  have hlocks := B.notSynchronized
  subst hsz
  have hD := hD0.self (sz := s.heap.size)
  generalize hAe : va_A (cW ad T.1 (cc cI cJ cZ cMic cSrc cSt cAI cAJ ad T)) s.heap.size = A at hD hX ⊢
  have hA : ∀ q : Nat, s.heap.size ≤ q → A q := fun q h => by rw [← hAe]; exact Or.inr h
  have G : gC cI cJ cZ cMic cSrc cSt cAI cAJ D ad A s.heap s.heap [] T := ⟨hP, hD, va_S.rf⟩
  have E : cE p c cX9_add s m ([.ref (ad o), .int a0, .int a1, .int a2] : List Value).toArray (Cond.code yX9_add cX9_add 4 none :: wsA) D RX9 (CT cI cJ cZ cMic cSrc cSt cAI cAJ) := ⟨hx, hb, hts, hown, hK⟩
  have hl := lv_entry ([.ref (ad o), .int a0, .int a1, .int a2]) (n := 4) (Nat.le_of_ble_eq_true rfl)
  rw [lg_entry_eq]
  generalize (lg_sl ([.ref (ad o), .int a0, .int a1, .int a2]) ++ List.replicate (4 - (lg_sl ([.ref (ad o), .int a0, .int a1, .int a2])).length) Slot.unset).toArray = ls at hl ⊢
  have hl : lv_has ls 4 [(0, .ref (ad o)), (1, .int a0), (2, .int a1), (3, .int a2)] := hl
  unfold g_X9_add at h
  refine lv_aload_n hx hb dX9_add_0 rfl (lv_at hl 0 rfl) ?_
  obtain ⟨g2, h⟩ := oif_some h
  refine c_get E G o 5 (oO_k g2).1 (cc_o9 (oO_k g2).2) rfl (fun w h => .tail _ (iA_18 h)) (by decide) (.tail _ qA_187) rfl rfl dX9_add_1 ?_
  refine lv_topi (fun v3 ev3 => ?_)
  have h := elet_at ev3 h
  clear ev3
  refine lv_aload_n hx hb dX9_add_4 rfl (lv_at hl 0 rfl) ?_
  obtain ⟨g4, h⟩ := oif_some h
  obtain ⟨n5, en5, h⟩ := obind_some h
  refine c_get E G o 2 (v := .ref (ad n5)) (oO_k g4).1 (cc_o9 (oO_k g4).2) rfl (fun w h => .tail _ (iA_18 h)) (by decide) (.tail _ qA_201) rfl (by rw [en5]; rfl) dX9_add_5 ?_
  clear en5
  obtain ⟨g6, h⟩ := oif_some h
  refine va_alen hx hb hK G.1 n5 0 (cW_e (aA_k g6).1 (cc_a100 (aA_k g6).2.1)) rfl (v := nI (T.2.1 n5).2) rfl dX9_add_8 ?_
  refine lv_topi (fun v7 ev7 => ?_)
  have h := elet_at ev7 h
  clear ev7
  refine lv_icmp_ge (tgt := 52) hx hb dX9_add_9 (by decide) (fun c8 => ?_) (fun c8 => ?_)
  · have h := oif_pos c8 h
    have hl := lv_sub hl [] rfl
    exact u_X9_add_b52 E hA hX hN hml hst (fun H locs ls G => W.vret hx hb hr (fun t ht hW => ⟨⟨T1, rfl, rfl, ⟨by rw [ht]; exact G.1, va_K.moved hW.alike hK, G.2.1⟩⟩, G.2.2.F ht⟩) G.2.2.2.2 dX9_add_52) _ _ _ _ h G hl
  · have h := oif_neg c8 h
    refine lv_aload_n hx hb dX9_add_12 rfl (lv_at hl 0 rfl) ?_
    obtain ⟨g9, h⟩ := oif_some h
    obtain ⟨n10, en10, h⟩ := obind_some h
    refine c_get E G o 2 (v := .ref (ad n10)) (oO_k g9).1 (cc_o9 (oO_k g9).2) rfl (fun w h => .tail _ (iA_18 h)) (by decide) (.tail _ qA_201) rfl (by rw [en10]; rfl) dX9_add_13 ?_
    clear en10
    refine lv_aload_n hx hb dX9_add_16 rfl (lv_at hl 0 rfl) ?_
    obtain ⟨g11, h⟩ := oif_some h
    refine c_get E G o 5 (oO_k g11).1 (cc_o9 (oO_k g11).2) rfl (fun w h => .tail _ (iA_18 h)) (by decide) (.tail _ qA_187) rfl rfl dX9_add_17 ?_
    refine lv_topi (fun v12 ev12 => ?_)
    have h := elet_at ev12 h
    clear ev12
    refine lv_iload_n hx hb dX9_add_20 rfl (lv_at hl 1 rfl) ?_
    obtain ⟨g13, h⟩ := oif_some h
    obtain ⟨g14, h⟩ := oif_some h
    refine c_iast E G n10 0 (k := v12.toNatClampNeg) (v := a0) (aA_k g13).1 (cc_a100 (aA_k g13).2.1) rfl (inb_k g14).1 (inb_k g14).2 (aA_k g13).2.2 dX9_add_21 (fun H locs G => ?_)
    have G := gC_up_i (f := upd (T.2.2.1 n10) v12.toNatClampNeg a0) (ccv_100 (aA_k g13).2.1) G
    obtain ⟨T15, eT15, h⟩ := elet_some h
    have G : gC cI cJ cZ cMic cSrc cSt cAI cAJ D ad A s.heap H locs T15 := by rw [eT15]; exact G
    clear eT15
    refine lv_aload_n hx hb dX9_add_22 rfl (lv_at hl 0 rfl) ?_
    obtain ⟨g16, h⟩ := oif_some h
    obtain ⟨n17, en17, h⟩ := obind_some h
    refine c_get E G o 3 (v := .ref (ad n17)) (oO_k g16).1 (cc_o9 (oO_k g16).2) rfl (fun w h => .tail _ (iA_18 h)) (by decide) (.tail _ qA_202) rfl (by rw [en17]; rfl) dX9_add_23 ?_
    clear en17
    refine lv_aload_n hx hb dX9_add_26 rfl (lv_at hl 0 rfl) ?_
    obtain ⟨g18, h⟩ := oif_some h
    refine c_get E G o 5 (oO_k g18).1 (cc_o9 (oO_k g18).2) rfl (fun w h => .tail _ (iA_18 h)) (by decide) (.tail _ qA_187) rfl rfl dX9_add_27 ?_
    refine lv_topi (fun v19 ev19 => ?_)
    have h := elet_at ev19 h
    clear ev19
    refine lv_iload_n hx hb dX9_add_30 rfl (lv_at hl 2 rfl) ?_
    obtain ⟨g20, h⟩ := oif_some h
    obtain ⟨g21, h⟩ := oif_some h
    refine c_iast E G n17 0 (k := v19.toNatClampNeg) (v := a1) (aA_k g20).1 (cc_a100 (aA_k g20).2.1) rfl (inb_k g21).1 (inb_k g21).2 (aA_k g20).2.2 dX9_add_31 (fun H locs G => ?_)
    have G := gC_up_i (f := upd (T15.2.2.1 n17) v19.toNatClampNeg a1) (ccv_100 (aA_k g20).2.1) G
    obtain ⟨T22, eT22, h⟩ := elet_some h
    have G : gC cI cJ cZ cMic cSrc cSt cAI cAJ D ad A s.heap H locs T22 := by rw [eT22]; exact G
    clear eT22
    refine lv_aload_n hx hb dX9_add_32 rfl (lv_at hl 0 rfl) ?_
    obtain ⟨g23, h⟩ := oif_some h
    obtain ⟨n24, en24, h⟩ := obind_some h
    refine c_get E G o 4 (v := .ref (ad n24)) (oO_k g23).1 (cc_o9 (oO_k g23).2) rfl (fun w h => .tail _ (iA_18 h)) (by decide) (.tail _ qA_203) rfl (by rw [en24]; rfl) dX9_add_33 ?_
    clear en24
    refine lv_aload_n hx hb dX9_add_36 rfl (lv_at hl 0 rfl) ?_
    obtain ⟨g25, h⟩ := oif_some h
    refine c_get E G o 5 (oO_k g25).1 (cc_o9 (oO_k g25).2) rfl (fun w h => .tail _ (iA_18 h)) (by decide) (.tail _ qA_187) rfl rfl dX9_add_37 ?_
    refine lv_topi (fun v26 ev26 => ?_)
    have h := elet_at ev26 h
    clear ev26
    refine lv_iload_n hx hb dX9_add_40 rfl (lv_at hl 3 rfl) ?_
    obtain ⟨g27, h⟩ := oif_some h
    obtain ⟨g28, h⟩ := oif_some h
    refine c_iast E G n24 0 (k := v26.toNatClampNeg) (v := a2) (aA_k g27).1 (cc_a100 (aA_k g27).2.1) rfl (inb_k g28).1 (inb_k g28).2 (aA_k g27).2.2 dX9_add_41 (fun H locs G => ?_)
    have G := gC_up_i (f := upd (T22.2.2.1 n24) v26.toNatClampNeg a2) (ccv_100 (aA_k g27).2.1) G
    obtain ⟨T29, eT29, h⟩ := elet_some h
    have G : gC cI cJ cZ cMic cSrc cSt cAI cAJ D ad A s.heap H locs T29 := by rw [eT29]; exact G
    clear eT29
    refine lv_aload_n hx hb dX9_add_42 rfl (lv_at hl 0 rfl) ?_
    refine lv_dup hx hb dX9_add_43 rfl ?_
    obtain ⟨g30, h⟩ := oif_some h
    refine c_get E G o 5 (oO_k g30).1 (cc_o9 (oO_k g30).2) rfl (fun w h => .tail _ (iA_18 h)) (by decide) (.tail _ qA_187) rfl rfl dX9_add_44 ?_
    refine lv_topi (fun v31 ev31 => ?_)
    have h := elet_at ev31 h
    clear ev31
    refine lv_iconst (v := 1) hx hb dX9_add_47 (by decide) ?_
    refine lv_iadd hx hb dX9_add_48 ?_
    refine lv_topi (fun v32 ev32 => ?_)
    have h := elet_at ev32 h
    clear ev32
    obtain ⟨g33, h⟩ := oif_some h
    refine c_put E G o 5 (v := .int v32) (oO_k g33).1 (cc_o9 (oO_k g33).2) rfl (fun w h => .tail _ (iA_18 h)) tyX9 tyX9_ok nmX9 (by decide) (.tail _ qA_187) ⟨rfl, rfl, rfl⟩ rfl rfl (Nat.le_of_ble_eq_true rfl) dX9_add_49 (fun H locs G => ?_)
    have G := gC_up_i (f := upd (T29.2.2.1 o) 5 v32) (by rw [(oO_k g33).2]; rfl) G
    obtain ⟨T34, eT34, h⟩ := elet_some h
    have G : gC cI cJ cZ cMic cSrc cSt cAI cAJ D ad A s.heap H locs T34 := by rw [eT34]; exact G
    clear eT34
    have hl := lv_sub hl [] rfl
    exact u_X9_add_b52 E hA hX hN hml hst (fun H locs ls G => W.vret hx hb hr (fun t ht hW => ⟨⟨T1, rfl, rfl, ⟨by rw [ht]; exact G.1, va_K.moved hW.alike hK, G.2.1⟩⟩, G.2.2.F ht⟩) G.2.2.2.2 dX9_add_52) _ _ _ _ h G hl
set_option maxHeartbeats 4000000 in
set_option maxRecDepth 100000 in
theorem s_X9_add_b52 {T1 : AT} : ∀ (T : AT), g_X9_add_b52 T = some T1 → SP T T1 := by
  intro T h
  have p0 := SP.rf T
  unfold g_X9_add_b52 at h
  rw [← osome1 h]
  exact p0
set_option maxHeartbeats 4000000 in
set_option maxRecDepth 100000 in
theorem s_X9_add {T : AT} {o : Nat} {a0 : Int32} {a1 : Int32} {a2 : Int32} {T1 : AT} (h : g_X9_add T o a0 a1 a2 = some T1) : SP T T1 := by
  have p0 := SP.rf T
  unfold g_X9_add at h
  obtain ⟨g2, h⟩ := oif_some h
  obtain ⟨v3, -, h⟩ := elet_some h
  obtain ⟨g4, h⟩ := oif_some h
  obtain ⟨n5, en5, h⟩ := obind_some h
  obtain ⟨g6, h⟩ := oif_some h
  obtain ⟨v7, -, h⟩ := elet_some h
  rcases oif_or h with ⟨c8, h⟩ | ⟨c8, h⟩
  · have h := h
    exact SP.tr p0 (s_X9_add_b52 _ h)
  · have h := h
    obtain ⟨g9, h⟩ := oif_some h
    obtain ⟨n10, en10, h⟩ := obind_some h
    obtain ⟨g11, h⟩ := oif_some h
    obtain ⟨v12, -, h⟩ := elet_some h
    obtain ⟨g13, h⟩ := oif_some h
    obtain ⟨g14, h⟩ := oif_some h
    obtain ⟨T15, eT15, h⟩ := elet_some h
    have p1 : SP T T15 := SP.tr p0 (by rw [eT15]; exact sp_uI)
    obtain ⟨g16, h⟩ := oif_some h
    obtain ⟨n17, en17, h⟩ := obind_some h
    obtain ⟨g18, h⟩ := oif_some h
    obtain ⟨v19, -, h⟩ := elet_some h
    obtain ⟨g20, h⟩ := oif_some h
    obtain ⟨g21, h⟩ := oif_some h
    obtain ⟨T22, eT22, h⟩ := elet_some h
    have p2 : SP T T22 := SP.tr p1 (by rw [eT22]; exact sp_uI)
    obtain ⟨g23, h⟩ := oif_some h
    obtain ⟨n24, en24, h⟩ := obind_some h
    obtain ⟨g25, h⟩ := oif_some h
    obtain ⟨v26, -, h⟩ := elet_some h
    obtain ⟨g27, h⟩ := oif_some h
    obtain ⟨g28, h⟩ := oif_some h
    obtain ⟨T29, eT29, h⟩ := elet_some h
    have p3 : SP T T29 := SP.tr p2 (by rw [eT29]; exact sp_uI)
    obtain ⟨g30, h⟩ := oif_some h
    obtain ⟨v31, -, h⟩ := elet_some h
    obtain ⟨v32, -, h⟩ := elet_some h
    obtain ⟨g33, h⟩ := oif_some h
    obtain ⟨T34, eT34, h⟩ := elet_some h
    have p4 : SP T T34 := SP.tr p3 (by rw [eT34]; exact sp_uI)
    exact SP.tr p4 (s_X9_add_b52 _ h)
def g_X9_cutOne_b158  (T : AT) (l4 : Int32) : Option (Int32 × AT) := some (l4, T)
set_option maxHeartbeats 4000000 in
set_option maxRecDepth 100000 in
theorem u_X9_cutOne_b158 {p : Program} {l : Launch} {e : Env} {s : State} {m : MethodId} {args : Array Value} {below : List Frame} {meth : Method} {c : Code} {Q : State → Prop} {D : va_G} {A : Nat → Prop} {cI cJ cZ cMic cSrc cSt cAI cAJ : ClassId} {ad : Nat → Nat} {r1 : Int32} {T1 : AT} (E : cE p c cX9_cutOne s m args (Cond.code yX9_cutOne cX9_cutOne 5 (some .int) :: wsA) D RX9 (CT cI cJ cZ cMic cSrc cSt cAI cAJ)) (hA : ∀ q : Nat, s.heap.size ≤ q → A q) (hX : xT A s) (hN : nX s) (hml : c.maxLocals = 5) (hst : l.stackTraces = false) (kr160 : ∀ (H : Heap) (locs : List Loc) (ls : Array Slot), gC cI cJ cZ cMic cSrc cSt cAI cAJ D ad A s.heap H locs T1 → W p l e { frames := 2, cells := 0, slots := 0, locals := 25 } s m args below meth c H locs 0 0 Q (F0 m 160 ls [.int r1])) : ∀ (T : AT) (H : Heap) (locs : List Loc) (ls : Array Slot) (l4 : Int32), g_X9_cutOne_b158 T l4 = some (r1, T1) → gC cI cJ cZ cMic cSrc cSt cAI cAJ D ad A s.heap H locs T → lv_has ls 5 [(4, .int l4)] → W p l e { frames := 2, cells := 0, slots := 0, locals := 25 } s m args below meth c H locs 0 0 Q (F0 m 158 ls []) := by
  have hx := E.1
  have hb := E.2.1
  have hts := E.2.2.1
  have hown := E.2.2.2.1
  have hK := E.2.2.2.2
  intro T H locs ls l4 h G hl
  unfold g_X9_cutOne_b158 at h
  refine lv_iload hx hb dX9_cutOne_158 (lv_at hl 0 rfl) ?_
  rw [(osome2 h).2] at G
  refine lv_to (osome2 h).1 ?_
  exact kr160 _ _ _ G
def g_X9_cutOne_b109  (T : AT) (l0 : Nat) (l2 : Int32) (l3 : Int32) (l4 : Int32) : Option (Int32 × AT) := if l3 = 45 then (oif (oO T l0 9 = true) <| obind (g_X9_add T l0 (3 : Int32) l2 l4) fun T4 => g_X9_cutOne_b158 T4 l4) else (if l3 = 59 then (oif (oO T l0 9 = true) <| obind (g_X9_add T l0 (4 : Int32) l2 l4) fun T8 => g_X9_cutOne_b158 T8 l4) else (if l3 = 32 then (g_X9_cutOne_b158 T l4) else (oif (oO T l0 9 = true) <| obind (g_X9_add T l0 (6 : Int32) l2 l4) fun T12 => g_X9_cutOne_b158 T12 l4)))
set_option maxHeartbeats 4000000 in
set_option maxRecDepth 100000 in
theorem u_X9_cutOne_b109 {p : Program} {l : Launch} {e : Env} {s : State} {m : MethodId} {args : Array Value} {below : List Frame} {meth : Method} {c : Code} {Q : State → Prop} {D : va_G} {A : Nat → Prop} {cI cJ cZ cMic cSrc cSt cAI cAJ : ClassId} {ad : Nat → Nat} {r1 : Int32} {T1 : AT} (E : cE p c cX9_cutOne s m args (Cond.code yX9_cutOne cX9_cutOne 5 (some .int) :: wsA) D RX9 (CT cI cJ cZ cMic cSrc cSt cAI cAJ)) (hA : ∀ q : Nat, s.heap.size ≤ q → A q) (hX : xT A s) (hN : nX s) (hml : c.maxLocals = 5) (hst : l.stackTraces = false) (kr160 : ∀ (H : Heap) (locs : List Loc) (ls : Array Slot), gC cI cJ cZ cMic cSrc cSt cAI cAJ D ad A s.heap H locs T1 → W p l e { frames := 2, cells := 0, slots := 0, locals := 25 } s m args below meth c H locs 0 0 Q (F0 m 160 ls [.int r1])) : ∀ (T : AT) (H : Heap) (locs : List Loc) (ls : Array Slot) (l0 : Nat) (l2 : Int32) (l3 : Int32) (l4 : Int32), g_X9_cutOne_b109 T l0 l2 l3 l4 = some (r1, T1) → gC cI cJ cZ cMic cSrc cSt cAI cAJ D ad A s.heap H locs T → lv_has ls 5 [(0, .ref (ad l0)), (2, .int l2), (3, .int l3), (4, .int l4)] → W p l e { frames := 2, cells := 0, slots := 0, locals := 25 } s m args below meth c H locs 0 0 Q (F0 m 109 ls []) := by
  have hx := E.1
  have hb := E.2.1
  have hts := E.2.2.1
  have hown := E.2.2.2.1
  have hK := E.2.2.2.2
  intro T H locs ls l0 l2 l3 l4 h G hl
  unfold g_X9_cutOne_b109 at h
  refine lv_iload_n hx hb dX9_cutOne_109 rfl (lv_at hl 2 rfl) ?_
  refine lv_bipush (v := 45) hx hb dX9_cutOne_110 (by decide) ?_
  refine lv_icmp_ne (tgt := 126) hx hb dX9_cutOne_112 (by decide) (fun c2 => ?_) (fun c2 => ?_)
  · have h := oif_neg c2 h
    refine lv_iload_n hx hb dX9_cutOne_126 rfl (lv_at hl 2 rfl) ?_
    refine lv_bipush (v := 59) hx hb dX9_cutOne_127 (by decide) ?_
    refine lv_icmp_ne (tgt := 143) hx hb dX9_cutOne_129 (by decide) (fun c6 => ?_) (fun c6 => ?_)
    · have h := oif_neg c6 h
      refine lv_iload_n hx hb dX9_cutOne_143 rfl (lv_at hl 2 rfl) ?_
      refine lv_bipush (v := 32) hx hb dX9_cutOne_144 (by decide) ?_
      refine lv_icmp_eq (tgt := 158) hx hb dX9_cutOne_146 (by decide) (fun c10 => ?_) (fun c10 => ?_)
      · have h := oif_pos c10 h
        have hl := lv_sub hl [3] rfl
        exact u_X9_cutOne_b158 E hA hX hN hml hst kr160 _ _ _ _ _ h G hl
      · have h := oif_neg c10 h
        refine lv_aload_n hx hb dX9_cutOne_149 rfl (lv_at hl 0 rfl) ?_
        refine lv_bipush (v := 6) hx hb dX9_cutOne_150 (by decide) ?_
        refine lv_iload_n hx hb dX9_cutOne_152 rfl (lv_at hl 1 rfl) ?_
        refine lv_iload hx hb dX9_cutOne_153 (lv_at hl 3 rfl) ?_
        obtain ⟨g11, h⟩ := oif_some h
        obtain ⟨T12, eT12, h⟩ := obind_some h
        refine q_cvv (As := [.int 6, .int l2, .int l4]) (rest := []) E G hA hX hN hml (u_X9_add l hst D cI cJ cZ cMic cSrc cSt cAI cAJ ad T l0 (6 : Int32) l2 l4 eT12) (cwV 3 hts (gaV qA_197 qA_198 qA_199 qA_185 qA_200) rfl rfl rfl (by decide +kernel) ⟨Nat.le_of_ble_eq_true rfl, Nat.le_of_ble_eq_true rfl⟩) (oO_k g11).1 (cc_o9 (oO_k g11).2) rfl rfl hl.1 rfl (lv_room (Nat.le_of_ble_eq_true rfl)) dX9_cutOne_155 ⟨Nat.zero_le _, Nat.zero_le _⟩ (fun T13 H locs hq G => ?_)
        rw [hq] at G
        clear hq eT12
        have hl := lv_sub hl [3] rfl
        exact u_X9_cutOne_b158 E hA hX hN hml hst kr160 _ _ _ _ _ h G hl
    · have h := oif_pos c6 h
      refine lv_aload_n hx hb dX9_cutOne_132 rfl (lv_at hl 0 rfl) ?_
      refine lv_iconst (v := 4) hx hb dX9_cutOne_133 (by decide) ?_
      refine lv_iload_n hx hb dX9_cutOne_134 rfl (lv_at hl 1 rfl) ?_
      refine lv_iload hx hb dX9_cutOne_135 (lv_at hl 3 rfl) ?_
      obtain ⟨g7, h⟩ := oif_some h
      obtain ⟨T8, eT8, h⟩ := obind_some h
      refine q_cvv (As := [.int 4, .int l2, .int l4]) (rest := []) E G hA hX hN hml (u_X9_add l hst D cI cJ cZ cMic cSrc cSt cAI cAJ ad T l0 (4 : Int32) l2 l4 eT8) (cwV 3 hts (gaV qA_197 qA_198 qA_199 qA_185 qA_200) rfl rfl rfl (by decide +kernel) ⟨Nat.le_of_ble_eq_true rfl, Nat.le_of_ble_eq_true rfl⟩) (oO_k g7).1 (cc_o9 (oO_k g7).2) rfl rfl hl.1 rfl (lv_room (Nat.le_of_ble_eq_true rfl)) dX9_cutOne_137 ⟨Nat.zero_le _, Nat.zero_le _⟩ (fun T9 H locs hq G => ?_)
      rw [hq] at G
      clear hq eT8
      refine lv_goto (tgt := 158) hx hb dX9_cutOne_140 (by decide) ?_
      have hl := lv_sub hl [3] rfl
      exact u_X9_cutOne_b158 E hA hX hN hml hst kr160 _ _ _ _ _ h G hl
  · have h := oif_pos c2 h
    refine lv_aload_n hx hb dX9_cutOne_115 rfl (lv_at hl 0 rfl) ?_
    refine lv_iconst (v := 3) hx hb dX9_cutOne_116 (by decide) ?_
    refine lv_iload_n hx hb dX9_cutOne_117 rfl (lv_at hl 1 rfl) ?_
    refine lv_iload hx hb dX9_cutOne_118 (lv_at hl 3 rfl) ?_
    obtain ⟨g3, h⟩ := oif_some h
    obtain ⟨T4, eT4, h⟩ := obind_some h
    refine q_cvv (As := [.int 3, .int l2, .int l4]) (rest := []) E G hA hX hN hml (u_X9_add l hst D cI cJ cZ cMic cSrc cSt cAI cAJ ad T l0 (3 : Int32) l2 l4 eT4) (cwV 3 hts (gaV qA_197 qA_198 qA_199 qA_185 qA_200) rfl rfl rfl (by decide +kernel) ⟨Nat.le_of_ble_eq_true rfl, Nat.le_of_ble_eq_true rfl⟩) (oO_k g3).1 (cc_o9 (oO_k g3).2) rfl rfl hl.1 rfl (lv_room (Nat.le_of_ble_eq_true rfl)) dX9_cutOne_120 ⟨Nat.zero_le _, Nat.zero_le _⟩ (fun T5 H locs hq G => ?_)
    rw [hq] at G
    clear hq eT4
    refine lv_goto (tgt := 158) hx hb dX9_cutOne_123 (by decide) ?_
    have hl := lv_sub hl [3] rfl
    exact u_X9_cutOne_b158 E hA hX hN hml hst kr160 _ _ _ _ _ h G hl
def g_X9_cutOne_b100  (T : AT) (s0 : Int32) (s1 : Nat) (l2 : Int32) (l4 : Int32) : Option (Int32 × AT) := oif (oO T s1 9 = true) <| obind (g_X9_add T s1 s0 l2 l4) fun T3 => g_X9_cutOne_b158 T3 l4
set_option maxHeartbeats 4000000 in
set_option maxRecDepth 100000 in
theorem u_X9_cutOne_b100 {p : Program} {l : Launch} {e : Env} {s : State} {m : MethodId} {args : Array Value} {below : List Frame} {meth : Method} {c : Code} {Q : State → Prop} {D : va_G} {A : Nat → Prop} {cI cJ cZ cMic cSrc cSt cAI cAJ : ClassId} {ad : Nat → Nat} {r1 : Int32} {T1 : AT} (E : cE p c cX9_cutOne s m args (Cond.code yX9_cutOne cX9_cutOne 5 (some .int) :: wsA) D RX9 (CT cI cJ cZ cMic cSrc cSt cAI cAJ)) (hA : ∀ q : Nat, s.heap.size ≤ q → A q) (hX : xT A s) (hN : nX s) (hml : c.maxLocals = 5) (hst : l.stackTraces = false) (kr160 : ∀ (H : Heap) (locs : List Loc) (ls : Array Slot), gC cI cJ cZ cMic cSrc cSt cAI cAJ D ad A s.heap H locs T1 → W p l e { frames := 2, cells := 0, slots := 0, locals := 25 } s m args below meth c H locs 0 0 Q (F0 m 160 ls [.int r1])) : ∀ (T : AT) (H : Heap) (locs : List Loc) (ls : Array Slot) (s0 : Int32) (s1 : Nat) (l2 : Int32) (l4 : Int32), g_X9_cutOne_b100 T s0 s1 l2 l4 = some (r1, T1) → gC cI cJ cZ cMic cSrc cSt cAI cAJ D ad A s.heap H locs T → lv_has ls 5 [(2, .int l2), (4, .int l4)] → W p l e { frames := 2, cells := 0, slots := 0, locals := 25 } s m args below meth c H locs 0 0 Q (F0 m 100 ls [.int s0, .ref (ad s1)]) := by
  have hx := E.1
  have hb := E.2.1
  have hts := E.2.2.1
  have hown := E.2.2.2.1
  have hK := E.2.2.2.2
  intro T H locs ls s0 s1 l2 l4 h G hl
  unfold g_X9_cutOne_b100 at h
  refine lv_iload_n hx hb dX9_cutOne_100 rfl (lv_at hl 0 rfl) ?_
  refine lv_iload hx hb dX9_cutOne_101 (lv_at hl 1 rfl) ?_
  obtain ⟨g2, h⟩ := oif_some h
  obtain ⟨T3, eT3, h⟩ := obind_some h
  refine q_cvv (As := [.int s0, .int l2, .int l4]) (rest := []) E G hA hX hN hml (u_X9_add l hst D cI cJ cZ cMic cSrc cSt cAI cAJ ad T s1 s0 l2 l4 eT3) (cwV 3 hts (gaV qA_197 qA_198 qA_199 qA_185 qA_200) rfl rfl rfl (by decide +kernel) ⟨Nat.le_of_ble_eq_true rfl, Nat.le_of_ble_eq_true rfl⟩) (oO_k g2).1 (cc_o9 (oO_k g2).2) rfl rfl hl.1 rfl (lv_room (Nat.le_of_ble_eq_true rfl)) dX9_cutOne_103 ⟨Nat.zero_le _, Nat.zero_le _⟩ (fun T4 H locs hq G => ?_)
  rw [hq] at G
  clear hq eT3
  refine lv_goto (tgt := 158) hx hb dX9_cutOne_106 (by decide) ?_
  have hl := lv_sub hl [1] rfl
  exact u_X9_cutOne_b158 E hA hX hN hml hst kr160 _ _ _ _ _ h G hl
def g_X9_cutOne_b61  (T : AT) (l0 : Nat) (l1 : Int32) (l2 : Int32) (l3 : Int32) (l4 : Int32) : Option (Int32 × AT) := if l3 < 48 then (g_X9_cutOne_b109 T l0 l2 l3 l4) else (if 57 < l3 then (g_X9_cutOne_b109 T l0 l2 l3 l4) else (oif (oO T l0 9 = true) <| obind2 (g_X9_runEnd T l0 l1 l2 (48 : Int32) (57 : Int32)) fun r7 T5 => elet (r7 - l2) fun v9 => if 4 < v9 then (g_X9_cutOne_b100 T5 6 l0 l2 r7) else (g_X9_cutOne_b100 T5 2 l0 l2 r7)))
set_option maxHeartbeats 4000000 in
set_option maxRecDepth 100000 in
theorem u_X9_cutOne_b61 {p : Program} {l : Launch} {e : Env} {s : State} {m : MethodId} {args : Array Value} {below : List Frame} {meth : Method} {c : Code} {Q : State → Prop} {D : va_G} {A : Nat → Prop} {cI cJ cZ cMic cSrc cSt cAI cAJ : ClassId} {ad : Nat → Nat} {r1 : Int32} {T1 : AT} (E : cE p c cX9_cutOne s m args (Cond.code yX9_cutOne cX9_cutOne 5 (some .int) :: wsA) D RX9 (CT cI cJ cZ cMic cSrc cSt cAI cAJ)) (hA : ∀ q : Nat, s.heap.size ≤ q → A q) (hX : xT A s) (hN : nX s) (hml : c.maxLocals = 5) (hst : l.stackTraces = false) (kr160 : ∀ (H : Heap) (locs : List Loc) (ls : Array Slot), gC cI cJ cZ cMic cSrc cSt cAI cAJ D ad A s.heap H locs T1 → W p l e { frames := 2, cells := 0, slots := 0, locals := 25 } s m args below meth c H locs 0 0 Q (F0 m 160 ls [.int r1])) : ∀ (T : AT) (H : Heap) (locs : List Loc) (ls : Array Slot) (l0 : Nat) (l1 : Int32) (l2 : Int32) (l3 : Int32) (l4 : Int32), g_X9_cutOne_b61 T l0 l1 l2 l3 l4 = some (r1, T1) → gC cI cJ cZ cMic cSrc cSt cAI cAJ D ad A s.heap H locs T → lv_has ls 5 [(0, .ref (ad l0)), (1, .int l1), (2, .int l2), (3, .int l3), (4, .int l4)] → W p l e { frames := 2, cells := 0, slots := 0, locals := 25 } s m args below meth c H locs 0 0 Q (F0 m 61 ls []) := by
  have hx := E.1
  have hb := E.2.1
  have hts := E.2.2.1
  have hown := E.2.2.2.1
  have hK := E.2.2.2.2
  intro T H locs ls l0 l1 l2 l3 l4 h G hl
  unfold g_X9_cutOne_b61 at h
  refine lv_iload_n hx hb dX9_cutOne_61 rfl (lv_at hl 3 rfl) ?_
  refine lv_bipush (v := 48) hx hb dX9_cutOne_62 (by decide) ?_
  refine lv_icmp_lt (tgt := 109) hx hb dX9_cutOne_64 (by decide) (fun c2 => ?_) (fun c2 => ?_)
  · have h := oif_pos c2 h
    have hl := lv_sub hl [0, 2, 3, 4] rfl
    exact u_X9_cutOne_b109 E hA hX hN hml hst kr160 _ _ _ _ _ _ _ _ h G hl
  · have h := oif_neg c2 h
    refine lv_iload_n hx hb dX9_cutOne_67 rfl (lv_at hl 3 rfl) ?_
    refine lv_bipush (v := 57) hx hb dX9_cutOne_68 (by decide) ?_
    refine lv_icmp_gt (tgt := 109) hx hb dX9_cutOne_70 (by decide) (fun c3 => ?_) (fun c3 => ?_)
    · have h := oif_pos c3 h
      have hl := lv_sub hl [0, 2, 3, 4] rfl
      exact u_X9_cutOne_b109 E hA hX hN hml hst kr160 _ _ _ _ _ _ _ _ h G hl
    · have h := oif_neg c3 h
      refine lv_aload_n hx hb dX9_cutOne_73 rfl (lv_at hl 0 rfl) ?_
      refine lv_iload_n hx hb dX9_cutOne_74 rfl (lv_at hl 1 rfl) ?_
      refine lv_iload_n hx hb dX9_cutOne_75 rfl (lv_at hl 2 rfl) ?_
      refine lv_bipush (v := 48) hx hb dX9_cutOne_76 (by decide) ?_
      refine lv_bipush (v := 57) hx hb dX9_cutOne_78 (by decide) ?_
      obtain ⟨g4, h⟩ := oif_some h
      obtain ⟨r7, T5, eT5, h⟩ := obind2_some h
      refine q_cvi (As := [.int l1, .int l2, .int 48, .int 57]) (rest := []) E G hA hX hN hml (u_X9_runEnd l hst D cI cJ cZ cMic cSrc cSt cAI cAJ ad T l0 l1 l2 (48 : Int32) (57 : Int32) eT5) (cwV 4 hts (gaV qA_193 qA_194 qA_195 qA_185 qA_196) rfl rfl rfl (by decide +kernel) ⟨Nat.le_of_ble_eq_true rfl, Nat.le_of_ble_eq_true rfl⟩) (oO_k g4).1 (cc_o9 (oO_k g4).2) rfl rfl hl.1 rfl (lv_room (Nat.le_of_ble_eq_true rfl)) dX9_cutOne_80 ⟨Nat.zero_le _, Nat.zero_le _⟩ (fun q8 T6 H locs hq G => ?_)
      obtain ⟨hq1, hq2⟩ := hq
      rw [hq2] at G
      refine lv_to hq1 ?_
      clear hq1 hq2 eT5
      refine lv_istore (lv' := [(4, .int r7), (0, .ref (ad l0)), (1, .int l1), (2, .int l2), (3, .int l3)]) hx hb dX9_cutOne_83 hl (by decide) rfl (fun ls hl => ?_)
      refine lv_aload_n hx hb dX9_cutOne_85 rfl (lv_at hl 1 rfl) ?_
      refine lv_iload hx hb dX9_cutOne_86 (lv_at hl 0 rfl) ?_
      refine lv_iload_n hx hb dX9_cutOne_88 rfl (lv_at hl 3 rfl) ?_
      refine lv_isub hx hb dX9_cutOne_89 ?_
      refine lv_topi (fun v9 ev9 => ?_)
      have h := elet_at ev9 h
      clear ev9
      refine lv_iconst (v := 4) hx hb dX9_cutOne_90 (by decide) ?_
      refine lv_icmp_gt (tgt := 98) hx hb dX9_cutOne_91 (by decide) (fun c10 => ?_) (fun c10 => ?_)
      · have h := oif_pos c10 h
        refine lv_bipush (v := 6) hx hb dX9_cutOne_98 (by decide) ?_
        have hl := lv_sub hl [3, 0] rfl
        exact u_X9_cutOne_b100 E hA hX hN hml hst kr160 _ _ _ _ _ _ _ _ h G hl
      · have h := oif_neg c10 h
        refine lv_iconst (v := 2) hx hb dX9_cutOne_94 (by decide) ?_
        refine lv_goto (tgt := 100) hx hb dX9_cutOne_95 (by decide) ?_
        have hl := lv_sub hl [3, 0] rfl
        exact u_X9_cutOne_b100 E hA hX hN hml hst kr160 _ _ _ _ _ _ _ _ h G hl
def g_X9_cutOne_b52  (T : AT) (s0 : Int32) (s1 : Nat) (l2 : Int32) (l4 : Int32) : Option (Int32 × AT) := oif (oO T s1 9 = true) <| obind (g_X9_add T s1 s0 l2 l4) fun T3 => g_X9_cutOne_b158 T3 l4
set_option maxHeartbeats 4000000 in
set_option maxRecDepth 100000 in
theorem u_X9_cutOne_b52 {p : Program} {l : Launch} {e : Env} {s : State} {m : MethodId} {args : Array Value} {below : List Frame} {meth : Method} {c : Code} {Q : State → Prop} {D : va_G} {A : Nat → Prop} {cI cJ cZ cMic cSrc cSt cAI cAJ : ClassId} {ad : Nat → Nat} {r1 : Int32} {T1 : AT} (E : cE p c cX9_cutOne s m args (Cond.code yX9_cutOne cX9_cutOne 5 (some .int) :: wsA) D RX9 (CT cI cJ cZ cMic cSrc cSt cAI cAJ)) (hA : ∀ q : Nat, s.heap.size ≤ q → A q) (hX : xT A s) (hN : nX s) (hml : c.maxLocals = 5) (hst : l.stackTraces = false) (kr160 : ∀ (H : Heap) (locs : List Loc) (ls : Array Slot), gC cI cJ cZ cMic cSrc cSt cAI cAJ D ad A s.heap H locs T1 → W p l e { frames := 2, cells := 0, slots := 0, locals := 25 } s m args below meth c H locs 0 0 Q (F0 m 160 ls [.int r1])) : ∀ (T : AT) (H : Heap) (locs : List Loc) (ls : Array Slot) (s0 : Int32) (s1 : Nat) (l2 : Int32) (l4 : Int32), g_X9_cutOne_b52 T s0 s1 l2 l4 = some (r1, T1) → gC cI cJ cZ cMic cSrc cSt cAI cAJ D ad A s.heap H locs T → lv_has ls 5 [(2, .int l2), (4, .int l4)] → W p l e { frames := 2, cells := 0, slots := 0, locals := 25 } s m args below meth c H locs 0 0 Q (F0 m 52 ls [.int s0, .ref (ad s1)]) := by
  have hx := E.1
  have hb := E.2.1
  have hts := E.2.2.1
  have hown := E.2.2.2.1
  have hK := E.2.2.2.2
  intro T H locs ls s0 s1 l2 l4 h G hl
  unfold g_X9_cutOne_b52 at h
  refine lv_iload_n hx hb dX9_cutOne_52 rfl (lv_at hl 0 rfl) ?_
  refine lv_iload hx hb dX9_cutOne_53 (lv_at hl 1 rfl) ?_
  obtain ⟨g2, h⟩ := oif_some h
  obtain ⟨T3, eT3, h⟩ := obind_some h
  refine q_cvv (As := [.int s0, .int l2, .int l4]) (rest := []) E G hA hX hN hml (u_X9_add l hst D cI cJ cZ cMic cSrc cSt cAI cAJ ad T s1 s0 l2 l4 eT3) (cwV 3 hts (gaV qA_197 qA_198 qA_199 qA_185 qA_200) rfl rfl rfl (by decide +kernel) ⟨Nat.le_of_ble_eq_true rfl, Nat.le_of_ble_eq_true rfl⟩) (oO_k g2).1 (cc_o9 (oO_k g2).2) rfl rfl hl.1 rfl (lv_room (Nat.le_of_ble_eq_true rfl)) dX9_cutOne_55 ⟨Nat.zero_le _, Nat.zero_le _⟩ (fun T4 H locs hq G => ?_)
  rw [hq] at G
  clear hq eT3
  refine lv_goto (tgt := 158) hx hb dX9_cutOne_58 (by decide) ?_
  have hl := lv_sub hl [1] rfl
  exact u_X9_cutOne_b158 E hA hX hN hml hst kr160 _ _ _ _ _ h G hl
def g_X9_cutOne (T : AT) (o : Nat) (a0 : Int32) (a1 : Int32) : Option (Int32 × AT) := oif (oO T o 9 = true) <| obind (T.2.2.2.2 o 0) fun n3 => oif (aA T n3 100 = true) <| oif (inb a1 (T.2.1 n3).2 = true) <| elet (T.2.2.1 n3 a1.toNatClampNeg) fun v6 => elet (a1 + 1) fun v7 => if v6 < 97 then (g_X9_cutOne_b61 T o a0 a1 v6 v7) else (if 122 < v6 then (g_X9_cutOne_b61 T o a0 a1 v6 v7) else (oif (oO T o 9 = true) <| obind2 (g_X9_runEnd T o a0 a1 (97 : Int32) (122 : Int32)) fun r13 T11 => elet (r13 - a1) fun v15 => if 8 < v15 then (g_X9_cutOne_b52 T11 6 o a1 r13) else (g_X9_cutOne_b52 T11 1 o a1 r13)))
set_option maxHeartbeats 4000000 in
set_option maxRecDepth 100000 in
theorem u_X9_cutOne (l : Launch) (hst : l.stackTraces = false) (D : va_G) (cI cJ cZ cMic cSrc cSt cAI cAJ : ClassId) (ad : Nat → Nat) (T : AT) (o : Nat) (a0 : Int32) (a1 : Int32) {r1 : Int32} {T1 : AT} (h : g_X9_cutOne T o a0 a1 = some (r1, T1)) : kCi l yX9_cutOne (Cond.code yX9_cutOne cX9_cutOne 5 (some .int) :: wsA) 2 25 cI cJ cZ cMic cSrc cSt cAI cAJ D ad T [.ref (ad o), .int a0, .int a1] (fun r T9 => r = r1 ∧ T9 = T1) := by
  intro sz
  refine Met.ofW (cc := cX9_cutOne) (maxL := 5) (ret := (some .int)) (by decide) rfl ?_
  intro p e s m args below meth c s₁ B hml hv
  obtain ⟨rfl, hsz, hP, hK, hD0, hX, hN⟩ := hv
  have hx := B.exec
  have hb := B.bytes
  have hr := B.returns
  have hts := atoms_spec (ws := (Cond.code yX9_cutOne cX9_cutOne 5 (some .int) :: wsA)) B.pre
  have hown : s.vm.findClass RX9 = some m.cls := findClass_of_methodNamed B.named
  have hlocks := B.notSynchronized
  subst hsz
  have hD := hD0.self (sz := s.heap.size)
  generalize hAe : va_A (cW ad T.1 (cc cI cJ cZ cMic cSrc cSt cAI cAJ ad T)) s.heap.size = A at hD hX ⊢
  have hA : ∀ q : Nat, s.heap.size ≤ q → A q := fun q h => by rw [← hAe]; exact Or.inr h
  have G : gC cI cJ cZ cMic cSrc cSt cAI cAJ D ad A s.heap s.heap [] T := ⟨hP, hD, va_S.rf⟩
  have E : cE p c cX9_cutOne s m ([.ref (ad o), .int a0, .int a1] : List Value).toArray (Cond.code yX9_cutOne cX9_cutOne 5 (some .int) :: wsA) D RX9 (CT cI cJ cZ cMic cSrc cSt cAI cAJ) := ⟨hx, hb, hts, hown, hK⟩
  have hl := lv_entry ([.ref (ad o), .int a0, .int a1]) (n := 5) (Nat.le_of_ble_eq_true rfl)
  rw [lg_entry_eq]
  generalize (lg_sl ([.ref (ad o), .int a0, .int a1]) ++ List.replicate (5 - (lg_sl ([.ref (ad o), .int a0, .int a1])).length) Slot.unset).toArray = ls at hl ⊢
  have hl : lv_has ls 5 [(0, .ref (ad o)), (1, .int a0), (2, .int a1)] := hl
  unfold g_X9_cutOne at h
  refine lv_aload_n hx hb dX9_cutOne_0 rfl (lv_at hl 0 rfl) ?_
  obtain ⟨g2, h⟩ := oif_some h
  obtain ⟨n3, en3, h⟩ := obind_some h
  refine c_get E G o 0 (v := .ref (ad n3)) (oO_k g2).1 (cc_o9 (oO_k g2).2) rfl (fun w h => .tail _ (iA_18 h)) (by decide) (.tail _ qA_192) rfl (by rw [en3]; rfl) dX9_cutOne_1 ?_
  clear en3
  refine lv_iload_n hx hb dX9_cutOne_4 rfl (lv_at hl 2 rfl) ?_
  obtain ⟨g4, h⟩ := oif_some h
  obtain ⟨g5, h⟩ := oif_some h
  refine c_iald E G n3 0 (k := a1.toNatClampNeg) (aA_k g4).1 (cc_a100 (aA_k g4).2.1) rfl (inb_k g5).1 (inb_k g5).2 (aA_k g4).2.2 dX9_cutOne_5 ?_
  refine lv_topi (fun v6 ev6 => ?_)
  have h := elet_at ev6 h
  clear ev6
  refine lv_istore_n (lv' := [(3, .int v6), (0, .ref (ad o)), (1, .int a0), (2, .int a1)]) hx hb dX9_cutOne_6 rfl hl (by decide) rfl (fun ls hl => ?_)
  refine lv_iload_n hx hb dX9_cutOne_7 rfl (lv_at hl 3 rfl) ?_
  refine lv_iconst (v := 1) hx hb dX9_cutOne_8 (by decide) ?_
  refine lv_iadd hx hb dX9_cutOne_9 ?_
  refine lv_topi (fun v7 ev7 => ?_)
  have h := elet_at ev7 h
  clear ev7
  refine lv_istore (lv' := [(4, .int v7), (3, .int v6), (0, .ref (ad o)), (1, .int a0), (2, .int a1)]) hx hb dX9_cutOne_10 hl (by decide) rfl (fun ls hl => ?_)
  refine lv_iload_n hx hb dX9_cutOne_12 rfl (lv_at hl 1 rfl) ?_
  refine lv_bipush (v := 97) hx hb dX9_cutOne_13 (by decide) ?_
  refine lv_icmp_lt (tgt := 61) hx hb dX9_cutOne_15 (by decide) (fun c8 => ?_) (fun c8 => ?_)
  · have h := oif_pos c8 h
    have hl := lv_sub hl [2, 3, 4, 1, 0] rfl
    exact u_X9_cutOne_b61 E hA hX hN hml hst (fun H locs ls G => W.iret (v := r1) hx hb hr (fun t ht hW => ⟨⟨r1, T1, rfl, ⟨rfl, rfl⟩, ⟨by rw [ht]; exact G.1, va_K.moved hW.alike hK, G.2.1⟩⟩, G.2.2.F ht⟩) G.2.2.2.2 dX9_cutOne_160) _ _ _ _ _ _ _ _ _ h G hl
  · have h := oif_neg c8 h
    refine lv_iload_n hx hb dX9_cutOne_18 rfl (lv_at hl 1 rfl) ?_
    refine lv_bipush (v := 122) hx hb dX9_cutOne_19 (by decide) ?_
    refine lv_icmp_gt (tgt := 61) hx hb dX9_cutOne_21 (by decide) (fun c9 => ?_) (fun c9 => ?_)
    · have h := oif_pos c9 h
      have hl := lv_sub hl [2, 3, 4, 1, 0] rfl
      exact u_X9_cutOne_b61 E hA hX hN hml hst (fun H locs ls G => W.iret (v := r1) hx hb hr (fun t ht hW => ⟨⟨r1, T1, rfl, ⟨rfl, rfl⟩, ⟨by rw [ht]; exact G.1, va_K.moved hW.alike hK, G.2.1⟩⟩, G.2.2.F ht⟩) G.2.2.2.2 dX9_cutOne_160) _ _ _ _ _ _ _ _ _ h G hl
    · have h := oif_neg c9 h
      refine lv_aload_n hx hb dX9_cutOne_24 rfl (lv_at hl 2 rfl) ?_
      refine lv_iload_n hx hb dX9_cutOne_25 rfl (lv_at hl 3 rfl) ?_
      refine lv_iload_n hx hb dX9_cutOne_26 rfl (lv_at hl 4 rfl) ?_
      refine lv_bipush (v := 97) hx hb dX9_cutOne_27 (by decide) ?_
      refine lv_bipush (v := 122) hx hb dX9_cutOne_29 (by decide) ?_
      obtain ⟨g10, h⟩ := oif_some h
      obtain ⟨r13, T11, eT11, h⟩ := obind2_some h
      refine q_cvi (As := [.int a0, .int a1, .int 97, .int 122]) (rest := []) E G hA hX hN hml (u_X9_runEnd l hst D cI cJ cZ cMic cSrc cSt cAI cAJ ad T o a0 a1 (97 : Int32) (122 : Int32) eT11) (cwV 4 hts (gaV qA_193 qA_194 qA_195 qA_185 qA_196) rfl rfl rfl (by decide +kernel) ⟨Nat.le_of_ble_eq_true rfl, Nat.le_of_ble_eq_true rfl⟩) (oO_k g10).1 (cc_o9 (oO_k g10).2) rfl rfl hl.1 rfl (lv_room (Nat.le_of_ble_eq_true rfl)) dX9_cutOne_31 ⟨Nat.zero_le _, Nat.zero_le _⟩ (fun q14 T12 H locs hq G => ?_)
      obtain ⟨hq1, hq2⟩ := hq
      rw [hq2] at G
      refine lv_to hq1 ?_
      clear hq1 hq2 eT11
      refine lv_istore (lv' := [(4, .int r13), (3, .int v6), (0, .ref (ad o)), (1, .int a0), (2, .int a1)]) hx hb dX9_cutOne_34 hl (by decide) rfl (fun ls hl => ?_)
      refine lv_aload_n hx hb dX9_cutOne_36 rfl (lv_at hl 2 rfl) ?_
      refine lv_iload hx hb dX9_cutOne_37 (lv_at hl 0 rfl) ?_
      refine lv_iload_n hx hb dX9_cutOne_39 rfl (lv_at hl 4 rfl) ?_
      refine lv_isub hx hb dX9_cutOne_40 ?_
      refine lv_topi (fun v15 ev15 => ?_)
      have h := elet_at ev15 h
      clear ev15
      refine lv_bipush (v := 8) hx hb dX9_cutOne_41 (by decide) ?_
      refine lv_icmp_gt (tgt := 50) hx hb dX9_cutOne_43 (by decide) (fun c16 => ?_) (fun c16 => ?_)
      · have h := oif_pos c16 h
        refine lv_bipush (v := 6) hx hb dX9_cutOne_50 (by decide) ?_
        have hl := lv_sub hl [4, 0] rfl
        exact u_X9_cutOne_b52 E hA hX hN hml hst (fun H locs ls G => W.iret (v := r1) hx hb hr (fun t ht hW => ⟨⟨r1, T1, rfl, ⟨rfl, rfl⟩, ⟨by rw [ht]; exact G.1, va_K.moved hW.alike hK, G.2.1⟩⟩, G.2.2.F ht⟩) G.2.2.2.2 dX9_cutOne_160) _ _ _ _ _ _ _ _ h G hl
      · have h := oif_neg c16 h
        refine lv_iconst (v := 1) hx hb dX9_cutOne_46 (by decide) ?_
        refine lv_goto (tgt := 52) hx hb dX9_cutOne_47 (by decide) ?_
        have hl := lv_sub hl [4, 0] rfl
        exact u_X9_cutOne_b52 E hA hX hN hml hst (fun H locs ls G => W.iret (v := r1) hx hb hr (fun t ht hW => ⟨⟨r1, T1, rfl, ⟨rfl, rfl⟩, ⟨by rw [ht]; exact G.1, va_K.moved hW.alike hK, G.2.1⟩⟩, G.2.2.F ht⟩) G.2.2.2.2 dX9_cutOne_160) _ _ _ _ _ _ _ _ h G hl
set_option maxHeartbeats 4000000 in
set_option maxRecDepth 100000 in
theorem s_X9_cutOne_b158 {r1 : Int32} {T1 : AT} : ∀ (T : AT) (l4 : Int32), g_X9_cutOne_b158 T l4 = some (r1, T1) → SP T T1 := by
  intro T l4 h
  have p0 := SP.rf T
  unfold g_X9_cutOne_b158 at h
  rw [← (osome2 h).2]
  exact p0
set_option maxHeartbeats 4000000 in
set_option maxRecDepth 100000 in
theorem s_X9_cutOne_b109 {r1 : Int32} {T1 : AT} : ∀ (T : AT) (l0 : Nat) (l2 : Int32) (l3 : Int32) (l4 : Int32), g_X9_cutOne_b109 T l0 l2 l3 l4 = some (r1, T1) → SP T T1 := by
  intro T l0 l2 l3 l4 h
  have p0 := SP.rf T
  unfold g_X9_cutOne_b109 at h
  rcases oif_or h with ⟨c2, h⟩ | ⟨c2, h⟩
  · have h := h
    obtain ⟨g3, h⟩ := oif_some h
    obtain ⟨T4, eT4, h⟩ := obind_some h
    have p1 : SP T T4 := SP.tr p0 (s_X9_add eT4)
    exact SP.tr p1 (s_X9_cutOne_b158 _ _ h)
  · have h := h
    rcases oif_or h with ⟨c6, h⟩ | ⟨c6, h⟩
    · have h := h
      obtain ⟨g7, h⟩ := oif_some h
      obtain ⟨T8, eT8, h⟩ := obind_some h
      have p1 : SP T T8 := SP.tr p0 (s_X9_add eT8)
      exact SP.tr p1 (s_X9_cutOne_b158 _ _ h)
    · have h := h
      rcases oif_or h with ⟨c10, h⟩ | ⟨c10, h⟩
      · have h := h
        exact SP.tr p0 (s_X9_cutOne_b158 _ _ h)
      · have h := h
        obtain ⟨g11, h⟩ := oif_some h
        obtain ⟨T12, eT12, h⟩ := obind_some h
        have p1 : SP T T12 := SP.tr p0 (s_X9_add eT12)
        exact SP.tr p1 (s_X9_cutOne_b158 _ _ h)
set_option maxHeartbeats 4000000 in
set_option maxRecDepth 100000 in
theorem s_X9_cutOne_b100 {r1 : Int32} {T1 : AT} : ∀ (T : AT) (s0 : Int32) (s1 : Nat) (l2 : Int32) (l4 : Int32), g_X9_cutOne_b100 T s0 s1 l2 l4 = some (r1, T1) → SP T T1 := by
  intro T s0 s1 l2 l4 h
  have p0 := SP.rf T
  unfold g_X9_cutOne_b100 at h
  obtain ⟨g2, h⟩ := oif_some h
  obtain ⟨T3, eT3, h⟩ := obind_some h
  have p1 : SP T T3 := SP.tr p0 (s_X9_add eT3)
  exact SP.tr p1 (s_X9_cutOne_b158 _ _ h)
set_option maxHeartbeats 4000000 in
set_option maxRecDepth 100000 in
theorem s_X9_cutOne_b61 {r1 : Int32} {T1 : AT} : ∀ (T : AT) (l0 : Nat) (l1 : Int32) (l2 : Int32) (l3 : Int32) (l4 : Int32), g_X9_cutOne_b61 T l0 l1 l2 l3 l4 = some (r1, T1) → SP T T1 := by
  intro T l0 l1 l2 l3 l4 h
  have p0 := SP.rf T
  unfold g_X9_cutOne_b61 at h
  rcases oif_or h with ⟨c2, h⟩ | ⟨c2, h⟩
  · have h := h
    exact SP.tr p0 (s_X9_cutOne_b109 _ _ _ _ _ h)
  · have h := h
    rcases oif_or h with ⟨c3, h⟩ | ⟨c3, h⟩
    · have h := h
      exact SP.tr p0 (s_X9_cutOne_b109 _ _ _ _ _ h)
    · have h := h
      obtain ⟨g4, h⟩ := oif_some h
      obtain ⟨r6, T5, eT5, h⟩ := obind2_some h
      have p1 : SP T T5 := SP.tr p0 (s_X9_runEnd eT5)
      obtain ⟨v7, -, h⟩ := elet_some h
      rcases oif_or h with ⟨c8, h⟩ | ⟨c8, h⟩
      · have h := h
        exact SP.tr p1 (s_X9_cutOne_b100 _ _ _ _ _ h)
      · have h := h
        exact SP.tr p1 (s_X9_cutOne_b100 _ _ _ _ _ h)
set_option maxHeartbeats 4000000 in
set_option maxRecDepth 100000 in
theorem s_X9_cutOne_b52 {r1 : Int32} {T1 : AT} : ∀ (T : AT) (s0 : Int32) (s1 : Nat) (l2 : Int32) (l4 : Int32), g_X9_cutOne_b52 T s0 s1 l2 l4 = some (r1, T1) → SP T T1 := by
  intro T s0 s1 l2 l4 h
  have p0 := SP.rf T
  unfold g_X9_cutOne_b52 at h
  obtain ⟨g2, h⟩ := oif_some h
  obtain ⟨T3, eT3, h⟩ := obind_some h
  have p1 : SP T T3 := SP.tr p0 (s_X9_add eT3)
  exact SP.tr p1 (s_X9_cutOne_b158 _ _ h)
set_option maxHeartbeats 4000000 in
set_option maxRecDepth 100000 in
theorem s_X9_cutOne {T : AT} {o : Nat} {a0 : Int32} {a1 : Int32} {r1 : Int32} {T1 : AT} (h : g_X9_cutOne T o a0 a1 = some (r1, T1)) : SP T T1 := by
  have p0 := SP.rf T
  unfold g_X9_cutOne at h
  obtain ⟨g2, h⟩ := oif_some h
  obtain ⟨n3, en3, h⟩ := obind_some h
  obtain ⟨g4, h⟩ := oif_some h
  obtain ⟨g5, h⟩ := oif_some h
  obtain ⟨v6, -, h⟩ := elet_some h
  obtain ⟨v7, -, h⟩ := elet_some h
  rcases oif_or h with ⟨c8, h⟩ | ⟨c8, h⟩
  · have h := h
    exact SP.tr p0 (s_X9_cutOne_b61 _ _ _ _ _ _ h)
  · have h := h
    rcases oif_or h with ⟨c9, h⟩ | ⟨c9, h⟩
    · have h := h
      exact SP.tr p0 (s_X9_cutOne_b61 _ _ _ _ _ _ h)
    · have h := h
      obtain ⟨g10, h⟩ := oif_some h
      obtain ⟨r12, T11, eT11, h⟩ := obind2_some h
      have p1 : SP T T11 := SP.tr p0 (s_X9_runEnd eT11)
      obtain ⟨v13, -, h⟩ := elet_some h
      rcases oif_or h with ⟨c14, h⟩ | ⟨c14, h⟩
      · have h := h
        exact SP.tr p1 (s_X9_cutOne_b52 _ _ _ _ _ h)
      · have h := h
        exact SP.tr p1 (s_X9_cutOne_b52 _ _ _ _ _ h)
def g_X9_cut_b32  (T : AT) (l0 : Nat) (l1 : Int32) : Option (AT) := oif (oO T l0 9 = true) <| obind (g_X9_add T l0 (5 : Int32) l1 l1) fun T3 => some T3
set_option maxHeartbeats 4000000 in
set_option maxRecDepth 100000 in
theorem u_X9_cut_b32 {p : Program} {l : Launch} {e : Env} {s : State} {m : MethodId} {args : Array Value} {below : List Frame} {meth : Method} {c : Code} {Q : State → Prop} {D : va_G} {A : Nat → Prop} {cI cJ cZ cMic cSrc cSt cAI cAJ : ClassId} {ad : Nat → Nat} {T1 : AT} (E : cE p c cX9_cut s m args (Cond.code yX9_cut cX9_cut 4 none :: wsA) D RX9 (CT cI cJ cZ cMic cSrc cSt cAI cAJ)) (hA : ∀ q : Nat, s.heap.size ≤ q → A q) (hX : xT A s) (hN : nX s) (hml : c.maxLocals = 4) (hst : l.stackTraces = false) (kr39 : ∀ (H : Heap) (locs : List Loc) (ls : Array Slot), gC cI cJ cZ cMic cSrc cSt cAI cAJ D ad A s.heap H locs T1 → W p l e { frames := 3, cells := 0, slots := 0, locals := 49 } s m args below meth c H locs 0 0 Q (F0 m 39 ls [])) : ∀ (T : AT) (H : Heap) (locs : List Loc) (ls : Array Slot) (l0 : Nat) (l1 : Int32), g_X9_cut_b32 T l0 l1 = some T1 → gC cI cJ cZ cMic cSrc cSt cAI cAJ D ad A s.heap H locs T → lv_has ls 4 [(0, .ref (ad l0)), (1, .int l1)] → W p l e { frames := 3, cells := 0, slots := 0, locals := 49 } s m args below meth c H locs 0 0 Q (F0 m 32 ls []) := by
  have hx := E.1
  have hb := E.2.1
  have hts := E.2.2.1
  have hown := E.2.2.2.1
  have hK := E.2.2.2.2
  intro T H locs ls l0 l1 h G hl
  unfold g_X9_cut_b32 at h
  refine lv_aload_n hx hb dX9_cut_32 rfl (lv_at hl 0 rfl) ?_
  refine lv_iconst (v := 5) hx hb dX9_cut_33 (by decide) ?_
  refine lv_iload_n hx hb dX9_cut_34 rfl (lv_at hl 1 rfl) ?_
  refine lv_iload_n hx hb dX9_cut_35 rfl (lv_at hl 1 rfl) ?_
  obtain ⟨g2, h⟩ := oif_some h
  obtain ⟨T3, eT3, h⟩ := obind_some h
  refine q_cvv (As := [.int 5, .int l1, .int l1]) (rest := []) E G hA hX hN hml (u_X9_add l hst D cI cJ cZ cMic cSrc cSt cAI cAJ ad T l0 (5 : Int32) l1 l1 eT3) (cwV 3 hts (gaV qA_197 qA_198 qA_199 qA_185 qA_200) rfl rfl rfl (by decide +kernel) ⟨Nat.le_of_ble_eq_true rfl, Nat.le_of_ble_eq_true rfl⟩) (oO_k g2).1 (cc_o9 (oO_k g2).2) rfl rfl hl.1 rfl (lv_room (Nat.le_of_ble_eq_true rfl)) dX9_cut_36 ⟨Nat.zero_le _, Nat.zero_le _⟩ (fun T4 H locs hq G => ?_)
  rw [hq] at G
  clear hq eT3
  rw [osome1 h] at G
  exact kr39 _ _ _ G
def g_X9_cut_b9  : Nat → AT → Nat → Int32 → Int32 → Int32 → Option (AT)
  | 0, _, _, _, _, _ => none
  | n + 1, T, l0, l1, l2, l3 => if l1 ≤ l3 then (g_X9_cut_b32 T l0 l1) else (if l1 ≤ l2 then (g_X9_cut_b32 T l0 l1) else (oif (oO T l0 9 = true) <| obind2 (g_X9_cutOne T l0 l1 l2) fun r7 T5 => elet (l3 + Int32.ofInt (1)) fun v9 => g_X9_cut_b9 n T5 l0 l1 r7 v9))
set_option maxHeartbeats 4000000 in
set_option maxRecDepth 100000 in
theorem u_X9_cut_b9 {p : Program} {l : Launch} {e : Env} {s : State} {m : MethodId} {args : Array Value} {below : List Frame} {meth : Method} {c : Code} {Q : State → Prop} {D : va_G} {A : Nat → Prop} {cI cJ cZ cMic cSrc cSt cAI cAJ : ClassId} {ad : Nat → Nat} {T1 : AT} (E : cE p c cX9_cut s m args (Cond.code yX9_cut cX9_cut 4 none :: wsA) D RX9 (CT cI cJ cZ cMic cSrc cSt cAI cAJ)) (hA : ∀ q : Nat, s.heap.size ≤ q → A q) (hX : xT A s) (hN : nX s) (hml : c.maxLocals = 4) (hst : l.stackTraces = false) (kr39 : ∀ (H : Heap) (locs : List Loc) (ls : Array Slot), gC cI cJ cZ cMic cSrc cSt cAI cAJ D ad A s.heap H locs T1 → W p l e { frames := 3, cells := 0, slots := 0, locals := 49 } s m args below meth c H locs 0 0 Q (F0 m 39 ls [])) : ∀ n : Nat, ∀ (T : AT) (H : Heap) (locs : List Loc) (ls : Array Slot) (l0 : Nat) (l1 : Int32) (l2 : Int32) (l3 : Int32), g_X9_cut_b9 n T l0 l1 l2 l3 = some T1 → gC cI cJ cZ cMic cSrc cSt cAI cAJ D ad A s.heap H locs T → lv_has ls 4 [(0, .ref (ad l0)), (1, .int l1), (2, .int l2), (3, .int l3)] → W p l e { frames := 3, cells := 0, slots := 0, locals := 49 } s m args below meth c H locs 0 0 Q (F0 m 9 ls []) := by
  have hx := E.1
  have hb := E.2.1
  have hts := E.2.2.1
  have hown := E.2.2.2.1
  have hK := E.2.2.2.2
  intro n
  induction n with
  | zero =>
    intro T H locs ls l0 l1 l2 l3 h
    have h : (none : Option (AT)) = some T1 := h
    cases h
  | succ n ih =>
    intro T H locs ls l0 l1 l2 l3 h G hl
    unfold g_X9_cut_b9 at h
    refine lv_iload_n hx hb dX9_cut_9 rfl (lv_at hl 3 rfl) ?_
    refine lv_iload_n hx hb dX9_cut_10 rfl (lv_at hl 1 rfl) ?_
    refine lv_icmp_ge (tgt := 32) hx hb dX9_cut_11 (by decide) (fun c2 => ?_) (fun c2 => ?_)
    · have h := oif_pos c2 h
      have hl := lv_sub hl [0, 1] rfl
      exact u_X9_cut_b32 E hA hX hN hml hst kr39 _ _ _ _ _ _ h G hl
    · have h := oif_neg c2 h
      refine lv_iload_n hx hb dX9_cut_14 rfl (lv_at hl 2 rfl) ?_
      refine lv_iload_n hx hb dX9_cut_15 rfl (lv_at hl 1 rfl) ?_
      refine lv_icmp_ge (tgt := 32) hx hb dX9_cut_16 (by decide) (fun c3 => ?_) (fun c3 => ?_)
      · have h := oif_pos c3 h
        have hl := lv_sub hl [0, 1] rfl
        exact u_X9_cut_b32 E hA hX hN hml hst kr39 _ _ _ _ _ _ h G hl
      · have h := oif_neg c3 h
        refine lv_aload_n hx hb dX9_cut_19 rfl (lv_at hl 0 rfl) ?_
        refine lv_iload_n hx hb dX9_cut_20 rfl (lv_at hl 1 rfl) ?_
        refine lv_iload_n hx hb dX9_cut_21 rfl (lv_at hl 2 rfl) ?_
        obtain ⟨g4, h⟩ := oif_some h
        obtain ⟨r7, T5, eT5, h⟩ := obind2_some h
        refine q_cvi (As := [.int l1, .int l2]) (rest := []) E G hA hX hN hml (u_X9_cutOne l hst D cI cJ cZ cMic cSrc cSt cAI cAJ ad T l0 l1 l2 eT5) (cwV 2 hts (gaV qA_188 qA_189 qA_190 qA_185 qA_191) rfl rfl rfl (by decide +kernel) ⟨Nat.le_of_ble_eq_true rfl, Nat.le_of_ble_eq_true rfl⟩) (oO_k g4).1 (cc_o9 (oO_k g4).2) rfl rfl hl.1 rfl (lv_room (Nat.le_of_ble_eq_true rfl)) dX9_cut_22 ⟨Nat.zero_le _, Nat.zero_le _⟩ (fun q8 T6 H locs hq G => ?_)
        obtain ⟨hq1, hq2⟩ := hq
        rw [hq2] at G
        refine lv_to hq1 ?_
        clear hq1 hq2 eT5
        refine lv_istore_n (lv' := [(2, .int r7), (0, .ref (ad l0)), (1, .int l1), (3, .int l3)]) hx hb dX9_cut_25 rfl hl (by decide) rfl (fun ls hl => ?_)
        obtain ⟨v9, ev9, h⟩ := elet_some h
        refine lv_iinc (v := v9) (lv' := [(3, .int v9), (2, .int r7), (0, .ref (ad l0)), (1, .int l1)]) hx hb dX9_cut_26 hl (k := 3) rfl ev9.symm (by decide) rfl (fun ls hl => ?_)
        refine lv_goto (tgt := 9) hx hb dX9_cut_29 (by decide) ?_
        have hl := lv_sub hl [2, 3, 1, 0] rfl
        exact ih _ _ _ _ _ _ _ _ h G hl
def g_X9_cut (T : AT) (o : Nat) (a0 : Int32) : Option (AT) := oif (oO T o 9 = true) <| elet (uI T o 5 0) fun T3 => g_X9_cut_b9 16384 T3 o a0 0 0
set_option maxHeartbeats 4000000 in
set_option maxRecDepth 100000 in
theorem u_X9_cut (l : Launch) (hst : l.stackTraces = false) (D : va_G) (cI cJ cZ cMic cSrc cSt cAI cAJ : ClassId) (ad : Nat → Nat) (T : AT) (o : Nat) (a0 : Int32) {T1 : AT} (h : g_X9_cut T o a0 = some T1) : kCv l yX9_cut (Cond.code yX9_cut cX9_cut 4 none :: wsA) 3 49 cI cJ cZ cMic cSrc cSt cAI cAJ D ad T [.ref (ad o), .int a0] (fun T9 => T9 = T1) := by
  intro sz
  refine Met.ofW (cc := cX9_cut) (maxL := 4) (ret := none) (by decide) rfl ?_
  intro p e s m args below meth c s₁ B hml hv
  obtain ⟨rfl, hsz, hP, hK, hD0, hX, hN⟩ := hv
  have hx := B.exec
  have hb := B.bytes
  have hr := B.returns
  have hts := atoms_spec (ws := (Cond.code yX9_cut cX9_cut 4 none :: wsA)) B.pre
  have hown : s.vm.findClass RX9 = some m.cls := findClass_of_methodNamed B.named
  have hlocks := B.notSynchronized
  subst hsz
  have hD := hD0.self (sz := s.heap.size)
  generalize hAe : va_A (cW ad T.1 (cc cI cJ cZ cMic cSrc cSt cAI cAJ ad T)) s.heap.size = A at hD hX ⊢
  have hA : ∀ q : Nat, s.heap.size ≤ q → A q := fun q h => by rw [← hAe]; exact Or.inr h
  have G : gC cI cJ cZ cMic cSrc cSt cAI cAJ D ad A s.heap s.heap [] T := ⟨hP, hD, va_S.rf⟩
  have E : cE p c cX9_cut s m ([.ref (ad o), .int a0] : List Value).toArray (Cond.code yX9_cut cX9_cut 4 none :: wsA) D RX9 (CT cI cJ cZ cMic cSrc cSt cAI cAJ) := ⟨hx, hb, hts, hown, hK⟩
  have hl := lv_entry ([.ref (ad o), .int a0]) (n := 4) (Nat.le_of_ble_eq_true rfl)
  rw [lg_entry_eq]
  generalize (lg_sl ([.ref (ad o), .int a0]) ++ List.replicate (4 - (lg_sl ([.ref (ad o), .int a0])).length) Slot.unset).toArray = ls at hl ⊢
  have hl : lv_has ls 4 [(0, .ref (ad o)), (1, .int a0)] := hl
  unfold g_X9_cut at h
  refine lv_aload_n hx hb dX9_cut_0 rfl (lv_at hl 0 rfl) ?_
  refine lv_iconst (v := 0) hx hb dX9_cut_1 (by decide) ?_
  obtain ⟨g2, h⟩ := oif_some h
  refine c_put E G o 5 (v := .int 0) (oO_k g2).1 (cc_o9 (oO_k g2).2) rfl (fun w h => .tail _ (iA_18 h)) tyX9 tyX9_ok nmX9 (by decide) (.tail _ qA_187) ⟨rfl, rfl, rfl⟩ rfl rfl (Nat.le_of_ble_eq_true rfl) dX9_cut_2 (fun H locs G => ?_)
  have G := gC_up_i (f := upd (T.2.2.1 o) 5 0) (by rw [(oO_k g2).2]; rfl) G
  obtain ⟨T3, eT3, h⟩ := elet_some h
  have G : gC cI cJ cZ cMic cSrc cSt cAI cAJ D ad A s.heap H locs T3 := by rw [eT3]; exact G
  clear eT3
  refine lv_iconst (v := 0) hx hb dX9_cut_5 (by decide) ?_
  refine lv_istore_n (lv' := [(2, .int 0), (0, .ref (ad o)), (1, .int a0)]) hx hb dX9_cut_6 rfl hl (by decide) rfl (fun ls hl => ?_)
  refine lv_iconst (v := 0) hx hb dX9_cut_7 (by decide) ?_
  refine lv_istore_n (lv' := [(3, .int 0), (2, .int 0), (0, .ref (ad o)), (1, .int a0)]) hx hb dX9_cut_8 rfl hl (by decide) rfl (fun ls hl => ?_)
  have hl := lv_sub hl [2, 3, 1, 0] rfl
  exact u_X9_cut_b9 E hA hX hN hml hst (fun H locs ls G => W.vret hx hb hr (fun t ht hW => ⟨⟨T1, rfl, rfl, ⟨by rw [ht]; exact G.1, va_K.moved hW.alike hK, G.2.1⟩⟩, G.2.2.F ht⟩) G.2.2.2.2 dX9_cut_39) _ _ _ _ _ _ _ _ _ h G hl
set_option maxHeartbeats 4000000 in
set_option maxRecDepth 100000 in
theorem s_X9_cut_b32 {T1 : AT} : ∀ (T : AT) (l0 : Nat) (l1 : Int32), g_X9_cut_b32 T l0 l1 = some T1 → SP T T1 := by
  intro T l0 l1 h
  have p0 := SP.rf T
  unfold g_X9_cut_b32 at h
  obtain ⟨g2, h⟩ := oif_some h
  obtain ⟨T3, eT3, h⟩ := obind_some h
  have p1 : SP T T3 := SP.tr p0 (s_X9_add eT3)
  rw [← osome1 h]
  exact p1
set_option maxHeartbeats 4000000 in
set_option maxRecDepth 100000 in
theorem s_X9_cut_b9 {T1 : AT} : ∀ n : Nat, ∀ (T : AT) (l0 : Nat) (l1 : Int32) (l2 : Int32) (l3 : Int32), g_X9_cut_b9 n T l0 l1 l2 l3 = some T1 → SP T T1 := by
  intro n
  induction n with
  | zero =>
    intro T l0 l1 l2 l3 h
    have h : (none : Option (AT)) = some T1 := h
    cases h
  | succ n ih =>
    intro T l0 l1 l2 l3 h
    have p0 := SP.rf T
    unfold g_X9_cut_b9 at h
    rcases oif_or h with ⟨c2, h⟩ | ⟨c2, h⟩
    · have h := h
      exact SP.tr p0 (s_X9_cut_b32 _ _ _ h)
    · have h := h
      rcases oif_or h with ⟨c3, h⟩ | ⟨c3, h⟩
      · have h := h
        exact SP.tr p0 (s_X9_cut_b32 _ _ _ h)
      · have h := h
        obtain ⟨g4, h⟩ := oif_some h
        obtain ⟨r6, T5, eT5, h⟩ := obind2_some h
        have p1 : SP T T5 := SP.tr p0 (s_X9_cutOne eT5)
        obtain ⟨v7, ev7, h⟩ := elet_some h
        exact SP.tr p1 (ih _ _ _ _ _ h)
set_option maxHeartbeats 4000000 in
set_option maxRecDepth 100000 in
theorem s_X9_cut {T : AT} {o : Nat} {a0 : Int32} {T1 : AT} (h : g_X9_cut T o a0 = some T1) : SP T T1 := by
  have p0 := SP.rf T
  unfold g_X9_cut at h
  obtain ⟨g2, h⟩ := oif_some h
  obtain ⟨T3, eT3, h⟩ := elet_some h
  have p1 : SP T T3 := SP.tr p0 (by rw [eT3]; exact sp_uI)
  exact SP.tr p1 (s_X9_cut_b9 _ _ _ _ _ _ h)
def g_X6_clear (T : AT) (o : Nat) : Option (AT) := oif (oO T o 6 = true) <| obind (T.2.2.2.2 o 6) fun n3 => oif (oO T n3 1 = true) <| obind (g_X1_clear T n3) fun T5 => oif (oO T5 o 6 = true) <| elet (uI T5 o 5 0) fun T8 => oif (oO T8 o 6 = true) <| elet (uI T8 o 8 0) fun T10 => oif (oO T10 o 6 = true) <| elet (uI T10 o 11 0) fun T12 => oif (oO T12 o 6 = true) <| elet (uI T12 o 12 0) fun T14 => oif (oO T14 o 6 = true) <| elet (uI T14 o 14 0) fun T16 => oif (oO T16 o 6 = true) <| elet (uI T16 o 16 0) fun T18 => some T18
set_option maxHeartbeats 4000000 in
set_option maxRecDepth 100000 in
theorem u_X6_clear (l : Launch) (hst : l.stackTraces = false) (D : va_G) (cI cJ cZ cMic cSrc cSt cAI cAJ : ClassId) (ad : Nat → Nat) (T : AT) (o : Nat) {T1 : AT} (h : g_X6_clear T o = some T1) : kCv l yX6_clear (Cond.code yX6_clear cX6_clear 1 none :: wsA) 2 20 cI cJ cZ cMic cSrc cSt cAI cAJ D ad T [.ref (ad o)] (fun T9 => T9 = T1) := by
  intro sz
  refine Met.ofW (cc := cX6_clear) (maxL := 1) (ret := none) (by decide) rfl ?_
  intro p e s m args below meth c s₁ B hml hv
  obtain ⟨rfl, hsz, hP, hK, hD0, hX, hN⟩ := hv
  have hx := B.exec
  have hb := B.bytes
  have hr := B.returns
  have hts := atoms_spec (ws := (Cond.code yX6_clear cX6_clear 1 none :: wsA)) B.pre
  have hown : s.vm.findClass RX6 = some m.cls := findClass_of_methodNamed B.named
  have hlocks := B.notSynchronized
  subst hsz
  have hD := hD0.self (sz := s.heap.size)
  generalize hAe : va_A (cW ad T.1 (cc cI cJ cZ cMic cSrc cSt cAI cAJ ad T)) s.heap.size = A at hD hX ⊢
  have hA : ∀ q : Nat, s.heap.size ≤ q → A q := fun q h => by rw [← hAe]; exact Or.inr h
  have G : gC cI cJ cZ cMic cSrc cSt cAI cAJ D ad A s.heap s.heap [] T := ⟨hP, hD, va_S.rf⟩
  have E : cE p c cX6_clear s m ([.ref (ad o)] : List Value).toArray (Cond.code yX6_clear cX6_clear 1 none :: wsA) D RX6 (CT cI cJ cZ cMic cSrc cSt cAI cAJ) := ⟨hx, hb, hts, hown, hK⟩
  have hl := lv_entry ([.ref (ad o)]) (n := 1) (Nat.le_of_ble_eq_true rfl)
  rw [lg_entry_eq]
  generalize (lg_sl ([.ref (ad o)]) ++ List.replicate (1 - (lg_sl ([.ref (ad o)])).length) Slot.unset).toArray = ls at hl ⊢
  have hl : lv_has ls 1 [(0, .ref (ad o))] := hl
  unfold g_X6_clear at h
  refine lv_aload_n hx hb dX6_clear_0 rfl (lv_at hl 0 rfl) ?_
  obtain ⟨g2, h⟩ := oif_some h
  obtain ⟨n3, en3, h⟩ := obind_some h
  refine c_get E G o 6 (v := .ref (ad n3)) (oO_k g2).1 (cc_o6 (oO_k g2).2) rfl (fun w h => .tail _ (iA_14 h)) (by decide) (.tail _ qA_209) rfl (by rw [en3]; rfl) dX6_clear_1 ?_
  clear en3
  obtain ⟨g4, h⟩ := oif_some h
  obtain ⟨T5, eT5, h⟩ := obind_some h
  refine q_cvv (As := []) (rest := []) E G hA hX hN hml (u_X1_clear l hst D cI cJ cZ cMic cSrc cSt cAI cAJ ad T n3 eT5) (cwV 0 hts (gaV qA_216 qA_217 qA_218 qA_37 qA_161) rfl rfl rfl (by decide +kernel) ⟨Nat.le_of_ble_eq_true rfl, Nat.le_of_ble_eq_true rfl⟩) (oO_k g4).1 (cc_o1 (oO_k g4).2) rfl rfl hl.1 rfl (lv_room (Nat.le_of_ble_eq_true rfl)) dX6_clear_4 ⟨Nat.zero_le _, Nat.zero_le _⟩ (fun T6 H locs hq G => ?_)
  rw [hq] at G
  clear hq eT5
  refine lv_aload_n hx hb dX6_clear_7 rfl (lv_at hl 0 rfl) ?_
  refine lv_iconst (v := 0) hx hb dX6_clear_8 (by decide) ?_
  obtain ⟨g7, h⟩ := oif_some h
  refine c_put E G o 5 (v := .int 0) (oO_k g7).1 (cc_o6 (oO_k g7).2) rfl (fun w h => .tail _ (iA_14 h)) tyX6 tyX6_ok nmX6 (by decide) (.tail _ qA_210) ⟨rfl, rfl, rfl⟩ rfl rfl (Nat.le_of_ble_eq_true rfl) dX6_clear_9 (fun H locs G => ?_)
  have G := gC_up_i (f := upd (T5.2.2.1 o) 5 0) (by rw [(oO_k g7).2]; rfl) G
  obtain ⟨T8, eT8, h⟩ := elet_some h
  have G : gC cI cJ cZ cMic cSrc cSt cAI cAJ D ad A s.heap H locs T8 := by rw [eT8]; exact G
  clear eT8
  refine lv_aload_n hx hb dX6_clear_12 rfl (lv_at hl 0 rfl) ?_
  refine lv_iconst (v := 0) hx hb dX6_clear_13 (by decide) ?_
  obtain ⟨g9, h⟩ := oif_some h
  refine c_put E G o 8 (v := .int 0) (oO_k g9).1 (cc_o6 (oO_k g9).2) rfl (fun w h => .tail _ (iA_14 h)) tyX6 tyX6_ok nmX6 (by decide) (.tail _ qA_211) ⟨rfl, rfl, rfl⟩ rfl rfl (Nat.le_of_ble_eq_true rfl) dX6_clear_14 (fun H locs G => ?_)
  have G := gC_up_i (f := upd (T8.2.2.1 o) 8 0) (by rw [(oO_k g9).2]; rfl) G
  obtain ⟨T10, eT10, h⟩ := elet_some h
  have G : gC cI cJ cZ cMic cSrc cSt cAI cAJ D ad A s.heap H locs T10 := by rw [eT10]; exact G
  clear eT10
  refine lv_aload_n hx hb dX6_clear_17 rfl (lv_at hl 0 rfl) ?_
  refine lv_iconst (v := 0) hx hb dX6_clear_18 (by decide) ?_
  obtain ⟨g11, h⟩ := oif_some h
  refine c_put E G o 11 (v := .int 0) (oO_k g11).1 (cc_o6 (oO_k g11).2) rfl (fun w h => .tail _ (iA_14 h)) tyX6 tyX6_ok nmX6 (by decide) (.tail _ qA_212) ⟨rfl, rfl, rfl⟩ rfl rfl (Nat.le_of_ble_eq_true rfl) dX6_clear_19 (fun H locs G => ?_)
  have G := gC_up_i (f := upd (T10.2.2.1 o) 11 0) (by rw [(oO_k g11).2]; rfl) G
  obtain ⟨T12, eT12, h⟩ := elet_some h
  have G : gC cI cJ cZ cMic cSrc cSt cAI cAJ D ad A s.heap H locs T12 := by rw [eT12]; exact G
  clear eT12
  refine lv_aload_n hx hb dX6_clear_22 rfl (lv_at hl 0 rfl) ?_
  refine lv_iconst (v := 0) hx hb dX6_clear_23 (by decide) ?_
  obtain ⟨g13, h⟩ := oif_some h
  refine c_put E G o 12 (v := .int 0) (oO_k g13).1 (cc_o6 (oO_k g13).2) rfl (fun w h => .tail _ (iA_14 h)) tyX6 tyX6_ok nmX6 (by decide) (.tail _ qA_213) ⟨rfl, rfl, rfl⟩ rfl rfl (Nat.le_of_ble_eq_true rfl) dX6_clear_24 (fun H locs G => ?_)
  have G := gC_up_i (f := upd (T12.2.2.1 o) 12 0) (by rw [(oO_k g13).2]; rfl) G
  obtain ⟨T14, eT14, h⟩ := elet_some h
  have G : gC cI cJ cZ cMic cSrc cSt cAI cAJ D ad A s.heap H locs T14 := by rw [eT14]; exact G
  clear eT14
  refine lv_aload_n hx hb dX6_clear_27 rfl (lv_at hl 0 rfl) ?_
  refine lv_iconst (v := 0) hx hb dX6_clear_28 (by decide) ?_
  obtain ⟨g15, h⟩ := oif_some h
  refine c_put E G o 14 (v := .int 0) (oO_k g15).1 (cc_o6 (oO_k g15).2) rfl (fun w h => .tail _ (iA_14 h)) tyX6 tyX6_ok nmX6 (by decide) (.tail _ qA_214) ⟨rfl, rfl, rfl⟩ rfl rfl (Nat.le_of_ble_eq_true rfl) dX6_clear_29 (fun H locs G => ?_)
  have G := gC_up_i (f := upd (T14.2.2.1 o) 14 0) (by rw [(oO_k g15).2]; rfl) G
  obtain ⟨T16, eT16, h⟩ := elet_some h
  have G : gC cI cJ cZ cMic cSrc cSt cAI cAJ D ad A s.heap H locs T16 := by rw [eT16]; exact G
  clear eT16
  refine lv_aload_n hx hb dX6_clear_32 rfl (lv_at hl 0 rfl) ?_
  refine lv_iconst (v := 0) hx hb dX6_clear_33 (by decide) ?_
  obtain ⟨g17, h⟩ := oif_some h
  refine c_put E G o 16 (v := .int 0) (oO_k g17).1 (cc_o6 (oO_k g17).2) rfl (fun w h => .tail _ (iA_14 h)) tyX6 tyX6_ok nmX6 (by decide) (.tail _ qA_215) ⟨rfl, rfl, rfl⟩ rfl rfl (Nat.le_of_ble_eq_true rfl) dX6_clear_34 (fun H locs G => ?_)
  have G := gC_up_i (f := upd (T16.2.2.1 o) 16 0) (by rw [(oO_k g17).2]; rfl) G
  obtain ⟨T18, eT18, h⟩ := elet_some h
  have G : gC cI cJ cZ cMic cSrc cSt cAI cAJ D ad A s.heap H locs T18 := by rw [eT18]; exact G
  clear eT18
  exact W.vret hx hb hr (fun t ht hW => ⟨⟨T18, rfl, osome1 h, ⟨by rw [ht]; exact G.1, va_K.moved hW.alike hK, G.2.1⟩⟩, G.2.2.F ht⟩) G.2.2.2.2 dX6_clear_37
set_option maxHeartbeats 4000000 in
set_option maxRecDepth 100000 in
theorem s_X6_clear {T : AT} {o : Nat} {T1 : AT} (h : g_X6_clear T o = some T1) : SP T T1 := by
  have p0 := SP.rf T
  unfold g_X6_clear at h
  obtain ⟨g2, h⟩ := oif_some h
  obtain ⟨n3, en3, h⟩ := obind_some h
  obtain ⟨g4, h⟩ := oif_some h
  obtain ⟨T5, eT5, h⟩ := obind_some h
  have p1 : SP T T5 := SP.tr p0 (s_X1_clear eT5)
  obtain ⟨g7, h⟩ := oif_some h
  obtain ⟨T8, eT8, h⟩ := elet_some h
  have p2 : SP T T8 := SP.tr p1 (by rw [eT8]; exact sp_uI)
  obtain ⟨g9, h⟩ := oif_some h
  obtain ⟨T10, eT10, h⟩ := elet_some h
  have p3 : SP T T10 := SP.tr p2 (by rw [eT10]; exact sp_uI)
  obtain ⟨g11, h⟩ := oif_some h
  obtain ⟨T12, eT12, h⟩ := elet_some h
  have p4 : SP T T12 := SP.tr p3 (by rw [eT12]; exact sp_uI)
  obtain ⟨g13, h⟩ := oif_some h
  obtain ⟨T14, eT14, h⟩ := elet_some h
  have p5 : SP T T14 := SP.tr p4 (by rw [eT14]; exact sp_uI)
  obtain ⟨g15, h⟩ := oif_some h
  obtain ⟨T16, eT16, h⟩ := elet_some h
  have p6 : SP T T16 := SP.tr p5 (by rw [eT16]; exact sp_uI)
  obtain ⟨g17, h⟩ := oif_some h
  obtain ⟨T18, eT18, h⟩ := elet_some h
  have p7 : SP T T18 := SP.tr p6 (by rw [eT18]; exact sp_uI)
  rw [← osome1 h]
  exact p7
def g_X3_kind_b30  (T : AT) (s0 : Int32) : Option (Int32 × AT) := some (s0, T)
set_option maxHeartbeats 4000000 in
set_option maxRecDepth 100000 in
theorem u_X3_kind_b30 {p : Program} {l : Launch} {e : Env} {s : State} {m : MethodId} {args : Array Value} {below : List Frame} {meth : Method} {c : Code} {Q : State → Prop} {D : va_G} {A : Nat → Prop} {cI cJ cZ cMic cSrc cSt cAI cAJ : ClassId} {ad : Nat → Nat} {r1 : Int32} {T1 : AT} (E : cE p c cX3_kind s m args (Cond.code yX3_kind cX3_kind 1 (some .int) :: wsA) D RX3 (CT cI cJ cZ cMic cSrc cSt cAI cAJ)) (hA : ∀ q : Nat, s.heap.size ≤ q → A q) (hX : xT A s) (hN : nX s) (hml : c.maxLocals = 1) (hst : l.stackTraces = false) (kr30 : ∀ (H : Heap) (locs : List Loc) (ls : Array Slot), gC cI cJ cZ cMic cSrc cSt cAI cAJ D ad A s.heap H locs T1 → W p l e { frames := 1, cells := 0, slots := 0, locals := 0 } s m args below meth c H locs 0 0 Q (F0 m 30 ls [.int r1])) : ∀ (T : AT) (H : Heap) (locs : List Loc) (ls : Array Slot) (s0 : Int32), g_X3_kind_b30 T s0 = some (r1, T1) → gC cI cJ cZ cMic cSrc cSt cAI cAJ D ad A s.heap H locs T → lv_has ls 1 [] → W p l e { frames := 1, cells := 0, slots := 0, locals := 0 } s m args below meth c H locs 0 0 Q (F0 m 30 ls [.int s0]) := by
  have hx := E.1
  have hb := E.2.1
  have hts := E.2.2.1
  have hown := E.2.2.2.1
  have hK := E.2.2.2.2
  intro T H locs ls s0 h G hl
  unfold g_X3_kind_b30 at h
  rw [(osome2 h).2] at G
  refine lv_to (osome2 h).1 ?_
  exact kr30 _ _ _ G
def g_X3_kind (T : AT) (o : Nat) : Option (Int32 × AT) := oif (oO T o 3 = true) <| elet (T.2.2.1 o 1) fun v3 => oif (oO T o 3 = true) <| obind (T.2.2.2.2 o 0) fun n5 => oif (oO T n5 9 = true) <| elet (T.2.2.1 n5 5) fun v7 => if v7 ≤ v3 then (g_X3_kind_b30 T 5) else (oif (oO T o 3 = true) <| obind (T.2.2.2.2 o 0) fun n10 => oif (oO T n10 9 = true) <| obind (T.2.2.2.2 n10 2) fun n12 => oif (oO T o 3 = true) <| elet (T.2.2.1 o 1) fun v14 => oif (aA T n12 100 = true) <| oif (inb v14 (T.2.1 n12).2 = true) <| elet (T.2.2.1 n12 v14.toNatClampNeg) fun v17 => g_X3_kind_b30 T v17)
set_option maxHeartbeats 4000000 in
set_option maxRecDepth 100000 in
theorem u_X3_kind (l : Launch) (hst : l.stackTraces = false) (D : va_G) (cI cJ cZ cMic cSrc cSt cAI cAJ : ClassId) (ad : Nat → Nat) (T : AT) (o : Nat) {r1 : Int32} {T1 : AT} (h : g_X3_kind T o = some (r1, T1)) : kCi l yX3_kind (Cond.code yX3_kind cX3_kind 1 (some .int) :: wsA) 1 0 cI cJ cZ cMic cSrc cSt cAI cAJ D ad T [.ref (ad o)] (fun r T9 => r = r1 ∧ T9 = T1) := by
  intro sz
  refine Met.ofW (cc := cX3_kind) (maxL := 1) (ret := (some .int)) (by decide) rfl ?_
  intro p e s m args below meth c s₁ B hml hv
  obtain ⟨rfl, hsz, hP, hK, hD0, hX, hN⟩ := hv
  have hx := B.exec
  have hb := B.bytes
  have hr := B.returns
  have hts := atoms_spec (ws := (Cond.code yX3_kind cX3_kind 1 (some .int) :: wsA)) B.pre
  have hown : s.vm.findClass RX3 = some m.cls := findClass_of_methodNamed B.named
  have hlocks := B.notSynchronized
  subst hsz
  have hD := hD0.self (sz := s.heap.size)
  generalize hAe : va_A (cW ad T.1 (cc cI cJ cZ cMic cSrc cSt cAI cAJ ad T)) s.heap.size = A at hD hX ⊢
  have hA : ∀ q : Nat, s.heap.size ≤ q → A q := fun q h => by rw [← hAe]; exact Or.inr h
  have G : gC cI cJ cZ cMic cSrc cSt cAI cAJ D ad A s.heap s.heap [] T := ⟨hP, hD, va_S.rf⟩
  have E : cE p c cX3_kind s m ([.ref (ad o)] : List Value).toArray (Cond.code yX3_kind cX3_kind 1 (some .int) :: wsA) D RX3 (CT cI cJ cZ cMic cSrc cSt cAI cAJ) := ⟨hx, hb, hts, hown, hK⟩
  have hl := lv_entry ([.ref (ad o)]) (n := 1) (Nat.le_of_ble_eq_true rfl)
  rw [lg_entry_eq]
  generalize (lg_sl ([.ref (ad o)]) ++ List.replicate (1 - (lg_sl ([.ref (ad o)])).length) Slot.unset).toArray = ls at hl ⊢
  have hl : lv_has ls 1 [(0, .ref (ad o))] := hl
  unfold g_X3_kind at h
  refine lv_aload_n hx hb dX3_kind_0 rfl (lv_at hl 0 rfl) ?_
  obtain ⟨g2, h⟩ := oif_some h
  refine c_get E G o 1 (oO_k g2).1 (cc_o3 (oO_k g2).2) rfl (fun w h => .tail _ (iA_17 h)) (by decide) (.tail _ qA_176) rfl rfl dX3_kind_1 ?_
  refine lv_topi (fun v3 ev3 => ?_)
  have h := elet_at ev3 h
  clear ev3
  refine lv_aload_n hx hb dX3_kind_4 rfl (lv_at hl 0 rfl) ?_
  obtain ⟨g4, h⟩ := oif_some h
  obtain ⟨n5, en5, h⟩ := obind_some h
  refine c_get E G o 0 (v := .ref (ad n5)) (oO_k g4).1 (cc_o3 (oO_k g4).2) rfl (fun w h => .tail _ (iA_17 h)) (by decide) (.tail _ qA_174) rfl (by rw [en5]; rfl) dX3_kind_5 ?_
  clear en5
  obtain ⟨g6, h⟩ := oif_some h
  refine c_get E G n5 5 (oO_k g6).1 (cc_o9 (oO_k g6).2) rfl (fun w h => .tail _ (iA_18 h)) (by decide) (.tail _ qA_177) rfl rfl dX3_kind_8 ?_
  refine lv_topi (fun v7 ev7 => ?_)
  have h := elet_at ev7 h
  clear ev7
  refine lv_icmp_ge (tgt := 29) hx hb dX3_kind_11 (by decide) (fun c8 => ?_) (fun c8 => ?_)
  · have h := oif_pos c8 h
    refine lv_iconst (v := 5) hx hb dX3_kind_29 (by decide) ?_
    have hl := lv_sub hl [] rfl
    exact u_X3_kind_b30 E hA hX hN hml hst (fun H locs ls G => W.iret (v := r1) hx hb hr (fun t ht hW => ⟨⟨r1, T1, rfl, ⟨rfl, rfl⟩, ⟨by rw [ht]; exact G.1, va_K.moved hW.alike hK, G.2.1⟩⟩, G.2.2.F ht⟩) G.2.2.2.2 dX3_kind_30) _ _ _ _ _ h G hl
  · have h := oif_neg c8 h
    refine lv_aload_n hx hb dX3_kind_14 rfl (lv_at hl 0 rfl) ?_
    obtain ⟨g9, h⟩ := oif_some h
    obtain ⟨n10, en10, h⟩ := obind_some h
    refine c_get E G o 0 (v := .ref (ad n10)) (oO_k g9).1 (cc_o3 (oO_k g9).2) rfl (fun w h => .tail _ (iA_17 h)) (by decide) (.tail _ qA_174) rfl (by rw [en10]; rfl) dX3_kind_15 ?_
    clear en10
    obtain ⟨g11, h⟩ := oif_some h
    obtain ⟨n12, en12, h⟩ := obind_some h
    refine c_get E G n10 2 (v := .ref (ad n12)) (oO_k g11).1 (cc_o9 (oO_k g11).2) rfl (fun w h => .tail _ (iA_18 h)) (by decide) (.tail _ qA_243) rfl (by rw [en12]; rfl) dX3_kind_18 ?_
    clear en12
    refine lv_aload_n hx hb dX3_kind_21 rfl (lv_at hl 0 rfl) ?_
    obtain ⟨g13, h⟩ := oif_some h
    refine c_get E G o 1 (oO_k g13).1 (cc_o3 (oO_k g13).2) rfl (fun w h => .tail _ (iA_17 h)) (by decide) (.tail _ qA_176) rfl rfl dX3_kind_22 ?_
    refine lv_topi (fun v14 ev14 => ?_)
    have h := elet_at ev14 h
    clear ev14
    obtain ⟨g15, h⟩ := oif_some h
    obtain ⟨g16, h⟩ := oif_some h
    refine c_iald E G n12 0 (k := v14.toNatClampNeg) (aA_k g15).1 (cc_a100 (aA_k g15).2.1) rfl (inb_k g16).1 (inb_k g16).2 (aA_k g15).2.2 dX3_kind_25 ?_
    refine lv_topi (fun v17 ev17 => ?_)
    have h := elet_at ev17 h
    clear ev17
    refine lv_goto (tgt := 30) hx hb dX3_kind_26 (by decide) ?_
    have hl := lv_sub hl [] rfl
    exact u_X3_kind_b30 E hA hX hN hml hst (fun H locs ls G => W.iret (v := r1) hx hb hr (fun t ht hW => ⟨⟨r1, T1, rfl, ⟨rfl, rfl⟩, ⟨by rw [ht]; exact G.1, va_K.moved hW.alike hK, G.2.1⟩⟩, G.2.2.F ht⟩) G.2.2.2.2 dX3_kind_30) _ _ _ _ _ h G hl
set_option maxHeartbeats 4000000 in
set_option maxRecDepth 100000 in
theorem s_X3_kind_b30 {r1 : Int32} {T1 : AT} : ∀ (T : AT) (s0 : Int32), g_X3_kind_b30 T s0 = some (r1, T1) → SP T T1 := by
  intro T s0 h
  have p0 := SP.rf T
  unfold g_X3_kind_b30 at h
  rw [← (osome2 h).2]
  exact p0
set_option maxHeartbeats 4000000 in
set_option maxRecDepth 100000 in
theorem s_X3_kind {T : AT} {o : Nat} {r1 : Int32} {T1 : AT} (h : g_X3_kind T o = some (r1, T1)) : SP T T1 := by
  have p0 := SP.rf T
  unfold g_X3_kind at h
  obtain ⟨g2, h⟩ := oif_some h
  obtain ⟨v3, -, h⟩ := elet_some h
  obtain ⟨g4, h⟩ := oif_some h
  obtain ⟨n5, en5, h⟩ := obind_some h
  obtain ⟨g6, h⟩ := oif_some h
  obtain ⟨v7, -, h⟩ := elet_some h
  rcases oif_or h with ⟨c8, h⟩ | ⟨c8, h⟩
  · have h := h
    exact SP.tr p0 (s_X3_kind_b30 _ _ h)
  · have h := h
    obtain ⟨g9, h⟩ := oif_some h
    obtain ⟨n10, en10, h⟩ := obind_some h
    obtain ⟨g11, h⟩ := oif_some h
    obtain ⟨n12, en12, h⟩ := obind_some h
    obtain ⟨g13, h⟩ := oif_some h
    obtain ⟨v14, -, h⟩ := elet_some h
    obtain ⟨g15, h⟩ := oif_some h
    obtain ⟨g16, h⟩ := oif_some h
    obtain ⟨v17, -, h⟩ := elet_some h
    exact SP.tr p0 (s_X3_kind_b30 _ _ h)
def g_X3_isWord_b51 (tx : Nat × (Nat → Int32))  : Nat → AT → Nat → Int32 → Int32 → Int32 → Option (Int32 × AT)
  | 0, _, _, _, _, _ => none
  | n + 1, T, l0, l2, l3, l4 => if l3 ≤ l4 then (some (1, T)) else (oif (oO T l0 3 = true) <| obind (T.2.2.2.2 l0 0) fun n4 => oif (oO T n4 9 = true) <| obind (T.2.2.2.2 n4 0) fun n6 => elet (l2 + l4) fun v7 => oif (aA T n6 100 = true) <| oif (inb v7 (T.2.1 n6).2 = true) <| elet (T.2.2.1 n6 v7.toNatClampNeg) fun v10 => oif (inb l4 tx.1 = true) <| elet (s_ch (tx.2 l4.toNatClampNeg)) fun v13 => if v10 = v13 then (elet (l4 + Int32.ofInt (1)) fun v15 => g_X3_isWord_b51 tx n T l0 l2 l3 v15) else (some (0, T)))
set_option maxHeartbeats 4000000 in
set_option maxRecDepth 100000 in
theorem u_X3_isWord_b51 {p : Program} {l : Launch} {e : Env} {s : State} {m : MethodId} {args : Array Value} {below : List Frame} {meth : Method} {c : Code} {Q : State → Prop} {D : va_G} {A : Nat → Prop} {cI cJ cZ cMic cSrc cSt cAI cAJ : ClassId} {ad : Nat → Nat} {r1 : Int32} {T1 : AT} (E : cE p c cX3_isWord s m args (Cond.code yX3_isWord cX3_isWord 5 (some .boolean) :: wsA) D RX3 (CT cI cJ cZ cMic cSrc cSt cAI cAJ)) (hA : ∀ q : Nat, s.heap.size ≤ q → A q) (hX : xT A s) (hN : nX s) (hml : c.maxLocals = 5) (hst : l.stackTraces = false) {h0 : Nat} (hA0 : ∀ a : Nat, A a → h0 ≤ a) (hT : sAll h0 s) {q : Nat} {tx : Nat × (Nat → Int32)} (hO : sO tx q (fun a => h0 ≤ a) s s.heap) (hC : sT tx) (kr9 : ∀ (H : Heap) (locs : List Loc) (ls : Array Slot), (r1 = 0 ∨ r1 = 1) → gC cI cJ cZ cMic cSrc cSt cAI cAJ D ad A s.heap H locs T1 → W p l e { frames := 5, cells := 0, slots := 0, locals := 87 } s m args below meth c H locs 0 0 Q (F0 m 9 ls [.int r1])) (kr47 : ∀ (H : Heap) (locs : List Loc) (ls : Array Slot), (r1 = 0 ∨ r1 = 1) → gC cI cJ cZ cMic cSrc cSt cAI cAJ D ad A s.heap H locs T1 → W p l e { frames := 5, cells := 0, slots := 0, locals := 87 } s m args below meth c H locs 0 0 Q (F0 m 47 ls [.int r1])) (kr79 : ∀ (H : Heap) (locs : List Loc) (ls : Array Slot), (r1 = 0 ∨ r1 = 1) → gC cI cJ cZ cMic cSrc cSt cAI cAJ D ad A s.heap H locs T1 → W p l e { frames := 5, cells := 0, slots := 0, locals := 87 } s m args below meth c H locs 0 0 Q (F0 m 79 ls [.int r1])) (kr87 : ∀ (H : Heap) (locs : List Loc) (ls : Array Slot), (r1 = 0 ∨ r1 = 1) → gC cI cJ cZ cMic cSrc cSt cAI cAJ D ad A s.heap H locs T1 → W p l e { frames := 5, cells := 0, slots := 0, locals := 87 } s m args below meth c H locs 0 0 Q (F0 m 87 ls [.int r1])) : ∀ n : Nat, ∀ (T : AT) (H : Heap) (locs : List Loc) (ls : Array Slot) (l0 : Nat) (l2 : Int32) (l3 : Int32) (l4 : Int32), g_X3_isWord_b51 tx n T l0 l2 l3 l4 = some (r1, T1) → gC cI cJ cZ cMic cSrc cSt cAI cAJ D ad A s.heap H locs T → lv_has ls 5 [(0, .ref (ad l0)), (1, .ref q), (2, .int l2), (3, .int l3), (4, .int l4)] → W p l e { frames := 5, cells := 0, slots := 0, locals := 87 } s m args below meth c H locs 0 0 Q (F0 m 51 ls []) := by
  have hx := E.1
  have hb := E.2.1
  have hts := E.2.2.1
  have hown := E.2.2.2.1
  have hK := E.2.2.2.2
  intro n
  induction n with
  | zero =>
    intro T H locs ls l0 l2 l3 l4 h
    have h : (none : Option (Int32 × AT)) = some (r1, T1) := h
    cases h
  | succ n ih =>
    intro T H locs ls l0 l2 l3 l4 h G hl
    unfold g_X3_isWord_b51 at h
    refine lv_iload hx hb dX3_isWord_51 (lv_at hl 4 rfl) ?_
    refine lv_iload_n hx hb dX3_isWord_53 rfl (lv_at hl 3 rfl) ?_
    refine lv_icmp_ge (tgt := 86) hx hb dX3_isWord_54 (by decide) (fun c2 => ?_) (fun c2 => ?_)
    · have h := oif_pos c2 h
      refine lv_iconst (v := 1) hx hb dX3_isWord_86 (by decide) ?_
      rw [(osome2 h).2] at G
      refine lv_to (osome2 h).1 ?_
      exact kr87 _ _ _ (.inr ((osome2 h).1).symm) G
    · have h := oif_neg c2 h
      refine lv_aload_n hx hb dX3_isWord_57 rfl (lv_at hl 0 rfl) ?_
      obtain ⟨g3, h⟩ := oif_some h
      obtain ⟨n4, en4, h⟩ := obind_some h
      refine c_get E G l0 0 (v := .ref (ad n4)) (oO_k g3).1 (cc_o3 (oO_k g3).2) rfl (fun w h => .tail _ (iA_17 h)) (by decide) (.tail _ qA_174) rfl (by rw [en4]; rfl) dX3_isWord_58 ?_
      clear en4
      obtain ⟨g5, h⟩ := oif_some h
      obtain ⟨n6, en6, h⟩ := obind_some h
      refine c_get E G n4 0 (v := .ref (ad n6)) (oO_k g5).1 (cc_o9 (oO_k g5).2) rfl (fun w h => .tail _ (iA_18 h)) (by decide) (.tail _ qA_238) rfl (by rw [en6]; rfl) dX3_isWord_61 ?_
      clear en6
      refine lv_iload_n hx hb dX3_isWord_64 rfl (lv_at hl 2 rfl) ?_
      refine lv_iload hx hb dX3_isWord_65 (lv_at hl 4 rfl) ?_
      refine lv_iadd hx hb dX3_isWord_67 ?_
      refine lv_topi (fun v7 ev7 => ?_)
      have h := elet_at ev7 h
      clear ev7
      obtain ⟨g8, h⟩ := oif_some h
      obtain ⟨g9, h⟩ := oif_some h
      refine c_iald E G n6 0 (k := v7.toNatClampNeg) (aA_k g8).1 (cc_a100 (aA_k g8).2.1) rfl (inb_k g9).1 (inb_k g9).2 (aA_k g8).2.2 dX3_isWord_68 ?_
      refine lv_topi (fun v10 ev10 => ?_)
      have h := elet_at ev10 h
      clear ev10
      refine lv_aload_n hx hb dX3_isWord_69 rfl (lv_at hl 1 rfl) ?_
      refine lv_iload hx hb dX3_isWord_70 (lv_at hl 4 rfl) ?_
      obtain ⟨g12, h⟩ := oif_some h
      refine lv_to (inb_k g12).1 ?_
      refine s_callV (As := [.int (nI l4.toNatClampNeg)]) (rest := [.int v10]) ⟨hx, hb, hml, hown, hts⟩ (ja_charAt l (tx := tx) (q := q) (inb_k g12).2 hC.1 (hC.2 _ (inb_k g12).2)) (cwV 1 hts (gaV qA_256 qA_257 qA_258 qA_247 qA_259) rfl rfl rfl (by decide +kernel) ⟨Nat.le_of_ble_eq_true rfl, Nat.le_of_ble_eq_true rfl⟩) (sO.recv hO hA0 G.2.2) (fun _ _ _ _ h => h.blind) (sP.go hO hT.2 hA0 G.2.2) rfl hl.1 rfl (lv_room (Nat.le_of_ble_eq_true rfl)) dX3_isWord_72 ⟨Nat.zero_le _, Nat.zero_le _⟩ (fun r11 hq => ?_)
      refine lv_to hq ?_
      clear hq
      refine lv_topi (fun v13 ev13 => ?_)
      have h := elet_at ev13 h
      clear ev13
      refine lv_icmp_eq (tgt := 80) hx hb dX3_isWord_75 (by decide) (fun c14 => ?_) (fun c14 => ?_)
      · have h := oif_pos c14 h
        obtain ⟨v15, ev15, h⟩ := elet_some h
        refine lv_iinc (v := v15) (lv' := [(4, .int v15), (0, .ref (ad l0)), (1, .ref q), (2, .int l2), (3, .int l3)]) hx hb dX3_isWord_80 hl (k := 4) rfl ev15.symm (by decide) rfl (fun ls hl => ?_)
        refine lv_goto (tgt := 51) hx hb dX3_isWord_83 (by decide) ?_
        have hl := lv_sub hl [1, 2, 3, 4, 0] rfl
        exact ih _ _ _ _ _ _ _ _ h G hl
      · have h := oif_neg c14 h
        refine lv_iconst (v := 0) hx hb dX3_isWord_78 (by decide) ?_
        rw [(osome2 h).2] at G
        refine lv_to (osome2 h).1 ?_
        exact kr79 _ _ _ (.inl ((osome2 h).1).symm) G
def g_X3_isWord (T : AT) (tx : Nat × (Nat → Int32)) (o : Nat) : Option (Int32 × AT) := oif (oO T o 3 = true) <| obind2 (g_X3_kind T o) fun r5 T3 => if r5 = 1 then (oif (oO T3 o 3 = true) <| obind (T3.2.2.2.2 o 0) fun n9 => oif (oO T3 n9 9 = true) <| obind (T3.2.2.2.2 n9 3) fun n11 => oif (oO T3 o 3 = true) <| elet (T3.2.2.1 o 1) fun v13 => oif (aA T3 n11 100 = true) <| oif (inb v13 (T3.2.1 n11).2 = true) <| elet (T3.2.2.1 n11 v13.toNatClampNeg) fun v16 => oif (oO T3 o 3 = true) <| obind (T3.2.2.2.2 o 0) fun n18 => oif (oO T3 n18 9 = true) <| obind (T3.2.2.2.2 n18 4) fun n20 => oif (oO T3 o 3 = true) <| elet (T3.2.2.1 o 1) fun v22 => oif (aA T3 n20 100 = true) <| oif (inb v22 (T3.2.1 n20).2 = true) <| elet (T3.2.2.1 n20 v22.toNatClampNeg) fun v25 => elet (v25 - v16) fun v26 => elet (nI tx.1 >>> (0 &&& 31)) fun v28 => if v26 = v28 then (g_X3_isWord_b51 tx 16384 T3 o v16 v26 0) else (some (0, T3))) else (some (0, T3))
set_option maxHeartbeats 4000000 in
set_option maxRecDepth 100000 in
theorem u_X3_isWord (l : Launch) (hst : l.stackTraces = false) (D : va_G) (cI cJ cZ cMic cSrc cSt cAI cAJ : ClassId) (ad : Nat → Nat) (T : AT) (h0 : Nat) {q : Nat} {tx : Nat × (Nat → Int32)} (hC : sT tx) (o : Nat) {r1 : Int32} {T1 : AT} (h : g_X3_isWord T tx o = some (r1, T1)) : kCiX l yX3_isWord (Cond.code yX3_isWord cX3_isWord 5 (some .boolean) :: wsA) 5 87 cI cJ cZ cMic cSrc cSt cAI cAJ D ad T [.ref (ad o), .ref q] (yT1 cI cJ cZ cMic cSrc cSt cAI cAJ h0 ad T tx q) (fun r T9 => r = r1 ∧ T9 = T1) := by
  intro sz
  refine Met.ofW (cc := cX3_isWord) (maxL := 5) (ret := (some .boolean)) (by decide) rfl ?_
  intro p e s m args below meth c s₁ B hml hv
  obtain ⟨rfl, ⟨hsz, hP, hK, hD0, hX, hN⟩, ⟨hA1, hT⟩, hO⟩ := hv
  have hx := B.exec
  have hb := B.bytes
  have hr := B.returns
  have hts := atoms_spec (ws := (Cond.code yX3_isWord cX3_isWord 5 (some .boolean) :: wsA)) B.pre
  have hown : s.vm.findClass RX3 = some m.cls := findClass_of_methodNamed B.named
  have hlocks := B.notSynchronized
  subst hsz
  have hD := hD0.self (sz := s.heap.size)
  generalize hAe : va_A (cW ad T.1 (cc cI cJ cZ cMic cSrc cSt cAI cAJ ad T)) s.heap.size = A at hD hX hA1 ⊢
  have hA : ∀ q : Nat, s.heap.size ≤ q → A q := fun q h => by rw [← hAe]; exact Or.inr h
  have G : gC cI cJ cZ cMic cSrc cSt cAI cAJ D ad A s.heap s.heap [] T := ⟨hP, hD, va_S.rf⟩
  have E : cE p c cX3_isWord s m ([.ref (ad o), .ref q] : List Value).toArray (Cond.code yX3_isWord cX3_isWord 5 (some .boolean) :: wsA) D RX3 (CT cI cJ cZ cMic cSrc cSt cAI cAJ) := ⟨hx, hb, hts, hown, hK⟩
  have hA0 : ∀ a : Nat, A a → h0 ≤ a := hA1
  have hl := lv_entry ([.ref (ad o), .ref q]) (n := 5) (Nat.le_of_ble_eq_true rfl)
  rw [lg_entry_eq]
  generalize (lg_sl ([.ref (ad o), .ref q]) ++ List.replicate (5 - (lg_sl ([.ref (ad o), .ref q])).length) Slot.unset).toArray = ls at hl ⊢
  have hl : lv_has ls 5 [(0, .ref (ad o)), (1, .ref q)] := hl
  unfold g_X3_isWord at h
  refine lv_aload_n hx hb dX3_isWord_0 rfl (lv_at hl 0 rfl) ?_
  obtain ⟨g2, h⟩ := oif_some h
  obtain ⟨r5, T3, eT3, h⟩ := obind2_some h
  refine q_cvi (As := []) (rest := []) E G hA hX hN hml (u_X3_kind l hst D cI cJ cZ cMic cSrc cSt cAI cAJ ad T o eT3) (cwV 0 hts (gaV qA_239 qA_240 qA_241 qA_222 qA_242) rfl rfl rfl (by decide +kernel) ⟨Nat.le_of_ble_eq_true rfl, Nat.le_of_ble_eq_true rfl⟩) (oO_k g2).1 (cc_o3 (oO_k g2).2) rfl rfl hl.1 rfl (lv_room (Nat.le_of_ble_eq_true rfl)) dX3_isWord_1 ⟨Nat.zero_le _, Nat.zero_le _⟩ (fun q6 T4 H locs hq G => ?_)
  obtain ⟨hq1, hq2⟩ := hq
  rw [hq2] at G
  refine lv_to hq1 ?_
  clear hq1 hq2 eT3
  refine lv_iconst (v := 1) hx hb dX3_isWord_4 (by decide) ?_
  refine lv_icmp_eq (tgt := 10) hx hb dX3_isWord_5 (by decide) (fun c7 => ?_) (fun c7 => ?_)
  · have h := oif_pos c7 h
    refine lv_aload_n hx hb dX3_isWord_10 rfl (lv_at hl 0 rfl) ?_
    obtain ⟨g8, h⟩ := oif_some h
    obtain ⟨n9, en9, h⟩ := obind_some h
    refine c_get E G o 0 (v := .ref (ad n9)) (oO_k g8).1 (cc_o3 (oO_k g8).2) rfl (fun w h => .tail _ (iA_17 h)) (by decide) (.tail _ qA_174) rfl (by rw [en9]; rfl) dX3_isWord_11 ?_
    clear en9
    obtain ⟨g10, h⟩ := oif_some h
    obtain ⟨n11, en11, h⟩ := obind_some h
    refine c_get E G n9 3 (v := .ref (ad n11)) (oO_k g10).1 (cc_o9 (oO_k g10).2) rfl (fun w h => .tail _ (iA_18 h)) (by decide) (.tail _ qA_236) rfl (by rw [en11]; rfl) dX3_isWord_14 ?_
    clear en11
    refine lv_aload_n hx hb dX3_isWord_17 rfl (lv_at hl 0 rfl) ?_
    obtain ⟨g12, h⟩ := oif_some h
    refine c_get E G o 1 (oO_k g12).1 (cc_o3 (oO_k g12).2) rfl (fun w h => .tail _ (iA_17 h)) (by decide) (.tail _ qA_176) rfl rfl dX3_isWord_18 ?_
    refine lv_topi (fun v13 ev13 => ?_)
    have h := elet_at ev13 h
    clear ev13
    obtain ⟨g14, h⟩ := oif_some h
    obtain ⟨g15, h⟩ := oif_some h
    refine c_iald E G n11 0 (k := v13.toNatClampNeg) (aA_k g14).1 (cc_a100 (aA_k g14).2.1) rfl (inb_k g15).1 (inb_k g15).2 (aA_k g14).2.2 dX3_isWord_21 ?_
    refine lv_topi (fun v16 ev16 => ?_)
    have h := elet_at ev16 h
    clear ev16
    refine lv_istore_n (lv' := [(2, .int v16), (0, .ref (ad o)), (1, .ref q)]) hx hb dX3_isWord_22 rfl hl (by decide) rfl (fun ls hl => ?_)
    refine lv_aload_n hx hb dX3_isWord_23 rfl (lv_at hl 1 rfl) ?_
    obtain ⟨g17, h⟩ := oif_some h
    obtain ⟨n18, en18, h⟩ := obind_some h
    refine c_get E G o 0 (v := .ref (ad n18)) (oO_k g17).1 (cc_o3 (oO_k g17).2) rfl (fun w h => .tail _ (iA_17 h)) (by decide) (.tail _ qA_174) rfl (by rw [en18]; rfl) dX3_isWord_24 ?_
    clear en18
    obtain ⟨g19, h⟩ := oif_some h
    obtain ⟨n20, en20, h⟩ := obind_some h
    refine c_get E G n18 4 (v := .ref (ad n20)) (oO_k g19).1 (cc_o9 (oO_k g19).2) rfl (fun w h => .tail _ (iA_18 h)) (by decide) (.tail _ qA_237) rfl (by rw [en20]; rfl) dX3_isWord_27 ?_
    clear en20
    refine lv_aload_n hx hb dX3_isWord_30 rfl (lv_at hl 1 rfl) ?_
    obtain ⟨g21, h⟩ := oif_some h
    refine c_get E G o 1 (oO_k g21).1 (cc_o3 (oO_k g21).2) rfl (fun w h => .tail _ (iA_17 h)) (by decide) (.tail _ qA_176) rfl rfl dX3_isWord_31 ?_
    refine lv_topi (fun v22 ev22 => ?_)
    have h := elet_at ev22 h
    clear ev22
    obtain ⟨g23, h⟩ := oif_some h
    obtain ⟨g24, h⟩ := oif_some h
    refine c_iald E G n20 0 (k := v22.toNatClampNeg) (aA_k g23).1 (cc_a100 (aA_k g23).2.1) rfl (inb_k g24).1 (inb_k g24).2 (aA_k g23).2.2 dX3_isWord_34 ?_
    refine lv_topi (fun v25 ev25 => ?_)
    have h := elet_at ev25 h
    clear ev25
    refine lv_iload_n hx hb dX3_isWord_35 rfl (lv_at hl 0 rfl) ?_
    refine lv_isub hx hb dX3_isWord_36 ?_
    refine lv_topi (fun v26 ev26 => ?_)
    have h := elet_at ev26 h
    clear ev26
    refine lv_istore_n (lv' := [(3, .int v26), (2, .int v16), (0, .ref (ad o)), (1, .ref q)]) hx hb dX3_isWord_37 rfl hl (by decide) rfl (fun ls hl => ?_)
    refine lv_iload_n hx hb dX3_isWord_38 rfl (lv_at hl 0 rfl) ?_
    refine lv_aload_n hx hb dX3_isWord_39 rfl (lv_at hl 3 rfl) ?_
    refine s_callV (As := []) (rest := [.int v26]) ⟨hx, hb, hml, hown, hts⟩ (ja_length l (tx := tx) (q := q)) (cwV 0 hts (gaV qA_244 qA_245 qA_246 qA_247 qA_248) rfl rfl rfl (by decide +kernel) ⟨Nat.le_of_ble_eq_true rfl, Nat.le_of_ble_eq_true rfl⟩) (sO.recv hO hA0 G.2.2) (fun _ _ _ _ h => h.blind) (sP.go hO hT.2 hA0 G.2.2) rfl hl.1 rfl (lv_room (Nat.le_of_ble_eq_true rfl)) dX3_isWord_40 ⟨Nat.zero_le _, Nat.zero_le _⟩ (fun r27 hq => ?_)
    refine lv_to hq ?_
    clear hq
    refine lv_topi (fun v28 ev28 => ?_)
    have h := elet_at ev28 h
    clear ev28
    refine lv_icmp_eq (tgt := 48) hx hb dX3_isWord_43 (by decide) (fun c29 => ?_) (fun c29 => ?_)
    · have h := oif_pos c29 h
      refine lv_iconst (v := 0) hx hb dX3_isWord_48 (by decide) ?_
      refine lv_istore (lv' := [(4, .int 0), (3, .int v26), (2, .int v16), (0, .ref (ad o)), (1, .ref q)]) hx hb dX3_isWord_49 hl (by decide) rfl (fun ls hl => ?_)
      have hl := lv_sub hl [3, 4, 2, 1, 0] rfl
      exact u_X3_isWord_b51 E hA hX hN hml hst hA0 hT hO hC (fun H locs ls gz G => W.zret (v := r1) hx hb hr (nar01 gz) (fun t ht hW => ⟨⟨r1, T1, rfl, ⟨rfl, rfl⟩, ⟨by rw [ht]; exact G.1, va_K.moved hW.alike hK, G.2.1⟩⟩, G.2.2.F ht⟩) G.2.2.2.2 dX3_isWord_9) (fun H locs ls gz G => W.zret (v := r1) hx hb hr (nar01 gz) (fun t ht hW => ⟨⟨r1, T1, rfl, ⟨rfl, rfl⟩, ⟨by rw [ht]; exact G.1, va_K.moved hW.alike hK, G.2.1⟩⟩, G.2.2.F ht⟩) G.2.2.2.2 dX3_isWord_47) (fun H locs ls gz G => W.zret (v := r1) hx hb hr (nar01 gz) (fun t ht hW => ⟨⟨r1, T1, rfl, ⟨rfl, rfl⟩, ⟨by rw [ht]; exact G.1, va_K.moved hW.alike hK, G.2.1⟩⟩, G.2.2.F ht⟩) G.2.2.2.2 dX3_isWord_79) (fun H locs ls gz G => W.zret (v := r1) hx hb hr (nar01 gz) (fun t ht hW => ⟨⟨r1, T1, rfl, ⟨rfl, rfl⟩, ⟨by rw [ht]; exact G.1, va_K.moved hW.alike hK, G.2.1⟩⟩, G.2.2.F ht⟩) G.2.2.2.2 dX3_isWord_87) _ _ _ _ _ _ _ _ _ h G hl
    · have h := oif_neg c29 h
      refine lv_iconst (v := 0) hx hb dX3_isWord_46 (by decide) ?_
      exact W.zret (v := 0) hx hb hr rfl (fun t ht hW => ⟨⟨0, T3, rfl, osome2 h, ⟨by rw [ht]; exact G.1, va_K.moved hW.alike hK, G.2.1⟩⟩, G.2.2.F ht⟩) G.2.2.2.2 dX3_isWord_47
  · have h := oif_neg c7 h
    refine lv_iconst (v := 0) hx hb dX3_isWord_8 (by decide) ?_
    exact W.zret (v := 0) hx hb hr rfl (fun t ht hW => ⟨⟨0, T3, rfl, osome2 h, ⟨by rw [ht]; exact G.1, va_K.moved hW.alike hK, G.2.1⟩⟩, G.2.2.F ht⟩) G.2.2.2.2 dX3_isWord_9
set_option maxHeartbeats 4000000 in
set_option maxRecDepth 100000 in
theorem s_X3_isWord_b51 {tx : Nat × (Nat → Int32)} {r1 : Int32} {T1 : AT} : ∀ n : Nat, ∀ (T : AT) (l0 : Nat) (l2 : Int32) (l3 : Int32) (l4 : Int32), g_X3_isWord_b51 tx n T l0 l2 l3 l4 = some (r1, T1) → SP T T1 := by
  intro n
  induction n with
  | zero =>
    intro T l0 l2 l3 l4 h
    have h : (none : Option (Int32 × AT)) = some (r1, T1) := h
    cases h
  | succ n ih =>
    intro T l0 l2 l3 l4 h
    have p0 := SP.rf T
    unfold g_X3_isWord_b51 at h
    rcases oif_or h with ⟨c2, h⟩ | ⟨c2, h⟩
    · have h := h
      rw [← (osome2 h).2]
      exact p0
    · have h := h
      obtain ⟨g3, h⟩ := oif_some h
      obtain ⟨n4, en4, h⟩ := obind_some h
      obtain ⟨g5, h⟩ := oif_some h
      obtain ⟨n6, en6, h⟩ := obind_some h
      obtain ⟨v7, -, h⟩ := elet_some h
      obtain ⟨g8, h⟩ := oif_some h
      obtain ⟨g9, h⟩ := oif_some h
      obtain ⟨v10, -, h⟩ := elet_some h
      obtain ⟨g11, h⟩ := oif_some h
      obtain ⟨v12, -, h⟩ := elet_some h
      rcases oif_or h with ⟨c13, h⟩ | ⟨c13, h⟩
      · have h := h
        obtain ⟨v14, ev14, h⟩ := elet_some h
        exact SP.tr p0 (ih _ _ _ _ _ h)
      · have h := h
        rw [← (osome2 h).2]
        exact p0
set_option maxHeartbeats 4000000 in
set_option maxRecDepth 100000 in
theorem s_X3_isWord {T : AT} {tx : Nat × (Nat → Int32)} {o : Nat} {r1 : Int32} {T1 : AT} (h : g_X3_isWord T tx o = some (r1, T1)) : SP T T1 := by
  have p0 := SP.rf T
  unfold g_X3_isWord at h
  obtain ⟨g2, h⟩ := oif_some h
  obtain ⟨r4, T3, eT3, h⟩ := obind2_some h
  have p1 : SP T T3 := SP.tr p0 (s_X3_kind eT3)
  rcases oif_or h with ⟨c5, h⟩ | ⟨c5, h⟩
  · have h := h
    obtain ⟨g6, h⟩ := oif_some h
    obtain ⟨n7, en7, h⟩ := obind_some h
    obtain ⟨g8, h⟩ := oif_some h
    obtain ⟨n9, en9, h⟩ := obind_some h
    obtain ⟨g10, h⟩ := oif_some h
    obtain ⟨v11, -, h⟩ := elet_some h
    obtain ⟨g12, h⟩ := oif_some h
    obtain ⟨g13, h⟩ := oif_some h
    obtain ⟨v14, -, h⟩ := elet_some h
    obtain ⟨g15, h⟩ := oif_some h
    obtain ⟨n16, en16, h⟩ := obind_some h
    obtain ⟨g17, h⟩ := oif_some h
    obtain ⟨n18, en18, h⟩ := obind_some h
    obtain ⟨g19, h⟩ := oif_some h
    obtain ⟨v20, -, h⟩ := elet_some h
    obtain ⟨g21, h⟩ := oif_some h
    obtain ⟨g22, h⟩ := oif_some h
    obtain ⟨v23, -, h⟩ := elet_some h
    obtain ⟨v24, -, h⟩ := elet_some h
    obtain ⟨v25, -, h⟩ := elet_some h
    rcases oif_or h with ⟨c26, h⟩ | ⟨c26, h⟩
    · have h := h
      exact SP.tr p1 (s_X3_isWord_b51 _ _ _ _ _ _ h)
    · have h := h
      rw [← (osome2 h).2]
      exact p1
  · have h := h
    rw [← (osome2 h).2]
    exact p1
def g_X3_failAt_b34  (T : AT) (s0 : Int32) (s1 : Nat) : Option (Nat × Int32 × AT) := oif (oO T s1 3 = true) <| elet (uI T s1 3 s0) fun T3 => some (3, 0, T3)
set_option maxHeartbeats 4000000 in
set_option maxRecDepth 100000 in
theorem u_X3_failAt_b34 {p : Program} {l : Launch} {e : Env} {s : State} {m : MethodId} {args : Array Value} {below : List Frame} {meth : Method} {c : Code} {Q : State → Prop} {D : va_G} {A : Nat → Prop} {cI cJ cZ cMic cSrc cSt cAI cAJ : ClassId} {ad : Nat → Nat} {r1 : Int32} {T1 : AT} (E : cE p c cX3_failAt s m args (Cond.code yX3_failAt cX3_failAt 3 none :: wsA) D RX3 (CT cI cJ cZ cMic cSrc cSt cAI cAJ)) (hA : ∀ q : Nat, s.heap.size ≤ q → A q) (hX : xT A s) (hN : nX s) (hml : c.maxLocals = 3) (hst : l.stackTraces = false) : ∀ (T : AT) (H : Heap) (locs : List Loc) (ls : Array Slot) (s0 : Int32) (s1 : Nat), g_X3_failAt_b34 T s0 s1 = some (0, r1, T1) → gC cI cJ cZ cMic cSrc cSt cAI cAJ D ad A s.heap H locs T → lv_has ls 3 [] → W p l e { frames := 6, cells := 0, slots := 0, locals := 81 } s m args below meth c H locs 0 0 Q (F0 m 34 ls [.int s0, .ref (ad s1)]) := by
  have hx := E.1
  have hb := E.2.1
  have hts := E.2.2.1
  have hown := E.2.2.2.1
  have hK := E.2.2.2.2
  intro T H locs ls s0 s1 h G hl
  unfold g_X3_failAt_b34 at h
  obtain ⟨g2, h⟩ := oif_some h
  refine c_put E G s1 3 (v := .int s0) (oO_k g2).1 (cc_o3 (oO_k g2).2) rfl (fun w h => .tail _ (iA_17 h)) tyX3 tyX3_ok nmX3 (by decide) (.tail _ qA_173) ⟨rfl, rfl, rfl⟩ rfl rfl (Nat.le_of_ble_eq_true rfl) dX3_failAt_34 (fun H locs G => ?_)
  have G := gC_up_i (f := upd (T.2.2.1 s1) 3 s0) (by rw [(oO_k g2).2]; rfl) G
  obtain ⟨T3, eT3, h⟩ := elet_some h
  have G : gC cI cJ cZ cMic cSrc cSt cAI cAJ D ad A s.heap H locs T3 := by rw [eT3]; exact G
  clear eT3
  exact absurd (osome3 h).1 (by decide)
def g_X3_failAt_b33  (T : AT) (s0 : Nat) : Option (Nat × Int32 × AT) := g_X3_failAt_b34 T 0 s0
set_option maxHeartbeats 4000000 in
set_option maxRecDepth 100000 in
theorem u_X3_failAt_b33 {p : Program} {l : Launch} {e : Env} {s : State} {m : MethodId} {args : Array Value} {below : List Frame} {meth : Method} {c : Code} {Q : State → Prop} {D : va_G} {A : Nat → Prop} {cI cJ cZ cMic cSrc cSt cAI cAJ : ClassId} {ad : Nat → Nat} {r1 : Int32} {T1 : AT} (E : cE p c cX3_failAt s m args (Cond.code yX3_failAt cX3_failAt 3 none :: wsA) D RX3 (CT cI cJ cZ cMic cSrc cSt cAI cAJ)) (hA : ∀ q : Nat, s.heap.size ≤ q → A q) (hX : xT A s) (hN : nX s) (hml : c.maxLocals = 3) (hst : l.stackTraces = false) : ∀ (T : AT) (H : Heap) (locs : List Loc) (ls : Array Slot) (s0 : Nat), g_X3_failAt_b33 T s0 = some (0, r1, T1) → gC cI cJ cZ cMic cSrc cSt cAI cAJ D ad A s.heap H locs T → lv_has ls 3 [] → W p l e { frames := 6, cells := 0, slots := 0, locals := 81 } s m args below meth c H locs 0 0 Q (F0 m 33 ls [.ref (ad s0)]) := by
  have hx := E.1
  have hb := E.2.1
  have hts := E.2.2.1
  have hown := E.2.2.2.1
  have hK := E.2.2.2.2
  intro T H locs ls s0 h G hl
  unfold g_X3_failAt_b33 at h
  refine lv_iconst (v := 0) hx hb dX3_failAt_33 (by decide) ?_
  have hl := lv_sub hl [] rfl
  exact u_X3_failAt_b34 E hA hX hN hml hst _ _ _ _ _ _ h G hl
def g_X3_failAt (T : AT) (o : Nat) (a0 : Int32) (a1 : Int32) : Option (Nat × Int32 × AT) := oif (oO T o 3 = true) <| elet (uI T o 2 a1) fun T3 => if a0 < 0 then (g_X3_failAt_b33 T3 o) else (oif (oO T3 o 3 = true) <| obind (T3.2.2.2.2 o 0) fun n6 => oif (oO T3 n6 9 = true) <| elet (T3.2.2.1 n6 5) fun v8 => if v8 ≤ a0 then (g_X3_failAt_b33 T3 o) else (oif (oO T3 o 3 = true) <| obind (T3.2.2.2.2 o 0) fun n11 => oif (oO T3 n11 9 = true) <| obind (T3.2.2.2.2 n11 3) fun n13 => oif (aA T3 n13 100 = true) <| oif (inb a0 (T3.2.1 n13).2 = true) <| elet (T3.2.2.1 n13 a0.toNatClampNeg) fun v16 => g_X3_failAt_b34 T3 v16 o))
set_option maxHeartbeats 4000000 in
set_option maxRecDepth 100000 in
theorem u_X3_failAt (l : Launch) (hst : l.stackTraces = false) (D : va_G) (cI cJ cZ cMic cSrc cSt cAI cAJ : ClassId) (ad : Nat → Nat) (T : AT) (o : Nat) (a0 : Int32) (a1 : Int32) {r1 : Int32} {T1 : AT} (h : g_X3_failAt T o a0 a1 = some (0, r1, T1)) : kCv l yX3_failAt (Cond.code yX3_failAt cX3_failAt 3 none :: wsA) 6 81 cI cJ cZ cMic cSrc cSt cAI cAJ D ad T [.ref (ad o), .int a0, .int a1] (fun T9 => T9 = T1) := by
  intro sz
  refine Met.ofW (cc := cX3_failAt) (maxL := 3) (ret := none) (by decide) rfl ?_
  intro p e s m args below meth c s₁ B hml hv
  obtain ⟨rfl, hsz, hP, hK, hD0, hX, hN⟩ := hv
  have hx := B.exec
  have hb := B.bytes
  have hr := B.returns
  have hts := atoms_spec (ws := (Cond.code yX3_failAt cX3_failAt 3 none :: wsA)) B.pre
  have hown : s.vm.findClass RX3 = some m.cls := findClass_of_methodNamed B.named
  have hlocks := B.notSynchronized
  subst hsz
  have hD := hD0.self (sz := s.heap.size)
  generalize hAe : va_A (cW ad T.1 (cc cI cJ cZ cMic cSrc cSt cAI cAJ ad T)) s.heap.size = A at hD hX ⊢
  have hA : ∀ q : Nat, s.heap.size ≤ q → A q := fun q h => by rw [← hAe]; exact Or.inr h
  have G : gC cI cJ cZ cMic cSrc cSt cAI cAJ D ad A s.heap s.heap [] T := ⟨hP, hD, va_S.rf⟩
  have E : cE p c cX3_failAt s m ([.ref (ad o), .int a0, .int a1] : List Value).toArray (Cond.code yX3_failAt cX3_failAt 3 none :: wsA) D RX3 (CT cI cJ cZ cMic cSrc cSt cAI cAJ) := ⟨hx, hb, hts, hown, hK⟩
  have hl := lv_entry ([.ref (ad o), .int a0, .int a1]) (n := 3) (Nat.le_of_ble_eq_true rfl)
  rw [lg_entry_eq]
  generalize (lg_sl ([.ref (ad o), .int a0, .int a1]) ++ List.replicate (3 - (lg_sl ([.ref (ad o), .int a0, .int a1])).length) Slot.unset).toArray = ls at hl ⊢
  have hl : lv_has ls 3 [(0, .ref (ad o)), (1, .int a0), (2, .int a1)] := hl
  unfold g_X3_failAt at h
  refine lv_aload_n hx hb dX3_failAt_0 rfl (lv_at hl 0 rfl) ?_
  refine lv_iload_n hx hb dX3_failAt_1 rfl (lv_at hl 2 rfl) ?_
  obtain ⟨g2, h⟩ := oif_some h
  refine c_put E G o 2 (v := .int a1) (oO_k g2).1 (cc_o3 (oO_k g2).2) rfl (fun w h => .tail _ (iA_17 h)) tyX3 tyX3_ok nmX3 (by decide) (.tail _ qA_181) ⟨rfl, rfl, rfl⟩ rfl rfl (Nat.le_of_ble_eq_true rfl) dX3_failAt_2 (fun H locs G => ?_)
  have G := gC_up_i (f := upd (T.2.2.1 o) 2 a1) (by rw [(oO_k g2).2]; rfl) G
  obtain ⟨T3, eT3, h⟩ := elet_some h
  have G : gC cI cJ cZ cMic cSrc cSt cAI cAJ D ad A s.heap H locs T3 := by rw [eT3]; exact G
  clear eT3
  refine lv_aload_n hx hb dX3_failAt_5 rfl (lv_at hl 0 rfl) ?_
  refine lv_iload_n hx hb dX3_failAt_6 rfl (lv_at hl 1 rfl) ?_
  refine lv_if_lt (tgt := 33) hx hb dX3_failAt_7 (by decide) (fun c4 => ?_) (fun c4 => ?_)
  · have h := oif_pos c4 h
    have hl := lv_sub hl [] rfl
    exact u_X3_failAt_b33 E hA hX hN hml hst _ _ _ _ _ h G hl
  · have h := oif_neg c4 h
    refine lv_iload_n hx hb dX3_failAt_10 rfl (lv_at hl 1 rfl) ?_
    refine lv_aload_n hx hb dX3_failAt_11 rfl (lv_at hl 0 rfl) ?_
    obtain ⟨g5, h⟩ := oif_some h
    obtain ⟨n6, en6, h⟩ := obind_some h
    refine c_get E G o 0 (v := .ref (ad n6)) (oO_k g5).1 (cc_o3 (oO_k g5).2) rfl (fun w h => .tail _ (iA_17 h)) (by decide) (.tail _ qA_174) rfl (by rw [en6]; rfl) dX3_failAt_12 ?_
    clear en6
    obtain ⟨g7, h⟩ := oif_some h
    refine c_get E G n6 5 (oO_k g7).1 (cc_o9 (oO_k g7).2) rfl (fun w h => .tail _ (iA_18 h)) (by decide) (.tail _ qA_177) rfl rfl dX3_failAt_15 ?_
    refine lv_topi (fun v8 ev8 => ?_)
    have h := elet_at ev8 h
    clear ev8
    refine lv_icmp_ge (tgt := 33) hx hb dX3_failAt_18 (by decide) (fun c9 => ?_) (fun c9 => ?_)
    · have h := oif_pos c9 h
      have hl := lv_sub hl [] rfl
      exact u_X3_failAt_b33 E hA hX hN hml hst _ _ _ _ _ h G hl
    · have h := oif_neg c9 h
      refine lv_aload_n hx hb dX3_failAt_21 rfl (lv_at hl 0 rfl) ?_
      obtain ⟨g10, h⟩ := oif_some h
      obtain ⟨n11, en11, h⟩ := obind_some h
      refine c_get E G o 0 (v := .ref (ad n11)) (oO_k g10).1 (cc_o3 (oO_k g10).2) rfl (fun w h => .tail _ (iA_17 h)) (by decide) (.tail _ qA_174) rfl (by rw [en11]; rfl) dX3_failAt_22 ?_
      clear en11
      obtain ⟨g12, h⟩ := oif_some h
      obtain ⟨n13, en13, h⟩ := obind_some h
      refine c_get E G n11 3 (v := .ref (ad n13)) (oO_k g12).1 (cc_o9 (oO_k g12).2) rfl (fun w h => .tail _ (iA_18 h)) (by decide) (.tail _ qA_236) rfl (by rw [en13]; rfl) dX3_failAt_25 ?_
      clear en13
      refine lv_iload_n hx hb dX3_failAt_28 rfl (lv_at hl 1 rfl) ?_
      obtain ⟨g14, h⟩ := oif_some h
      obtain ⟨g15, h⟩ := oif_some h
      refine c_iald E G n13 0 (k := a0.toNatClampNeg) (aA_k g14).1 (cc_a100 (aA_k g14).2.1) rfl (inb_k g15).1 (inb_k g15).2 (aA_k g14).2.2 dX3_failAt_29 ?_
      refine lv_topi (fun v16 ev16 => ?_)
      have h := elet_at ev16 h
      clear ev16
      refine lv_goto (tgt := 34) hx hb dX3_failAt_30 (by decide) ?_
      have hl := lv_sub hl [] rfl
      exact u_X3_failAt_b34 E hA hX hN hml hst _ _ _ _ _ _ h G hl
set_option maxHeartbeats 4000000 in
set_option maxRecDepth 100000 in
theorem s_X3_failAt_b34 {e1 : Nat} {r1 : Int32} {T1 : AT} : ∀ (T : AT) (s0 : Int32) (s1 : Nat), g_X3_failAt_b34 T s0 s1 = some (e1, r1, T1) → SP T T1 := by
  intro T s0 s1 h
  have p0 := SP.rf T
  unfold g_X3_failAt_b34 at h
  obtain ⟨g2, h⟩ := oif_some h
  obtain ⟨T3, eT3, h⟩ := elet_some h
  have p1 : SP T T3 := SP.tr p0 (by rw [eT3]; exact sp_uI)
  rw [← (osome3 h).2.2]
  exact p1
set_option maxHeartbeats 4000000 in
set_option maxRecDepth 100000 in
theorem s_X3_failAt_b33 {e1 : Nat} {r1 : Int32} {T1 : AT} : ∀ (T : AT) (s0 : Nat), g_X3_failAt_b33 T s0 = some (e1, r1, T1) → SP T T1 := by
  intro T s0 h
  have p0 := SP.rf T
  unfold g_X3_failAt_b33 at h
  exact SP.tr p0 (s_X3_failAt_b34 _ _ _ h)
set_option maxHeartbeats 4000000 in
set_option maxRecDepth 100000 in
theorem s_X3_failAt {T : AT} {o : Nat} {a0 : Int32} {a1 : Int32} {e1 : Nat} {r1 : Int32} {T1 : AT} (h : g_X3_failAt T o a0 a1 = some (e1, r1, T1)) : SP T T1 := by
  have p0 := SP.rf T
  unfold g_X3_failAt at h
  obtain ⟨g2, h⟩ := oif_some h
  obtain ⟨T3, eT3, h⟩ := elet_some h
  have p1 : SP T T3 := SP.tr p0 (by rw [eT3]; exact sp_uI)
  rcases oif_or h with ⟨c4, h⟩ | ⟨c4, h⟩
  · have h := h
    exact SP.tr p1 (s_X3_failAt_b33 _ _ h)
  · have h := h
    obtain ⟨g5, h⟩ := oif_some h
    obtain ⟨n6, en6, h⟩ := obind_some h
    obtain ⟨g7, h⟩ := oif_some h
    obtain ⟨v8, -, h⟩ := elet_some h
    rcases oif_or h with ⟨c9, h⟩ | ⟨c9, h⟩
    · have h := h
      exact SP.tr p1 (s_X3_failAt_b33 _ _ h)
    · have h := h
      obtain ⟨g10, h⟩ := oif_some h
      obtain ⟨n11, en11, h⟩ := obind_some h
      obtain ⟨g12, h⟩ := oif_some h
      obtain ⟨n13, en13, h⟩ := obind_some h
      obtain ⟨g14, h⟩ := oif_some h
      obtain ⟨g15, h⟩ := oif_some h
      obtain ⟨v16, -, h⟩ := elet_some h
      exact SP.tr p1 (s_X3_failAt_b34 _ _ _ h)
set_option maxHeartbeats 4000000 in
set_option maxRecDepth 100000 in
theorem x_X3_failAt_b34 {p : Program} {l : Launch} {e : Env} {s : State} {m : MethodId} {args : Array Value} {below : List Frame} {meth : Method} {c : Code} {Qc : Array Value → State → Outcome → State → Prop} {XC : String → State → State → Prop} {D : va_G} {A : Nat → Prop} {cI cJ cZ cMic cSrc cSt cAI cAJ : ClassId} {ad : Nat → Nat} {e1 : Nat} {r1 : Int32} {T1 : AT} (E : cE p c cX3_failAt s m args (Cond.code yX3_failAt cX3_failAt 3 none :: wsA) D RX3 (CT cI cJ cZ cMic cSrc cSt cAI cAJ)) (hA : ∀ q : Nat, s.heap.size ≤ q → A q) (hX : xT A s) (hN : nX s) (hml : c.maxLocals = 3) (hz9 : True) (hst : l.stackTraces = false) (htab : ∀ x ∈ c.exceptionTable.toList, False) (hlocks : meth.locks = false) (kx : ∀ (H : Heap) (locs : List Loc) (t : State), gC cI cJ cZ cMic cSrc cSt cAI cAJ D ad A s.heap H locs T1 → s.vm.Alike t.vm → H.size ≤ t.heap.size → (∀ q, q < H.size → t.heap[q]? = H[q]?) → XC (exn e1) s t) : ∀ (T : AT) (H : Heap) (locs : List Loc) (ls : Array Slot) (s0 : Int32) (s1 : Nat), g_X3_failAt_b34 T s0 s1 = some (e1 + 1, r1, T1) → gC cI cJ cZ cMic cSrc cSt cAI cAJ D ad A s.heap H locs T → lv_has ls 3 [] → W p l e { frames := 6, cells := 1, slots := 6, locals := 81 } s m args below meth c H locs 0 0 (vx_MQ below Qc XC args s 1 6 A) (F0 m 34 ls [.int s0, .ref (ad s1)]) := by
  have hx := E.1
  have hb := E.2.1
  have hts := E.2.2.1
  have hown := E.2.2.2.1
  have hK := E.2.2.2.2
  intro T H locs ls s0 s1 h G hl
  unfold g_X3_failAt_b34 at h
  obtain ⟨g2, h⟩ := oif_some h
  refine c_put E G s1 3 (v := .int s0) (oO_k g2).1 (cc_o3 (oO_k g2).2) rfl (fun w h => .tail _ (iA_17 h)) tyX3 tyX3_ok nmX3 (by decide) (.tail _ qA_173) ⟨rfl, rfl, rfl⟩ rfl rfl (Nat.le_of_ble_eq_true rfl) dX3_failAt_34 (fun H locs G => ?_)
  have G := gC_up_i (f := upd (T.2.2.1 s1) 3 s0) (by rw [(oO_k g2).2]; rfl) G
  obtain ⟨T3, eT3, h⟩ := elet_some h
  have G : gC cI cJ cZ cMic cSrc cSt cAI cAJ D ad A s.heap H locs T3 := by rw [eT3]; exact G
  clear eT3
  have hz : exn e1 = xIAE := by rw [show e1 = 2 by have := (osome3 h).1; omega]; rfl
  rw [(osome3 h).2.2] at G
  refine vx_throw0 (own := RX3) (cls := xIAE) (names := ["java/lang/RuntimeException", "java/lang/Exception"]) (ik := 284) (ic := 286) (A := A) hx hb hst hown (by decide +kernel) (by decide +kernel) (hts _ (.tail _ qA_297)) (hts _ (.tail _ qA_298)) (vx_hat (B := xB) (fun w h => hts w (.tail _ (iA_24 h))) (by decide +kernel) hX.use) (by decide +kernel) hX.1 hX.2.1 G.2.2 (hl.1.trans hml.symm) dX3_failAt_37 dX3_failAt_40 dX3_failAt_41 dX3_failAt_44 (fun x hx => (htab x hx).elim) (Nat.le_of_ble_eq_true rfl) (Nat.le_of_ble_eq_true rfl) (Nat.le_of_ble_eq_true rfl) (Nat.le_of_ble_eq_true rfl) hlocks (fun t hvm h1 h2 => ?_) G.2.2.2.2 (Nat.le_refl _) (Nat.le_refl _)
  rw [← hz]
  exact kx _ _ _ G hvm h1 h2
set_option maxHeartbeats 4000000 in
set_option maxRecDepth 100000 in
theorem x_X3_failAt_b33 {p : Program} {l : Launch} {e : Env} {s : State} {m : MethodId} {args : Array Value} {below : List Frame} {meth : Method} {c : Code} {Qc : Array Value → State → Outcome → State → Prop} {XC : String → State → State → Prop} {D : va_G} {A : Nat → Prop} {cI cJ cZ cMic cSrc cSt cAI cAJ : ClassId} {ad : Nat → Nat} {e1 : Nat} {r1 : Int32} {T1 : AT} (E : cE p c cX3_failAt s m args (Cond.code yX3_failAt cX3_failAt 3 none :: wsA) D RX3 (CT cI cJ cZ cMic cSrc cSt cAI cAJ)) (hA : ∀ q : Nat, s.heap.size ≤ q → A q) (hX : xT A s) (hN : nX s) (hml : c.maxLocals = 3) (hz9 : True) (hst : l.stackTraces = false) (htab : ∀ x ∈ c.exceptionTable.toList, False) (hlocks : meth.locks = false) (kx : ∀ (H : Heap) (locs : List Loc) (t : State), gC cI cJ cZ cMic cSrc cSt cAI cAJ D ad A s.heap H locs T1 → s.vm.Alike t.vm → H.size ≤ t.heap.size → (∀ q, q < H.size → t.heap[q]? = H[q]?) → XC (exn e1) s t) : ∀ (T : AT) (H : Heap) (locs : List Loc) (ls : Array Slot) (s0 : Nat), g_X3_failAt_b33 T s0 = some (e1 + 1, r1, T1) → gC cI cJ cZ cMic cSrc cSt cAI cAJ D ad A s.heap H locs T → lv_has ls 3 [] → W p l e { frames := 6, cells := 1, slots := 6, locals := 81 } s m args below meth c H locs 0 0 (vx_MQ below Qc XC args s 1 6 A) (F0 m 33 ls [.ref (ad s0)]) := by
  have hx := E.1
  have hb := E.2.1
  have hts := E.2.2.1
  have hown := E.2.2.2.1
  have hK := E.2.2.2.2
  intro T H locs ls s0 h G hl
  unfold g_X3_failAt_b33 at h
  refine lv_iconst (v := 0) hx hb dX3_failAt_33 (by decide) ?_
  have hl := lv_sub hl [] rfl
  exact x_X3_failAt_b34 E hA hX hN hml trivial hst htab hlocks kx _ _ _ _ _ _ h G hl
set_option maxHeartbeats 4000000 in
set_option maxRecDepth 100000 in
theorem x_X3_failAt (l : Launch) (hst : l.stackTraces = false) (D : va_G) (cI cJ cZ cMic cSrc cSt cAI cAJ : ClassId) (ad : Nat → Nat) (T : AT) (o : Nat) (a0 : Int32) (a1 : Int32) {e1 : Nat} {r1 : Int32} {T1 : AT} (h : g_X3_failAt T o a0 a1 = some (e1 + 1, r1, T1)) : kXv l yX3_failAt (Cond.code yX3_failAt cX3_failAt 3 none :: wsA) 6 81 cI cJ cZ cMic cSrc cSt cAI cAJ D ad T [.ref (ad o), .int a0, .int a1] e1 T1 := by
  intro sz
  refine vx_ofW (cc := cX3_failAt) (maxL := 3) (ret := none) (by decide) rfl ?_
  intro p e s m args below meth c s₁ B hml htab hv
  obtain ⟨rfl, hsz, hP, hK, hD0, hX, hN⟩ := hv
  have hx := B.exec
  have hb := B.bytes
  have hr := B.returns
  have hts := atoms_spec (ws := (Cond.code yX3_failAt cX3_failAt 3 none :: wsA)) B.pre
  have hown : s.vm.findClass RX3 = some m.cls := findClass_of_methodNamed B.named
  have hlocks := B.notSynchronized
  subst hsz
  have hD := hD0.self (sz := s.heap.size)
  generalize hAe : va_A (cW ad T.1 (cc cI cJ cZ cMic cSrc cSt cAI cAJ ad T)) s.heap.size = A at hD hX ⊢
  have hA : ∀ q : Nat, s.heap.size ≤ q → A q := fun q h => by rw [← hAe]; exact Or.inr h
  have G : gC cI cJ cZ cMic cSrc cSt cAI cAJ D ad A s.heap s.heap [] T := ⟨hP, hD, va_S.rf⟩
  have E : cE p c cX3_failAt s m ([.ref (ad o), .int a0, .int a1] : List Value).toArray (Cond.code yX3_failAt cX3_failAt 3 none :: wsA) D RX3 (CT cI cJ cZ cMic cSrc cSt cAI cAJ) := ⟨hx, hb, hts, hown, hK⟩
  have htab : ∀ x ∈ c.exceptionTable.toList, False := fun x hx => htab x hx
  have hl := lv_entry ([.ref (ad o), .int a0, .int a1]) (n := 3) (Nat.le_of_ble_eq_true rfl)
  rw [lg_entry_eq]
  generalize (lg_sl ([.ref (ad o), .int a0, .int a1]) ++ List.replicate (3 - (lg_sl ([.ref (ad o), .int a0, .int a1])).length) Slot.unset).toArray = ls at hl ⊢
  have hl : lv_has ls 3 [(0, .ref (ad o)), (1, .int a0), (2, .int a1)] := hl
  unfold g_X3_failAt at h
  refine lv_aload_n hx hb dX3_failAt_0 rfl (lv_at hl 0 rfl) ?_
  refine lv_iload_n hx hb dX3_failAt_1 rfl (lv_at hl 2 rfl) ?_
  obtain ⟨g2, h⟩ := oif_some h
  refine c_put E G o 2 (v := .int a1) (oO_k g2).1 (cc_o3 (oO_k g2).2) rfl (fun w h => .tail _ (iA_17 h)) tyX3 tyX3_ok nmX3 (by decide) (.tail _ qA_181) ⟨rfl, rfl, rfl⟩ rfl rfl (Nat.le_of_ble_eq_true rfl) dX3_failAt_2 (fun H locs G => ?_)
  have G := gC_up_i (f := upd (T.2.2.1 o) 2 a1) (by rw [(oO_k g2).2]; rfl) G
  obtain ⟨T3, eT3, h⟩ := elet_some h
  have G : gC cI cJ cZ cMic cSrc cSt cAI cAJ D ad A s.heap H locs T3 := by rw [eT3]; exact G
  clear eT3
  refine lv_aload_n hx hb dX3_failAt_5 rfl (lv_at hl 0 rfl) ?_
  refine lv_iload_n hx hb dX3_failAt_6 rfl (lv_at hl 1 rfl) ?_
  refine lv_if_lt (tgt := 33) hx hb dX3_failAt_7 (by decide) (fun c4 => ?_) (fun c4 => ?_)
  · have h := oif_pos c4 h
    have hl := lv_sub hl [] rfl
    exact x_X3_failAt_b33 E hA hX hN hml trivial hst htab hlocks (fun H locs t G hvm h1 h2 => ⟨T1, trivial, ⟨⟨rfl, rfl⟩, (c_thrown G hK hvm h1 h2).1⟩, (c_thrown G hK hvm h1 h2).2⟩) _ _ _ _ _ h G hl
  · have h := oif_neg c4 h
    refine lv_iload_n hx hb dX3_failAt_10 rfl (lv_at hl 1 rfl) ?_
    refine lv_aload_n hx hb dX3_failAt_11 rfl (lv_at hl 0 rfl) ?_
    obtain ⟨g5, h⟩ := oif_some h
    obtain ⟨n6, en6, h⟩ := obind_some h
    refine c_get E G o 0 (v := .ref (ad n6)) (oO_k g5).1 (cc_o3 (oO_k g5).2) rfl (fun w h => .tail _ (iA_17 h)) (by decide) (.tail _ qA_174) rfl (by rw [en6]; rfl) dX3_failAt_12 ?_
    clear en6
    obtain ⟨g7, h⟩ := oif_some h
    refine c_get E G n6 5 (oO_k g7).1 (cc_o9 (oO_k g7).2) rfl (fun w h => .tail _ (iA_18 h)) (by decide) (.tail _ qA_177) rfl rfl dX3_failAt_15 ?_
    refine lv_topi (fun v8 ev8 => ?_)
    have h := elet_at ev8 h
    clear ev8
    refine lv_icmp_ge (tgt := 33) hx hb dX3_failAt_18 (by decide) (fun c9 => ?_) (fun c9 => ?_)
    · have h := oif_pos c9 h
      have hl := lv_sub hl [] rfl
      exact x_X3_failAt_b33 E hA hX hN hml trivial hst htab hlocks (fun H locs t G hvm h1 h2 => ⟨T1, trivial, ⟨⟨rfl, rfl⟩, (c_thrown G hK hvm h1 h2).1⟩, (c_thrown G hK hvm h1 h2).2⟩) _ _ _ _ _ h G hl
    · have h := oif_neg c9 h
      refine lv_aload_n hx hb dX3_failAt_21 rfl (lv_at hl 0 rfl) ?_
      obtain ⟨g10, h⟩ := oif_some h
      obtain ⟨n11, en11, h⟩ := obind_some h
      refine c_get E G o 0 (v := .ref (ad n11)) (oO_k g10).1 (cc_o3 (oO_k g10).2) rfl (fun w h => .tail _ (iA_17 h)) (by decide) (.tail _ qA_174) rfl (by rw [en11]; rfl) dX3_failAt_22 ?_
      clear en11
      obtain ⟨g12, h⟩ := oif_some h
      obtain ⟨n13, en13, h⟩ := obind_some h
      refine c_get E G n11 3 (v := .ref (ad n13)) (oO_k g12).1 (cc_o9 (oO_k g12).2) rfl (fun w h => .tail _ (iA_18 h)) (by decide) (.tail _ qA_236) rfl (by rw [en13]; rfl) dX3_failAt_25 ?_
      clear en13
      refine lv_iload_n hx hb dX3_failAt_28 rfl (lv_at hl 1 rfl) ?_
      obtain ⟨g14, h⟩ := oif_some h
      obtain ⟨g15, h⟩ := oif_some h
      refine c_iald E G n13 0 (k := a0.toNatClampNeg) (aA_k g14).1 (cc_a100 (aA_k g14).2.1) rfl (inb_k g15).1 (inb_k g15).2 (aA_k g14).2.2 dX3_failAt_29 ?_
      refine lv_topi (fun v16 ev16 => ?_)
      have h := elet_at ev16 h
      clear ev16
      refine lv_goto (tgt := 34) hx hb dX3_failAt_30 (by decide) ?_
      have hl := lv_sub hl [] rfl
      exact x_X3_failAt_b34 E hA hX hN hml trivial hst htab hlocks (fun H locs t G hvm h1 h2 => ⟨T1, trivial, ⟨⟨rfl, rfl⟩, (c_thrown G hK hvm h1 h2).1⟩, (c_thrown G hK hvm h1 h2).2⟩) _ _ _ _ _ _ h G hl
def g_X3_takeWord_b17 (tx : Nat × (Nat → Int32))  (T : AT) (l0 : Nat) : Option (Nat × Int32 × AT) := oif (oO T l0 3 = true) <| elet (T.2.2.1 l0 1) fun v3 => elet (v3 + 1) fun v4 => oif (oO T l0 3 = true) <| elet (uI T l0 1 v4) fun T6 => some (0, 0, T6)
set_option maxHeartbeats 4000000 in
set_option maxRecDepth 100000 in
theorem u_X3_takeWord_b17 {p : Program} {l : Launch} {e : Env} {s : State} {m : MethodId} {args : Array Value} {below : List Frame} {meth : Method} {c : Code} {Q : State → Prop} {D : va_G} {A : Nat → Prop} {cI cJ cZ cMic cSrc cSt cAI cAJ : ClassId} {ad : Nat → Nat} {r1 : Int32} {T1 : AT} (E : cE p c cX3_takeWord s m args (Cond.code yX3_takeWord cX3_takeWord 2 none :: wsA) D RX3 (CT cI cJ cZ cMic cSrc cSt cAI cAJ)) (hA : ∀ q : Nat, s.heap.size ≤ q → A q) (hX : xT A s) (hN : nX s) (hml : c.maxLocals = 2) (hst : l.stackTraces = false) {h0 : Nat} (hA0 : ∀ a : Nat, A a → h0 ≤ a) (hT : sAll h0 s) {q : Nat} {tx : Nat × (Nat → Int32)} (hO : sO tx q (fun a => h0 ≤ a) s s.heap) (hC : sT tx) (kr27 : ∀ (H : Heap) (locs : List Loc) (ls : Array Slot), gC cI cJ cZ cMic cSrc cSt cAI cAJ D ad A s.heap H locs T1 → W p l e { frames := 7, cells := 0, slots := 0, locals := 111 } s m args below meth c H locs 0 0 Q (F0 m 27 ls [])) : ∀ (T : AT) (H : Heap) (locs : List Loc) (ls : Array Slot) (l0 : Nat), g_X3_takeWord_b17 tx T l0 = some (0, r1, T1) → gC cI cJ cZ cMic cSrc cSt cAI cAJ D ad A s.heap H locs T → lv_has ls 2 [(0, .ref (ad l0))] → W p l e { frames := 7, cells := 0, slots := 0, locals := 111 } s m args below meth c H locs 0 0 Q (F0 m 17 ls []) := by
  have hx := E.1
  have hb := E.2.1
  have hts := E.2.2.1
  have hown := E.2.2.2.1
  have hK := E.2.2.2.2
  intro T H locs ls l0 h G hl
  unfold g_X3_takeWord_b17 at h
  refine lv_aload_n hx hb dX3_takeWord_17 rfl (lv_at hl 0 rfl) ?_
  refine lv_dup hx hb dX3_takeWord_18 rfl ?_
  obtain ⟨g2, h⟩ := oif_some h
  refine c_get E G l0 1 (oO_k g2).1 (cc_o3 (oO_k g2).2) rfl (fun w h => .tail _ (iA_17 h)) (by decide) (.tail _ qA_176) rfl rfl dX3_takeWord_19 ?_
  refine lv_topi (fun v3 ev3 => ?_)
  have h := elet_at ev3 h
  clear ev3
  refine lv_iconst (v := 1) hx hb dX3_takeWord_22 (by decide) ?_
  refine lv_iadd hx hb dX3_takeWord_23 ?_
  refine lv_topi (fun v4 ev4 => ?_)
  have h := elet_at ev4 h
  clear ev4
  obtain ⟨g5, h⟩ := oif_some h
  refine c_put E G l0 1 (v := .int v4) (oO_k g5).1 (cc_o3 (oO_k g5).2) rfl (fun w h => .tail _ (iA_17 h)) tyX3 tyX3_ok nmX3 (by decide) (.tail _ qA_176) ⟨rfl, rfl, rfl⟩ rfl rfl (Nat.le_of_ble_eq_true rfl) dX3_takeWord_24 (fun H locs G => ?_)
  have G := gC_up_i (f := upd (T.2.2.1 l0) 1 v4) (by rw [(oO_k g5).2]; rfl) G
  obtain ⟨T6, eT6, h⟩ := elet_some h
  have G : gC cI cJ cZ cMic cSrc cSt cAI cAJ D ad A s.heap H locs T6 := by rw [eT6]; exact G
  clear eT6
  rw [(osome3 h).2.2] at G
  exact kr27 _ _ _ G
def g_X3_takeWord (T : AT) (tx : Nat × (Nat → Int32)) (o : Nat) : Option (Nat × Int32 × AT) := oif (oO T o 3 = true) <| obind2 (g_X3_isWord T tx o) fun r5 T3 => if r5 = 0 then (oif (oO T3 o 3 = true) <| elet (T3.2.2.1 o 1) fun v9 => oif (oO T3 o 3 = true) <| othr (g_X3_failAt T3 o v9 (1 : Int32)) 0 fun r13 T11 => g_X3_takeWord_b17 tx T11 o) else (g_X3_takeWord_b17 tx T3 o)
set_option maxHeartbeats 4000000 in
set_option maxRecDepth 100000 in
theorem u_X3_takeWord (l : Launch) (hst : l.stackTraces = false) (D : va_G) (cI cJ cZ cMic cSrc cSt cAI cAJ : ClassId) (ad : Nat → Nat) (T : AT) (h0 : Nat) {q : Nat} {tx : Nat × (Nat → Int32)} (hC : sT tx) (o : Nat) {r1 : Int32} {T1 : AT} (h : g_X3_takeWord T tx o = some (0, r1, T1)) : kCvX l yX3_takeWord (Cond.code yX3_takeWord cX3_takeWord 2 none :: wsA) 7 111 cI cJ cZ cMic cSrc cSt cAI cAJ D ad T [.ref (ad o), .ref q] (yT1 cI cJ cZ cMic cSrc cSt cAI cAJ h0 ad T tx q) (fun T9 => T9 = T1) := by
  intro sz
  refine Met.ofW (cc := cX3_takeWord) (maxL := 2) (ret := none) (by decide) rfl ?_
  intro p e s m args below meth c s₁ B hml hv
  obtain ⟨rfl, ⟨hsz, hP, hK, hD0, hX, hN⟩, ⟨hA1, hT⟩, hO⟩ := hv
  have hx := B.exec
  have hb := B.bytes
  have hr := B.returns
  have hts := atoms_spec (ws := (Cond.code yX3_takeWord cX3_takeWord 2 none :: wsA)) B.pre
  have hown : s.vm.findClass RX3 = some m.cls := findClass_of_methodNamed B.named
  have hlocks := B.notSynchronized
  subst hsz
  have hD := hD0.self (sz := s.heap.size)
  generalize hAe : va_A (cW ad T.1 (cc cI cJ cZ cMic cSrc cSt cAI cAJ ad T)) s.heap.size = A at hD hX hA1 ⊢
  have hA : ∀ q : Nat, s.heap.size ≤ q → A q := fun q h => by rw [← hAe]; exact Or.inr h
  have G : gC cI cJ cZ cMic cSrc cSt cAI cAJ D ad A s.heap s.heap [] T := ⟨hP, hD, va_S.rf⟩
  have E : cE p c cX3_takeWord s m ([.ref (ad o), .ref q] : List Value).toArray (Cond.code yX3_takeWord cX3_takeWord 2 none :: wsA) D RX3 (CT cI cJ cZ cMic cSrc cSt cAI cAJ) := ⟨hx, hb, hts, hown, hK⟩
  have hA0 : ∀ a : Nat, A a → h0 ≤ a := hA1
  have hl := lv_entry ([.ref (ad o), .ref q]) (n := 2) (Nat.le_of_ble_eq_true rfl)
  rw [lg_entry_eq]
  generalize (lg_sl ([.ref (ad o), .ref q]) ++ List.replicate (2 - (lg_sl ([.ref (ad o), .ref q])).length) Slot.unset).toArray = ls at hl ⊢
  have hl : lv_has ls 2 [(0, .ref (ad o)), (1, .ref q)] := hl
  unfold g_X3_takeWord at h
  refine lv_aload_n hx hb dX3_takeWord_0 rfl (lv_at hl 0 rfl) ?_
  refine lv_aload_n hx hb dX3_takeWord_1 rfl (lv_at hl 1 rfl) ?_
  obtain ⟨g2, h⟩ := oif_some h
  obtain ⟨r5, T3, eT3, h⟩ := obind2_some h
  refine q_cviX (As := [.ref q]) (rest := []) E G hA hX hN hml (u_X3_isWord l hst D cI cJ cZ cMic cSrc cSt cAI cAJ ad T h0 (q := q) hC o eT3) (cwV 1 hts (gaV qA_232 qA_233 qA_234 qA_222 qA_235) rfl rfl rfl (by decide +kernel) ⟨Nat.le_of_ble_eq_true rfl, Nat.le_of_ble_eq_true rfl⟩) (oO_k g2).1 (cc_o3 (oO_k g2).2) rfl rfl hl.1 rfl (lv_room (Nat.le_of_ble_eq_true rfl)) dX3_takeWord_2 ⟨Nat.zero_le _, Nat.zero_le _⟩ (yT1.blind) (yT1.go hT hA0 hA G hO) (fun q6 T4 H locs hq G => ?_)
  obtain ⟨hq1, hq2⟩ := hq
  rw [hq2] at G
  refine lv_to hq1 ?_
  clear hq1 hq2 eT3
  refine lv_if_ne (tgt := 17) hx hb dX3_takeWord_5 (by decide) (fun c7 => ?_) (fun c7 => ?_)
  · have h := oif_neg c7 h
    have hl := lv_sub hl [0] rfl
    exact u_X3_takeWord_b17 E hA hX hN hml hst hA0 hT hO hC (fun H locs ls G => W.vret hx hb hr (fun t ht hW => ⟨⟨T1, rfl, rfl, ⟨by rw [ht]; exact G.1, va_K.moved hW.alike hK, G.2.1⟩⟩, G.2.2.F ht⟩) G.2.2.2.2 dX3_takeWord_27) _ _ _ _ _ h G hl
  · have h := oif_pos c7 h
    refine lv_aload_n hx hb dX3_takeWord_8 rfl (lv_at hl 0 rfl) ?_
    refine lv_aload_n hx hb dX3_takeWord_9 rfl (lv_at hl 0 rfl) ?_
    obtain ⟨g8, h⟩ := oif_some h
    refine c_get E G o 1 (oO_k g8).1 (cc_o3 (oO_k g8).2) rfl (fun w h => .tail _ (iA_17 h)) (by decide) (.tail _ qA_176) rfl rfl dX3_takeWord_10 ?_
    refine lv_topi (fun v9 ev9 => ?_)
    have h := elet_at ev9 h
    clear ev9
    refine lv_iconst (v := 1) hx hb dX3_takeWord_13 (by decide) ?_
    obtain ⟨g10, h⟩ := oif_some h
    obtain ⟨r13, T11, eT11, h⟩ := othr_n h
    refine q_cvv (As := [.int v9, .int 1]) (rest := []) E G hA hX hN hml (u_X3_failAt l hst D cI cJ cZ cMic cSrc cSt cAI cAJ ad T3 o v9 (1 : Int32) eT11) (cwV 2 hts (gaV qA_293 qA_294 qA_295 qA_222 qA_296) rfl rfl rfl (by decide +kernel) ⟨Nat.le_of_ble_eq_true rfl, Nat.le_of_ble_eq_true rfl⟩) (oO_k g10).1 (cc_o3 (oO_k g10).2) rfl rfl hl.1 rfl (lv_room (Nat.le_of_ble_eq_true rfl)) dX3_takeWord_14 ⟨Nat.zero_le _, Nat.zero_le _⟩ (fun T12 H locs hq G => ?_)
    rw [hq] at G
    clear hq eT11
    have hl := lv_sub hl [0] rfl
    exact u_X3_takeWord_b17 E hA hX hN hml hst hA0 hT hO hC (fun H locs ls G => W.vret hx hb hr (fun t ht hW => ⟨⟨T1, rfl, rfl, ⟨by rw [ht]; exact G.1, va_K.moved hW.alike hK, G.2.1⟩⟩, G.2.2.F ht⟩) G.2.2.2.2 dX3_takeWord_27) _ _ _ _ _ h G hl
set_option maxHeartbeats 4000000 in
set_option maxRecDepth 100000 in
theorem s_X3_takeWord_b17 {tx : Nat × (Nat → Int32)} {e1 : Nat} {r1 : Int32} {T1 : AT} : ∀ (T : AT) (l0 : Nat), g_X3_takeWord_b17 tx T l0 = some (e1, r1, T1) → SP T T1 := by
  intro T l0 h
  have p0 := SP.rf T
  unfold g_X3_takeWord_b17 at h
  obtain ⟨g2, h⟩ := oif_some h
  obtain ⟨v3, -, h⟩ := elet_some h
  obtain ⟨v4, -, h⟩ := elet_some h
  obtain ⟨g5, h⟩ := oif_some h
  obtain ⟨T6, eT6, h⟩ := elet_some h
  have p1 : SP T T6 := SP.tr p0 (by rw [eT6]; exact sp_uI)
  rw [← (osome3 h).2.2]
  exact p1
set_option maxHeartbeats 4000000 in
set_option maxRecDepth 100000 in
theorem s_X3_takeWord {T : AT} {tx : Nat × (Nat → Int32)} {o : Nat} {e1 : Nat} {r1 : Int32} {T1 : AT} (h : g_X3_takeWord T tx o = some (e1, r1, T1)) : SP T T1 := by
  have p0 := SP.rf T
  unfold g_X3_takeWord at h
  obtain ⟨g2, h⟩ := oif_some h
  obtain ⟨r4, T3, eT3, h⟩ := obind2_some h
  have p1 : SP T T3 := SP.tr p0 (s_X3_isWord eT3)
  rcases oif_or h with ⟨c5, h⟩ | ⟨c5, h⟩
  · have h := h
    obtain ⟨g6, h⟩ := oif_some h
    obtain ⟨v7, -, h⟩ := elet_some h
    obtain ⟨g8, h⟩ := oif_some h
    rcases othr_s h with ⟨k9, r9, e9, -⟩ | ⟨r10, T9, eT9, h⟩
    · exact SP.tr p1 (s_X3_failAt e9)
    have p2 : SP T T9 := SP.tr p1 (s_X3_failAt eT9)
    exact SP.tr p2 (s_X3_takeWord_b17 _ _ h)
  · have h := h
    exact SP.tr p1 (s_X3_takeWord_b17 _ _ h)
set_option maxHeartbeats 4000000 in
set_option maxRecDepth 100000 in
theorem x_X3_takeWord_b17 {p : Program} {l : Launch} {e : Env} {s : State} {m : MethodId} {args : Array Value} {below : List Frame} {meth : Method} {c : Code} {Qc : Array Value → State → Outcome → State → Prop} {XC : String → State → State → Prop} {D : va_G} {A : Nat → Prop} {cI cJ cZ cMic cSrc cSt cAI cAJ : ClassId} {ad : Nat → Nat} {e1 : Nat} {r1 : Int32} {T1 : AT} (E : cE p c cX3_takeWord s m args (Cond.code yX3_takeWord cX3_takeWord 2 none :: wsA) D RX3 (CT cI cJ cZ cMic cSrc cSt cAI cAJ)) (hA : ∀ q : Nat, s.heap.size ≤ q → A q) (hX : xT A s) (hN : nX s) (hml : c.maxLocals = 2) {h0 : Nat} (hA0 : ∀ a : Nat, A a → h0 ≤ a) (hT : sAll h0 s) {q : Nat} {tx : Nat × (Nat → Int32)} (hO : sO tx q (fun a => h0 ≤ a) s s.heap) (hC : sT tx) (hz9 : True) (hst : l.stackTraces = false) (htab : ∀ x ∈ c.exceptionTable.toList, False) (hlocks : meth.locks = false) (kx : ∀ (H : Heap) (locs : List Loc) (t : State), gC cI cJ cZ cMic cSrc cSt cAI cAJ D ad A s.heap H locs T1 → s.vm.Alike t.vm → H.size ≤ t.heap.size → (∀ q, q < H.size → t.heap[q]? = H[q]?) → XC (exn e1) s t) : ∀ (T : AT) (H : Heap) (locs : List Loc) (ls : Array Slot) (l0 : Nat), g_X3_takeWord_b17 tx T l0 = some (e1 + 1, r1, T1) → gC cI cJ cZ cMic cSrc cSt cAI cAJ D ad A s.heap H locs T → lv_has ls 2 [(0, .ref (ad l0))] → W p l e { frames := 7, cells := 1, slots := 6, locals := 111 } s m args below meth c H locs 0 0 (vx_MQ below Qc XC args s 1 6 A) (F0 m 17 ls []) := by
  have hx := E.1
  have hb := E.2.1
  have hts := E.2.2.1
  have hown := E.2.2.2.1
  have hK := E.2.2.2.2
  intro T H locs ls l0 h G hl
  unfold g_X3_takeWord_b17 at h
  refine lv_aload_n hx hb dX3_takeWord_17 rfl (lv_at hl 0 rfl) ?_
  refine lv_dup hx hb dX3_takeWord_18 rfl ?_
  obtain ⟨g2, h⟩ := oif_some h
  refine c_get E G l0 1 (oO_k g2).1 (cc_o3 (oO_k g2).2) rfl (fun w h => .tail _ (iA_17 h)) (by decide) (.tail _ qA_176) rfl rfl dX3_takeWord_19 ?_
  refine lv_topi (fun v3 ev3 => ?_)
  have h := elet_at ev3 h
  clear ev3
  refine lv_iconst (v := 1) hx hb dX3_takeWord_22 (by decide) ?_
  refine lv_iadd hx hb dX3_takeWord_23 ?_
  refine lv_topi (fun v4 ev4 => ?_)
  have h := elet_at ev4 h
  clear ev4
  obtain ⟨g5, h⟩ := oif_some h
  refine c_put E G l0 1 (v := .int v4) (oO_k g5).1 (cc_o3 (oO_k g5).2) rfl (fun w h => .tail _ (iA_17 h)) tyX3 tyX3_ok nmX3 (by decide) (.tail _ qA_176) ⟨rfl, rfl, rfl⟩ rfl rfl (Nat.le_of_ble_eq_true rfl) dX3_takeWord_24 (fun H locs G => ?_)
  have G := gC_up_i (f := upd (T.2.2.1 l0) 1 v4) (by rw [(oO_k g5).2]; rfl) G
  obtain ⟨T6, eT6, h⟩ := elet_some h
  have G : gC cI cJ cZ cMic cSrc cSt cAI cAJ D ad A s.heap H locs T6 := by rw [eT6]; exact G
  clear eT6
  exact (Nat.succ_ne_zero _ (congrArg Prod.fst (Option.some.inj h)).symm).elim
set_option maxHeartbeats 4000000 in
set_option maxRecDepth 100000 in
theorem x_X3_takeWord (l : Launch) (hst : l.stackTraces = false) (D : va_G) (cI cJ cZ cMic cSrc cSt cAI cAJ : ClassId) (ad : Nat → Nat) (T : AT) (h0 : Nat) {q : Nat} {tx : Nat × (Nat → Int32)} (hC : sT tx) (o : Nat) {e1 : Nat} {r1 : Int32} {T1 : AT} (h : g_X3_takeWord T tx o = some (e1 + 1, r1, T1)) : kXvX l yX3_takeWord (Cond.code yX3_takeWord cX3_takeWord 2 none :: wsA) 7 111 cI cJ cZ cMic cSrc cSt cAI cAJ D ad T [.ref (ad o), .ref q] (yT1 cI cJ cZ cMic cSrc cSt cAI cAJ h0 ad T tx q) e1 T1 := by
  intro sz
  refine vx_ofW (cc := cX3_takeWord) (maxL := 2) (ret := none) (by decide) rfl ?_
  intro p e s m args below meth c s₁ B hml htab hv
  obtain ⟨rfl, ⟨hsz, hP, hK, hD0, hX, hN⟩, ⟨hA1, hT⟩, hO⟩ := hv
  have hx := B.exec
  have hb := B.bytes
  have hr := B.returns
  have hts := atoms_spec (ws := (Cond.code yX3_takeWord cX3_takeWord 2 none :: wsA)) B.pre
  have hown : s.vm.findClass RX3 = some m.cls := findClass_of_methodNamed B.named
  have hlocks := B.notSynchronized
  subst hsz
  have hD := hD0.self (sz := s.heap.size)
  generalize hAe : va_A (cW ad T.1 (cc cI cJ cZ cMic cSrc cSt cAI cAJ ad T)) s.heap.size = A at hD hX hA1 ⊢
  have hA : ∀ q : Nat, s.heap.size ≤ q → A q := fun q h => by rw [← hAe]; exact Or.inr h
  have G : gC cI cJ cZ cMic cSrc cSt cAI cAJ D ad A s.heap s.heap [] T := ⟨hP, hD, va_S.rf⟩
  have E : cE p c cX3_takeWord s m ([.ref (ad o), .ref q] : List Value).toArray (Cond.code yX3_takeWord cX3_takeWord 2 none :: wsA) D RX3 (CT cI cJ cZ cMic cSrc cSt cAI cAJ) := ⟨hx, hb, hts, hown, hK⟩
  have htab : ∀ x ∈ c.exceptionTable.toList, False := fun x hx => htab x hx
  have hA0 : ∀ a : Nat, A a → h0 ≤ a := hA1
  have hl := lv_entry ([.ref (ad o), .ref q]) (n := 2) (Nat.le_of_ble_eq_true rfl)
  rw [lg_entry_eq]
  generalize (lg_sl ([.ref (ad o), .ref q]) ++ List.replicate (2 - (lg_sl ([.ref (ad o), .ref q])).length) Slot.unset).toArray = ls at hl ⊢
  have hl : lv_has ls 2 [(0, .ref (ad o)), (1, .ref q)] := hl
  unfold g_X3_takeWord at h
  refine lv_aload_n hx hb dX3_takeWord_0 rfl (lv_at hl 0 rfl) ?_
  refine lv_aload_n hx hb dX3_takeWord_1 rfl (lv_at hl 1 rfl) ?_
  obtain ⟨g2, h⟩ := oif_some h
  obtain ⟨r5, T3, eT3, h⟩ := obind2_some h
  refine q_cviX (As := [.ref q]) (rest := []) E G hA hX hN hml (u_X3_isWord l hst D cI cJ cZ cMic cSrc cSt cAI cAJ ad T h0 (q := q) hC o eT3) (cwV 1 hts (gaV qA_232 qA_233 qA_234 qA_222 qA_235) rfl rfl rfl (by decide +kernel) ⟨Nat.le_of_ble_eq_true rfl, Nat.le_of_ble_eq_true rfl⟩) (oO_k g2).1 (cc_o3 (oO_k g2).2) rfl rfl hl.1 rfl (lv_room (Nat.le_of_ble_eq_true rfl)) dX3_takeWord_2 ⟨Nat.zero_le _, Nat.zero_le _⟩ (yT1.blind) (yT1.go hT hA0 hA G hO) (fun q6 T4 H locs hq G => ?_)
  obtain ⟨hq1, hq2⟩ := hq
  rw [hq2] at G
  refine lv_to hq1 ?_
  clear hq1 hq2 eT3
  refine lv_if_ne (tgt := 17) hx hb dX3_takeWord_5 (by decide) (fun c7 => ?_) (fun c7 => ?_)
  · have h := oif_neg c7 h
    have hl := lv_sub hl [0] rfl
    exact x_X3_takeWord_b17 E hA hX hN hml hA0 hT hO hC trivial hst htab hlocks (fun H locs t G hvm h1 h2 => ⟨T1, trivial, ⟨⟨rfl, rfl⟩, (c_thrown G hK hvm h1 h2).1⟩, (c_thrown G hK hvm h1 h2).2⟩) _ _ _ _ _ h G hl
  · have h := oif_pos c7 h
    refine lv_aload_n hx hb dX3_takeWord_8 rfl (lv_at hl 0 rfl) ?_
    refine lv_aload_n hx hb dX3_takeWord_9 rfl (lv_at hl 0 rfl) ?_
    obtain ⟨g8, h⟩ := oif_some h
    refine c_get E G o 1 (oO_k g8).1 (cc_o3 (oO_k g8).2) rfl (fun w h => .tail _ (iA_17 h)) (by decide) (.tail _ qA_176) rfl rfl dX3_takeWord_10 ?_
    refine lv_topi (fun v9 ev9 => ?_)
    have h := elet_at ev9 h
    clear ev9
    refine lv_iconst (v := 1) hx hb dX3_takeWord_13 (by decide) ?_
    obtain ⟨g10, h⟩ := oif_some h
    rcases othr_t h with ⟨r0, eT11⟩ | ⟨r13, T11, eT11, h⟩
    · refine q_xvv (As := [.int v9, .int 1]) (rest := []) E G hA hX hN hml (x_X3_failAt l hst D cI cJ cZ cMic cSrc cSt cAI cAJ ad T3 o v9 (1 : Int32) eT11) (cwV 2 hts (gaV qA_293 qA_294 qA_295 qA_222 qA_296) rfl rfl rfl (by decide +kernel) ⟨Nat.le_of_ble_eq_true rfl, Nat.le_of_ble_eq_true rfl⟩) (oO_k g10).1 (cc_o3 (oO_k g10).2) rfl rfl hl.1 rfl (lv_room (Nat.le_of_ble_eq_true rfl)) dX3_takeWord_14 ⟨Nat.le_of_ble_eq_true rfl, Nat.le_of_ble_eq_true rfl⟩ (fun E9 ce q9 T9 H locs hp G hce hcv hcl => ?_)
      obtain ⟨hE, hT⟩ := hp
      subst hE
      rw [hT] at G
      exact vx_out (fun x hx => (htab x hx).elim) hlocks hce hcv hcl (fun t ht hvm => ⟨T1, trivial, ⟨⟨rfl, rfl⟩, by rw [ht]; exact G.1, va_K.moved hvm hK, G.2.1⟩, G.2.2.F ht⟩) G.2.2.2.2 (Nat.le_refl _) (Nat.le_refl _)
    refine q_cvv (As := [.int v9, .int 1]) (rest := []) E G hA hX hN hml (u_X3_failAt l hst D cI cJ cZ cMic cSrc cSt cAI cAJ ad T3 o v9 (1 : Int32) eT11) (cwV 2 hts (gaV qA_293 qA_294 qA_295 qA_222 qA_296) rfl rfl rfl (by decide +kernel) ⟨Nat.le_of_ble_eq_true rfl, Nat.le_of_ble_eq_true rfl⟩) (oO_k g10).1 (cc_o3 (oO_k g10).2) rfl rfl hl.1 rfl (lv_room (Nat.le_of_ble_eq_true rfl)) dX3_takeWord_14 ⟨Nat.zero_le _, Nat.zero_le _⟩ (fun T12 H locs hq G => ?_)
    rw [hq] at G
    clear hq eT11
    have hl := lv_sub hl [0] rfl
    exact x_X3_takeWord_b17 E hA hX hN hml hA0 hT hO hC trivial hst htab hlocks (fun H locs t G hvm h1 h2 => ⟨T1, trivial, ⟨⟨rfl, rfl⟩, (c_thrown G hK hvm h1 h2).1⟩, (c_thrown G hK hvm h1 h2).2⟩) _ _ _ _ _ h G hl
def g_X3_value_b15  : Nat → AT → Nat → Int32 → Int32 → Option (Int32 × AT)
  | 0, _, _, _, _ => none
  | n + 1, T, l0, l1, l2 => oif (oO T l0 3 = true) <| obind (T.2.2.2.2 l0 0) fun n3 => oif (oO T n3 9 = true) <| obind (T.2.2.2.2 n3 4) fun n5 => oif (oO T l0 3 = true) <| elet (T.2.2.1 l0 1) fun v7 => oif (aA T n5 100 = true) <| oif (inb v7 (T.2.1 n5).2 = true) <| elet (T.2.2.1 n5 v7.toNatClampNeg) fun v10 => if v10 ≤ l2 then (some (l1, T)) else (elet (10 * l1) fun v12 => oif (oO T l0 3 = true) <| obind (T.2.2.2.2 l0 0) fun n14 => oif (oO T n14 9 = true) <| obind (T.2.2.2.2 n14 0) fun n16 => oif (aA T n16 100 = true) <| oif (inb l2 (T.2.1 n16).2 = true) <| elet (T.2.2.1 n16 l2.toNatClampNeg) fun v19 => elet (v12 + v19) fun v20 => elet (v20 - 48) fun v21 => elet (l2 + Int32.ofInt (1)) fun v22 => g_X3_value_b15 n T l0 v21 v22)
set_option maxHeartbeats 4000000 in
set_option maxRecDepth 100000 in
theorem u_X3_value_b15 {p : Program} {l : Launch} {e : Env} {s : State} {m : MethodId} {args : Array Value} {below : List Frame} {meth : Method} {c : Code} {Q : State → Prop} {D : va_G} {A : Nat → Prop} {cI cJ cZ cMic cSrc cSt cAI cAJ : ClassId} {ad : Nat → Nat} {r1 : Int32} {T1 : AT} (E : cE p c cX3_value s m args (Cond.code yX3_value cX3_value 3 (some .int) :: wsA) D RX3 (CT cI cJ cZ cMic cSrc cSt cAI cAJ)) (hA : ∀ q : Nat, s.heap.size ≤ q → A q) (hX : xT A s) (hN : nX s) (hml : c.maxLocals = 3) (hst : l.stackTraces = false) (kr56 : ∀ (H : Heap) (locs : List Loc) (ls : Array Slot), gC cI cJ cZ cMic cSrc cSt cAI cAJ D ad A s.heap H locs T1 → W p l e { frames := 1, cells := 0, slots := 0, locals := 0 } s m args below meth c H locs 0 0 Q (F0 m 56 ls [.int r1])) : ∀ n : Nat, ∀ (T : AT) (H : Heap) (locs : List Loc) (ls : Array Slot) (l0 : Nat) (l1 : Int32) (l2 : Int32), g_X3_value_b15 n T l0 l1 l2 = some (r1, T1) → gC cI cJ cZ cMic cSrc cSt cAI cAJ D ad A s.heap H locs T → lv_has ls 3 [(0, .ref (ad l0)), (1, .int l1), (2, .int l2)] → W p l e { frames := 1, cells := 0, slots := 0, locals := 0 } s m args below meth c H locs 0 0 Q (F0 m 15 ls []) := by
  have hx := E.1
  have hb := E.2.1
  have hts := E.2.2.1
  have hown := E.2.2.2.1
  have hK := E.2.2.2.2
  intro n
  induction n with
  | zero =>
    intro T H locs ls l0 l1 l2 h
    have h : (none : Option (Int32 × AT)) = some (r1, T1) := h
    cases h
  | succ n ih =>
    intro T H locs ls l0 l1 l2 h G hl
    unfold g_X3_value_b15 at h
    refine lv_iload_n hx hb dX3_value_15 rfl (lv_at hl 2 rfl) ?_
    refine lv_aload_n hx hb dX3_value_16 rfl (lv_at hl 0 rfl) ?_
    obtain ⟨g2, h⟩ := oif_some h
    obtain ⟨n3, en3, h⟩ := obind_some h
    refine c_get E G l0 0 (v := .ref (ad n3)) (oO_k g2).1 (cc_o3 (oO_k g2).2) rfl (fun w h => .tail _ (iA_17 h)) (by decide) (.tail _ qA_174) rfl (by rw [en3]; rfl) dX3_value_17 ?_
    clear en3
    obtain ⟨g4, h⟩ := oif_some h
    obtain ⟨n5, en5, h⟩ := obind_some h
    refine c_get E G n3 4 (v := .ref (ad n5)) (oO_k g4).1 (cc_o9 (oO_k g4).2) rfl (fun w h => .tail _ (iA_18 h)) (by decide) (.tail _ qA_237) rfl (by rw [en5]; rfl) dX3_value_20 ?_
    clear en5
    refine lv_aload_n hx hb dX3_value_23 rfl (lv_at hl 0 rfl) ?_
    obtain ⟨g6, h⟩ := oif_some h
    refine c_get E G l0 1 (oO_k g6).1 (cc_o3 (oO_k g6).2) rfl (fun w h => .tail _ (iA_17 h)) (by decide) (.tail _ qA_176) rfl rfl dX3_value_24 ?_
    refine lv_topi (fun v7 ev7 => ?_)
    have h := elet_at ev7 h
    clear ev7
    obtain ⟨g8, h⟩ := oif_some h
    obtain ⟨g9, h⟩ := oif_some h
    refine c_iald E G n5 0 (k := v7.toNatClampNeg) (aA_k g8).1 (cc_a100 (aA_k g8).2.1) rfl (inb_k g9).1 (inb_k g9).2 (aA_k g8).2.2 dX3_value_27 ?_
    refine lv_topi (fun v10 ev10 => ?_)
    have h := elet_at ev10 h
    clear ev10
    refine lv_icmp_ge (tgt := 55) hx hb dX3_value_28 (by decide) (fun c11 => ?_) (fun c11 => ?_)
    · have h := oif_pos c11 h
      refine lv_iload_n hx hb dX3_value_55 rfl (lv_at hl 1 rfl) ?_
      rw [(osome2 h).2] at G
      refine lv_to (osome2 h).1 ?_
      exact kr56 _ _ _ G
    · have h := oif_neg c11 h
      refine lv_bipush (v := 10) hx hb dX3_value_31 (by decide) ?_
      refine lv_iload_n hx hb dX3_value_33 rfl (lv_at hl 1 rfl) ?_
      refine lv_imul hx hb dX3_value_34 ?_
      refine lv_topi (fun v12 ev12 => ?_)
      have h := elet_at ev12 h
      clear ev12
      refine lv_aload_n hx hb dX3_value_35 rfl (lv_at hl 0 rfl) ?_
      obtain ⟨g13, h⟩ := oif_some h
      obtain ⟨n14, en14, h⟩ := obind_some h
      refine c_get E G l0 0 (v := .ref (ad n14)) (oO_k g13).1 (cc_o3 (oO_k g13).2) rfl (fun w h => .tail _ (iA_17 h)) (by decide) (.tail _ qA_174) rfl (by rw [en14]; rfl) dX3_value_36 ?_
      clear en14
      obtain ⟨g15, h⟩ := oif_some h
      obtain ⟨n16, en16, h⟩ := obind_some h
      refine c_get E G n14 0 (v := .ref (ad n16)) (oO_k g15).1 (cc_o9 (oO_k g15).2) rfl (fun w h => .tail _ (iA_18 h)) (by decide) (.tail _ qA_238) rfl (by rw [en16]; rfl) dX3_value_39 ?_
      clear en16
      refine lv_iload_n hx hb dX3_value_42 rfl (lv_at hl 2 rfl) ?_
      obtain ⟨g17, h⟩ := oif_some h
      obtain ⟨g18, h⟩ := oif_some h
      refine c_iald E G n16 0 (k := l2.toNatClampNeg) (aA_k g17).1 (cc_a100 (aA_k g17).2.1) rfl (inb_k g18).1 (inb_k g18).2 (aA_k g17).2.2 dX3_value_43 ?_
      refine lv_topi (fun v19 ev19 => ?_)
      have h := elet_at ev19 h
      clear ev19
      refine lv_iadd hx hb dX3_value_44 ?_
      refine lv_topi (fun v20 ev20 => ?_)
      have h := elet_at ev20 h
      clear ev20
      refine lv_bipush (v := 48) hx hb dX3_value_45 (by decide) ?_
      refine lv_isub hx hb dX3_value_47 ?_
      refine lv_topi (fun v21 ev21 => ?_)
      have h := elet_at ev21 h
      clear ev21
      refine lv_istore_n (lv' := [(1, .int v21), (0, .ref (ad l0)), (2, .int l2)]) hx hb dX3_value_48 rfl hl (by decide) rfl (fun ls hl => ?_)
      obtain ⟨v22, ev22, h⟩ := elet_some h
      refine lv_iinc (v := v22) (lv' := [(2, .int v22), (1, .int v21), (0, .ref (ad l0))]) hx hb dX3_value_49 hl (k := 2) rfl ev22.symm (by decide) rfl (fun ls hl => ?_)
      refine lv_goto (tgt := 15) hx hb dX3_value_52 (by decide) ?_
      have hl := lv_sub hl [2, 1, 0] rfl
      exact ih _ _ _ _ _ _ _ h G hl
def g_X3_value (T : AT) (o : Nat) : Option (Int32 × AT) := oif (oO T o 3 = true) <| obind (T.2.2.2.2 o 0) fun n3 => oif (oO T n3 9 = true) <| obind (T.2.2.2.2 n3 3) fun n5 => oif (oO T o 3 = true) <| elet (T.2.2.1 o 1) fun v7 => oif (aA T n5 100 = true) <| oif (inb v7 (T.2.1 n5).2 = true) <| elet (T.2.2.1 n5 v7.toNatClampNeg) fun v10 => g_X3_value_b15 16384 T o 0 v10
set_option maxHeartbeats 4000000 in
set_option maxRecDepth 100000 in
theorem u_X3_value (l : Launch) (hst : l.stackTraces = false) (D : va_G) (cI cJ cZ cMic cSrc cSt cAI cAJ : ClassId) (ad : Nat → Nat) (T : AT) (o : Nat) {r1 : Int32} {T1 : AT} (h : g_X3_value T o = some (r1, T1)) : kCi l yX3_value (Cond.code yX3_value cX3_value 3 (some .int) :: wsA) 1 0 cI cJ cZ cMic cSrc cSt cAI cAJ D ad T [.ref (ad o)] (fun r T9 => r = r1 ∧ T9 = T1) := by
  intro sz
  refine Met.ofW (cc := cX3_value) (maxL := 3) (ret := (some .int)) (by decide) rfl ?_
  intro p e s m args below meth c s₁ B hml hv
  obtain ⟨rfl, hsz, hP, hK, hD0, hX, hN⟩ := hv
  have hx := B.exec
  have hb := B.bytes
  have hr := B.returns
  have hts := atoms_spec (ws := (Cond.code yX3_value cX3_value 3 (some .int) :: wsA)) B.pre
  have hown : s.vm.findClass RX3 = some m.cls := findClass_of_methodNamed B.named
  have hlocks := B.notSynchronized
  subst hsz
  have hD := hD0.self (sz := s.heap.size)
  generalize hAe : va_A (cW ad T.1 (cc cI cJ cZ cMic cSrc cSt cAI cAJ ad T)) s.heap.size = A at hD hX ⊢
  have hA : ∀ q : Nat, s.heap.size ≤ q → A q := fun q h => by rw [← hAe]; exact Or.inr h
  have G : gC cI cJ cZ cMic cSrc cSt cAI cAJ D ad A s.heap s.heap [] T := ⟨hP, hD, va_S.rf⟩
  have E : cE p c cX3_value s m ([.ref (ad o)] : List Value).toArray (Cond.code yX3_value cX3_value 3 (some .int) :: wsA) D RX3 (CT cI cJ cZ cMic cSrc cSt cAI cAJ) := ⟨hx, hb, hts, hown, hK⟩
  have hl := lv_entry ([.ref (ad o)]) (n := 3) (Nat.le_of_ble_eq_true rfl)
  rw [lg_entry_eq]
  generalize (lg_sl ([.ref (ad o)]) ++ List.replicate (3 - (lg_sl ([.ref (ad o)])).length) Slot.unset).toArray = ls at hl ⊢
  have hl : lv_has ls 3 [(0, .ref (ad o))] := hl
  unfold g_X3_value at h
  refine lv_iconst (v := 0) hx hb dX3_value_0 (by decide) ?_
  refine lv_istore_n (lv' := [(1, .int 0), (0, .ref (ad o))]) hx hb dX3_value_1 rfl hl (by decide) rfl (fun ls hl => ?_)
  refine lv_aload_n hx hb dX3_value_2 rfl (lv_at hl 1 rfl) ?_
  obtain ⟨g2, h⟩ := oif_some h
  obtain ⟨n3, en3, h⟩ := obind_some h
  refine c_get E G o 0 (v := .ref (ad n3)) (oO_k g2).1 (cc_o3 (oO_k g2).2) rfl (fun w h => .tail _ (iA_17 h)) (by decide) (.tail _ qA_174) rfl (by rw [en3]; rfl) dX3_value_3 ?_
  clear en3
  obtain ⟨g4, h⟩ := oif_some h
  obtain ⟨n5, en5, h⟩ := obind_some h
  refine c_get E G n3 3 (v := .ref (ad n5)) (oO_k g4).1 (cc_o9 (oO_k g4).2) rfl (fun w h => .tail _ (iA_18 h)) (by decide) (.tail _ qA_236) rfl (by rw [en5]; rfl) dX3_value_6 ?_
  clear en5
  refine lv_aload_n hx hb dX3_value_9 rfl (lv_at hl 1 rfl) ?_
  obtain ⟨g6, h⟩ := oif_some h
  refine c_get E G o 1 (oO_k g6).1 (cc_o3 (oO_k g6).2) rfl (fun w h => .tail _ (iA_17 h)) (by decide) (.tail _ qA_176) rfl rfl dX3_value_10 ?_
  refine lv_topi (fun v7 ev7 => ?_)
  have h := elet_at ev7 h
  clear ev7
  obtain ⟨g8, h⟩ := oif_some h
  obtain ⟨g9, h⟩ := oif_some h
  refine c_iald E G n5 0 (k := v7.toNatClampNeg) (aA_k g8).1 (cc_a100 (aA_k g8).2.1) rfl (inb_k g9).1 (inb_k g9).2 (aA_k g8).2.2 dX3_value_13 ?_
  refine lv_topi (fun v10 ev10 => ?_)
  have h := elet_at ev10 h
  clear ev10
  refine lv_istore_n (lv' := [(2, .int v10), (1, .int 0), (0, .ref (ad o))]) hx hb dX3_value_14 rfl hl (by decide) rfl (fun ls hl => ?_)
  have hl := lv_sub hl [2, 1, 0] rfl
  exact u_X3_value_b15 E hA hX hN hml hst (fun H locs ls G => W.iret (v := r1) hx hb hr (fun t ht hW => ⟨⟨r1, T1, rfl, ⟨rfl, rfl⟩, ⟨by rw [ht]; exact G.1, va_K.moved hW.alike hK, G.2.1⟩⟩, G.2.2.F ht⟩) G.2.2.2.2 dX3_value_56) _ _ _ _ _ _ _ _ h G hl
set_option maxHeartbeats 4000000 in
set_option maxRecDepth 100000 in
theorem s_X3_value_b15 {r1 : Int32} {T1 : AT} : ∀ n : Nat, ∀ (T : AT) (l0 : Nat) (l1 : Int32) (l2 : Int32), g_X3_value_b15 n T l0 l1 l2 = some (r1, T1) → SP T T1 := by
  intro n
  induction n with
  | zero =>
    intro T l0 l1 l2 h
    have h : (none : Option (Int32 × AT)) = some (r1, T1) := h
    cases h
  | succ n ih =>
    intro T l0 l1 l2 h
    have p0 := SP.rf T
    unfold g_X3_value_b15 at h
    obtain ⟨g2, h⟩ := oif_some h
    obtain ⟨n3, en3, h⟩ := obind_some h
    obtain ⟨g4, h⟩ := oif_some h
    obtain ⟨n5, en5, h⟩ := obind_some h
    obtain ⟨g6, h⟩ := oif_some h
    obtain ⟨v7, -, h⟩ := elet_some h
    obtain ⟨g8, h⟩ := oif_some h
    obtain ⟨g9, h⟩ := oif_some h
    obtain ⟨v10, -, h⟩ := elet_some h
    rcases oif_or h with ⟨c11, h⟩ | ⟨c11, h⟩
    · have h := h
      rw [← (osome2 h).2]
      exact p0
    · have h := h
      obtain ⟨v12, -, h⟩ := elet_some h
      obtain ⟨g13, h⟩ := oif_some h
      obtain ⟨n14, en14, h⟩ := obind_some h
      obtain ⟨g15, h⟩ := oif_some h
      obtain ⟨n16, en16, h⟩ := obind_some h
      obtain ⟨g17, h⟩ := oif_some h
      obtain ⟨g18, h⟩ := oif_some h
      obtain ⟨v19, -, h⟩ := elet_some h
      obtain ⟨v20, -, h⟩ := elet_some h
      obtain ⟨v21, -, h⟩ := elet_some h
      obtain ⟨v22, ev22, h⟩ := elet_some h
      exact SP.tr p0 (ih _ _ _ _ h)
set_option maxHeartbeats 4000000 in
set_option maxRecDepth 100000 in
theorem s_X3_value {T : AT} {o : Nat} {r1 : Int32} {T1 : AT} (h : g_X3_value T o = some (r1, T1)) : SP T T1 := by
  have p0 := SP.rf T
  unfold g_X3_value at h
  obtain ⟨g2, h⟩ := oif_some h
  obtain ⟨n3, en3, h⟩ := obind_some h
  obtain ⟨g4, h⟩ := oif_some h
  obtain ⟨n5, en5, h⟩ := obind_some h
  obtain ⟨g6, h⟩ := oif_some h
  obtain ⟨v7, -, h⟩ := elet_some h
  obtain ⟨g8, h⟩ := oif_some h
  obtain ⟨g9, h⟩ := oif_some h
  obtain ⟨v10, -, h⟩ := elet_some h
  exact SP.tr p0 (s_X3_value_b15 _ _ _ _ _ h)
end
section
/-! 11ke.cd4.lean.txt -/
def g_X3_number_b41  (T : AT) (l0 : Nat) (l3 : Int32) : Option (Nat × Int32 × AT) := oif (oO T l0 3 = true) <| elet (T.2.2.1 l0 1) fun v3 => elet (v3 + 1) fun v4 => oif (oO T l0 3 = true) <| elet (uI T l0 1 v4) fun T6 => some (0, l3, T6)
set_option maxHeartbeats 4000000 in
set_option maxRecDepth 100000 in
theorem u_X3_number_b41 {p : Program} {l : Launch} {e : Env} {s : State} {m : MethodId} {args : Array Value} {below : List Frame} {meth : Method} {c : Code} {Q : State → Prop} {D : va_G} {A : Nat → Prop} {cI cJ cZ cMic cSrc cSt cAI cAJ : ClassId} {ad : Nat → Nat} {r1 : Int32} {T1 : AT} (E : cE p c cX3_number s m args (Cond.code yX3_number cX3_number 4 (some .int) :: wsA) D RX3 (CT cI cJ cZ cMic cSrc cSt cAI cAJ)) (hA : ∀ q : Nat, s.heap.size ≤ q → A q) (hX : xT A s) (hN : nX s) (hml : c.maxLocals = 4) (hst : l.stackTraces = false) (kr52 : ∀ (H : Heap) (locs : List Loc) (ls : Array Slot), gC cI cJ cZ cMic cSrc cSt cAI cAJ D ad A s.heap H locs T1 → W p l e { frames := 7, cells := 0, slots := 0, locals := 103 } s m args below meth c H locs 0 0 Q (F0 m 52 ls [.int r1])) : ∀ (T : AT) (H : Heap) (locs : List Loc) (ls : Array Slot) (l0 : Nat) (l3 : Int32), g_X3_number_b41 T l0 l3 = some (0, r1, T1) → gC cI cJ cZ cMic cSrc cSt cAI cAJ D ad A s.heap H locs T → lv_has ls 4 [(0, .ref (ad l0)), (3, .int l3)] → W p l e { frames := 7, cells := 0, slots := 0, locals := 103 } s m args below meth c H locs 0 0 Q (F0 m 41 ls []) := by
  have hx := E.1
  have hb := E.2.1
  have hts := E.2.2.1
  have hown := E.2.2.2.1
  have hK := E.2.2.2.2
  intro T H locs ls l0 l3 h G hl
  unfold g_X3_number_b41 at h
  refine lv_aload_n hx hb dX3_number_41 rfl (lv_at hl 0 rfl) ?_
  refine lv_dup hx hb dX3_number_42 rfl ?_
  obtain ⟨g2, h⟩ := oif_some h
  refine c_get E G l0 1 (oO_k g2).1 (cc_o3 (oO_k g2).2) rfl (fun w h => .tail _ (iA_17 h)) (by decide) (.tail _ qA_176) rfl rfl dX3_number_43 ?_
  refine lv_topi (fun v3 ev3 => ?_)
  have h := elet_at ev3 h
  clear ev3
  refine lv_iconst (v := 1) hx hb dX3_number_46 (by decide) ?_
  refine lv_iadd hx hb dX3_number_47 ?_
  refine lv_topi (fun v4 ev4 => ?_)
  have h := elet_at ev4 h
  clear ev4
  obtain ⟨g5, h⟩ := oif_some h
  refine c_put E G l0 1 (v := .int v4) (oO_k g5).1 (cc_o3 (oO_k g5).2) rfl (fun w h => .tail _ (iA_17 h)) tyX3 tyX3_ok nmX3 (by decide) (.tail _ qA_176) ⟨rfl, rfl, rfl⟩ rfl rfl (Nat.le_of_ble_eq_true rfl) dX3_number_48 (fun H locs G => ?_)
  have G := gC_up_i (f := upd (T.2.2.1 l0) 1 v4) (by rw [(oO_k g5).2]; rfl) G
  obtain ⟨T6, eT6, h⟩ := elet_some h
  have G : gC cI cJ cZ cMic cSrc cSt cAI cAJ D ad A s.heap H locs T6 := by rw [eT6]; exact G
  clear eT6
  refine lv_iload_n hx hb dX3_number_51 rfl (lv_at hl 1 rfl) ?_
  rw [(osome3 h).2.2] at G
  refine lv_to (osome3 h).2.1 ?_
  exact kr52 _ _ _ G
def g_X3_number_b32  (T : AT) (l0 : Nat) (l3 : Int32) : Option (Nat × Int32 × AT) := oif (oO T l0 3 = true) <| elet (T.2.2.1 l0 1) fun v3 => oif (oO T l0 3 = true) <| othr (g_X3_failAt T l0 v3 (2 : Int32)) 0 fun r7 T5 => g_X3_number_b41 T5 l0 l3
set_option maxHeartbeats 4000000 in
set_option maxRecDepth 100000 in
theorem u_X3_number_b32 {p : Program} {l : Launch} {e : Env} {s : State} {m : MethodId} {args : Array Value} {below : List Frame} {meth : Method} {c : Code} {Q : State → Prop} {D : va_G} {A : Nat → Prop} {cI cJ cZ cMic cSrc cSt cAI cAJ : ClassId} {ad : Nat → Nat} {r1 : Int32} {T1 : AT} (E : cE p c cX3_number s m args (Cond.code yX3_number cX3_number 4 (some .int) :: wsA) D RX3 (CT cI cJ cZ cMic cSrc cSt cAI cAJ)) (hA : ∀ q : Nat, s.heap.size ≤ q → A q) (hX : xT A s) (hN : nX s) (hml : c.maxLocals = 4) (hst : l.stackTraces = false) (kr52 : ∀ (H : Heap) (locs : List Loc) (ls : Array Slot), gC cI cJ cZ cMic cSrc cSt cAI cAJ D ad A s.heap H locs T1 → W p l e { frames := 7, cells := 0, slots := 0, locals := 103 } s m args below meth c H locs 0 0 Q (F0 m 52 ls [.int r1])) : ∀ (T : AT) (H : Heap) (locs : List Loc) (ls : Array Slot) (l0 : Nat) (l3 : Int32), g_X3_number_b32 T l0 l3 = some (0, r1, T1) → gC cI cJ cZ cMic cSrc cSt cAI cAJ D ad A s.heap H locs T → lv_has ls 4 [(0, .ref (ad l0)), (3, .int l3)] → W p l e { frames := 7, cells := 0, slots := 0, locals := 103 } s m args below meth c H locs 0 0 Q (F0 m 32 ls []) := by
  have hx := E.1
  have hb := E.2.1
  have hts := E.2.2.1
  have hown := E.2.2.2.1
  have hK := E.2.2.2.2
  intro T H locs ls l0 l3 h G hl
  unfold g_X3_number_b32 at h
  refine lv_aload_n hx hb dX3_number_32 rfl (lv_at hl 0 rfl) ?_
  refine lv_aload_n hx hb dX3_number_33 rfl (lv_at hl 0 rfl) ?_
  obtain ⟨g2, h⟩ := oif_some h
  refine c_get E G l0 1 (oO_k g2).1 (cc_o3 (oO_k g2).2) rfl (fun w h => .tail _ (iA_17 h)) (by decide) (.tail _ qA_176) rfl rfl dX3_number_34 ?_
  refine lv_topi (fun v3 ev3 => ?_)
  have h := elet_at ev3 h
  clear ev3
  refine lv_iconst (v := 2) hx hb dX3_number_37 (by decide) ?_
  obtain ⟨g4, h⟩ := oif_some h
  obtain ⟨r7, T5, eT5, h⟩ := othr_n h
  refine q_cvv (As := [.int v3, .int 2]) (rest := []) E G hA hX hN hml (u_X3_failAt l hst D cI cJ cZ cMic cSrc cSt cAI cAJ ad T l0 v3 (2 : Int32) eT5) (cwV 2 hts (gaV qA_293 qA_294 qA_295 qA_222 qA_296) rfl rfl rfl (by decide +kernel) ⟨Nat.le_of_ble_eq_true rfl, Nat.le_of_ble_eq_true rfl⟩) (oO_k g4).1 (cc_o3 (oO_k g4).2) rfl rfl hl.1 rfl (lv_room (Nat.le_of_ble_eq_true rfl)) dX3_number_38 ⟨Nat.zero_le _, Nat.zero_le _⟩ (fun T6 H locs hq G => ?_)
  rw [hq] at G
  clear hq eT5
  have hl := lv_sub hl [0, 1] rfl
  exact u_X3_number_b41 E hA hX hN hml hst kr52 _ _ _ _ _ _ h G hl
def g_X3_number_b17  (T : AT) (l0 : Nat) (l1 : Int32) (l2 : Int32) : Option (Nat × Int32 × AT) := oif (oO T l0 3 = true) <| obind2 (g_X3_value T l0) fun r5 T3 => if r5 < l1 then (g_X3_number_b32 T3 l0 r5) else (if r5 ≤ l2 then (g_X3_number_b41 T3 l0 r5) else (g_X3_number_b32 T3 l0 r5))
set_option maxHeartbeats 4000000 in
set_option maxRecDepth 100000 in
theorem u_X3_number_b17 {p : Program} {l : Launch} {e : Env} {s : State} {m : MethodId} {args : Array Value} {below : List Frame} {meth : Method} {c : Code} {Q : State → Prop} {D : va_G} {A : Nat → Prop} {cI cJ cZ cMic cSrc cSt cAI cAJ : ClassId} {ad : Nat → Nat} {r1 : Int32} {T1 : AT} (E : cE p c cX3_number s m args (Cond.code yX3_number cX3_number 4 (some .int) :: wsA) D RX3 (CT cI cJ cZ cMic cSrc cSt cAI cAJ)) (hA : ∀ q : Nat, s.heap.size ≤ q → A q) (hX : xT A s) (hN : nX s) (hml : c.maxLocals = 4) (hst : l.stackTraces = false) (kr52 : ∀ (H : Heap) (locs : List Loc) (ls : Array Slot), gC cI cJ cZ cMic cSrc cSt cAI cAJ D ad A s.heap H locs T1 → W p l e { frames := 7, cells := 0, slots := 0, locals := 103 } s m args below meth c H locs 0 0 Q (F0 m 52 ls [.int r1])) : ∀ (T : AT) (H : Heap) (locs : List Loc) (ls : Array Slot) (l0 : Nat) (l1 : Int32) (l2 : Int32), g_X3_number_b17 T l0 l1 l2 = some (0, r1, T1) → gC cI cJ cZ cMic cSrc cSt cAI cAJ D ad A s.heap H locs T → lv_has ls 4 [(0, .ref (ad l0)), (1, .int l1), (2, .int l2)] → W p l e { frames := 7, cells := 0, slots := 0, locals := 103 } s m args below meth c H locs 0 0 Q (F0 m 17 ls []) := by
  have hx := E.1
  have hb := E.2.1
  have hts := E.2.2.1
  have hown := E.2.2.2.1
  have hK := E.2.2.2.2
  intro T H locs ls l0 l1 l2 h G hl
  unfold g_X3_number_b17 at h
  refine lv_aload_n hx hb dX3_number_17 rfl (lv_at hl 0 rfl) ?_
  obtain ⟨g2, h⟩ := oif_some h
  obtain ⟨r5, T3, eT3, h⟩ := obind2_some h
  refine q_cvi (As := []) (rest := []) E G hA hX hN hml (u_X3_value l hst D cI cJ cZ cMic cSrc cSt cAI cAJ ad T l0 eT3) (cwV 0 hts (gaV qA_303 qA_304 qA_305 qA_222 qA_306) rfl rfl rfl (by decide +kernel) ⟨Nat.le_of_ble_eq_true rfl, Nat.le_of_ble_eq_true rfl⟩) (oO_k g2).1 (cc_o3 (oO_k g2).2) rfl rfl hl.1 rfl (lv_room (Nat.le_of_ble_eq_true rfl)) dX3_number_18 ⟨Nat.zero_le _, Nat.zero_le _⟩ (fun q6 T4 H locs hq G => ?_)
  obtain ⟨hq1, hq2⟩ := hq
  rw [hq2] at G
  refine lv_to hq1 ?_
  clear hq1 hq2 eT3
  refine lv_istore_n (lv' := [(3, .int r5), (0, .ref (ad l0)), (1, .int l1), (2, .int l2)]) hx hb dX3_number_21 rfl hl (by decide) rfl (fun ls hl => ?_)
  refine lv_iload_n hx hb dX3_number_22 rfl (lv_at hl 0 rfl) ?_
  refine lv_iload_n hx hb dX3_number_23 rfl (lv_at hl 2 rfl) ?_
  refine lv_icmp_lt (tgt := 32) hx hb dX3_number_24 (by decide) (fun c7 => ?_) (fun c7 => ?_)
  · have h := oif_pos c7 h
    have hl := lv_sub hl [1, 0] rfl
    exact u_X3_number_b32 E hA hX hN hml hst kr52 _ _ _ _ _ _ h G hl
  · have h := oif_neg c7 h
    refine lv_iload_n hx hb dX3_number_27 rfl (lv_at hl 0 rfl) ?_
    refine lv_iload_n hx hb dX3_number_28 rfl (lv_at hl 3 rfl) ?_
    refine lv_icmp_le (tgt := 41) hx hb dX3_number_29 (by decide) (fun c8 => ?_) (fun c8 => ?_)
    · have h := oif_pos c8 h
      have hl := lv_sub hl [1, 0] rfl
      exact u_X3_number_b41 E hA hX hN hml hst kr52 _ _ _ _ _ _ h G hl
    · have h := oif_neg c8 h
      have hl := lv_sub hl [1, 0] rfl
      exact u_X3_number_b32 E hA hX hN hml hst kr52 _ _ _ _ _ _ h G hl
def g_X3_number (T : AT) (o : Nat) (a0 : Int32) (a1 : Int32) : Option (Nat × Int32 × AT) := oif (oO T o 3 = true) <| obind2 (g_X3_kind T o) fun r5 T3 => if r5 = 2 then (g_X3_number_b17 T3 o a0 a1) else (oif (oO T3 o 3 = true) <| elet (T3.2.2.1 o 1) fun v9 => oif (oO T3 o 3 = true) <| othr (g_X3_failAt T3 o v9 (1 : Int32)) 0 fun r13 T11 => g_X3_number_b17 T11 o a0 a1)
set_option maxHeartbeats 4000000 in
set_option maxRecDepth 100000 in
theorem u_X3_number (l : Launch) (hst : l.stackTraces = false) (D : va_G) (cI cJ cZ cMic cSrc cSt cAI cAJ : ClassId) (ad : Nat → Nat) (T : AT) (o : Nat) (a0 : Int32) (a1 : Int32) {r1 : Int32} {T1 : AT} (h : g_X3_number T o a0 a1 = some (0, r1, T1)) : kCi l yX3_number (Cond.code yX3_number cX3_number 4 (some .int) :: wsA) 7 103 cI cJ cZ cMic cSrc cSt cAI cAJ D ad T [.ref (ad o), .int a0, .int a1] (fun r T9 => r = r1 ∧ T9 = T1) := by
  intro sz
  refine Met.ofW (cc := cX3_number) (maxL := 4) (ret := (some .int)) (by decide) rfl ?_
  intro p e s m args below meth c s₁ B hml hv
  obtain ⟨rfl, hsz, hP, hK, hD0, hX, hN⟩ := hv
  have hx := B.exec
  have hb := B.bytes
  have hr := B.returns
  have hts := atoms_spec (ws := (Cond.code yX3_number cX3_number 4 (some .int) :: wsA)) B.pre
  have hown : s.vm.findClass RX3 = some m.cls := findClass_of_methodNamed B.named
  have hlocks := B.notSynchronized
  subst hsz
  have hD := hD0.self (sz := s.heap.size)
  generalize hAe : va_A (cW ad T.1 (cc cI cJ cZ cMic cSrc cSt cAI cAJ ad T)) s.heap.size = A at hD hX ⊢
  have hA : ∀ q : Nat, s.heap.size ≤ q → A q := fun q h => by rw [← hAe]; exact Or.inr h
  have G : gC cI cJ cZ cMic cSrc cSt cAI cAJ D ad A s.heap s.heap [] T := ⟨hP, hD, va_S.rf⟩
  have E : cE p c cX3_number s m ([.ref (ad o), .int a0, .int a1] : List Value).toArray (Cond.code yX3_number cX3_number 4 (some .int) :: wsA) D RX3 (CT cI cJ cZ cMic cSrc cSt cAI cAJ) := ⟨hx, hb, hts, hown, hK⟩
  have hl := lv_entry ([.ref (ad o), .int a0, .int a1]) (n := 4) (Nat.le_of_ble_eq_true rfl)
  rw [lg_entry_eq]
  generalize (lg_sl ([.ref (ad o), .int a0, .int a1]) ++ List.replicate (4 - (lg_sl ([.ref (ad o), .int a0, .int a1])).length) Slot.unset).toArray = ls at hl ⊢
  have hl : lv_has ls 4 [(0, .ref (ad o)), (1, .int a0), (2, .int a1)] := hl
  unfold g_X3_number at h
  refine lv_aload_n hx hb dX3_number_0 rfl (lv_at hl 0 rfl) ?_
  obtain ⟨g2, h⟩ := oif_some h
  obtain ⟨r5, T3, eT3, h⟩ := obind2_some h
  refine q_cvi (As := []) (rest := []) E G hA hX hN hml (u_X3_kind l hst D cI cJ cZ cMic cSrc cSt cAI cAJ ad T o eT3) (cwV 0 hts (gaV qA_239 qA_240 qA_241 qA_222 qA_242) rfl rfl rfl (by decide +kernel) ⟨Nat.le_of_ble_eq_true rfl, Nat.le_of_ble_eq_true rfl⟩) (oO_k g2).1 (cc_o3 (oO_k g2).2) rfl rfl hl.1 rfl (lv_room (Nat.le_of_ble_eq_true rfl)) dX3_number_1 ⟨Nat.zero_le _, Nat.zero_le _⟩ (fun q6 T4 H locs hq G => ?_)
  obtain ⟨hq1, hq2⟩ := hq
  rw [hq2] at G
  refine lv_to hq1 ?_
  clear hq1 hq2 eT3
  refine lv_iconst (v := 2) hx hb dX3_number_4 (by decide) ?_
  refine lv_icmp_eq (tgt := 17) hx hb dX3_number_5 (by decide) (fun c7 => ?_) (fun c7 => ?_)
  · have h := oif_pos c7 h
    have hl := lv_sub hl [0, 1, 2] rfl
    exact u_X3_number_b17 E hA hX hN hml hst (fun H locs ls G => W.iret (v := r1) hx hb hr (fun t ht hW => ⟨⟨r1, T1, rfl, ⟨rfl, rfl⟩, ⟨by rw [ht]; exact G.1, va_K.moved hW.alike hK, G.2.1⟩⟩, G.2.2.F ht⟩) G.2.2.2.2 dX3_number_52) _ _ _ _ _ _ _ h G hl
  · have h := oif_neg c7 h
    refine lv_aload_n hx hb dX3_number_8 rfl (lv_at hl 0 rfl) ?_
    refine lv_aload_n hx hb dX3_number_9 rfl (lv_at hl 0 rfl) ?_
    obtain ⟨g8, h⟩ := oif_some h
    refine c_get E G o 1 (oO_k g8).1 (cc_o3 (oO_k g8).2) rfl (fun w h => .tail _ (iA_17 h)) (by decide) (.tail _ qA_176) rfl rfl dX3_number_10 ?_
    refine lv_topi (fun v9 ev9 => ?_)
    have h := elet_at ev9 h
    clear ev9
    refine lv_iconst (v := 1) hx hb dX3_number_13 (by decide) ?_
    obtain ⟨g10, h⟩ := oif_some h
    obtain ⟨r13, T11, eT11, h⟩ := othr_n h
    refine q_cvv (As := [.int v9, .int 1]) (rest := []) E G hA hX hN hml (u_X3_failAt l hst D cI cJ cZ cMic cSrc cSt cAI cAJ ad T3 o v9 (1 : Int32) eT11) (cwV 2 hts (gaV qA_293 qA_294 qA_295 qA_222 qA_296) rfl rfl rfl (by decide +kernel) ⟨Nat.le_of_ble_eq_true rfl, Nat.le_of_ble_eq_true rfl⟩) (oO_k g10).1 (cc_o3 (oO_k g10).2) rfl rfl hl.1 rfl (lv_room (Nat.le_of_ble_eq_true rfl)) dX3_number_14 ⟨Nat.zero_le _, Nat.zero_le _⟩ (fun T12 H locs hq G => ?_)
    rw [hq] at G
    clear hq eT11
    have hl := lv_sub hl [0, 1, 2] rfl
    exact u_X3_number_b17 E hA hX hN hml hst (fun H locs ls G => W.iret (v := r1) hx hb hr (fun t ht hW => ⟨⟨r1, T1, rfl, ⟨rfl, rfl⟩, ⟨by rw [ht]; exact G.1, va_K.moved hW.alike hK, G.2.1⟩⟩, G.2.2.F ht⟩) G.2.2.2.2 dX3_number_52) _ _ _ _ _ _ _ h G hl
set_option maxHeartbeats 4000000 in
set_option maxRecDepth 100000 in
theorem s_X3_number_b41 {e1 : Nat} {r1 : Int32} {T1 : AT} : ∀ (T : AT) (l0 : Nat) (l3 : Int32), g_X3_number_b41 T l0 l3 = some (e1, r1, T1) → SP T T1 := by
  intro T l0 l3 h
  have p0 := SP.rf T
  unfold g_X3_number_b41 at h
  obtain ⟨g2, h⟩ := oif_some h
  obtain ⟨v3, -, h⟩ := elet_some h
  obtain ⟨v4, -, h⟩ := elet_some h
  obtain ⟨g5, h⟩ := oif_some h
  obtain ⟨T6, eT6, h⟩ := elet_some h
  have p1 : SP T T6 := SP.tr p0 (by rw [eT6]; exact sp_uI)
  rw [← (osome3 h).2.2]
  exact p1
set_option maxHeartbeats 4000000 in
set_option maxRecDepth 100000 in
theorem s_X3_number_b32 {e1 : Nat} {r1 : Int32} {T1 : AT} : ∀ (T : AT) (l0 : Nat) (l3 : Int32), g_X3_number_b32 T l0 l3 = some (e1, r1, T1) → SP T T1 := by
  intro T l0 l3 h
  have p0 := SP.rf T
  unfold g_X3_number_b32 at h
  obtain ⟨g2, h⟩ := oif_some h
  obtain ⟨v3, -, h⟩ := elet_some h
  obtain ⟨g4, h⟩ := oif_some h
  rcases othr_s h with ⟨k9, r9, e9, -⟩ | ⟨r6, T5, eT5, h⟩
  · exact SP.tr p0 (s_X3_failAt e9)
  have p1 : SP T T5 := SP.tr p0 (s_X3_failAt eT5)
  exact SP.tr p1 (s_X3_number_b41 _ _ _ h)
set_option maxHeartbeats 4000000 in
set_option maxRecDepth 100000 in
theorem s_X3_number_b17 {e1 : Nat} {r1 : Int32} {T1 : AT} : ∀ (T : AT) (l0 : Nat) (l1 : Int32) (l2 : Int32), g_X3_number_b17 T l0 l1 l2 = some (e1, r1, T1) → SP T T1 := by
  intro T l0 l1 l2 h
  have p0 := SP.rf T
  unfold g_X3_number_b17 at h
  obtain ⟨g2, h⟩ := oif_some h
  obtain ⟨r4, T3, eT3, h⟩ := obind2_some h
  have p1 : SP T T3 := SP.tr p0 (s_X3_value eT3)
  rcases oif_or h with ⟨c5, h⟩ | ⟨c5, h⟩
  · have h := h
    exact SP.tr p1 (s_X3_number_b32 _ _ _ h)
  · have h := h
    rcases oif_or h with ⟨c6, h⟩ | ⟨c6, h⟩
    · have h := h
      exact SP.tr p1 (s_X3_number_b41 _ _ _ h)
    · have h := h
      exact SP.tr p1 (s_X3_number_b32 _ _ _ h)
set_option maxHeartbeats 4000000 in
set_option maxRecDepth 100000 in
theorem s_X3_number {T : AT} {o : Nat} {a0 : Int32} {a1 : Int32} {e1 : Nat} {r1 : Int32} {T1 : AT} (h : g_X3_number T o a0 a1 = some (e1, r1, T1)) : SP T T1 := by
  have p0 := SP.rf T
  unfold g_X3_number at h
  obtain ⟨g2, h⟩ := oif_some h
  obtain ⟨r4, T3, eT3, h⟩ := obind2_some h
  have p1 : SP T T3 := SP.tr p0 (s_X3_kind eT3)
  rcases oif_or h with ⟨c5, h⟩ | ⟨c5, h⟩
  · have h := h
    exact SP.tr p1 (s_X3_number_b17 _ _ _ _ h)
  · have h := h
    obtain ⟨g6, h⟩ := oif_some h
    obtain ⟨v7, -, h⟩ := elet_some h
    obtain ⟨g8, h⟩ := oif_some h
    rcases othr_s h with ⟨k9, r9, e9, -⟩ | ⟨r10, T9, eT9, h⟩
    · exact SP.tr p1 (s_X3_failAt e9)
    have p2 : SP T T9 := SP.tr p1 (s_X3_failAt eT9)
    exact SP.tr p2 (s_X3_number_b17 _ _ _ _ h)
set_option maxHeartbeats 4000000 in
set_option maxRecDepth 100000 in
theorem x_X3_number_b41 {p : Program} {l : Launch} {e : Env} {s : State} {m : MethodId} {args : Array Value} {below : List Frame} {meth : Method} {c : Code} {Qc : Array Value → State → Outcome → State → Prop} {XC : String → State → State → Prop} {D : va_G} {A : Nat → Prop} {cI cJ cZ cMic cSrc cSt cAI cAJ : ClassId} {ad : Nat → Nat} {e1 : Nat} {r1 : Int32} {T1 : AT} (E : cE p c cX3_number s m args (Cond.code yX3_number cX3_number 4 (some .int) :: wsA) D RX3 (CT cI cJ cZ cMic cSrc cSt cAI cAJ)) (hA : ∀ q : Nat, s.heap.size ≤ q → A q) (hX : xT A s) (hN : nX s) (hml : c.maxLocals = 4) (hz9 : True) (hst : l.stackTraces = false) (htab : ∀ x ∈ c.exceptionTable.toList, False) (hlocks : meth.locks = false) (kx : ∀ (H : Heap) (locs : List Loc) (t : State), gC cI cJ cZ cMic cSrc cSt cAI cAJ D ad A s.heap H locs T1 → s.vm.Alike t.vm → H.size ≤ t.heap.size → (∀ q, q < H.size → t.heap[q]? = H[q]?) → XC (exn e1) s t) : ∀ (T : AT) (H : Heap) (locs : List Loc) (ls : Array Slot) (l0 : Nat) (l3 : Int32), g_X3_number_b41 T l0 l3 = some (e1 + 1, r1, T1) → gC cI cJ cZ cMic cSrc cSt cAI cAJ D ad A s.heap H locs T → lv_has ls 4 [(0, .ref (ad l0)), (3, .int l3)] → W p l e { frames := 7, cells := 1, slots := 6, locals := 103 } s m args below meth c H locs 0 0 (vx_MQ below Qc XC args s 1 6 A) (F0 m 41 ls []) := by
  have hx := E.1
  have hb := E.2.1
  have hts := E.2.2.1
  have hown := E.2.2.2.1
  have hK := E.2.2.2.2
  intro T H locs ls l0 l3 h G hl
  unfold g_X3_number_b41 at h
  refine lv_aload_n hx hb dX3_number_41 rfl (lv_at hl 0 rfl) ?_
  refine lv_dup hx hb dX3_number_42 rfl ?_
  obtain ⟨g2, h⟩ := oif_some h
  refine c_get E G l0 1 (oO_k g2).1 (cc_o3 (oO_k g2).2) rfl (fun w h => .tail _ (iA_17 h)) (by decide) (.tail _ qA_176) rfl rfl dX3_number_43 ?_
  refine lv_topi (fun v3 ev3 => ?_)
  have h := elet_at ev3 h
  clear ev3
  refine lv_iconst (v := 1) hx hb dX3_number_46 (by decide) ?_
  refine lv_iadd hx hb dX3_number_47 ?_
  refine lv_topi (fun v4 ev4 => ?_)
  have h := elet_at ev4 h
  clear ev4
  obtain ⟨g5, h⟩ := oif_some h
  refine c_put E G l0 1 (v := .int v4) (oO_k g5).1 (cc_o3 (oO_k g5).2) rfl (fun w h => .tail _ (iA_17 h)) tyX3 tyX3_ok nmX3 (by decide) (.tail _ qA_176) ⟨rfl, rfl, rfl⟩ rfl rfl (Nat.le_of_ble_eq_true rfl) dX3_number_48 (fun H locs G => ?_)
  have G := gC_up_i (f := upd (T.2.2.1 l0) 1 v4) (by rw [(oO_k g5).2]; rfl) G
  obtain ⟨T6, eT6, h⟩ := elet_some h
  have G : gC cI cJ cZ cMic cSrc cSt cAI cAJ D ad A s.heap H locs T6 := by rw [eT6]; exact G
  clear eT6
  refine lv_iload_n hx hb dX3_number_51 rfl (lv_at hl 1 rfl) ?_
  exact (Nat.succ_ne_zero _ (congrArg Prod.fst (Option.some.inj h)).symm).elim
set_option maxHeartbeats 4000000 in
set_option maxRecDepth 100000 in
theorem x_X3_number_b32 {p : Program} {l : Launch} {e : Env} {s : State} {m : MethodId} {args : Array Value} {below : List Frame} {meth : Method} {c : Code} {Qc : Array Value → State → Outcome → State → Prop} {XC : String → State → State → Prop} {D : va_G} {A : Nat → Prop} {cI cJ cZ cMic cSrc cSt cAI cAJ : ClassId} {ad : Nat → Nat} {e1 : Nat} {r1 : Int32} {T1 : AT} (E : cE p c cX3_number s m args (Cond.code yX3_number cX3_number 4 (some .int) :: wsA) D RX3 (CT cI cJ cZ cMic cSrc cSt cAI cAJ)) (hA : ∀ q : Nat, s.heap.size ≤ q → A q) (hX : xT A s) (hN : nX s) (hml : c.maxLocals = 4) (hz9 : True) (hst : l.stackTraces = false) (htab : ∀ x ∈ c.exceptionTable.toList, False) (hlocks : meth.locks = false) (kx : ∀ (H : Heap) (locs : List Loc) (t : State), gC cI cJ cZ cMic cSrc cSt cAI cAJ D ad A s.heap H locs T1 → s.vm.Alike t.vm → H.size ≤ t.heap.size → (∀ q, q < H.size → t.heap[q]? = H[q]?) → XC (exn e1) s t) : ∀ (T : AT) (H : Heap) (locs : List Loc) (ls : Array Slot) (l0 : Nat) (l3 : Int32), g_X3_number_b32 T l0 l3 = some (e1 + 1, r1, T1) → gC cI cJ cZ cMic cSrc cSt cAI cAJ D ad A s.heap H locs T → lv_has ls 4 [(0, .ref (ad l0)), (3, .int l3)] → W p l e { frames := 7, cells := 1, slots := 6, locals := 103 } s m args below meth c H locs 0 0 (vx_MQ below Qc XC args s 1 6 A) (F0 m 32 ls []) := by
  have hx := E.1
  have hb := E.2.1
  have hts := E.2.2.1
  have hown := E.2.2.2.1
  have hK := E.2.2.2.2
  intro T H locs ls l0 l3 h G hl
  unfold g_X3_number_b32 at h
  refine lv_aload_n hx hb dX3_number_32 rfl (lv_at hl 0 rfl) ?_
  refine lv_aload_n hx hb dX3_number_33 rfl (lv_at hl 0 rfl) ?_
  obtain ⟨g2, h⟩ := oif_some h
  refine c_get E G l0 1 (oO_k g2).1 (cc_o3 (oO_k g2).2) rfl (fun w h => .tail _ (iA_17 h)) (by decide) (.tail _ qA_176) rfl rfl dX3_number_34 ?_
  refine lv_topi (fun v3 ev3 => ?_)
  have h := elet_at ev3 h
  clear ev3
  refine lv_iconst (v := 2) hx hb dX3_number_37 (by decide) ?_
  obtain ⟨g4, h⟩ := oif_some h
  rcases othr_t h with ⟨r0, eT5⟩ | ⟨r7, T5, eT5, h⟩
  · refine q_xvv (As := [.int v3, .int 2]) (rest := []) E G hA hX hN hml (x_X3_failAt l hst D cI cJ cZ cMic cSrc cSt cAI cAJ ad T l0 v3 (2 : Int32) eT5) (cwV 2 hts (gaV qA_293 qA_294 qA_295 qA_222 qA_296) rfl rfl rfl (by decide +kernel) ⟨Nat.le_of_ble_eq_true rfl, Nat.le_of_ble_eq_true rfl⟩) (oO_k g4).1 (cc_o3 (oO_k g4).2) rfl rfl hl.1 rfl (lv_room (Nat.le_of_ble_eq_true rfl)) dX3_number_38 ⟨Nat.le_of_ble_eq_true rfl, Nat.le_of_ble_eq_true rfl⟩ (fun E9 ce q9 T9 H locs hp G hce hcv hcl => ?_)
    obtain ⟨hE, hT⟩ := hp
    subst hE
    rw [hT] at G
    exact vx_out (fun x hx => (htab x hx).elim) hlocks hce hcv hcl (fun t ht hvm => kx _ _ _ G hvm (by rw [ht]; exact Nat.le_refl _) (fun q hq => by rw [ht])) G.2.2.2.2 (Nat.le_refl _) (Nat.le_refl _)
  refine q_cvv (As := [.int v3, .int 2]) (rest := []) E G hA hX hN hml (u_X3_failAt l hst D cI cJ cZ cMic cSrc cSt cAI cAJ ad T l0 v3 (2 : Int32) eT5) (cwV 2 hts (gaV qA_293 qA_294 qA_295 qA_222 qA_296) rfl rfl rfl (by decide +kernel) ⟨Nat.le_of_ble_eq_true rfl, Nat.le_of_ble_eq_true rfl⟩) (oO_k g4).1 (cc_o3 (oO_k g4).2) rfl rfl hl.1 rfl (lv_room (Nat.le_of_ble_eq_true rfl)) dX3_number_38 ⟨Nat.zero_le _, Nat.zero_le _⟩ (fun T6 H locs hq G => ?_)
  rw [hq] at G
  clear hq eT5
  have hl := lv_sub hl [0, 1] rfl
  exact x_X3_number_b41 E hA hX hN hml trivial hst htab hlocks kx _ _ _ _ _ _ h G hl
set_option maxHeartbeats 4000000 in
set_option maxRecDepth 100000 in
theorem x_X3_number_b17 {p : Program} {l : Launch} {e : Env} {s : State} {m : MethodId} {args : Array Value} {below : List Frame} {meth : Method} {c : Code} {Qc : Array Value → State → Outcome → State → Prop} {XC : String → State → State → Prop} {D : va_G} {A : Nat → Prop} {cI cJ cZ cMic cSrc cSt cAI cAJ : ClassId} {ad : Nat → Nat} {e1 : Nat} {r1 : Int32} {T1 : AT} (E : cE p c cX3_number s m args (Cond.code yX3_number cX3_number 4 (some .int) :: wsA) D RX3 (CT cI cJ cZ cMic cSrc cSt cAI cAJ)) (hA : ∀ q : Nat, s.heap.size ≤ q → A q) (hX : xT A s) (hN : nX s) (hml : c.maxLocals = 4) (hz9 : True) (hst : l.stackTraces = false) (htab : ∀ x ∈ c.exceptionTable.toList, False) (hlocks : meth.locks = false) (kx : ∀ (H : Heap) (locs : List Loc) (t : State), gC cI cJ cZ cMic cSrc cSt cAI cAJ D ad A s.heap H locs T1 → s.vm.Alike t.vm → H.size ≤ t.heap.size → (∀ q, q < H.size → t.heap[q]? = H[q]?) → XC (exn e1) s t) : ∀ (T : AT) (H : Heap) (locs : List Loc) (ls : Array Slot) (l0 : Nat) (l1 : Int32) (l2 : Int32), g_X3_number_b17 T l0 l1 l2 = some (e1 + 1, r1, T1) → gC cI cJ cZ cMic cSrc cSt cAI cAJ D ad A s.heap H locs T → lv_has ls 4 [(0, .ref (ad l0)), (1, .int l1), (2, .int l2)] → W p l e { frames := 7, cells := 1, slots := 6, locals := 103 } s m args below meth c H locs 0 0 (vx_MQ below Qc XC args s 1 6 A) (F0 m 17 ls []) := by
  have hx := E.1
  have hb := E.2.1
  have hts := E.2.2.1
  have hown := E.2.2.2.1
  have hK := E.2.2.2.2
  intro T H locs ls l0 l1 l2 h G hl
  unfold g_X3_number_b17 at h
  refine lv_aload_n hx hb dX3_number_17 rfl (lv_at hl 0 rfl) ?_
  obtain ⟨g2, h⟩ := oif_some h
  obtain ⟨r5, T3, eT3, h⟩ := obind2_some h
  refine q_cvi (As := []) (rest := []) E G hA hX hN hml (u_X3_value l hst D cI cJ cZ cMic cSrc cSt cAI cAJ ad T l0 eT3) (cwV 0 hts (gaV qA_303 qA_304 qA_305 qA_222 qA_306) rfl rfl rfl (by decide +kernel) ⟨Nat.le_of_ble_eq_true rfl, Nat.le_of_ble_eq_true rfl⟩) (oO_k g2).1 (cc_o3 (oO_k g2).2) rfl rfl hl.1 rfl (lv_room (Nat.le_of_ble_eq_true rfl)) dX3_number_18 ⟨Nat.zero_le _, Nat.zero_le _⟩ (fun q6 T4 H locs hq G => ?_)
  obtain ⟨hq1, hq2⟩ := hq
  rw [hq2] at G
  refine lv_to hq1 ?_
  clear hq1 hq2 eT3
  refine lv_istore_n (lv' := [(3, .int r5), (0, .ref (ad l0)), (1, .int l1), (2, .int l2)]) hx hb dX3_number_21 rfl hl (by decide) rfl (fun ls hl => ?_)
  refine lv_iload_n hx hb dX3_number_22 rfl (lv_at hl 0 rfl) ?_
  refine lv_iload_n hx hb dX3_number_23 rfl (lv_at hl 2 rfl) ?_
  refine lv_icmp_lt (tgt := 32) hx hb dX3_number_24 (by decide) (fun c7 => ?_) (fun c7 => ?_)
  · have h := oif_pos c7 h
    have hl := lv_sub hl [1, 0] rfl
    exact x_X3_number_b32 E hA hX hN hml trivial hst htab hlocks kx _ _ _ _ _ _ h G hl
  · have h := oif_neg c7 h
    refine lv_iload_n hx hb dX3_number_27 rfl (lv_at hl 0 rfl) ?_
    refine lv_iload_n hx hb dX3_number_28 rfl (lv_at hl 3 rfl) ?_
    refine lv_icmp_le (tgt := 41) hx hb dX3_number_29 (by decide) (fun c8 => ?_) (fun c8 => ?_)
    · have h := oif_pos c8 h
      have hl := lv_sub hl [1, 0] rfl
      exact x_X3_number_b41 E hA hX hN hml trivial hst htab hlocks kx _ _ _ _ _ _ h G hl
    · have h := oif_neg c8 h
      have hl := lv_sub hl [1, 0] rfl
      exact x_X3_number_b32 E hA hX hN hml trivial hst htab hlocks kx _ _ _ _ _ _ h G hl
set_option maxHeartbeats 4000000 in
set_option maxRecDepth 100000 in
theorem x_X3_number (l : Launch) (hst : l.stackTraces = false) (D : va_G) (cI cJ cZ cMic cSrc cSt cAI cAJ : ClassId) (ad : Nat → Nat) (T : AT) (o : Nat) (a0 : Int32) (a1 : Int32) {e1 : Nat} {r1 : Int32} {T1 : AT} (h : g_X3_number T o a0 a1 = some (e1 + 1, r1, T1)) : kXi l yX3_number (Cond.code yX3_number cX3_number 4 (some .int) :: wsA) 7 103 cI cJ cZ cMic cSrc cSt cAI cAJ D ad T [.ref (ad o), .int a0, .int a1] e1 T1 := by
  intro sz
  refine vx_ofW (cc := cX3_number) (maxL := 4) (ret := (some .int)) (by decide) rfl ?_
  intro p e s m args below meth c s₁ B hml htab hv
  obtain ⟨rfl, hsz, hP, hK, hD0, hX, hN⟩ := hv
  have hx := B.exec
  have hb := B.bytes
  have hr := B.returns
  have hts := atoms_spec (ws := (Cond.code yX3_number cX3_number 4 (some .int) :: wsA)) B.pre
  have hown : s.vm.findClass RX3 = some m.cls := findClass_of_methodNamed B.named
  have hlocks := B.notSynchronized
  subst hsz
  have hD := hD0.self (sz := s.heap.size)
  generalize hAe : va_A (cW ad T.1 (cc cI cJ cZ cMic cSrc cSt cAI cAJ ad T)) s.heap.size = A at hD hX ⊢
  have hA : ∀ q : Nat, s.heap.size ≤ q → A q := fun q h => by rw [← hAe]; exact Or.inr h
  have G : gC cI cJ cZ cMic cSrc cSt cAI cAJ D ad A s.heap s.heap [] T := ⟨hP, hD, va_S.rf⟩
  have E : cE p c cX3_number s m ([.ref (ad o), .int a0, .int a1] : List Value).toArray (Cond.code yX3_number cX3_number 4 (some .int) :: wsA) D RX3 (CT cI cJ cZ cMic cSrc cSt cAI cAJ) := ⟨hx, hb, hts, hown, hK⟩
  have htab : ∀ x ∈ c.exceptionTable.toList, False := fun x hx => htab x hx
  have hl := lv_entry ([.ref (ad o), .int a0, .int a1]) (n := 4) (Nat.le_of_ble_eq_true rfl)
  rw [lg_entry_eq]
  generalize (lg_sl ([.ref (ad o), .int a0, .int a1]) ++ List.replicate (4 - (lg_sl ([.ref (ad o), .int a0, .int a1])).length) Slot.unset).toArray = ls at hl ⊢
  have hl : lv_has ls 4 [(0, .ref (ad o)), (1, .int a0), (2, .int a1)] := hl
  unfold g_X3_number at h
  refine lv_aload_n hx hb dX3_number_0 rfl (lv_at hl 0 rfl) ?_
  obtain ⟨g2, h⟩ := oif_some h
  obtain ⟨r5, T3, eT3, h⟩ := obind2_some h
  refine q_cvi (As := []) (rest := []) E G hA hX hN hml (u_X3_kind l hst D cI cJ cZ cMic cSrc cSt cAI cAJ ad T o eT3) (cwV 0 hts (gaV qA_239 qA_240 qA_241 qA_222 qA_242) rfl rfl rfl (by decide +kernel) ⟨Nat.le_of_ble_eq_true rfl, Nat.le_of_ble_eq_true rfl⟩) (oO_k g2).1 (cc_o3 (oO_k g2).2) rfl rfl hl.1 rfl (lv_room (Nat.le_of_ble_eq_true rfl)) dX3_number_1 ⟨Nat.zero_le _, Nat.zero_le _⟩ (fun q6 T4 H locs hq G => ?_)
  obtain ⟨hq1, hq2⟩ := hq
  rw [hq2] at G
  refine lv_to hq1 ?_
  clear hq1 hq2 eT3
  refine lv_iconst (v := 2) hx hb dX3_number_4 (by decide) ?_
  refine lv_icmp_eq (tgt := 17) hx hb dX3_number_5 (by decide) (fun c7 => ?_) (fun c7 => ?_)
  · have h := oif_pos c7 h
    have hl := lv_sub hl [0, 1, 2] rfl
    exact x_X3_number_b17 E hA hX hN hml trivial hst htab hlocks (fun H locs t G hvm h1 h2 => ⟨T1, trivial, ⟨⟨rfl, rfl⟩, (c_thrown G hK hvm h1 h2).1⟩, (c_thrown G hK hvm h1 h2).2⟩) _ _ _ _ _ _ _ h G hl
  · have h := oif_neg c7 h
    refine lv_aload_n hx hb dX3_number_8 rfl (lv_at hl 0 rfl) ?_
    refine lv_aload_n hx hb dX3_number_9 rfl (lv_at hl 0 rfl) ?_
    obtain ⟨g8, h⟩ := oif_some h
    refine c_get E G o 1 (oO_k g8).1 (cc_o3 (oO_k g8).2) rfl (fun w h => .tail _ (iA_17 h)) (by decide) (.tail _ qA_176) rfl rfl dX3_number_10 ?_
    refine lv_topi (fun v9 ev9 => ?_)
    have h := elet_at ev9 h
    clear ev9
    refine lv_iconst (v := 1) hx hb dX3_number_13 (by decide) ?_
    obtain ⟨g10, h⟩ := oif_some h
    rcases othr_t h with ⟨r0, eT11⟩ | ⟨r13, T11, eT11, h⟩
    · refine q_xvv (As := [.int v9, .int 1]) (rest := []) E G hA hX hN hml (x_X3_failAt l hst D cI cJ cZ cMic cSrc cSt cAI cAJ ad T3 o v9 (1 : Int32) eT11) (cwV 2 hts (gaV qA_293 qA_294 qA_295 qA_222 qA_296) rfl rfl rfl (by decide +kernel) ⟨Nat.le_of_ble_eq_true rfl, Nat.le_of_ble_eq_true rfl⟩) (oO_k g10).1 (cc_o3 (oO_k g10).2) rfl rfl hl.1 rfl (lv_room (Nat.le_of_ble_eq_true rfl)) dX3_number_14 ⟨Nat.le_of_ble_eq_true rfl, Nat.le_of_ble_eq_true rfl⟩ (fun E9 ce q9 T9 H locs hp G hce hcv hcl => ?_)
      obtain ⟨hE, hT⟩ := hp
      subst hE
      rw [hT] at G
      exact vx_out (fun x hx => (htab x hx).elim) hlocks hce hcv hcl (fun t ht hvm => ⟨T1, trivial, ⟨⟨rfl, rfl⟩, by rw [ht]; exact G.1, va_K.moved hvm hK, G.2.1⟩, G.2.2.F ht⟩) G.2.2.2.2 (Nat.le_refl _) (Nat.le_refl _)
    refine q_cvv (As := [.int v9, .int 1]) (rest := []) E G hA hX hN hml (u_X3_failAt l hst D cI cJ cZ cMic cSrc cSt cAI cAJ ad T3 o v9 (1 : Int32) eT11) (cwV 2 hts (gaV qA_293 qA_294 qA_295 qA_222 qA_296) rfl rfl rfl (by decide +kernel) ⟨Nat.le_of_ble_eq_true rfl, Nat.le_of_ble_eq_true rfl⟩) (oO_k g10).1 (cc_o3 (oO_k g10).2) rfl rfl hl.1 rfl (lv_room (Nat.le_of_ble_eq_true rfl)) dX3_number_14 ⟨Nat.zero_le _, Nat.zero_le _⟩ (fun T12 H locs hq G => ?_)
    rw [hq] at G
    clear hq eT11
    have hl := lv_sub hl [0, 1, 2] rfl
    exact x_X3_number_b17 E hA hX hN hml trivial hst htab hlocks (fun H locs t G hvm h1 h2 => ⟨T1, trivial, ⟨⟨rfl, rfl⟩, (c_thrown G hK hvm h1 h2).1⟩, (c_thrown G hK hvm h1 h2).2⟩) _ _ _ _ _ _ _ h G hl
def g_X3_parseHead (T : AT) (o : Nat) (a0 : Nat) : Option (Nat × Int32 × AT) := oif (oO T o 3 = true) <| othr (g_X3_takeWord T (sTx "camera") o) 0 fun r6 T4 => oif (oO T4 o 3 = true) <| othr (g_X3_takeWord T4 (sTx "distance") o) 0 fun r12 T10 => oif (oO T10 o 3 = true) <| othr (g_X3_number T10 o (100 : Int32) (5000 : Int32)) 0 fun r17 T15 => oif (oO T15 a0 6 = true) <| elet (uI T15 a0 0 r17) fun T20 => oif (oO T20 o 3 = true) <| othr (g_X3_takeWord T20 (sTx "step") o) 0 fun r25 T23 => oif (oO T23 o 3 = true) <| othr (g_X3_number T23 o (1 : Int32) (99 : Int32)) 0 fun r30 T28 => oif (oO T28 a0 6 = true) <| elet (uI T28 a0 1 r30) fun T33 => oif (oO T33 o 3 = true) <| othr (g_X3_takeWord T33 (sTx "samples") o) 0 fun r38 T36 => oif (oO T36 o 3 = true) <| othr (g_X3_number T36 o (32 : Int32) (200 : Int32)) 0 fun r43 T41 => oif (oO T41 a0 6 = true) <| elet (uI T41 a0 2 r43) fun T46 => oif (oO T46 o 3 = true) <| othr (g_X3_takeWord T46 (sTx "limit") o) 0 fun r51 T49 => oif (oO T49 o 3 = true) <| othr (g_X3_number T49 o (1 : Int32) (9999 : Int32)) 0 fun r56 T54 => oif (oO T54 a0 6 = true) <| elet (uI T54 a0 3 r56) fun T59 => some (0, 0, T59)
set_option maxHeartbeats 4000000 in
set_option maxRecDepth 100000 in
theorem u_X3_parseHead (l : Launch) (hst : l.stackTraces = false) (D : va_G) (cI cJ cZ cMic cSrc cSt cAI cAJ : ClassId) (ad : Nat → Nat) (T : AT) (h0 : Nat) (o : Nat) (a0 : Nat) {r1 : Int32} {T1 : AT} (h : g_X3_parseHead T o a0 = some (0, r1, T1)) : kCvX l yX3_parseHead (Cond.code yX3_parseHead cX3_parseHead 2 none :: wsA) 8 132 cI cJ cZ cMic cSrc cSt cAI cAJ D ad T [.ref (ad o), .ref (ad a0)] (yT0 cI cJ cZ cMic cSrc cSt cAI cAJ h0 ad T) (fun T9 => T9 = T1) := by
  intro sz
  refine Met.ofW (cc := cX3_parseHead) (maxL := 2) (ret := none) (by decide) rfl ?_
  intro p e s m args below meth c s₁ B hml hv
  obtain ⟨rfl, ⟨hsz, hP, hK, hD0, hX, hN⟩, hA1, hT⟩ := hv
  have hx := B.exec
  have hb := B.bytes
  have hr := B.returns
  have hts := atoms_spec (ws := (Cond.code yX3_parseHead cX3_parseHead 2 none :: wsA)) B.pre
  have hown : s.vm.findClass RX3 = some m.cls := findClass_of_methodNamed B.named
  have hlocks := B.notSynchronized
  subst hsz
  have hD := hD0.self (sz := s.heap.size)
  generalize hAe : va_A (cW ad T.1 (cc cI cJ cZ cMic cSrc cSt cAI cAJ ad T)) s.heap.size = A at hD hX hA1 ⊢
  have hA : ∀ q : Nat, s.heap.size ≤ q → A q := fun q h => by rw [← hAe]; exact Or.inr h
  have G : gC cI cJ cZ cMic cSrc cSt cAI cAJ D ad A s.heap s.heap [] T := ⟨hP, hD, va_S.rf⟩
  have E : cE p c cX3_parseHead s m ([.ref (ad o), .ref (ad a0)] : List Value).toArray (Cond.code yX3_parseHead cX3_parseHead 2 none :: wsA) D RX3 (CT cI cJ cZ cMic cSrc cSt cAI cAJ) := ⟨hx, hb, hts, hown, hK⟩
  have hA0 : ∀ a : Nat, A a → h0 ≤ a := hA1
  have hl := lv_entry ([.ref (ad o), .ref (ad a0)]) (n := 2) (Nat.le_of_ble_eq_true rfl)
  rw [lg_entry_eq]
  generalize (lg_sl ([.ref (ad o), .ref (ad a0)]) ++ List.replicate (2 - (lg_sl ([.ref (ad o), .ref (ad a0)])).length) Slot.unset).toArray = ls at hl ⊢
  have hl : lv_has ls 2 [(0, .ref (ad o)), (1, .ref (ad a0))] := hl
  unfold g_X3_parseHead at h
  refine lv_aload_n hx hb dX3_parseHead_0 rfl (lv_at hl 0 rfl) ?_
  obtain ⟨w2, hw2, ow2⟩ := hT.1 ("AcousticCamera$Parser", 66, "camera") (List.mem_of_getElem? (i := 0) rfl)
  refine va_ldcS hx hb hown hw2 dX3_parseHead_1 ?_
  obtain ⟨g3, h⟩ := oif_some h
  obtain ⟨r6, T4, eT4, h⟩ := othr_n h
  refine q_cvvX (As := [.ref w2]) (rest := []) E G hA hX hN hml (u_X3_takeWord l hst D cI cJ cZ cMic cSrc cSt cAI cAJ ad T h0 (q := w2) (sTx_ok (by decide +kernel)) o eT4) (cwV 1 hts (gaV qA_228 qA_229 qA_230 qA_222 qA_231) rfl rfl rfl (by decide +kernel) ⟨Nat.le_of_ble_eq_true rfl, Nat.le_of_ble_eq_true rfl⟩) (oO_k g3).1 (cc_o3 (oO_k g3).2) rfl rfl hl.1 rfl (lv_room (Nat.le_of_ble_eq_true rfl)) dX3_parseHead_3 ⟨Nat.zero_le _, Nat.zero_le _⟩ (yT1.blind) (yT1.go hT hA0 hA G ow2) (fun T5 H locs hq G => ?_)
  rw [hq] at G
  clear hq eT4
  refine lv_aload_n hx hb dX3_parseHead_6 rfl (lv_at hl 0 rfl) ?_
  obtain ⟨w8, hw8, ow8⟩ := hT.1 ("AcousticCamera$Parser", 72, "distance") (List.mem_of_getElem? (i := 1) rfl)
  refine va_ldcS hx hb hown hw8 dX3_parseHead_7 ?_
  obtain ⟨g9, h⟩ := oif_some h
  obtain ⟨r12, T10, eT10, h⟩ := othr_n h
  refine q_cvvX (As := [.ref w8]) (rest := []) E G hA hX hN hml (u_X3_takeWord l hst D cI cJ cZ cMic cSrc cSt cAI cAJ ad T4 h0 (q := w8) (sTx_ok (by decide +kernel)) o eT10) (cwV 1 hts (gaV qA_228 qA_229 qA_230 qA_222 qA_231) rfl rfl rfl (by decide +kernel) ⟨Nat.le_of_ble_eq_true rfl, Nat.le_of_ble_eq_true rfl⟩) (oO_k g9).1 (cc_o3 (oO_k g9).2) rfl rfl hl.1 rfl (lv_room (Nat.le_of_ble_eq_true rfl)) dX3_parseHead_9 ⟨Nat.zero_le _, Nat.zero_le _⟩ (yT1.blind) (yT1.go hT hA0 hA G ow8) (fun T11 H locs hq G => ?_)
  rw [hq] at G
  clear hq eT10
  refine lv_aload_n hx hb dX3_parseHead_12 rfl (lv_at hl 1 rfl) ?_
  refine lv_aload_n hx hb dX3_parseHead_13 rfl (lv_at hl 0 rfl) ?_
  refine lv_bipush (v := 100) hx hb dX3_parseHead_14 (by decide) ?_
  refine lv_sipush (v := 5000) hx hb dX3_parseHead_16 (by decide) ?_
  obtain ⟨g14, h⟩ := oif_some h
  obtain ⟨r17, T15, eT15, h⟩ := othr_n h
  refine q_cvi (As := [.int 100, .int 5000]) (rest := [.ref (ad a0)]) E G hA hX hN hml (u_X3_number l hst D cI cJ cZ cMic cSrc cSt cAI cAJ ad T10 o (100 : Int32) (5000 : Int32) eT15) (cwV 2 hts (gaV qA_299 qA_300 qA_301 qA_222 qA_302) rfl rfl rfl (by decide +kernel) ⟨Nat.le_of_ble_eq_true rfl, Nat.le_of_ble_eq_true rfl⟩) (oO_k g14).1 (cc_o3 (oO_k g14).2) rfl rfl hl.1 rfl (lv_room (Nat.le_of_ble_eq_true rfl)) dX3_parseHead_19 ⟨Nat.zero_le _, Nat.zero_le _⟩ (fun q18 T16 H locs hq G => ?_)
  obtain ⟨hq1, hq2⟩ := hq
  rw [hq2] at G
  refine lv_to hq1 ?_
  clear hq1 hq2 eT15
  obtain ⟨g19, h⟩ := oif_some h
  refine c_put E G a0 0 (v := .int r17) (oO_k g19).1 (cc_o6 (oO_k g19).2) rfl (fun w h => .tail _ (iA_14 h)) tyX6 tyX6_ok nmX6 (by decide) (.tail _ qA_224) ⟨rfl, rfl, rfl⟩ rfl rfl (Nat.le_of_ble_eq_true rfl) dX3_parseHead_22 (fun H locs G => ?_)
  have G := gC_up_i (f := upd (T15.2.2.1 a0) 0 r17) (by rw [(oO_k g19).2]; rfl) G
  obtain ⟨T20, eT20, h⟩ := elet_some h
  have G : gC cI cJ cZ cMic cSrc cSt cAI cAJ D ad A s.heap H locs T20 := by rw [eT20]; exact G
  clear eT20
  refine lv_aload_n hx hb dX3_parseHead_25 rfl (lv_at hl 0 rfl) ?_
  obtain ⟨w21, hw21, ow21⟩ := hT.1 ("AcousticCamera$Parser", 80, "step") (List.mem_of_getElem? (i := 2) rfl)
  refine va_ldcS hx hb hown hw21 dX3_parseHead_26 ?_
  obtain ⟨g22, h⟩ := oif_some h
  obtain ⟨r25, T23, eT23, h⟩ := othr_n h
  refine q_cvvX (As := [.ref w21]) (rest := []) E G hA hX hN hml (u_X3_takeWord l hst D cI cJ cZ cMic cSrc cSt cAI cAJ ad T20 h0 (q := w21) (sTx_ok (by decide +kernel)) o eT23) (cwV 1 hts (gaV qA_228 qA_229 qA_230 qA_222 qA_231) rfl rfl rfl (by decide +kernel) ⟨Nat.le_of_ble_eq_true rfl, Nat.le_of_ble_eq_true rfl⟩) (oO_k g22).1 (cc_o3 (oO_k g22).2) rfl rfl hl.1 rfl (lv_room (Nat.le_of_ble_eq_true rfl)) dX3_parseHead_28 ⟨Nat.zero_le _, Nat.zero_le _⟩ (yT1.blind) (yT1.go hT hA0 hA G ow21) (fun T24 H locs hq G => ?_)
  rw [hq] at G
  clear hq eT23
  refine lv_aload_n hx hb dX3_parseHead_31 rfl (lv_at hl 1 rfl) ?_
  refine lv_aload_n hx hb dX3_parseHead_32 rfl (lv_at hl 0 rfl) ?_
  refine lv_iconst (v := 1) hx hb dX3_parseHead_33 (by decide) ?_
  refine lv_bipush (v := 99) hx hb dX3_parseHead_34 (by decide) ?_
  obtain ⟨g27, h⟩ := oif_some h
  obtain ⟨r30, T28, eT28, h⟩ := othr_n h
  refine q_cvi (As := [.int 1, .int 99]) (rest := [.ref (ad a0)]) E G hA hX hN hml (u_X3_number l hst D cI cJ cZ cMic cSrc cSt cAI cAJ ad T23 o (1 : Int32) (99 : Int32) eT28) (cwV 2 hts (gaV qA_299 qA_300 qA_301 qA_222 qA_302) rfl rfl rfl (by decide +kernel) ⟨Nat.le_of_ble_eq_true rfl, Nat.le_of_ble_eq_true rfl⟩) (oO_k g27).1 (cc_o3 (oO_k g27).2) rfl rfl hl.1 rfl (lv_room (Nat.le_of_ble_eq_true rfl)) dX3_parseHead_36 ⟨Nat.zero_le _, Nat.zero_le _⟩ (fun q31 T29 H locs hq G => ?_)
  obtain ⟨hq1, hq2⟩ := hq
  rw [hq2] at G
  refine lv_to hq1 ?_
  clear hq1 hq2 eT28
  obtain ⟨g32, h⟩ := oif_some h
  refine c_put E G a0 1 (v := .int r30) (oO_k g32).1 (cc_o6 (oO_k g32).2) rfl (fun w h => .tail _ (iA_14 h)) tyX6 tyX6_ok nmX6 (by decide) (.tail _ qA_225) ⟨rfl, rfl, rfl⟩ rfl rfl (Nat.le_of_ble_eq_true rfl) dX3_parseHead_39 (fun H locs G => ?_)
  have G := gC_up_i (f := upd (T28.2.2.1 a0) 1 r30) (by rw [(oO_k g32).2]; rfl) G
  obtain ⟨T33, eT33, h⟩ := elet_some h
  have G : gC cI cJ cZ cMic cSrc cSt cAI cAJ D ad A s.heap H locs T33 := by rw [eT33]; exact G
  clear eT33
  refine lv_aload_n hx hb dX3_parseHead_42 rfl (lv_at hl 0 rfl) ?_
  obtain ⟨w34, hw34, ow34⟩ := hT.1 ("AcousticCamera$Parser", 84, "samples") (List.mem_of_getElem? (i := 3) rfl)
  refine va_ldcS hx hb hown hw34 dX3_parseHead_43 ?_
  obtain ⟨g35, h⟩ := oif_some h
  obtain ⟨r38, T36, eT36, h⟩ := othr_n h
  refine q_cvvX (As := [.ref w34]) (rest := []) E G hA hX hN hml (u_X3_takeWord l hst D cI cJ cZ cMic cSrc cSt cAI cAJ ad T33 h0 (q := w34) (sTx_ok (by decide +kernel)) o eT36) (cwV 1 hts (gaV qA_228 qA_229 qA_230 qA_222 qA_231) rfl rfl rfl (by decide +kernel) ⟨Nat.le_of_ble_eq_true rfl, Nat.le_of_ble_eq_true rfl⟩) (oO_k g35).1 (cc_o3 (oO_k g35).2) rfl rfl hl.1 rfl (lv_room (Nat.le_of_ble_eq_true rfl)) dX3_parseHead_45 ⟨Nat.zero_le _, Nat.zero_le _⟩ (yT1.blind) (yT1.go hT hA0 hA G ow34) (fun T37 H locs hq G => ?_)
  rw [hq] at G
  clear hq eT36
  refine lv_aload_n hx hb dX3_parseHead_48 rfl (lv_at hl 1 rfl) ?_
  refine lv_aload_n hx hb dX3_parseHead_49 rfl (lv_at hl 0 rfl) ?_
  refine lv_bipush (v := 32) hx hb dX3_parseHead_50 (by decide) ?_
  refine lv_sipush (v := 200) hx hb dX3_parseHead_52 (by decide) ?_
  obtain ⟨g40, h⟩ := oif_some h
  obtain ⟨r43, T41, eT41, h⟩ := othr_n h
  refine q_cvi (As := [.int 32, .int 200]) (rest := [.ref (ad a0)]) E G hA hX hN hml (u_X3_number l hst D cI cJ cZ cMic cSrc cSt cAI cAJ ad T36 o (32 : Int32) (200 : Int32) eT41) (cwV 2 hts (gaV qA_299 qA_300 qA_301 qA_222 qA_302) rfl rfl rfl (by decide +kernel) ⟨Nat.le_of_ble_eq_true rfl, Nat.le_of_ble_eq_true rfl⟩) (oO_k g40).1 (cc_o3 (oO_k g40).2) rfl rfl hl.1 rfl (lv_room (Nat.le_of_ble_eq_true rfl)) dX3_parseHead_55 ⟨Nat.zero_le _, Nat.zero_le _⟩ (fun q44 T42 H locs hq G => ?_)
  obtain ⟨hq1, hq2⟩ := hq
  rw [hq2] at G
  refine lv_to hq1 ?_
  clear hq1 hq2 eT41
  obtain ⟨g45, h⟩ := oif_some h
  refine c_put E G a0 2 (v := .int r43) (oO_k g45).1 (cc_o6 (oO_k g45).2) rfl (fun w h => .tail _ (iA_14 h)) tyX6 tyX6_ok nmX6 (by decide) (.tail _ qA_226) ⟨rfl, rfl, rfl⟩ rfl rfl (Nat.le_of_ble_eq_true rfl) dX3_parseHead_58 (fun H locs G => ?_)
  have G := gC_up_i (f := upd (T41.2.2.1 a0) 2 r43) (by rw [(oO_k g45).2]; rfl) G
  obtain ⟨T46, eT46, h⟩ := elet_some h
  have G : gC cI cJ cZ cMic cSrc cSt cAI cAJ D ad A s.heap H locs T46 := by rw [eT46]; exact G
  clear eT46
  refine lv_aload_n hx hb dX3_parseHead_61 rfl (lv_at hl 0 rfl) ?_
  obtain ⟨w47, hw47, ow47⟩ := hT.1 ("AcousticCamera$Parser", 88, "limit") (List.mem_of_getElem? (i := 4) rfl)
  refine va_ldcS hx hb hown hw47 dX3_parseHead_62 ?_
  obtain ⟨g48, h⟩ := oif_some h
  obtain ⟨r51, T49, eT49, h⟩ := othr_n h
  refine q_cvvX (As := [.ref w47]) (rest := []) E G hA hX hN hml (u_X3_takeWord l hst D cI cJ cZ cMic cSrc cSt cAI cAJ ad T46 h0 (q := w47) (sTx_ok (by decide +kernel)) o eT49) (cwV 1 hts (gaV qA_228 qA_229 qA_230 qA_222 qA_231) rfl rfl rfl (by decide +kernel) ⟨Nat.le_of_ble_eq_true rfl, Nat.le_of_ble_eq_true rfl⟩) (oO_k g48).1 (cc_o3 (oO_k g48).2) rfl rfl hl.1 rfl (lv_room (Nat.le_of_ble_eq_true rfl)) dX3_parseHead_64 ⟨Nat.zero_le _, Nat.zero_le _⟩ (yT1.blind) (yT1.go hT hA0 hA G ow47) (fun T50 H locs hq G => ?_)
  rw [hq] at G
  clear hq eT49
  refine lv_aload_n hx hb dX3_parseHead_67 rfl (lv_at hl 1 rfl) ?_
  refine lv_aload_n hx hb dX3_parseHead_68 rfl (lv_at hl 0 rfl) ?_
  refine lv_iconst (v := 1) hx hb dX3_parseHead_69 (by decide) ?_
  refine lv_sipush (v := 9999) hx hb dX3_parseHead_70 (by decide) ?_
  obtain ⟨g53, h⟩ := oif_some h
  obtain ⟨r56, T54, eT54, h⟩ := othr_n h
  refine q_cvi (As := [.int 1, .int 9999]) (rest := [.ref (ad a0)]) E G hA hX hN hml (u_X3_number l hst D cI cJ cZ cMic cSrc cSt cAI cAJ ad T49 o (1 : Int32) (9999 : Int32) eT54) (cwV 2 hts (gaV qA_299 qA_300 qA_301 qA_222 qA_302) rfl rfl rfl (by decide +kernel) ⟨Nat.le_of_ble_eq_true rfl, Nat.le_of_ble_eq_true rfl⟩) (oO_k g53).1 (cc_o3 (oO_k g53).2) rfl rfl hl.1 rfl (lv_room (Nat.le_of_ble_eq_true rfl)) dX3_parseHead_73 ⟨Nat.zero_le _, Nat.zero_le _⟩ (fun q57 T55 H locs hq G => ?_)
  obtain ⟨hq1, hq2⟩ := hq
  rw [hq2] at G
  refine lv_to hq1 ?_
  clear hq1 hq2 eT54
  obtain ⟨g58, h⟩ := oif_some h
  refine c_put E G a0 3 (v := .int r56) (oO_k g58).1 (cc_o6 (oO_k g58).2) rfl (fun w h => .tail _ (iA_14 h)) tyX6 tyX6_ok nmX6 (by decide) (.tail _ qA_227) ⟨rfl, rfl, rfl⟩ rfl rfl (Nat.le_of_ble_eq_true rfl) dX3_parseHead_76 (fun H locs G => ?_)
  have G := gC_up_i (f := upd (T54.2.2.1 a0) 3 r56) (by rw [(oO_k g58).2]; rfl) G
  obtain ⟨T59, eT59, h⟩ := elet_some h
  have G : gC cI cJ cZ cMic cSrc cSt cAI cAJ D ad A s.heap H locs T59 := by rw [eT59]; exact G
  clear eT59
  exact W.vret hx hb hr (fun t ht hW => ⟨⟨T59, rfl, (osome3 h).2.2, ⟨by rw [ht]; exact G.1, va_K.moved hW.alike hK, G.2.1⟩⟩, G.2.2.F ht⟩) G.2.2.2.2 dX3_parseHead_79
set_option maxHeartbeats 4000000 in
set_option maxRecDepth 100000 in
theorem s_X3_parseHead {T : AT} {o : Nat} {a0 : Nat} {e1 : Nat} {r1 : Int32} {T1 : AT} (h : g_X3_parseHead T o a0 = some (e1, r1, T1)) : SP T T1 := by
  have p0 := SP.rf T
  unfold g_X3_parseHead at h
  obtain ⟨g3, h⟩ := oif_some h
  rcases othr_s h with ⟨k9, r9, e9, -⟩ | ⟨r5, T4, eT4, h⟩
  · exact SP.tr p0 (s_X3_takeWord e9)
  have p1 : SP T T4 := SP.tr p0 (s_X3_takeWord eT4)
  obtain ⟨g7, h⟩ := oif_some h
  rcases othr_s h with ⟨k9, r9, e9, -⟩ | ⟨r9, T8, eT8, h⟩
  · exact SP.tr p1 (s_X3_takeWord e9)
  have p2 : SP T T8 := SP.tr p1 (s_X3_takeWord eT8)
  obtain ⟨g10, h⟩ := oif_some h
  rcases othr_s h with ⟨k9, r9, e9, -⟩ | ⟨r12, T11, eT11, h⟩
  · exact SP.tr p2 (s_X3_number e9)
  have p3 : SP T T11 := SP.tr p2 (s_X3_number eT11)
  obtain ⟨g13, h⟩ := oif_some h
  obtain ⟨T14, eT14, h⟩ := elet_some h
  have p4 : SP T T14 := SP.tr p3 (by rw [eT14]; exact sp_uI)
  obtain ⟨g16, h⟩ := oif_some h
  rcases othr_s h with ⟨k9, r9, e9, -⟩ | ⟨r18, T17, eT17, h⟩
  · exact SP.tr p4 (s_X3_takeWord e9)
  have p5 : SP T T17 := SP.tr p4 (s_X3_takeWord eT17)
  obtain ⟨g19, h⟩ := oif_some h
  rcases othr_s h with ⟨k9, r9, e9, -⟩ | ⟨r21, T20, eT20, h⟩
  · exact SP.tr p5 (s_X3_number e9)
  have p6 : SP T T20 := SP.tr p5 (s_X3_number eT20)
  obtain ⟨g22, h⟩ := oif_some h
  obtain ⟨T23, eT23, h⟩ := elet_some h
  have p7 : SP T T23 := SP.tr p6 (by rw [eT23]; exact sp_uI)
  obtain ⟨g25, h⟩ := oif_some h
  rcases othr_s h with ⟨k9, r9, e9, -⟩ | ⟨r27, T26, eT26, h⟩
  · exact SP.tr p7 (s_X3_takeWord e9)
  have p8 : SP T T26 := SP.tr p7 (s_X3_takeWord eT26)
  obtain ⟨g28, h⟩ := oif_some h
  rcases othr_s h with ⟨k9, r9, e9, -⟩ | ⟨r30, T29, eT29, h⟩
  · exact SP.tr p8 (s_X3_number e9)
  have p9 : SP T T29 := SP.tr p8 (s_X3_number eT29)
  obtain ⟨g31, h⟩ := oif_some h
  obtain ⟨T32, eT32, h⟩ := elet_some h
  have p10 : SP T T32 := SP.tr p9 (by rw [eT32]; exact sp_uI)
  obtain ⟨g34, h⟩ := oif_some h
  rcases othr_s h with ⟨k9, r9, e9, -⟩ | ⟨r36, T35, eT35, h⟩
  · exact SP.tr p10 (s_X3_takeWord e9)
  have p11 : SP T T35 := SP.tr p10 (s_X3_takeWord eT35)
  obtain ⟨g37, h⟩ := oif_some h
  rcases othr_s h with ⟨k9, r9, e9, -⟩ | ⟨r39, T38, eT38, h⟩
  · exact SP.tr p11 (s_X3_number e9)
  have p12 : SP T T38 := SP.tr p11 (s_X3_number eT38)
  obtain ⟨g40, h⟩ := oif_some h
  obtain ⟨T41, eT41, h⟩ := elet_some h
  have p13 : SP T T41 := SP.tr p12 (by rw [eT41]; exact sp_uI)
  rw [← (osome3 h).2.2]
  exact p13
set_option maxHeartbeats 4000000 in
set_option maxRecDepth 100000 in
theorem x_X3_parseHead (l : Launch) (hst : l.stackTraces = false) (D : va_G) (cI cJ cZ cMic cSrc cSt cAI cAJ : ClassId) (ad : Nat → Nat) (T : AT) (h0 : Nat) (o : Nat) (a0 : Nat) {e1 : Nat} {r1 : Int32} {T1 : AT} (h : g_X3_parseHead T o a0 = some (e1 + 1, r1, T1)) : kXvX l yX3_parseHead (Cond.code yX3_parseHead cX3_parseHead 2 none :: wsA) 8 132 cI cJ cZ cMic cSrc cSt cAI cAJ D ad T [.ref (ad o), .ref (ad a0)] (yT0 cI cJ cZ cMic cSrc cSt cAI cAJ h0 ad T) e1 T1 := by
  intro sz
  refine vx_ofW (cc := cX3_parseHead) (maxL := 2) (ret := none) (by decide) rfl ?_
  intro p e s m args below meth c s₁ B hml htab hv
  obtain ⟨rfl, ⟨hsz, hP, hK, hD0, hX, hN⟩, hA1, hT⟩ := hv
  have hx := B.exec
  have hb := B.bytes
  have hr := B.returns
  have hts := atoms_spec (ws := (Cond.code yX3_parseHead cX3_parseHead 2 none :: wsA)) B.pre
  have hown : s.vm.findClass RX3 = some m.cls := findClass_of_methodNamed B.named
  have hlocks := B.notSynchronized
  subst hsz
  have hD := hD0.self (sz := s.heap.size)
  generalize hAe : va_A (cW ad T.1 (cc cI cJ cZ cMic cSrc cSt cAI cAJ ad T)) s.heap.size = A at hD hX hA1 ⊢
  have hA : ∀ q : Nat, s.heap.size ≤ q → A q := fun q h => by rw [← hAe]; exact Or.inr h
  have G : gC cI cJ cZ cMic cSrc cSt cAI cAJ D ad A s.heap s.heap [] T := ⟨hP, hD, va_S.rf⟩
  have E : cE p c cX3_parseHead s m ([.ref (ad o), .ref (ad a0)] : List Value).toArray (Cond.code yX3_parseHead cX3_parseHead 2 none :: wsA) D RX3 (CT cI cJ cZ cMic cSrc cSt cAI cAJ) := ⟨hx, hb, hts, hown, hK⟩
  have htab : ∀ x ∈ c.exceptionTable.toList, False := fun x hx => htab x hx
  have hA0 : ∀ a : Nat, A a → h0 ≤ a := hA1
  have hl := lv_entry ([.ref (ad o), .ref (ad a0)]) (n := 2) (Nat.le_of_ble_eq_true rfl)
  rw [lg_entry_eq]
  generalize (lg_sl ([.ref (ad o), .ref (ad a0)]) ++ List.replicate (2 - (lg_sl ([.ref (ad o), .ref (ad a0)])).length) Slot.unset).toArray = ls at hl ⊢
  have hl : lv_has ls 2 [(0, .ref (ad o)), (1, .ref (ad a0))] := hl
  unfold g_X3_parseHead at h
  refine lv_aload_n hx hb dX3_parseHead_0 rfl (lv_at hl 0 rfl) ?_
  obtain ⟨w2, hw2, ow2⟩ := hT.1 ("AcousticCamera$Parser", 66, "camera") (List.mem_of_getElem? (i := 0) rfl)
  refine va_ldcS hx hb hown hw2 dX3_parseHead_1 ?_
  obtain ⟨g3, h⟩ := oif_some h
  rcases othr_t h with ⟨r0, eT4⟩ | ⟨r6, T4, eT4, h⟩
  · refine q_xvvX (As := [.ref w2]) (rest := []) E G hA hX hN hml (x_X3_takeWord l hst D cI cJ cZ cMic cSrc cSt cAI cAJ ad T h0 (q := w2) (sTx_ok (by decide +kernel)) o eT4) (cwV 1 hts (gaV qA_228 qA_229 qA_230 qA_222 qA_231) rfl rfl rfl (by decide +kernel) ⟨Nat.le_of_ble_eq_true rfl, Nat.le_of_ble_eq_true rfl⟩) (oO_k g3).1 (cc_o3 (oO_k g3).2) rfl rfl hl.1 rfl (lv_room (Nat.le_of_ble_eq_true rfl)) dX3_parseHead_3 ⟨Nat.le_of_ble_eq_true rfl, Nat.le_of_ble_eq_true rfl⟩ (yT1.blind) (yT1.go hT hA0 hA G ow2) (fun E9 ce q9 T9 H locs hp G hce hcv hcl => ?_)
    obtain ⟨hE, hT⟩ := hp
    subst hE
    rw [hT] at G
    exact vx_out (fun x hx => (htab x hx).elim) hlocks hce hcv hcl (fun t ht hvm => ⟨T1, trivial, ⟨⟨rfl, rfl⟩, by rw [ht]; exact G.1, va_K.moved hvm hK, G.2.1⟩, G.2.2.F ht⟩) G.2.2.2.2 (Nat.le_refl _) (Nat.le_refl _)
  refine q_cvvX (As := [.ref w2]) (rest := []) E G hA hX hN hml (u_X3_takeWord l hst D cI cJ cZ cMic cSrc cSt cAI cAJ ad T h0 (q := w2) (sTx_ok (by decide +kernel)) o eT4) (cwV 1 hts (gaV qA_228 qA_229 qA_230 qA_222 qA_231) rfl rfl rfl (by decide +kernel) ⟨Nat.le_of_ble_eq_true rfl, Nat.le_of_ble_eq_true rfl⟩) (oO_k g3).1 (cc_o3 (oO_k g3).2) rfl rfl hl.1 rfl (lv_room (Nat.le_of_ble_eq_true rfl)) dX3_parseHead_3 ⟨Nat.zero_le _, Nat.zero_le _⟩ (yT1.blind) (yT1.go hT hA0 hA G ow2) (fun T5 H locs hq G => ?_)
  rw [hq] at G
  clear hq eT4
  refine lv_aload_n hx hb dX3_parseHead_6 rfl (lv_at hl 0 rfl) ?_
  obtain ⟨w8, hw8, ow8⟩ := hT.1 ("AcousticCamera$Parser", 72, "distance") (List.mem_of_getElem? (i := 1) rfl)
  refine va_ldcS hx hb hown hw8 dX3_parseHead_7 ?_
  obtain ⟨g9, h⟩ := oif_some h
  rcases othr_t h with ⟨r0, eT10⟩ | ⟨r12, T10, eT10, h⟩
  · refine q_xvvX (As := [.ref w8]) (rest := []) E G hA hX hN hml (x_X3_takeWord l hst D cI cJ cZ cMic cSrc cSt cAI cAJ ad T4 h0 (q := w8) (sTx_ok (by decide +kernel)) o eT10) (cwV 1 hts (gaV qA_228 qA_229 qA_230 qA_222 qA_231) rfl rfl rfl (by decide +kernel) ⟨Nat.le_of_ble_eq_true rfl, Nat.le_of_ble_eq_true rfl⟩) (oO_k g9).1 (cc_o3 (oO_k g9).2) rfl rfl hl.1 rfl (lv_room (Nat.le_of_ble_eq_true rfl)) dX3_parseHead_9 ⟨Nat.le_of_ble_eq_true rfl, Nat.le_of_ble_eq_true rfl⟩ (yT1.blind) (yT1.go hT hA0 hA G ow8) (fun E9 ce q9 T9 H locs hp G hce hcv hcl => ?_)
    obtain ⟨hE, hT⟩ := hp
    subst hE
    rw [hT] at G
    exact vx_out (fun x hx => (htab x hx).elim) hlocks hce hcv hcl (fun t ht hvm => ⟨T1, trivial, ⟨⟨rfl, rfl⟩, by rw [ht]; exact G.1, va_K.moved hvm hK, G.2.1⟩, G.2.2.F ht⟩) G.2.2.2.2 (Nat.le_refl _) (Nat.le_refl _)
  refine q_cvvX (As := [.ref w8]) (rest := []) E G hA hX hN hml (u_X3_takeWord l hst D cI cJ cZ cMic cSrc cSt cAI cAJ ad T4 h0 (q := w8) (sTx_ok (by decide +kernel)) o eT10) (cwV 1 hts (gaV qA_228 qA_229 qA_230 qA_222 qA_231) rfl rfl rfl (by decide +kernel) ⟨Nat.le_of_ble_eq_true rfl, Nat.le_of_ble_eq_true rfl⟩) (oO_k g9).1 (cc_o3 (oO_k g9).2) rfl rfl hl.1 rfl (lv_room (Nat.le_of_ble_eq_true rfl)) dX3_parseHead_9 ⟨Nat.zero_le _, Nat.zero_le _⟩ (yT1.blind) (yT1.go hT hA0 hA G ow8) (fun T11 H locs hq G => ?_)
  rw [hq] at G
  clear hq eT10
  refine lv_aload_n hx hb dX3_parseHead_12 rfl (lv_at hl 1 rfl) ?_
  refine lv_aload_n hx hb dX3_parseHead_13 rfl (lv_at hl 0 rfl) ?_
  refine lv_bipush (v := 100) hx hb dX3_parseHead_14 (by decide) ?_
  refine lv_sipush (v := 5000) hx hb dX3_parseHead_16 (by decide) ?_
  obtain ⟨g14, h⟩ := oif_some h
  rcases othr_t h with ⟨r0, eT15⟩ | ⟨r17, T15, eT15, h⟩
  · refine q_xvi (As := [.int 100, .int 5000]) (rest := [.ref (ad a0)]) E G hA hX hN hml (x_X3_number l hst D cI cJ cZ cMic cSrc cSt cAI cAJ ad T10 o (100 : Int32) (5000 : Int32) eT15) (cwV 2 hts (gaV qA_299 qA_300 qA_301 qA_222 qA_302) rfl rfl rfl (by decide +kernel) ⟨Nat.le_of_ble_eq_true rfl, Nat.le_of_ble_eq_true rfl⟩) (oO_k g14).1 (cc_o3 (oO_k g14).2) rfl rfl hl.1 rfl (lv_room (Nat.le_of_ble_eq_true rfl)) dX3_parseHead_19 ⟨Nat.le_of_ble_eq_true rfl, Nat.le_of_ble_eq_true rfl⟩ (fun E9 ce q9 T9 H locs hp G hce hcv hcl => ?_)
    obtain ⟨hE, hT⟩ := hp
    subst hE
    rw [hT] at G
    exact vx_out (fun x hx => (htab x hx).elim) hlocks hce hcv hcl (fun t ht hvm => ⟨T1, trivial, ⟨⟨rfl, rfl⟩, by rw [ht]; exact G.1, va_K.moved hvm hK, G.2.1⟩, G.2.2.F ht⟩) G.2.2.2.2 (Nat.le_refl _) (Nat.le_refl _)
  refine q_cvi (As := [.int 100, .int 5000]) (rest := [.ref (ad a0)]) E G hA hX hN hml (u_X3_number l hst D cI cJ cZ cMic cSrc cSt cAI cAJ ad T10 o (100 : Int32) (5000 : Int32) eT15) (cwV 2 hts (gaV qA_299 qA_300 qA_301 qA_222 qA_302) rfl rfl rfl (by decide +kernel) ⟨Nat.le_of_ble_eq_true rfl, Nat.le_of_ble_eq_true rfl⟩) (oO_k g14).1 (cc_o3 (oO_k g14).2) rfl rfl hl.1 rfl (lv_room (Nat.le_of_ble_eq_true rfl)) dX3_parseHead_19 ⟨Nat.zero_le _, Nat.zero_le _⟩ (fun q18 T16 H locs hq G => ?_)
  obtain ⟨hq1, hq2⟩ := hq
  rw [hq2] at G
  refine lv_to hq1 ?_
  clear hq1 hq2 eT15
  obtain ⟨g19, h⟩ := oif_some h
  refine c_put E G a0 0 (v := .int r17) (oO_k g19).1 (cc_o6 (oO_k g19).2) rfl (fun w h => .tail _ (iA_14 h)) tyX6 tyX6_ok nmX6 (by decide) (.tail _ qA_224) ⟨rfl, rfl, rfl⟩ rfl rfl (Nat.le_of_ble_eq_true rfl) dX3_parseHead_22 (fun H locs G => ?_)
  have G := gC_up_i (f := upd (T15.2.2.1 a0) 0 r17) (by rw [(oO_k g19).2]; rfl) G
  obtain ⟨T20, eT20, h⟩ := elet_some h
  have G : gC cI cJ cZ cMic cSrc cSt cAI cAJ D ad A s.heap H locs T20 := by rw [eT20]; exact G
  clear eT20
  refine lv_aload_n hx hb dX3_parseHead_25 rfl (lv_at hl 0 rfl) ?_
  obtain ⟨w21, hw21, ow21⟩ := hT.1 ("AcousticCamera$Parser", 80, "step") (List.mem_of_getElem? (i := 2) rfl)
  refine va_ldcS hx hb hown hw21 dX3_parseHead_26 ?_
  obtain ⟨g22, h⟩ := oif_some h
  rcases othr_t h with ⟨r0, eT23⟩ | ⟨r25, T23, eT23, h⟩
  · refine q_xvvX (As := [.ref w21]) (rest := []) E G hA hX hN hml (x_X3_takeWord l hst D cI cJ cZ cMic cSrc cSt cAI cAJ ad T20 h0 (q := w21) (sTx_ok (by decide +kernel)) o eT23) (cwV 1 hts (gaV qA_228 qA_229 qA_230 qA_222 qA_231) rfl rfl rfl (by decide +kernel) ⟨Nat.le_of_ble_eq_true rfl, Nat.le_of_ble_eq_true rfl⟩) (oO_k g22).1 (cc_o3 (oO_k g22).2) rfl rfl hl.1 rfl (lv_room (Nat.le_of_ble_eq_true rfl)) dX3_parseHead_28 ⟨Nat.le_of_ble_eq_true rfl, Nat.le_of_ble_eq_true rfl⟩ (yT1.blind) (yT1.go hT hA0 hA G ow21) (fun E9 ce q9 T9 H locs hp G hce hcv hcl => ?_)
    obtain ⟨hE, hT⟩ := hp
    subst hE
    rw [hT] at G
    exact vx_out (fun x hx => (htab x hx).elim) hlocks hce hcv hcl (fun t ht hvm => ⟨T1, trivial, ⟨⟨rfl, rfl⟩, by rw [ht]; exact G.1, va_K.moved hvm hK, G.2.1⟩, G.2.2.F ht⟩) G.2.2.2.2 (Nat.le_refl _) (Nat.le_refl _)
  refine q_cvvX (As := [.ref w21]) (rest := []) E G hA hX hN hml (u_X3_takeWord l hst D cI cJ cZ cMic cSrc cSt cAI cAJ ad T20 h0 (q := w21) (sTx_ok (by decide +kernel)) o eT23) (cwV 1 hts (gaV qA_228 qA_229 qA_230 qA_222 qA_231) rfl rfl rfl (by decide +kernel) ⟨Nat.le_of_ble_eq_true rfl, Nat.le_of_ble_eq_true rfl⟩) (oO_k g22).1 (cc_o3 (oO_k g22).2) rfl rfl hl.1 rfl (lv_room (Nat.le_of_ble_eq_true rfl)) dX3_parseHead_28 ⟨Nat.zero_le _, Nat.zero_le _⟩ (yT1.blind) (yT1.go hT hA0 hA G ow21) (fun T24 H locs hq G => ?_)
  rw [hq] at G
  clear hq eT23
  refine lv_aload_n hx hb dX3_parseHead_31 rfl (lv_at hl 1 rfl) ?_
  refine lv_aload_n hx hb dX3_parseHead_32 rfl (lv_at hl 0 rfl) ?_
  refine lv_iconst (v := 1) hx hb dX3_parseHead_33 (by decide) ?_
  refine lv_bipush (v := 99) hx hb dX3_parseHead_34 (by decide) ?_
  obtain ⟨g27, h⟩ := oif_some h
  rcases othr_t h with ⟨r0, eT28⟩ | ⟨r30, T28, eT28, h⟩
  · refine q_xvi (As := [.int 1, .int 99]) (rest := [.ref (ad a0)]) E G hA hX hN hml (x_X3_number l hst D cI cJ cZ cMic cSrc cSt cAI cAJ ad T23 o (1 : Int32) (99 : Int32) eT28) (cwV 2 hts (gaV qA_299 qA_300 qA_301 qA_222 qA_302) rfl rfl rfl (by decide +kernel) ⟨Nat.le_of_ble_eq_true rfl, Nat.le_of_ble_eq_true rfl⟩) (oO_k g27).1 (cc_o3 (oO_k g27).2) rfl rfl hl.1 rfl (lv_room (Nat.le_of_ble_eq_true rfl)) dX3_parseHead_36 ⟨Nat.le_of_ble_eq_true rfl, Nat.le_of_ble_eq_true rfl⟩ (fun E9 ce q9 T9 H locs hp G hce hcv hcl => ?_)
    obtain ⟨hE, hT⟩ := hp
    subst hE
    rw [hT] at G
    exact vx_out (fun x hx => (htab x hx).elim) hlocks hce hcv hcl (fun t ht hvm => ⟨T1, trivial, ⟨⟨rfl, rfl⟩, by rw [ht]; exact G.1, va_K.moved hvm hK, G.2.1⟩, G.2.2.F ht⟩) G.2.2.2.2 (Nat.le_refl _) (Nat.le_refl _)
  refine q_cvi (As := [.int 1, .int 99]) (rest := [.ref (ad a0)]) E G hA hX hN hml (u_X3_number l hst D cI cJ cZ cMic cSrc cSt cAI cAJ ad T23 o (1 : Int32) (99 : Int32) eT28) (cwV 2 hts (gaV qA_299 qA_300 qA_301 qA_222 qA_302) rfl rfl rfl (by decide +kernel) ⟨Nat.le_of_ble_eq_true rfl, Nat.le_of_ble_eq_true rfl⟩) (oO_k g27).1 (cc_o3 (oO_k g27).2) rfl rfl hl.1 rfl (lv_room (Nat.le_of_ble_eq_true rfl)) dX3_parseHead_36 ⟨Nat.zero_le _, Nat.zero_le _⟩ (fun q31 T29 H locs hq G => ?_)
  obtain ⟨hq1, hq2⟩ := hq
  rw [hq2] at G
  refine lv_to hq1 ?_
  clear hq1 hq2 eT28
  obtain ⟨g32, h⟩ := oif_some h
  refine c_put E G a0 1 (v := .int r30) (oO_k g32).1 (cc_o6 (oO_k g32).2) rfl (fun w h => .tail _ (iA_14 h)) tyX6 tyX6_ok nmX6 (by decide) (.tail _ qA_225) ⟨rfl, rfl, rfl⟩ rfl rfl (Nat.le_of_ble_eq_true rfl) dX3_parseHead_39 (fun H locs G => ?_)
  have G := gC_up_i (f := upd (T28.2.2.1 a0) 1 r30) (by rw [(oO_k g32).2]; rfl) G
  obtain ⟨T33, eT33, h⟩ := elet_some h
  have G : gC cI cJ cZ cMic cSrc cSt cAI cAJ D ad A s.heap H locs T33 := by rw [eT33]; exact G
  clear eT33
  refine lv_aload_n hx hb dX3_parseHead_42 rfl (lv_at hl 0 rfl) ?_
  obtain ⟨w34, hw34, ow34⟩ := hT.1 ("AcousticCamera$Parser", 84, "samples") (List.mem_of_getElem? (i := 3) rfl)
  refine va_ldcS hx hb hown hw34 dX3_parseHead_43 ?_
  obtain ⟨g35, h⟩ := oif_some h
  rcases othr_t h with ⟨r0, eT36⟩ | ⟨r38, T36, eT36, h⟩
  · refine q_xvvX (As := [.ref w34]) (rest := []) E G hA hX hN hml (x_X3_takeWord l hst D cI cJ cZ cMic cSrc cSt cAI cAJ ad T33 h0 (q := w34) (sTx_ok (by decide +kernel)) o eT36) (cwV 1 hts (gaV qA_228 qA_229 qA_230 qA_222 qA_231) rfl rfl rfl (by decide +kernel) ⟨Nat.le_of_ble_eq_true rfl, Nat.le_of_ble_eq_true rfl⟩) (oO_k g35).1 (cc_o3 (oO_k g35).2) rfl rfl hl.1 rfl (lv_room (Nat.le_of_ble_eq_true rfl)) dX3_parseHead_45 ⟨Nat.le_of_ble_eq_true rfl, Nat.le_of_ble_eq_true rfl⟩ (yT1.blind) (yT1.go hT hA0 hA G ow34) (fun E9 ce q9 T9 H locs hp G hce hcv hcl => ?_)
    obtain ⟨hE, hT⟩ := hp
    subst hE
    rw [hT] at G
    exact vx_out (fun x hx => (htab x hx).elim) hlocks hce hcv hcl (fun t ht hvm => ⟨T1, trivial, ⟨⟨rfl, rfl⟩, by rw [ht]; exact G.1, va_K.moved hvm hK, G.2.1⟩, G.2.2.F ht⟩) G.2.2.2.2 (Nat.le_refl _) (Nat.le_refl _)
  refine q_cvvX (As := [.ref w34]) (rest := []) E G hA hX hN hml (u_X3_takeWord l hst D cI cJ cZ cMic cSrc cSt cAI cAJ ad T33 h0 (q := w34) (sTx_ok (by decide +kernel)) o eT36) (cwV 1 hts (gaV qA_228 qA_229 qA_230 qA_222 qA_231) rfl rfl rfl (by decide +kernel) ⟨Nat.le_of_ble_eq_true rfl, Nat.le_of_ble_eq_true rfl⟩) (oO_k g35).1 (cc_o3 (oO_k g35).2) rfl rfl hl.1 rfl (lv_room (Nat.le_of_ble_eq_true rfl)) dX3_parseHead_45 ⟨Nat.zero_le _, Nat.zero_le _⟩ (yT1.blind) (yT1.go hT hA0 hA G ow34) (fun T37 H locs hq G => ?_)
  rw [hq] at G
  clear hq eT36
  refine lv_aload_n hx hb dX3_parseHead_48 rfl (lv_at hl 1 rfl) ?_
  refine lv_aload_n hx hb dX3_parseHead_49 rfl (lv_at hl 0 rfl) ?_
  refine lv_bipush (v := 32) hx hb dX3_parseHead_50 (by decide) ?_
  refine lv_sipush (v := 200) hx hb dX3_parseHead_52 (by decide) ?_
  obtain ⟨g40, h⟩ := oif_some h
  rcases othr_t h with ⟨r0, eT41⟩ | ⟨r43, T41, eT41, h⟩
  · refine q_xvi (As := [.int 32, .int 200]) (rest := [.ref (ad a0)]) E G hA hX hN hml (x_X3_number l hst D cI cJ cZ cMic cSrc cSt cAI cAJ ad T36 o (32 : Int32) (200 : Int32) eT41) (cwV 2 hts (gaV qA_299 qA_300 qA_301 qA_222 qA_302) rfl rfl rfl (by decide +kernel) ⟨Nat.le_of_ble_eq_true rfl, Nat.le_of_ble_eq_true rfl⟩) (oO_k g40).1 (cc_o3 (oO_k g40).2) rfl rfl hl.1 rfl (lv_room (Nat.le_of_ble_eq_true rfl)) dX3_parseHead_55 ⟨Nat.le_of_ble_eq_true rfl, Nat.le_of_ble_eq_true rfl⟩ (fun E9 ce q9 T9 H locs hp G hce hcv hcl => ?_)
    obtain ⟨hE, hT⟩ := hp
    subst hE
    rw [hT] at G
    exact vx_out (fun x hx => (htab x hx).elim) hlocks hce hcv hcl (fun t ht hvm => ⟨T1, trivial, ⟨⟨rfl, rfl⟩, by rw [ht]; exact G.1, va_K.moved hvm hK, G.2.1⟩, G.2.2.F ht⟩) G.2.2.2.2 (Nat.le_refl _) (Nat.le_refl _)
  refine q_cvi (As := [.int 32, .int 200]) (rest := [.ref (ad a0)]) E G hA hX hN hml (u_X3_number l hst D cI cJ cZ cMic cSrc cSt cAI cAJ ad T36 o (32 : Int32) (200 : Int32) eT41) (cwV 2 hts (gaV qA_299 qA_300 qA_301 qA_222 qA_302) rfl rfl rfl (by decide +kernel) ⟨Nat.le_of_ble_eq_true rfl, Nat.le_of_ble_eq_true rfl⟩) (oO_k g40).1 (cc_o3 (oO_k g40).2) rfl rfl hl.1 rfl (lv_room (Nat.le_of_ble_eq_true rfl)) dX3_parseHead_55 ⟨Nat.zero_le _, Nat.zero_le _⟩ (fun q44 T42 H locs hq G => ?_)
  obtain ⟨hq1, hq2⟩ := hq
  rw [hq2] at G
  refine lv_to hq1 ?_
  clear hq1 hq2 eT41
  obtain ⟨g45, h⟩ := oif_some h
  refine c_put E G a0 2 (v := .int r43) (oO_k g45).1 (cc_o6 (oO_k g45).2) rfl (fun w h => .tail _ (iA_14 h)) tyX6 tyX6_ok nmX6 (by decide) (.tail _ qA_226) ⟨rfl, rfl, rfl⟩ rfl rfl (Nat.le_of_ble_eq_true rfl) dX3_parseHead_58 (fun H locs G => ?_)
  have G := gC_up_i (f := upd (T41.2.2.1 a0) 2 r43) (by rw [(oO_k g45).2]; rfl) G
  obtain ⟨T46, eT46, h⟩ := elet_some h
  have G : gC cI cJ cZ cMic cSrc cSt cAI cAJ D ad A s.heap H locs T46 := by rw [eT46]; exact G
  clear eT46
  refine lv_aload_n hx hb dX3_parseHead_61 rfl (lv_at hl 0 rfl) ?_
  obtain ⟨w47, hw47, ow47⟩ := hT.1 ("AcousticCamera$Parser", 88, "limit") (List.mem_of_getElem? (i := 4) rfl)
  refine va_ldcS hx hb hown hw47 dX3_parseHead_62 ?_
  obtain ⟨g48, h⟩ := oif_some h
  rcases othr_t h with ⟨r0, eT49⟩ | ⟨r51, T49, eT49, h⟩
  · refine q_xvvX (As := [.ref w47]) (rest := []) E G hA hX hN hml (x_X3_takeWord l hst D cI cJ cZ cMic cSrc cSt cAI cAJ ad T46 h0 (q := w47) (sTx_ok (by decide +kernel)) o eT49) (cwV 1 hts (gaV qA_228 qA_229 qA_230 qA_222 qA_231) rfl rfl rfl (by decide +kernel) ⟨Nat.le_of_ble_eq_true rfl, Nat.le_of_ble_eq_true rfl⟩) (oO_k g48).1 (cc_o3 (oO_k g48).2) rfl rfl hl.1 rfl (lv_room (Nat.le_of_ble_eq_true rfl)) dX3_parseHead_64 ⟨Nat.le_of_ble_eq_true rfl, Nat.le_of_ble_eq_true rfl⟩ (yT1.blind) (yT1.go hT hA0 hA G ow47) (fun E9 ce q9 T9 H locs hp G hce hcv hcl => ?_)
    obtain ⟨hE, hT⟩ := hp
    subst hE
    rw [hT] at G
    exact vx_out (fun x hx => (htab x hx).elim) hlocks hce hcv hcl (fun t ht hvm => ⟨T1, trivial, ⟨⟨rfl, rfl⟩, by rw [ht]; exact G.1, va_K.moved hvm hK, G.2.1⟩, G.2.2.F ht⟩) G.2.2.2.2 (Nat.le_refl _) (Nat.le_refl _)
  refine q_cvvX (As := [.ref w47]) (rest := []) E G hA hX hN hml (u_X3_takeWord l hst D cI cJ cZ cMic cSrc cSt cAI cAJ ad T46 h0 (q := w47) (sTx_ok (by decide +kernel)) o eT49) (cwV 1 hts (gaV qA_228 qA_229 qA_230 qA_222 qA_231) rfl rfl rfl (by decide +kernel) ⟨Nat.le_of_ble_eq_true rfl, Nat.le_of_ble_eq_true rfl⟩) (oO_k g48).1 (cc_o3 (oO_k g48).2) rfl rfl hl.1 rfl (lv_room (Nat.le_of_ble_eq_true rfl)) dX3_parseHead_64 ⟨Nat.zero_le _, Nat.zero_le _⟩ (yT1.blind) (yT1.go hT hA0 hA G ow47) (fun T50 H locs hq G => ?_)
  rw [hq] at G
  clear hq eT49
  refine lv_aload_n hx hb dX3_parseHead_67 rfl (lv_at hl 1 rfl) ?_
  refine lv_aload_n hx hb dX3_parseHead_68 rfl (lv_at hl 0 rfl) ?_
  refine lv_iconst (v := 1) hx hb dX3_parseHead_69 (by decide) ?_
  refine lv_sipush (v := 9999) hx hb dX3_parseHead_70 (by decide) ?_
  obtain ⟨g53, h⟩ := oif_some h
  rcases othr_t h with ⟨r0, eT54⟩ | ⟨r56, T54, eT54, h⟩
  · refine q_xvi (As := [.int 1, .int 9999]) (rest := [.ref (ad a0)]) E G hA hX hN hml (x_X3_number l hst D cI cJ cZ cMic cSrc cSt cAI cAJ ad T49 o (1 : Int32) (9999 : Int32) eT54) (cwV 2 hts (gaV qA_299 qA_300 qA_301 qA_222 qA_302) rfl rfl rfl (by decide +kernel) ⟨Nat.le_of_ble_eq_true rfl, Nat.le_of_ble_eq_true rfl⟩) (oO_k g53).1 (cc_o3 (oO_k g53).2) rfl rfl hl.1 rfl (lv_room (Nat.le_of_ble_eq_true rfl)) dX3_parseHead_73 ⟨Nat.le_of_ble_eq_true rfl, Nat.le_of_ble_eq_true rfl⟩ (fun E9 ce q9 T9 H locs hp G hce hcv hcl => ?_)
    obtain ⟨hE, hT⟩ := hp
    subst hE
    rw [hT] at G
    exact vx_out (fun x hx => (htab x hx).elim) hlocks hce hcv hcl (fun t ht hvm => ⟨T1, trivial, ⟨⟨rfl, rfl⟩, by rw [ht]; exact G.1, va_K.moved hvm hK, G.2.1⟩, G.2.2.F ht⟩) G.2.2.2.2 (Nat.le_refl _) (Nat.le_refl _)
  refine q_cvi (As := [.int 1, .int 9999]) (rest := [.ref (ad a0)]) E G hA hX hN hml (u_X3_number l hst D cI cJ cZ cMic cSrc cSt cAI cAJ ad T49 o (1 : Int32) (9999 : Int32) eT54) (cwV 2 hts (gaV qA_299 qA_300 qA_301 qA_222 qA_302) rfl rfl rfl (by decide +kernel) ⟨Nat.le_of_ble_eq_true rfl, Nat.le_of_ble_eq_true rfl⟩) (oO_k g53).1 (cc_o3 (oO_k g53).2) rfl rfl hl.1 rfl (lv_room (Nat.le_of_ble_eq_true rfl)) dX3_parseHead_73 ⟨Nat.zero_le _, Nat.zero_le _⟩ (fun q57 T55 H locs hq G => ?_)
  obtain ⟨hq1, hq2⟩ := hq
  rw [hq2] at G
  refine lv_to hq1 ?_
  clear hq1 hq2 eT54
  obtain ⟨g58, h⟩ := oif_some h
  refine c_put E G a0 3 (v := .int r56) (oO_k g58).1 (cc_o6 (oO_k g58).2) rfl (fun w h => .tail _ (iA_14 h)) tyX6 tyX6_ok nmX6 (by decide) (.tail _ qA_227) ⟨rfl, rfl, rfl⟩ rfl rfl (Nat.le_of_ble_eq_true rfl) dX3_parseHead_76 (fun H locs G => ?_)
  have G := gC_up_i (f := upd (T54.2.2.1 a0) 3 r56) (by rw [(oO_k g58).2]; rfl) G
  obtain ⟨T59, eT59, h⟩ := elet_some h
  have G : gC cI cJ cZ cMic cSrc cSt cAI cAJ D ad A s.heap H locs T59 := by rw [eT59]; exact G
  clear eT59
  exact (Nat.succ_ne_zero _ (congrArg Prod.fst (Option.some.inj h)).symm).elim
def g_X3_startLine_b13  (T : AT) (l0 : Nat) : Option (Nat × Int32 × AT) := oif (oO T l0 3 = true) <| elet (T.2.2.1 l0 1) fun v3 => elet (v3 + 1) fun v4 => oif (oO T l0 3 = true) <| elet (uI T l0 1 v4) fun T6 => some (0, 0, T6)
set_option maxHeartbeats 4000000 in
set_option maxRecDepth 100000 in
theorem u_X3_startLine_b13 {p : Program} {l : Launch} {e : Env} {s : State} {m : MethodId} {args : Array Value} {below : List Frame} {meth : Method} {c : Code} {Q : State → Prop} {D : va_G} {A : Nat → Prop} {cI cJ cZ cMic cSrc cSt cAI cAJ : ClassId} {ad : Nat → Nat} {r1 : Int32} {T1 : AT} (E : cE p c cX3_startLine s m args (Cond.code yX3_startLine cX3_startLine 3 none :: wsA) D RX3 (CT cI cJ cZ cMic cSrc cSt cAI cAJ)) (hA : ∀ q : Nat, s.heap.size ≤ q → A q) (hX : xT A s) (hN : nX s) (hml : c.maxLocals = 3) (hst : l.stackTraces = false) (kr23 : ∀ (H : Heap) (locs : List Loc) (ls : Array Slot), gC cI cJ cZ cMic cSrc cSt cAI cAJ D ad A s.heap H locs T1 → W p l e { frames := 7, cells := 0, slots := 0, locals := 103 } s m args below meth c H locs 0 0 Q (F0 m 23 ls [])) : ∀ (T : AT) (H : Heap) (locs : List Loc) (ls : Array Slot) (l0 : Nat), g_X3_startLine_b13 T l0 = some (0, r1, T1) → gC cI cJ cZ cMic cSrc cSt cAI cAJ D ad A s.heap H locs T → lv_has ls 3 [(0, .ref (ad l0))] → W p l e { frames := 7, cells := 0, slots := 0, locals := 103 } s m args below meth c H locs 0 0 Q (F0 m 13 ls []) := by
  have hx := E.1
  have hb := E.2.1
  have hts := E.2.2.1
  have hown := E.2.2.2.1
  have hK := E.2.2.2.2
  intro T H locs ls l0 h G hl
  unfold g_X3_startLine_b13 at h
  refine lv_aload_n hx hb dX3_startLine_13 rfl (lv_at hl 0 rfl) ?_
  refine lv_dup hx hb dX3_startLine_14 rfl ?_
  obtain ⟨g2, h⟩ := oif_some h
  refine c_get E G l0 1 (oO_k g2).1 (cc_o3 (oO_k g2).2) rfl (fun w h => .tail _ (iA_17 h)) (by decide) (.tail _ qA_176) rfl rfl dX3_startLine_15 ?_
  refine lv_topi (fun v3 ev3 => ?_)
  have h := elet_at ev3 h
  clear ev3
  refine lv_iconst (v := 1) hx hb dX3_startLine_18 (by decide) ?_
  refine lv_iadd hx hb dX3_startLine_19 ?_
  refine lv_topi (fun v4 ev4 => ?_)
  have h := elet_at ev4 h
  clear ev4
  obtain ⟨g5, h⟩ := oif_some h
  refine c_put E G l0 1 (v := .int v4) (oO_k g5).1 (cc_o3 (oO_k g5).2) rfl (fun w h => .tail _ (iA_17 h)) tyX3 tyX3_ok nmX3 (by decide) (.tail _ qA_176) ⟨rfl, rfl, rfl⟩ rfl rfl (Nat.le_of_ble_eq_true rfl) dX3_startLine_20 (fun H locs G => ?_)
  have G := gC_up_i (f := upd (T.2.2.1 l0) 1 v4) (by rw [(oO_k g5).2]; rfl) G
  obtain ⟨T6, eT6, h⟩ := elet_some h
  have G : gC cI cJ cZ cMic cSrc cSt cAI cAJ D ad A s.heap H locs T6 := by rw [eT6]; exact G
  clear eT6
  rw [(osome3 h).2.2] at G
  exact kr23 _ _ _ G
def g_X3_startLine (T : AT) (o : Nat) (a0 : Int32) (a1 : Int32) : Option (Nat × Int32 × AT) := if a0 = 0 then (g_X3_startLine_b13 T o) else (oif (oO T o 3 = true) <| elet (T.2.2.1 o 1) fun v4 => oif (oO T o 3 = true) <| othr (g_X3_failAt T o v4 a1) 0 fun r8 T6 => g_X3_startLine_b13 T6 o)
set_option maxHeartbeats 4000000 in
set_option maxRecDepth 100000 in
theorem u_X3_startLine (l : Launch) (hst : l.stackTraces = false) (D : va_G) (cI cJ cZ cMic cSrc cSt cAI cAJ : ClassId) (ad : Nat → Nat) (T : AT) (o : Nat) (a0 : Int32) (a1 : Int32) {r1 : Int32} {T1 : AT} (h : g_X3_startLine T o a0 a1 = some (0, r1, T1)) : kCv l yX3_startLine (Cond.code yX3_startLine cX3_startLine 3 none :: wsA) 7 103 cI cJ cZ cMic cSrc cSt cAI cAJ D ad T [.ref (ad o), .int a0, .int a1] (fun T9 => T9 = T1) := by
  intro sz
  refine Met.ofW (cc := cX3_startLine) (maxL := 3) (ret := none) (by decide) rfl ?_
  intro p e s m args below meth c s₁ B hml hv
  obtain ⟨rfl, hsz, hP, hK, hD0, hX, hN⟩ := hv
  have hx := B.exec
  have hb := B.bytes
  have hr := B.returns
  have hts := atoms_spec (ws := (Cond.code yX3_startLine cX3_startLine 3 none :: wsA)) B.pre
  have hown : s.vm.findClass RX3 = some m.cls := findClass_of_methodNamed B.named
  have hlocks := B.notSynchronized
  subst hsz
  have hD := hD0.self (sz := s.heap.size)
  generalize hAe : va_A (cW ad T.1 (cc cI cJ cZ cMic cSrc cSt cAI cAJ ad T)) s.heap.size = A at hD hX ⊢
  have hA : ∀ q : Nat, s.heap.size ≤ q → A q := fun q h => by rw [← hAe]; exact Or.inr h
  have G : gC cI cJ cZ cMic cSrc cSt cAI cAJ D ad A s.heap s.heap [] T := ⟨hP, hD, va_S.rf⟩
  have E : cE p c cX3_startLine s m ([.ref (ad o), .int a0, .int a1] : List Value).toArray (Cond.code yX3_startLine cX3_startLine 3 none :: wsA) D RX3 (CT cI cJ cZ cMic cSrc cSt cAI cAJ) := ⟨hx, hb, hts, hown, hK⟩
  have hl := lv_entry ([.ref (ad o), .int a0, .int a1]) (n := 3) (Nat.le_of_ble_eq_true rfl)
  rw [lg_entry_eq]
  generalize (lg_sl ([.ref (ad o), .int a0, .int a1]) ++ List.replicate (3 - (lg_sl ([.ref (ad o), .int a0, .int a1])).length) Slot.unset).toArray = ls at hl ⊢
  have hl : lv_has ls 3 [(0, .ref (ad o)), (1, .int a0), (2, .int a1)] := hl
  unfold g_X3_startLine at h
  refine lv_iload_n hx hb dX3_startLine_0 rfl (lv_at hl 1 rfl) ?_
  refine lv_if_eq (tgt := 13) hx hb dX3_startLine_1 (by decide) (fun c2 => ?_) (fun c2 => ?_)
  · have h := oif_pos c2 h
    have hl := lv_sub hl [0] rfl
    exact u_X3_startLine_b13 E hA hX hN hml hst (fun H locs ls G => W.vret hx hb hr (fun t ht hW => ⟨⟨T1, rfl, rfl, ⟨by rw [ht]; exact G.1, va_K.moved hW.alike hK, G.2.1⟩⟩, G.2.2.F ht⟩) G.2.2.2.2 dX3_startLine_23) _ _ _ _ _ h G hl
  · have h := oif_neg c2 h
    refine lv_aload_n hx hb dX3_startLine_4 rfl (lv_at hl 0 rfl) ?_
    refine lv_aload_n hx hb dX3_startLine_5 rfl (lv_at hl 0 rfl) ?_
    obtain ⟨g3, h⟩ := oif_some h
    refine c_get E G o 1 (oO_k g3).1 (cc_o3 (oO_k g3).2) rfl (fun w h => .tail _ (iA_17 h)) (by decide) (.tail _ qA_176) rfl rfl dX3_startLine_6 ?_
    refine lv_topi (fun v4 ev4 => ?_)
    have h := elet_at ev4 h
    clear ev4
    refine lv_iload_n hx hb dX3_startLine_9 rfl (lv_at hl 2 rfl) ?_
    obtain ⟨g5, h⟩ := oif_some h
    obtain ⟨r8, T6, eT6, h⟩ := othr_n h
    refine q_cvv (As := [.int v4, .int a1]) (rest := []) E G hA hX hN hml (u_X3_failAt l hst D cI cJ cZ cMic cSrc cSt cAI cAJ ad T o v4 a1 eT6) (cwV 2 hts (gaV qA_293 qA_294 qA_295 qA_222 qA_296) rfl rfl rfl (by decide +kernel) ⟨Nat.le_of_ble_eq_true rfl, Nat.le_of_ble_eq_true rfl⟩) (oO_k g5).1 (cc_o3 (oO_k g5).2) rfl rfl hl.1 rfl (lv_room (Nat.le_of_ble_eq_true rfl)) dX3_startLine_10 ⟨Nat.zero_le _, Nat.zero_le _⟩ (fun T7 H locs hq G => ?_)
    rw [hq] at G
    clear hq eT6
    have hl := lv_sub hl [0] rfl
    exact u_X3_startLine_b13 E hA hX hN hml hst (fun H locs ls G => W.vret hx hb hr (fun t ht hW => ⟨⟨T1, rfl, rfl, ⟨by rw [ht]; exact G.1, va_K.moved hW.alike hK, G.2.1⟩⟩, G.2.2.F ht⟩) G.2.2.2.2 dX3_startLine_23) _ _ _ _ _ h G hl
set_option maxHeartbeats 4000000 in
set_option maxRecDepth 100000 in
theorem s_X3_startLine_b13 {e1 : Nat} {r1 : Int32} {T1 : AT} : ∀ (T : AT) (l0 : Nat), g_X3_startLine_b13 T l0 = some (e1, r1, T1) → SP T T1 := by
  intro T l0 h
  have p0 := SP.rf T
  unfold g_X3_startLine_b13 at h
  obtain ⟨g2, h⟩ := oif_some h
  obtain ⟨v3, -, h⟩ := elet_some h
  obtain ⟨v4, -, h⟩ := elet_some h
  obtain ⟨g5, h⟩ := oif_some h
  obtain ⟨T6, eT6, h⟩ := elet_some h
  have p1 : SP T T6 := SP.tr p0 (by rw [eT6]; exact sp_uI)
  rw [← (osome3 h).2.2]
  exact p1
set_option maxHeartbeats 4000000 in
set_option maxRecDepth 100000 in
theorem s_X3_startLine {T : AT} {o : Nat} {a0 : Int32} {a1 : Int32} {e1 : Nat} {r1 : Int32} {T1 : AT} (h : g_X3_startLine T o a0 a1 = some (e1, r1, T1)) : SP T T1 := by
  have p0 := SP.rf T
  unfold g_X3_startLine at h
  rcases oif_or h with ⟨c2, h⟩ | ⟨c2, h⟩
  · have h := h
    exact SP.tr p0 (s_X3_startLine_b13 _ _ h)
  · have h := h
    obtain ⟨g3, h⟩ := oif_some h
    obtain ⟨v4, -, h⟩ := elet_some h
    obtain ⟨g5, h⟩ := oif_some h
    rcases othr_s h with ⟨k9, r9, e9, -⟩ | ⟨r7, T6, eT6, h⟩
    · exact SP.tr p0 (s_X3_failAt e9)
    have p1 : SP T T6 := SP.tr p0 (s_X3_failAt eT6)
    exact SP.tr p1 (s_X3_startLine_b13 _ _ h)
set_option maxHeartbeats 4000000 in
set_option maxRecDepth 100000 in
theorem x_X3_startLine_b13 {p : Program} {l : Launch} {e : Env} {s : State} {m : MethodId} {args : Array Value} {below : List Frame} {meth : Method} {c : Code} {Qc : Array Value → State → Outcome → State → Prop} {XC : String → State → State → Prop} {D : va_G} {A : Nat → Prop} {cI cJ cZ cMic cSrc cSt cAI cAJ : ClassId} {ad : Nat → Nat} {e1 : Nat} {r1 : Int32} {T1 : AT} (E : cE p c cX3_startLine s m args (Cond.code yX3_startLine cX3_startLine 3 none :: wsA) D RX3 (CT cI cJ cZ cMic cSrc cSt cAI cAJ)) (hA : ∀ q : Nat, s.heap.size ≤ q → A q) (hX : xT A s) (hN : nX s) (hml : c.maxLocals = 3) (hz9 : True) (hst : l.stackTraces = false) (htab : ∀ x ∈ c.exceptionTable.toList, False) (hlocks : meth.locks = false) (kx : ∀ (H : Heap) (locs : List Loc) (t : State), gC cI cJ cZ cMic cSrc cSt cAI cAJ D ad A s.heap H locs T1 → s.vm.Alike t.vm → H.size ≤ t.heap.size → (∀ q, q < H.size → t.heap[q]? = H[q]?) → XC (exn e1) s t) : ∀ (T : AT) (H : Heap) (locs : List Loc) (ls : Array Slot) (l0 : Nat), g_X3_startLine_b13 T l0 = some (e1 + 1, r1, T1) → gC cI cJ cZ cMic cSrc cSt cAI cAJ D ad A s.heap H locs T → lv_has ls 3 [(0, .ref (ad l0))] → W p l e { frames := 7, cells := 1, slots := 6, locals := 103 } s m args below meth c H locs 0 0 (vx_MQ below Qc XC args s 1 6 A) (F0 m 13 ls []) := by
  have hx := E.1
  have hb := E.2.1
  have hts := E.2.2.1
  have hown := E.2.2.2.1
  have hK := E.2.2.2.2
  intro T H locs ls l0 h G hl
  unfold g_X3_startLine_b13 at h
  refine lv_aload_n hx hb dX3_startLine_13 rfl (lv_at hl 0 rfl) ?_
  refine lv_dup hx hb dX3_startLine_14 rfl ?_
  obtain ⟨g2, h⟩ := oif_some h
  refine c_get E G l0 1 (oO_k g2).1 (cc_o3 (oO_k g2).2) rfl (fun w h => .tail _ (iA_17 h)) (by decide) (.tail _ qA_176) rfl rfl dX3_startLine_15 ?_
  refine lv_topi (fun v3 ev3 => ?_)
  have h := elet_at ev3 h
  clear ev3
  refine lv_iconst (v := 1) hx hb dX3_startLine_18 (by decide) ?_
  refine lv_iadd hx hb dX3_startLine_19 ?_
  refine lv_topi (fun v4 ev4 => ?_)
  have h := elet_at ev4 h
  clear ev4
  obtain ⟨g5, h⟩ := oif_some h
  refine c_put E G l0 1 (v := .int v4) (oO_k g5).1 (cc_o3 (oO_k g5).2) rfl (fun w h => .tail _ (iA_17 h)) tyX3 tyX3_ok nmX3 (by decide) (.tail _ qA_176) ⟨rfl, rfl, rfl⟩ rfl rfl (Nat.le_of_ble_eq_true rfl) dX3_startLine_20 (fun H locs G => ?_)
  have G := gC_up_i (f := upd (T.2.2.1 l0) 1 v4) (by rw [(oO_k g5).2]; rfl) G
  obtain ⟨T6, eT6, h⟩ := elet_some h
  have G : gC cI cJ cZ cMic cSrc cSt cAI cAJ D ad A s.heap H locs T6 := by rw [eT6]; exact G
  clear eT6
  exact (Nat.succ_ne_zero _ (congrArg Prod.fst (Option.some.inj h)).symm).elim
set_option maxHeartbeats 4000000 in
set_option maxRecDepth 100000 in
theorem x_X3_startLine (l : Launch) (hst : l.stackTraces = false) (D : va_G) (cI cJ cZ cMic cSrc cSt cAI cAJ : ClassId) (ad : Nat → Nat) (T : AT) (o : Nat) (a0 : Int32) (a1 : Int32) {e1 : Nat} {r1 : Int32} {T1 : AT} (h : g_X3_startLine T o a0 a1 = some (e1 + 1, r1, T1)) : kXv l yX3_startLine (Cond.code yX3_startLine cX3_startLine 3 none :: wsA) 7 103 cI cJ cZ cMic cSrc cSt cAI cAJ D ad T [.ref (ad o), .int a0, .int a1] e1 T1 := by
  intro sz
  refine vx_ofW (cc := cX3_startLine) (maxL := 3) (ret := none) (by decide) rfl ?_
  intro p e s m args below meth c s₁ B hml htab hv
  obtain ⟨rfl, hsz, hP, hK, hD0, hX, hN⟩ := hv
  have hx := B.exec
  have hb := B.bytes
  have hr := B.returns
  have hts := atoms_spec (ws := (Cond.code yX3_startLine cX3_startLine 3 none :: wsA)) B.pre
  have hown : s.vm.findClass RX3 = some m.cls := findClass_of_methodNamed B.named
  have hlocks := B.notSynchronized
  subst hsz
  have hD := hD0.self (sz := s.heap.size)
  generalize hAe : va_A (cW ad T.1 (cc cI cJ cZ cMic cSrc cSt cAI cAJ ad T)) s.heap.size = A at hD hX ⊢
  have hA : ∀ q : Nat, s.heap.size ≤ q → A q := fun q h => by rw [← hAe]; exact Or.inr h
  have G : gC cI cJ cZ cMic cSrc cSt cAI cAJ D ad A s.heap s.heap [] T := ⟨hP, hD, va_S.rf⟩
  have E : cE p c cX3_startLine s m ([.ref (ad o), .int a0, .int a1] : List Value).toArray (Cond.code yX3_startLine cX3_startLine 3 none :: wsA) D RX3 (CT cI cJ cZ cMic cSrc cSt cAI cAJ) := ⟨hx, hb, hts, hown, hK⟩
  have htab : ∀ x ∈ c.exceptionTable.toList, False := fun x hx => htab x hx
  have hl := lv_entry ([.ref (ad o), .int a0, .int a1]) (n := 3) (Nat.le_of_ble_eq_true rfl)
  rw [lg_entry_eq]
  generalize (lg_sl ([.ref (ad o), .int a0, .int a1]) ++ List.replicate (3 - (lg_sl ([.ref (ad o), .int a0, .int a1])).length) Slot.unset).toArray = ls at hl ⊢
  have hl : lv_has ls 3 [(0, .ref (ad o)), (1, .int a0), (2, .int a1)] := hl
  unfold g_X3_startLine at h
  refine lv_iload_n hx hb dX3_startLine_0 rfl (lv_at hl 1 rfl) ?_
  refine lv_if_eq (tgt := 13) hx hb dX3_startLine_1 (by decide) (fun c2 => ?_) (fun c2 => ?_)
  · have h := oif_pos c2 h
    have hl := lv_sub hl [0] rfl
    exact x_X3_startLine_b13 E hA hX hN hml trivial hst htab hlocks (fun H locs t G hvm h1 h2 => ⟨T1, trivial, ⟨⟨rfl, rfl⟩, (c_thrown G hK hvm h1 h2).1⟩, (c_thrown G hK hvm h1 h2).2⟩) _ _ _ _ _ h G hl
  · have h := oif_neg c2 h
    refine lv_aload_n hx hb dX3_startLine_4 rfl (lv_at hl 0 rfl) ?_
    refine lv_aload_n hx hb dX3_startLine_5 rfl (lv_at hl 0 rfl) ?_
    obtain ⟨g3, h⟩ := oif_some h
    refine c_get E G o 1 (oO_k g3).1 (cc_o3 (oO_k g3).2) rfl (fun w h => .tail _ (iA_17 h)) (by decide) (.tail _ qA_176) rfl rfl dX3_startLine_6 ?_
    refine lv_topi (fun v4 ev4 => ?_)
    have h := elet_at ev4 h
    clear ev4
    refine lv_iload_n hx hb dX3_startLine_9 rfl (lv_at hl 2 rfl) ?_
    obtain ⟨g5, h⟩ := oif_some h
    rcases othr_t h with ⟨r0, eT6⟩ | ⟨r8, T6, eT6, h⟩
    · refine q_xvv (As := [.int v4, .int a1]) (rest := []) E G hA hX hN hml (x_X3_failAt l hst D cI cJ cZ cMic cSrc cSt cAI cAJ ad T o v4 a1 eT6) (cwV 2 hts (gaV qA_293 qA_294 qA_295 qA_222 qA_296) rfl rfl rfl (by decide +kernel) ⟨Nat.le_of_ble_eq_true rfl, Nat.le_of_ble_eq_true rfl⟩) (oO_k g5).1 (cc_o3 (oO_k g5).2) rfl rfl hl.1 rfl (lv_room (Nat.le_of_ble_eq_true rfl)) dX3_startLine_10 ⟨Nat.le_of_ble_eq_true rfl, Nat.le_of_ble_eq_true rfl⟩ (fun E9 ce q9 T9 H locs hp G hce hcv hcl => ?_)
      obtain ⟨hE, hT⟩ := hp
      subst hE
      rw [hT] at G
      exact vx_out (fun x hx => (htab x hx).elim) hlocks hce hcv hcl (fun t ht hvm => ⟨T1, trivial, ⟨⟨rfl, rfl⟩, by rw [ht]; exact G.1, va_K.moved hvm hK, G.2.1⟩, G.2.2.F ht⟩) G.2.2.2.2 (Nat.le_refl _) (Nat.le_refl _)
    refine q_cvv (As := [.int v4, .int a1]) (rest := []) E G hA hX hN hml (u_X3_failAt l hst D cI cJ cZ cMic cSrc cSt cAI cAJ ad T o v4 a1 eT6) (cwV 2 hts (gaV qA_293 qA_294 qA_295 qA_222 qA_296) rfl rfl rfl (by decide +kernel) ⟨Nat.le_of_ble_eq_true rfl, Nat.le_of_ble_eq_true rfl⟩) (oO_k g5).1 (cc_o3 (oO_k g5).2) rfl rfl hl.1 rfl (lv_room (Nat.le_of_ble_eq_true rfl)) dX3_startLine_10 ⟨Nat.zero_le _, Nat.zero_le _⟩ (fun T7 H locs hq G => ?_)
    rw [hq] at G
    clear hq eT6
    have hl := lv_sub hl [0] rfl
    exact x_X3_startLine_b13 E hA hX hN hml trivial hst htab hlocks (fun H locs t G hvm h1 h2 => ⟨T1, trivial, ⟨⟨rfl, rfl⟩, (c_thrown G hK hvm h1 h2).1⟩, (c_thrown G hK hvm h1 h2).2⟩) _ _ _ _ _ h G hl
def g_X3_parseOff_b41  (T : AT) (l1 : Nat) (l2 : Int32) : Option (Nat × Int32 × AT) := oif (oO T l1 6 = true) <| obind (T.2.2.2.2 l1 7) fun n3 => oif (aA T n3 104 = true) <| oif (inb l2 (T.2.1 n3).2 = true) <| obind (T.2.2.2.2 n3 l2.toNatClampNeg) fun n6 => oif (oO T n6 7 = true) <| elet (uI T n6 9 1) fun T8 => some (0, 0, T8)
set_option maxHeartbeats 4000000 in
set_option maxRecDepth 100000 in
theorem u_X3_parseOff_b41 {p : Program} {l : Launch} {e : Env} {s : State} {m : MethodId} {args : Array Value} {below : List Frame} {meth : Method} {c : Code} {Q : State → Prop} {D : va_G} {A : Nat → Prop} {cI cJ cZ cMic cSrc cSt cAI cAJ : ClassId} {ad : Nat → Nat} {r1 : Int32} {T1 : AT} (E : cE p c cX3_parseOff s m args (Cond.code yX3_parseOff cX3_parseOff 3 none :: wsA) D RX3 (CT cI cJ cZ cMic cSrc cSt cAI cAJ)) (hA : ∀ q : Nat, s.heap.size ≤ q → A q) (hX : xT A s) (hN : nX s) (hml : c.maxLocals = 3) (hst : l.stackTraces = false) (kr51 : ∀ (H : Heap) (locs : List Loc) (ls : Array Slot), gC cI cJ cZ cMic cSrc cSt cAI cAJ D ad A s.heap H locs T1 → W p l e { frames := 8, cells := 0, slots := 0, locals := 126 } s m args below meth c H locs 0 0 Q (F0 m 51 ls [])) : ∀ (T : AT) (H : Heap) (locs : List Loc) (ls : Array Slot) (l1 : Nat) (l2 : Int32), g_X3_parseOff_b41 T l1 l2 = some (0, r1, T1) → gC cI cJ cZ cMic cSrc cSt cAI cAJ D ad A s.heap H locs T → lv_has ls 3 [(1, .ref (ad l1)), (2, .int l2)] → W p l e { frames := 8, cells := 0, slots := 0, locals := 126 } s m args below meth c H locs 0 0 Q (F0 m 41 ls []) := by
  have hx := E.1
  have hb := E.2.1
  have hts := E.2.2.1
  have hown := E.2.2.2.1
  have hK := E.2.2.2.2
  intro T H locs ls l1 l2 h G hl
  unfold g_X3_parseOff_b41 at h
  refine lv_aload_n hx hb dX3_parseOff_41 rfl (lv_at hl 0 rfl) ?_
  obtain ⟨g2, h⟩ := oif_some h
  obtain ⟨n3, en3, h⟩ := obind_some h
  refine c_get E G l1 7 (v := .ref (ad n3)) (oO_k g2).1 (cc_o6 (oO_k g2).2) rfl (fun w h => .tail _ (iA_14 h)) (by decide) (.tail _ qA_344) rfl (by rw [en3]; rfl) dX3_parseOff_42 ?_
  clear en3
  refine lv_iload_n hx hb dX3_parseOff_45 rfl (lv_at hl 1 rfl) ?_
  obtain ⟨g4, h⟩ := oif_some h
  obtain ⟨g5, h⟩ := oif_some h
  obtain ⟨n6, en6, h⟩ := obind_some h
  refine c_aldq E G n3 4 (k := l2.toNatClampNeg) (v := .ref (ad n6)) (aA_k g4).1 (cc_a104 (aA_k g4).2.1) rfl (inb_k g5).1 (inb_k g5).2 (aA_k g4).2.2 (by show va_rf ((T.2.2.2.2 n3 l2.toNatClampNeg).map ad) = _; rw [en6]; rfl) dX3_parseOff_46 ?_
  clear en6
  refine lv_iconst (v := 1) hx hb dX3_parseOff_47 (by decide) ?_
  obtain ⟨g7, h⟩ := oif_some h
  refine c_put E G n6 9 (v := .int 1) (oO_k g7).1 (cc_o7 (oO_k g7).2) rfl (fun w h => .tail _ (iA_20 h)) tyX7 tyX7_ok nmX7 (by decide) (.tail _ qA_354) ⟨rfl, rfl, rfl⟩ rfl rfl (Nat.le_of_ble_eq_true rfl) dX3_parseOff_48 (fun H locs G => ?_)
  have G := gC_up_i (f := upd (T.2.2.1 n6) 9 1) (by rw [(oO_k g7).2]; rfl) G
  obtain ⟨T8, eT8, h⟩ := elet_some h
  have G : gC cI cJ cZ cMic cSrc cSt cAI cAJ D ad A s.heap H locs T8 := by rw [eT8]; exact G
  clear eT8
  rw [(osome3 h).2.2] at G
  exact kr51 _ _ _ G
def g_X3_parseOff (T : AT) (o : Nat) (a0 : Nat) : Option (Nat × Int32 × AT) := oif (oO T o 3 = true) <| othr (g_X3_startLine T o (0 : Int32) (3 : Int32)) 0 fun r5 T3 => oif (oO T3 a0 6 = true) <| elet (T3.2.2.1 a0 8) fun v8 => elet (v8 - 1) fun v9 => oif (oO T3 o 3 = true) <| othr (g_X3_number T3 o (0 : Int32) v9) 0 fun r13 T11 => oif (oO T11 a0 6 = true) <| obind (T11.2.2.2.2 a0 7) fun n16 => oif (aA T11 n16 104 = true) <| oif (inb r13 (T11.2.1 n16).2 = true) <| obind (T11.2.2.2.2 n16 r13.toNatClampNeg) fun n19 => oif (oO T11 n19 7 = true) <| elet (T11.2.2.1 n19 9) fun v21 => if v21 = 0 then (g_X3_parseOff_b41 T11 a0 r13) else (oif (oO T11 o 3 = true) <| elet (T11.2.2.1 o 1) fun v24 => elet (v24 - 1) fun v25 => oif (oO T11 o 3 = true) <| othr (g_X3_failAt T11 o v25 (3 : Int32)) 0 fun r29 T27 => g_X3_parseOff_b41 T27 a0 r13)
set_option maxHeartbeats 4000000 in
set_option maxRecDepth 100000 in
theorem u_X3_parseOff (l : Launch) (hst : l.stackTraces = false) (D : va_G) (cI cJ cZ cMic cSrc cSt cAI cAJ : ClassId) (ad : Nat → Nat) (T : AT) (o : Nat) (a0 : Nat) {r1 : Int32} {T1 : AT} (h : g_X3_parseOff T o a0 = some (0, r1, T1)) : kCv l yX3_parseOff (Cond.code yX3_parseOff cX3_parseOff 3 none :: wsA) 8 126 cI cJ cZ cMic cSrc cSt cAI cAJ D ad T [.ref (ad o), .ref (ad a0)] (fun T9 => T9 = T1) := by
  intro sz
  refine Met.ofW (cc := cX3_parseOff) (maxL := 3) (ret := none) (by decide) rfl ?_
  intro p e s m args below meth c s₁ B hml hv
  obtain ⟨rfl, hsz, hP, hK, hD0, hX, hN⟩ := hv
  have hx := B.exec
  have hb := B.bytes
  have hr := B.returns
  have hts := atoms_spec (ws := (Cond.code yX3_parseOff cX3_parseOff 3 none :: wsA)) B.pre
  have hown : s.vm.findClass RX3 = some m.cls := findClass_of_methodNamed B.named
  have hlocks := B.notSynchronized
  subst hsz
  have hD := hD0.self (sz := s.heap.size)
  generalize hAe : va_A (cW ad T.1 (cc cI cJ cZ cMic cSrc cSt cAI cAJ ad T)) s.heap.size = A at hD hX ⊢
  have hA : ∀ q : Nat, s.heap.size ≤ q → A q := fun q h => by rw [← hAe]; exact Or.inr h
  have G : gC cI cJ cZ cMic cSrc cSt cAI cAJ D ad A s.heap s.heap [] T := ⟨hP, hD, va_S.rf⟩
  have E : cE p c cX3_parseOff s m ([.ref (ad o), .ref (ad a0)] : List Value).toArray (Cond.code yX3_parseOff cX3_parseOff 3 none :: wsA) D RX3 (CT cI cJ cZ cMic cSrc cSt cAI cAJ) := ⟨hx, hb, hts, hown, hK⟩
  have hl := lv_entry ([.ref (ad o), .ref (ad a0)]) (n := 3) (Nat.le_of_ble_eq_true rfl)
  rw [lg_entry_eq]
  generalize (lg_sl ([.ref (ad o), .ref (ad a0)]) ++ List.replicate (3 - (lg_sl ([.ref (ad o), .ref (ad a0)])).length) Slot.unset).toArray = ls at hl ⊢
  have hl : lv_has ls 3 [(0, .ref (ad o)), (1, .ref (ad a0))] := hl
  unfold g_X3_parseOff at h
  refine lv_aload_n hx hb dX3_parseOff_0 rfl (lv_at hl 0 rfl) ?_
  refine lv_iconst (v := 0) hx hb dX3_parseOff_1 (by decide) ?_
  refine lv_iconst (v := 3) hx hb dX3_parseOff_2 (by decide) ?_
  obtain ⟨g2, h⟩ := oif_some h
  obtain ⟨r5, T3, eT3, h⟩ := othr_n h
  refine q_cvv (As := [.int 0, .int 3]) (rest := []) E G hA hX hN hml (u_X3_startLine l hst D cI cJ cZ cMic cSrc cSt cAI cAJ ad T o (0 : Int32) (3 : Int32) eT3) (cwV 2 hts (gaV qA_321 qA_322 qA_323 qA_222 qA_324) rfl rfl rfl (by decide +kernel) ⟨Nat.le_of_ble_eq_true rfl, Nat.le_of_ble_eq_true rfl⟩) (oO_k g2).1 (cc_o3 (oO_k g2).2) rfl rfl hl.1 rfl (lv_room (Nat.le_of_ble_eq_true rfl)) dX3_parseOff_3 ⟨Nat.zero_le _, Nat.zero_le _⟩ (fun T4 H locs hq G => ?_)
  rw [hq] at G
  clear hq eT3
  refine lv_aload_n hx hb dX3_parseOff_6 rfl (lv_at hl 0 rfl) ?_
  refine lv_iconst (v := 0) hx hb dX3_parseOff_7 (by decide) ?_
  refine lv_aload_n hx hb dX3_parseOff_8 rfl (lv_at hl 1 rfl) ?_
  obtain ⟨g7, h⟩ := oif_some h
  refine c_get E G a0 8 (oO_k g7).1 (cc_o6 (oO_k g7).2) rfl (fun w h => .tail _ (iA_14 h)) (by decide) (.tail _ qA_343) rfl rfl dX3_parseOff_9 ?_
  refine lv_topi (fun v8 ev8 => ?_)
  have h := elet_at ev8 h
  clear ev8
  refine lv_iconst (v := 1) hx hb dX3_parseOff_12 (by decide) ?_
  refine lv_isub hx hb dX3_parseOff_13 ?_
  refine lv_topi (fun v9 ev9 => ?_)
  have h := elet_at ev9 h
  clear ev9
  obtain ⟨g10, h⟩ := oif_some h
  obtain ⟨r13, T11, eT11, h⟩ := othr_n h
  refine q_cvi (As := [.int 0, .int v9]) (rest := []) E G hA hX hN hml (u_X3_number l hst D cI cJ cZ cMic cSrc cSt cAI cAJ ad T3 o (0 : Int32) v9 eT11) (cwV 2 hts (gaV qA_299 qA_300 qA_301 qA_222 qA_302) rfl rfl rfl (by decide +kernel) ⟨Nat.le_of_ble_eq_true rfl, Nat.le_of_ble_eq_true rfl⟩) (oO_k g10).1 (cc_o3 (oO_k g10).2) rfl rfl hl.1 rfl (lv_room (Nat.le_of_ble_eq_true rfl)) dX3_parseOff_14 ⟨Nat.zero_le _, Nat.zero_le _⟩ (fun q14 T12 H locs hq G => ?_)
  obtain ⟨hq1, hq2⟩ := hq
  rw [hq2] at G
  refine lv_to hq1 ?_
  clear hq1 hq2 eT11
  refine lv_istore_n (lv' := [(2, .int r13), (0, .ref (ad o)), (1, .ref (ad a0))]) hx hb dX3_parseOff_17 rfl hl (by decide) rfl (fun ls hl => ?_)
  refine lv_aload_n hx hb dX3_parseOff_18 rfl (lv_at hl 2 rfl) ?_
  obtain ⟨g15, h⟩ := oif_some h
  obtain ⟨n16, en16, h⟩ := obind_some h
  refine c_get E G a0 7 (v := .ref (ad n16)) (oO_k g15).1 (cc_o6 (oO_k g15).2) rfl (fun w h => .tail _ (iA_14 h)) (by decide) (.tail _ qA_344) rfl (by rw [en16]; rfl) dX3_parseOff_19 ?_
  clear en16
  refine lv_iload_n hx hb dX3_parseOff_22 rfl (lv_at hl 0 rfl) ?_
  obtain ⟨g17, h⟩ := oif_some h
  obtain ⟨g18, h⟩ := oif_some h
  obtain ⟨n19, en19, h⟩ := obind_some h
  refine c_aldq E G n16 4 (k := r13.toNatClampNeg) (v := .ref (ad n19)) (aA_k g17).1 (cc_a104 (aA_k g17).2.1) rfl (inb_k g18).1 (inb_k g18).2 (aA_k g17).2.2 (by show va_rf ((T11.2.2.2.2 n16 r13.toNatClampNeg).map ad) = _; rw [en19]; rfl) dX3_parseOff_23 ?_
  clear en19
  obtain ⟨g20, h⟩ := oif_some h
  refine c_get E G n19 9 (oO_k g20).1 (cc_o7 (oO_k g20).2) rfl (fun w h => .tail _ (iA_20 h)) (by decide) (.tail _ qA_354) rfl rfl dX3_parseOff_24 ?_
  refine lv_topi (fun v21 ev21 => ?_)
  have h := elet_at ev21 h
  clear ev21
  refine lv_if_eq (tgt := 41) hx hb dX3_parseOff_27 (by decide) (fun c22 => ?_) (fun c22 => ?_)
  · have h := oif_pos c22 h
    have hl := lv_sub hl [2, 0] rfl
    exact u_X3_parseOff_b41 E hA hX hN hml hst (fun H locs ls G => W.vret hx hb hr (fun t ht hW => ⟨⟨T1, rfl, rfl, ⟨by rw [ht]; exact G.1, va_K.moved hW.alike hK, G.2.1⟩⟩, G.2.2.F ht⟩) G.2.2.2.2 dX3_parseOff_51) _ _ _ _ _ _ h G hl
  · have h := oif_neg c22 h
    refine lv_aload_n hx hb dX3_parseOff_30 rfl (lv_at hl 1 rfl) ?_
    refine lv_aload_n hx hb dX3_parseOff_31 rfl (lv_at hl 1 rfl) ?_
    obtain ⟨g23, h⟩ := oif_some h
    refine c_get E G o 1 (oO_k g23).1 (cc_o3 (oO_k g23).2) rfl (fun w h => .tail _ (iA_17 h)) (by decide) (.tail _ qA_176) rfl rfl dX3_parseOff_32 ?_
    refine lv_topi (fun v24 ev24 => ?_)
    have h := elet_at ev24 h
    clear ev24
    refine lv_iconst (v := 1) hx hb dX3_parseOff_35 (by decide) ?_
    refine lv_isub hx hb dX3_parseOff_36 ?_
    refine lv_topi (fun v25 ev25 => ?_)
    have h := elet_at ev25 h
    clear ev25
    refine lv_iconst (v := 3) hx hb dX3_parseOff_37 (by decide) ?_
    obtain ⟨g26, h⟩ := oif_some h
    obtain ⟨r29, T27, eT27, h⟩ := othr_n h
    refine q_cvv (As := [.int v25, .int 3]) (rest := []) E G hA hX hN hml (u_X3_failAt l hst D cI cJ cZ cMic cSrc cSt cAI cAJ ad T11 o v25 (3 : Int32) eT27) (cwV 2 hts (gaV qA_293 qA_294 qA_295 qA_222 qA_296) rfl rfl rfl (by decide +kernel) ⟨Nat.le_of_ble_eq_true rfl, Nat.le_of_ble_eq_true rfl⟩) (oO_k g26).1 (cc_o3 (oO_k g26).2) rfl rfl hl.1 rfl (lv_room (Nat.le_of_ble_eq_true rfl)) dX3_parseOff_38 ⟨Nat.zero_le _, Nat.zero_le _⟩ (fun T28 H locs hq G => ?_)
    rw [hq] at G
    clear hq eT27
    have hl := lv_sub hl [2, 0] rfl
    exact u_X3_parseOff_b41 E hA hX hN hml hst (fun H locs ls G => W.vret hx hb hr (fun t ht hW => ⟨⟨T1, rfl, rfl, ⟨by rw [ht]; exact G.1, va_K.moved hW.alike hK, G.2.1⟩⟩, G.2.2.F ht⟩) G.2.2.2.2 dX3_parseOff_51) _ _ _ _ _ _ h G hl
set_option maxHeartbeats 4000000 in
set_option maxRecDepth 100000 in
theorem s_X3_parseOff_b41 {e1 : Nat} {r1 : Int32} {T1 : AT} : ∀ (T : AT) (l1 : Nat) (l2 : Int32), g_X3_parseOff_b41 T l1 l2 = some (e1, r1, T1) → SP T T1 := by
  intro T l1 l2 h
  have p0 := SP.rf T
  unfold g_X3_parseOff_b41 at h
  obtain ⟨g2, h⟩ := oif_some h
  obtain ⟨n3, en3, h⟩ := obind_some h
  obtain ⟨g4, h⟩ := oif_some h
  obtain ⟨g5, h⟩ := oif_some h
  obtain ⟨n6, en6, h⟩ := obind_some h
  obtain ⟨g7, h⟩ := oif_some h
  obtain ⟨T8, eT8, h⟩ := elet_some h
  have p1 : SP T T8 := SP.tr p0 (by rw [eT8]; exact sp_uI)
  rw [← (osome3 h).2.2]
  exact p1
set_option maxHeartbeats 4000000 in
set_option maxRecDepth 100000 in
theorem s_X3_parseOff {T : AT} {o : Nat} {a0 : Nat} {e1 : Nat} {r1 : Int32} {T1 : AT} (h : g_X3_parseOff T o a0 = some (e1, r1, T1)) : SP T T1 := by
  have p0 := SP.rf T
  unfold g_X3_parseOff at h
  obtain ⟨g2, h⟩ := oif_some h
  rcases othr_s h with ⟨k9, r9, e9, -⟩ | ⟨r4, T3, eT3, h⟩
  · exact SP.tr p0 (s_X3_startLine e9)
  have p1 : SP T T3 := SP.tr p0 (s_X3_startLine eT3)
  obtain ⟨g5, h⟩ := oif_some h
  obtain ⟨v6, -, h⟩ := elet_some h
  obtain ⟨v7, -, h⟩ := elet_some h
  obtain ⟨g8, h⟩ := oif_some h
  rcases othr_s h with ⟨k9, r9, e9, -⟩ | ⟨r10, T9, eT9, h⟩
  · exact SP.tr p1 (s_X3_number e9)
  have p2 : SP T T9 := SP.tr p1 (s_X3_number eT9)
  obtain ⟨g11, h⟩ := oif_some h
  obtain ⟨n12, en12, h⟩ := obind_some h
  obtain ⟨g13, h⟩ := oif_some h
  obtain ⟨g14, h⟩ := oif_some h
  obtain ⟨n15, en15, h⟩ := obind_some h
  obtain ⟨g16, h⟩ := oif_some h
  obtain ⟨v17, -, h⟩ := elet_some h
  rcases oif_or h with ⟨c18, h⟩ | ⟨c18, h⟩
  · have h := h
    exact SP.tr p2 (s_X3_parseOff_b41 _ _ _ h)
  · have h := h
    obtain ⟨g19, h⟩ := oif_some h
    obtain ⟨v20, -, h⟩ := elet_some h
    obtain ⟨v21, -, h⟩ := elet_some h
    obtain ⟨g22, h⟩ := oif_some h
    rcases othr_s h with ⟨k9, r9, e9, -⟩ | ⟨r24, T23, eT23, h⟩
    · exact SP.tr p2 (s_X3_failAt e9)
    have p3 : SP T T23 := SP.tr p2 (s_X3_failAt eT23)
    exact SP.tr p3 (s_X3_parseOff_b41 _ _ _ h)
set_option maxHeartbeats 4000000 in
set_option maxRecDepth 100000 in
theorem x_X3_parseOff_b41 {p : Program} {l : Launch} {e : Env} {s : State} {m : MethodId} {args : Array Value} {below : List Frame} {meth : Method} {c : Code} {Qc : Array Value → State → Outcome → State → Prop} {XC : String → State → State → Prop} {D : va_G} {A : Nat → Prop} {cI cJ cZ cMic cSrc cSt cAI cAJ : ClassId} {ad : Nat → Nat} {e1 : Nat} {r1 : Int32} {T1 : AT} (E : cE p c cX3_parseOff s m args (Cond.code yX3_parseOff cX3_parseOff 3 none :: wsA) D RX3 (CT cI cJ cZ cMic cSrc cSt cAI cAJ)) (hA : ∀ q : Nat, s.heap.size ≤ q → A q) (hX : xT A s) (hN : nX s) (hml : c.maxLocals = 3) (hz9 : True) (hst : l.stackTraces = false) (htab : ∀ x ∈ c.exceptionTable.toList, False) (hlocks : meth.locks = false) (kx : ∀ (H : Heap) (locs : List Loc) (t : State), gC cI cJ cZ cMic cSrc cSt cAI cAJ D ad A s.heap H locs T1 → s.vm.Alike t.vm → H.size ≤ t.heap.size → (∀ q, q < H.size → t.heap[q]? = H[q]?) → XC (exn e1) s t) : ∀ (T : AT) (H : Heap) (locs : List Loc) (ls : Array Slot) (l1 : Nat) (l2 : Int32), g_X3_parseOff_b41 T l1 l2 = some (e1 + 1, r1, T1) → gC cI cJ cZ cMic cSrc cSt cAI cAJ D ad A s.heap H locs T → lv_has ls 3 [(1, .ref (ad l1)), (2, .int l2)] → W p l e { frames := 8, cells := 1, slots := 6, locals := 126 } s m args below meth c H locs 0 0 (vx_MQ below Qc XC args s 1 6 A) (F0 m 41 ls []) := by
  have hx := E.1
  have hb := E.2.1
  have hts := E.2.2.1
  have hown := E.2.2.2.1
  have hK := E.2.2.2.2
  intro T H locs ls l1 l2 h G hl
  unfold g_X3_parseOff_b41 at h
  refine lv_aload_n hx hb dX3_parseOff_41 rfl (lv_at hl 0 rfl) ?_
  obtain ⟨g2, h⟩ := oif_some h
  obtain ⟨n3, en3, h⟩ := obind_some h
  refine c_get E G l1 7 (v := .ref (ad n3)) (oO_k g2).1 (cc_o6 (oO_k g2).2) rfl (fun w h => .tail _ (iA_14 h)) (by decide) (.tail _ qA_344) rfl (by rw [en3]; rfl) dX3_parseOff_42 ?_
  clear en3
  refine lv_iload_n hx hb dX3_parseOff_45 rfl (lv_at hl 1 rfl) ?_
  obtain ⟨g4, h⟩ := oif_some h
  obtain ⟨g5, h⟩ := oif_some h
  obtain ⟨n6, en6, h⟩ := obind_some h
  refine c_aldq E G n3 4 (k := l2.toNatClampNeg) (v := .ref (ad n6)) (aA_k g4).1 (cc_a104 (aA_k g4).2.1) rfl (inb_k g5).1 (inb_k g5).2 (aA_k g4).2.2 (by show va_rf ((T.2.2.2.2 n3 l2.toNatClampNeg).map ad) = _; rw [en6]; rfl) dX3_parseOff_46 ?_
  clear en6
  refine lv_iconst (v := 1) hx hb dX3_parseOff_47 (by decide) ?_
  obtain ⟨g7, h⟩ := oif_some h
  refine c_put E G n6 9 (v := .int 1) (oO_k g7).1 (cc_o7 (oO_k g7).2) rfl (fun w h => .tail _ (iA_20 h)) tyX7 tyX7_ok nmX7 (by decide) (.tail _ qA_354) ⟨rfl, rfl, rfl⟩ rfl rfl (Nat.le_of_ble_eq_true rfl) dX3_parseOff_48 (fun H locs G => ?_)
  have G := gC_up_i (f := upd (T.2.2.1 n6) 9 1) (by rw [(oO_k g7).2]; rfl) G
  obtain ⟨T8, eT8, h⟩ := elet_some h
  have G : gC cI cJ cZ cMic cSrc cSt cAI cAJ D ad A s.heap H locs T8 := by rw [eT8]; exact G
  clear eT8
  exact (Nat.succ_ne_zero _ (congrArg Prod.fst (Option.some.inj h)).symm).elim
set_option maxHeartbeats 4000000 in
set_option maxRecDepth 100000 in
theorem x_X3_parseOff (l : Launch) (hst : l.stackTraces = false) (D : va_G) (cI cJ cZ cMic cSrc cSt cAI cAJ : ClassId) (ad : Nat → Nat) (T : AT) (o : Nat) (a0 : Nat) {e1 : Nat} {r1 : Int32} {T1 : AT} (h : g_X3_parseOff T o a0 = some (e1 + 1, r1, T1)) : kXv l yX3_parseOff (Cond.code yX3_parseOff cX3_parseOff 3 none :: wsA) 8 126 cI cJ cZ cMic cSrc cSt cAI cAJ D ad T [.ref (ad o), .ref (ad a0)] e1 T1 := by
  intro sz
  refine vx_ofW (cc := cX3_parseOff) (maxL := 3) (ret := none) (by decide) rfl ?_
  intro p e s m args below meth c s₁ B hml htab hv
  obtain ⟨rfl, hsz, hP, hK, hD0, hX, hN⟩ := hv
  have hx := B.exec
  have hb := B.bytes
  have hr := B.returns
  have hts := atoms_spec (ws := (Cond.code yX3_parseOff cX3_parseOff 3 none :: wsA)) B.pre
  have hown : s.vm.findClass RX3 = some m.cls := findClass_of_methodNamed B.named
  have hlocks := B.notSynchronized
  subst hsz
  have hD := hD0.self (sz := s.heap.size)
  generalize hAe : va_A (cW ad T.1 (cc cI cJ cZ cMic cSrc cSt cAI cAJ ad T)) s.heap.size = A at hD hX ⊢
  have hA : ∀ q : Nat, s.heap.size ≤ q → A q := fun q h => by rw [← hAe]; exact Or.inr h
  have G : gC cI cJ cZ cMic cSrc cSt cAI cAJ D ad A s.heap s.heap [] T := ⟨hP, hD, va_S.rf⟩
  have E : cE p c cX3_parseOff s m ([.ref (ad o), .ref (ad a0)] : List Value).toArray (Cond.code yX3_parseOff cX3_parseOff 3 none :: wsA) D RX3 (CT cI cJ cZ cMic cSrc cSt cAI cAJ) := ⟨hx, hb, hts, hown, hK⟩
  have htab : ∀ x ∈ c.exceptionTable.toList, False := fun x hx => htab x hx
  have hl := lv_entry ([.ref (ad o), .ref (ad a0)]) (n := 3) (Nat.le_of_ble_eq_true rfl)
  rw [lg_entry_eq]
  generalize (lg_sl ([.ref (ad o), .ref (ad a0)]) ++ List.replicate (3 - (lg_sl ([.ref (ad o), .ref (ad a0)])).length) Slot.unset).toArray = ls at hl ⊢
  have hl : lv_has ls 3 [(0, .ref (ad o)), (1, .ref (ad a0))] := hl
  unfold g_X3_parseOff at h
  refine lv_aload_n hx hb dX3_parseOff_0 rfl (lv_at hl 0 rfl) ?_
  refine lv_iconst (v := 0) hx hb dX3_parseOff_1 (by decide) ?_
  refine lv_iconst (v := 3) hx hb dX3_parseOff_2 (by decide) ?_
  obtain ⟨g2, h⟩ := oif_some h
  rcases othr_t h with ⟨r0, eT3⟩ | ⟨r5, T3, eT3, h⟩
  · refine q_xvv (As := [.int 0, .int 3]) (rest := []) E G hA hX hN hml (x_X3_startLine l hst D cI cJ cZ cMic cSrc cSt cAI cAJ ad T o (0 : Int32) (3 : Int32) eT3) (cwV 2 hts (gaV qA_321 qA_322 qA_323 qA_222 qA_324) rfl rfl rfl (by decide +kernel) ⟨Nat.le_of_ble_eq_true rfl, Nat.le_of_ble_eq_true rfl⟩) (oO_k g2).1 (cc_o3 (oO_k g2).2) rfl rfl hl.1 rfl (lv_room (Nat.le_of_ble_eq_true rfl)) dX3_parseOff_3 ⟨Nat.le_of_ble_eq_true rfl, Nat.le_of_ble_eq_true rfl⟩ (fun E9 ce q9 T9 H locs hp G hce hcv hcl => ?_)
    obtain ⟨hE, hT⟩ := hp
    subst hE
    rw [hT] at G
    exact vx_out (fun x hx => (htab x hx).elim) hlocks hce hcv hcl (fun t ht hvm => ⟨T1, trivial, ⟨⟨rfl, rfl⟩, by rw [ht]; exact G.1, va_K.moved hvm hK, G.2.1⟩, G.2.2.F ht⟩) G.2.2.2.2 (Nat.le_refl _) (Nat.le_refl _)
  refine q_cvv (As := [.int 0, .int 3]) (rest := []) E G hA hX hN hml (u_X3_startLine l hst D cI cJ cZ cMic cSrc cSt cAI cAJ ad T o (0 : Int32) (3 : Int32) eT3) (cwV 2 hts (gaV qA_321 qA_322 qA_323 qA_222 qA_324) rfl rfl rfl (by decide +kernel) ⟨Nat.le_of_ble_eq_true rfl, Nat.le_of_ble_eq_true rfl⟩) (oO_k g2).1 (cc_o3 (oO_k g2).2) rfl rfl hl.1 rfl (lv_room (Nat.le_of_ble_eq_true rfl)) dX3_parseOff_3 ⟨Nat.zero_le _, Nat.zero_le _⟩ (fun T4 H locs hq G => ?_)
  rw [hq] at G
  clear hq eT3
  refine lv_aload_n hx hb dX3_parseOff_6 rfl (lv_at hl 0 rfl) ?_
  refine lv_iconst (v := 0) hx hb dX3_parseOff_7 (by decide) ?_
  refine lv_aload_n hx hb dX3_parseOff_8 rfl (lv_at hl 1 rfl) ?_
  obtain ⟨g7, h⟩ := oif_some h
  refine c_get E G a0 8 (oO_k g7).1 (cc_o6 (oO_k g7).2) rfl (fun w h => .tail _ (iA_14 h)) (by decide) (.tail _ qA_343) rfl rfl dX3_parseOff_9 ?_
  refine lv_topi (fun v8 ev8 => ?_)
  have h := elet_at ev8 h
  clear ev8
  refine lv_iconst (v := 1) hx hb dX3_parseOff_12 (by decide) ?_
  refine lv_isub hx hb dX3_parseOff_13 ?_
  refine lv_topi (fun v9 ev9 => ?_)
  have h := elet_at ev9 h
  clear ev9
  obtain ⟨g10, h⟩ := oif_some h
  rcases othr_t h with ⟨r0, eT11⟩ | ⟨r13, T11, eT11, h⟩
  · refine q_xvi (As := [.int 0, .int v9]) (rest := []) E G hA hX hN hml (x_X3_number l hst D cI cJ cZ cMic cSrc cSt cAI cAJ ad T3 o (0 : Int32) v9 eT11) (cwV 2 hts (gaV qA_299 qA_300 qA_301 qA_222 qA_302) rfl rfl rfl (by decide +kernel) ⟨Nat.le_of_ble_eq_true rfl, Nat.le_of_ble_eq_true rfl⟩) (oO_k g10).1 (cc_o3 (oO_k g10).2) rfl rfl hl.1 rfl (lv_room (Nat.le_of_ble_eq_true rfl)) dX3_parseOff_14 ⟨Nat.le_of_ble_eq_true rfl, Nat.le_of_ble_eq_true rfl⟩ (fun E9 ce q9 T9 H locs hp G hce hcv hcl => ?_)
    obtain ⟨hE, hT⟩ := hp
    subst hE
    rw [hT] at G
    exact vx_out (fun x hx => (htab x hx).elim) hlocks hce hcv hcl (fun t ht hvm => ⟨T1, trivial, ⟨⟨rfl, rfl⟩, by rw [ht]; exact G.1, va_K.moved hvm hK, G.2.1⟩, G.2.2.F ht⟩) G.2.2.2.2 (Nat.le_refl _) (Nat.le_refl _)
  refine q_cvi (As := [.int 0, .int v9]) (rest := []) E G hA hX hN hml (u_X3_number l hst D cI cJ cZ cMic cSrc cSt cAI cAJ ad T3 o (0 : Int32) v9 eT11) (cwV 2 hts (gaV qA_299 qA_300 qA_301 qA_222 qA_302) rfl rfl rfl (by decide +kernel) ⟨Nat.le_of_ble_eq_true rfl, Nat.le_of_ble_eq_true rfl⟩) (oO_k g10).1 (cc_o3 (oO_k g10).2) rfl rfl hl.1 rfl (lv_room (Nat.le_of_ble_eq_true rfl)) dX3_parseOff_14 ⟨Nat.zero_le _, Nat.zero_le _⟩ (fun q14 T12 H locs hq G => ?_)
  obtain ⟨hq1, hq2⟩ := hq
  rw [hq2] at G
  refine lv_to hq1 ?_
  clear hq1 hq2 eT11
  refine lv_istore_n (lv' := [(2, .int r13), (0, .ref (ad o)), (1, .ref (ad a0))]) hx hb dX3_parseOff_17 rfl hl (by decide) rfl (fun ls hl => ?_)
  refine lv_aload_n hx hb dX3_parseOff_18 rfl (lv_at hl 2 rfl) ?_
  obtain ⟨g15, h⟩ := oif_some h
  obtain ⟨n16, en16, h⟩ := obind_some h
  refine c_get E G a0 7 (v := .ref (ad n16)) (oO_k g15).1 (cc_o6 (oO_k g15).2) rfl (fun w h => .tail _ (iA_14 h)) (by decide) (.tail _ qA_344) rfl (by rw [en16]; rfl) dX3_parseOff_19 ?_
  clear en16
  refine lv_iload_n hx hb dX3_parseOff_22 rfl (lv_at hl 0 rfl) ?_
  obtain ⟨g17, h⟩ := oif_some h
  obtain ⟨g18, h⟩ := oif_some h
  obtain ⟨n19, en19, h⟩ := obind_some h
  refine c_aldq E G n16 4 (k := r13.toNatClampNeg) (v := .ref (ad n19)) (aA_k g17).1 (cc_a104 (aA_k g17).2.1) rfl (inb_k g18).1 (inb_k g18).2 (aA_k g17).2.2 (by show va_rf ((T11.2.2.2.2 n16 r13.toNatClampNeg).map ad) = _; rw [en19]; rfl) dX3_parseOff_23 ?_
  clear en19
  obtain ⟨g20, h⟩ := oif_some h
  refine c_get E G n19 9 (oO_k g20).1 (cc_o7 (oO_k g20).2) rfl (fun w h => .tail _ (iA_20 h)) (by decide) (.tail _ qA_354) rfl rfl dX3_parseOff_24 ?_
  refine lv_topi (fun v21 ev21 => ?_)
  have h := elet_at ev21 h
  clear ev21
  refine lv_if_eq (tgt := 41) hx hb dX3_parseOff_27 (by decide) (fun c22 => ?_) (fun c22 => ?_)
  · have h := oif_pos c22 h
    have hl := lv_sub hl [2, 0] rfl
    exact x_X3_parseOff_b41 E hA hX hN hml trivial hst htab hlocks (fun H locs t G hvm h1 h2 => ⟨T1, trivial, ⟨⟨rfl, rfl⟩, (c_thrown G hK hvm h1 h2).1⟩, (c_thrown G hK hvm h1 h2).2⟩) _ _ _ _ _ _ h G hl
  · have h := oif_neg c22 h
    refine lv_aload_n hx hb dX3_parseOff_30 rfl (lv_at hl 1 rfl) ?_
    refine lv_aload_n hx hb dX3_parseOff_31 rfl (lv_at hl 1 rfl) ?_
    obtain ⟨g23, h⟩ := oif_some h
    refine c_get E G o 1 (oO_k g23).1 (cc_o3 (oO_k g23).2) rfl (fun w h => .tail _ (iA_17 h)) (by decide) (.tail _ qA_176) rfl rfl dX3_parseOff_32 ?_
    refine lv_topi (fun v24 ev24 => ?_)
    have h := elet_at ev24 h
    clear ev24
    refine lv_iconst (v := 1) hx hb dX3_parseOff_35 (by decide) ?_
    refine lv_isub hx hb dX3_parseOff_36 ?_
    refine lv_topi (fun v25 ev25 => ?_)
    have h := elet_at ev25 h
    clear ev25
    refine lv_iconst (v := 3) hx hb dX3_parseOff_37 (by decide) ?_
    obtain ⟨g26, h⟩ := oif_some h
    rcases othr_t h with ⟨r0, eT27⟩ | ⟨r29, T27, eT27, h⟩
    · refine q_xvv (As := [.int v25, .int 3]) (rest := []) E G hA hX hN hml (x_X3_failAt l hst D cI cJ cZ cMic cSrc cSt cAI cAJ ad T11 o v25 (3 : Int32) eT27) (cwV 2 hts (gaV qA_293 qA_294 qA_295 qA_222 qA_296) rfl rfl rfl (by decide +kernel) ⟨Nat.le_of_ble_eq_true rfl, Nat.le_of_ble_eq_true rfl⟩) (oO_k g26).1 (cc_o3 (oO_k g26).2) rfl rfl hl.1 rfl (lv_room (Nat.le_of_ble_eq_true rfl)) dX3_parseOff_38 ⟨Nat.le_of_ble_eq_true rfl, Nat.le_of_ble_eq_true rfl⟩ (fun E9 ce q9 T9 H locs hp G hce hcv hcl => ?_)
      obtain ⟨hE, hT⟩ := hp
      subst hE
      rw [hT] at G
      exact vx_out (fun x hx => (htab x hx).elim) hlocks hce hcv hcl (fun t ht hvm => ⟨T1, trivial, ⟨⟨rfl, rfl⟩, by rw [ht]; exact G.1, va_K.moved hvm hK, G.2.1⟩, G.2.2.F ht⟩) G.2.2.2.2 (Nat.le_refl _) (Nat.le_refl _)
    refine q_cvv (As := [.int v25, .int 3]) (rest := []) E G hA hX hN hml (u_X3_failAt l hst D cI cJ cZ cMic cSrc cSt cAI cAJ ad T11 o v25 (3 : Int32) eT27) (cwV 2 hts (gaV qA_293 qA_294 qA_295 qA_222 qA_296) rfl rfl rfl (by decide +kernel) ⟨Nat.le_of_ble_eq_true rfl, Nat.le_of_ble_eq_true rfl⟩) (oO_k g26).1 (cc_o3 (oO_k g26).2) rfl rfl hl.1 rfl (lv_room (Nat.le_of_ble_eq_true rfl)) dX3_parseOff_38 ⟨Nat.zero_le _, Nat.zero_le _⟩ (fun T28 H locs hq G => ?_)
    rw [hq] at G
    clear hq eT27
    have hl := lv_sub hl [2, 0] rfl
    exact x_X3_parseOff_b41 E hA hX hN hml trivial hst htab hlocks (fun H locs t G hvm h1 h2 => ⟨T1, trivial, ⟨⟨rfl, rfl⟩, (c_thrown G hK hvm h1 h2).1⟩, (c_thrown G hK hvm h1 h2).2⟩) _ _ _ _ _ _ h G hl
def g_X6_addShade_b29  (T : AT)  : Option (AT) := some T
set_option maxHeartbeats 4000000 in
set_option maxRecDepth 100000 in
theorem u_X6_addShade_b29 {p : Program} {l : Launch} {e : Env} {s : State} {m : MethodId} {args : Array Value} {below : List Frame} {meth : Method} {c : Code} {Q : State → Prop} {D : va_G} {A : Nat → Prop} {cI cJ cZ cMic cSrc cSt cAI cAJ : ClassId} {ad : Nat → Nat} {T1 : AT} (E : cE p c cX6_addShade s m args (Cond.code yX6_addShade cX6_addShade 2 none :: wsA) D RX6 (CT cI cJ cZ cMic cSrc cSt cAI cAJ)) (hA : ∀ q : Nat, s.heap.size ≤ q → A q) (hX : xT A s) (hN : nX s) (hml : c.maxLocals = 2) (hst : l.stackTraces = false) (kr29 : ∀ (H : Heap) (locs : List Loc) (ls : Array Slot), gC cI cJ cZ cMic cSrc cSt cAI cAJ D ad A s.heap H locs T1 → W p l e { frames := 1, cells := 0, slots := 0, locals := 0 } s m args below meth c H locs 0 0 Q (F0 m 29 ls [])) : ∀ (T : AT) (H : Heap) (locs : List Loc) (ls : Array Slot), g_X6_addShade_b29 T = some T1 → gC cI cJ cZ cMic cSrc cSt cAI cAJ D ad A s.heap H locs T → lv_has ls 2 [] → W p l e { frames := 1, cells := 0, slots := 0, locals := 0 } s m args below meth c H locs 0 0 Q (F0 m 29 ls []) := by
  have hx := E.1
  have hb := E.2.1
  have hts := E.2.2.1
  have hown := E.2.2.2.1
  have hK := E.2.2.2.2
  intro T H locs ls h G hl
  unfold g_X6_addShade_b29 at h
  rw [osome1 h] at G
  exact kr29 _ _ _ G
def g_X6_addShade (T : AT) (o : Nat) (a0 : Int32) : Option (AT) := oif (oO T o 6 = true) <| elet (T.2.2.1 o 16) fun v3 => if 12 ≤ v3 then (g_X6_addShade_b29 T) else (oif (oO T o 6 = true) <| obind (T.2.2.2.2 o 15) fun n6 => oif (oO T o 6 = true) <| elet (T.2.2.1 o 16) fun v8 => oif (aA T n6 100 = true) <| oif (inb v8 (T.2.1 n6).2 = true) <| elet (uI T n6 v8.toNatClampNeg a0) fun T11 => oif (oO T11 o 6 = true) <| elet (T11.2.2.1 o 16) fun v13 => elet (v13 + 1) fun v14 => oif (oO T11 o 6 = true) <| elet (uI T11 o 16 v14) fun T16 => g_X6_addShade_b29 T16)
set_option maxHeartbeats 4000000 in
set_option maxRecDepth 100000 in
theorem u_X6_addShade (l : Launch) (hst : l.stackTraces = false) (D : va_G) (cI cJ cZ cMic cSrc cSt cAI cAJ : ClassId) (ad : Nat → Nat) (T : AT) (o : Nat) (a0 : Int32) {T1 : AT} (h : g_X6_addShade T o a0 = some T1) : kCv l yX6_addShade (Cond.code yX6_addShade cX6_addShade 2 none :: wsA) 1 0 cI cJ cZ cMic cSrc cSt cAI cAJ D ad T [.ref (ad o), .int a0] (fun T9 => T9 = T1) := by
  intro sz
  refine Met.ofW (cc := cX6_addShade) (maxL := 2) (ret := none) (by decide) rfl ?_
  intro p e s m args below meth c s₁ B hml hv
  obtain ⟨rfl, hsz, hP, hK, hD0, hX, hN⟩ := hv
  have hx := B.exec
  have hb := B.bytes
  have hr := B.returns
  have hts := atoms_spec (ws := (Cond.code yX6_addShade cX6_addShade 2 none :: wsA)) B.pre
  have hown : s.vm.findClass RX6 = some m.cls := findClass_of_methodNamed B.named
  have hlocks := B.notSynchronized
  subst hsz
  have hD := hD0.self (sz := s.heap.size)
  generalize hAe : va_A (cW ad T.1 (cc cI cJ cZ cMic cSrc cSt cAI cAJ ad T)) s.heap.size = A at hD hX ⊢
  have hA : ∀ q : Nat, s.heap.size ≤ q → A q := fun q h => by rw [← hAe]; exact Or.inr h
  have G : gC cI cJ cZ cMic cSrc cSt cAI cAJ D ad A s.heap s.heap [] T := ⟨hP, hD, va_S.rf⟩
  have E : cE p c cX6_addShade s m ([.ref (ad o), .int a0] : List Value).toArray (Cond.code yX6_addShade cX6_addShade 2 none :: wsA) D RX6 (CT cI cJ cZ cMic cSrc cSt cAI cAJ) := ⟨hx, hb, hts, hown, hK⟩
  have hl := lv_entry ([.ref (ad o), .int a0]) (n := 2) (Nat.le_of_ble_eq_true rfl)
  rw [lg_entry_eq]
  generalize (lg_sl ([.ref (ad o), .int a0]) ++ List.replicate (2 - (lg_sl ([.ref (ad o), .int a0])).length) Slot.unset).toArray = ls at hl ⊢
  have hl : lv_has ls 2 [(0, .ref (ad o)), (1, .int a0)] := hl
  unfold g_X6_addShade at h
  refine lv_aload_n hx hb dX6_addShade_0 rfl (lv_at hl 0 rfl) ?_
  obtain ⟨g2, h⟩ := oif_some h
  refine c_get E G o 16 (oO_k g2).1 (cc_o6 (oO_k g2).2) rfl (fun w h => .tail _ (iA_14 h)) (by decide) (.tail _ qA_215) rfl rfl dX6_addShade_1 ?_
  refine lv_topi (fun v3 ev3 => ?_)
  have h := elet_at ev3 h
  clear ev3
  refine lv_bipush (v := 12) hx hb dX6_addShade_4 (by decide) ?_
  refine lv_icmp_ge (tgt := 29) hx hb dX6_addShade_6 (by decide) (fun c4 => ?_) (fun c4 => ?_)
  · have h := oif_pos c4 h
    have hl := lv_sub hl [] rfl
    exact u_X6_addShade_b29 E hA hX hN hml hst (fun H locs ls G => W.vret hx hb hr (fun t ht hW => ⟨⟨T1, rfl, rfl, ⟨by rw [ht]; exact G.1, va_K.moved hW.alike hK, G.2.1⟩⟩, G.2.2.F ht⟩) G.2.2.2.2 dX6_addShade_29) _ _ _ _ h G hl
  · have h := oif_neg c4 h
    refine lv_aload_n hx hb dX6_addShade_9 rfl (lv_at hl 0 rfl) ?_
    obtain ⟨g5, h⟩ := oif_some h
    obtain ⟨n6, en6, h⟩ := obind_some h
    refine c_get E G o 15 (v := .ref (ad n6)) (oO_k g5).1 (cc_o6 (oO_k g5).2) rfl (fun w h => .tail _ (iA_14 h)) (by decide) (.tail _ qA_400) rfl (by rw [en6]; rfl) dX6_addShade_10 ?_
    clear en6
    refine lv_aload_n hx hb dX6_addShade_13 rfl (lv_at hl 0 rfl) ?_
    obtain ⟨g7, h⟩ := oif_some h
    refine c_get E G o 16 (oO_k g7).1 (cc_o6 (oO_k g7).2) rfl (fun w h => .tail _ (iA_14 h)) (by decide) (.tail _ qA_215) rfl rfl dX6_addShade_14 ?_
    refine lv_topi (fun v8 ev8 => ?_)
    have h := elet_at ev8 h
    clear ev8
    refine lv_iload_n hx hb dX6_addShade_17 rfl (lv_at hl 1 rfl) ?_
    obtain ⟨g9, h⟩ := oif_some h
    obtain ⟨g10, h⟩ := oif_some h
    refine c_iast E G n6 0 (k := v8.toNatClampNeg) (v := a0) (aA_k g9).1 (cc_a100 (aA_k g9).2.1) rfl (inb_k g10).1 (inb_k g10).2 (aA_k g9).2.2 dX6_addShade_18 (fun H locs G => ?_)
    have G := gC_up_i (f := upd (T.2.2.1 n6) v8.toNatClampNeg a0) (ccv_100 (aA_k g9).2.1) G
    obtain ⟨T11, eT11, h⟩ := elet_some h
    have G : gC cI cJ cZ cMic cSrc cSt cAI cAJ D ad A s.heap H locs T11 := by rw [eT11]; exact G
    clear eT11
    refine lv_aload_n hx hb dX6_addShade_19 rfl (lv_at hl 0 rfl) ?_
    refine lv_dup hx hb dX6_addShade_20 rfl ?_
    obtain ⟨g12, h⟩ := oif_some h
    refine c_get E G o 16 (oO_k g12).1 (cc_o6 (oO_k g12).2) rfl (fun w h => .tail _ (iA_14 h)) (by decide) (.tail _ qA_215) rfl rfl dX6_addShade_21 ?_
    refine lv_topi (fun v13 ev13 => ?_)
    have h := elet_at ev13 h
    clear ev13
    refine lv_iconst (v := 1) hx hb dX6_addShade_24 (by decide) ?_
    refine lv_iadd hx hb dX6_addShade_25 ?_
    refine lv_topi (fun v14 ev14 => ?_)
    have h := elet_at ev14 h
    clear ev14
    obtain ⟨g15, h⟩ := oif_some h
    refine c_put E G o 16 (v := .int v14) (oO_k g15).1 (cc_o6 (oO_k g15).2) rfl (fun w h => .tail _ (iA_14 h)) tyX6 tyX6_ok nmX6 (by decide) (.tail _ qA_215) ⟨rfl, rfl, rfl⟩ rfl rfl (Nat.le_of_ble_eq_true rfl) dX6_addShade_26 (fun H locs G => ?_)
    have G := gC_up_i (f := upd (T11.2.2.1 o) 16 v14) (by rw [(oO_k g15).2]; rfl) G
    obtain ⟨T16, eT16, h⟩ := elet_some h
    have G : gC cI cJ cZ cMic cSrc cSt cAI cAJ D ad A s.heap H locs T16 := by rw [eT16]; exact G
    clear eT16
    have hl := lv_sub hl [] rfl
    exact u_X6_addShade_b29 E hA hX hN hml hst (fun H locs ls G => W.vret hx hb hr (fun t ht hW => ⟨⟨T1, rfl, rfl, ⟨by rw [ht]; exact G.1, va_K.moved hW.alike hK, G.2.1⟩⟩, G.2.2.F ht⟩) G.2.2.2.2 dX6_addShade_29) _ _ _ _ h G hl
set_option maxHeartbeats 4000000 in
set_option maxRecDepth 100000 in
theorem s_X6_addShade_b29 {T1 : AT} : ∀ (T : AT), g_X6_addShade_b29 T = some T1 → SP T T1 := by
  intro T h
  have p0 := SP.rf T
  unfold g_X6_addShade_b29 at h
  rw [← osome1 h]
  exact p0
set_option maxHeartbeats 4000000 in
set_option maxRecDepth 100000 in
theorem s_X6_addShade {T : AT} {o : Nat} {a0 : Int32} {T1 : AT} (h : g_X6_addShade T o a0 = some T1) : SP T T1 := by
  have p0 := SP.rf T
  unfold g_X6_addShade at h
  obtain ⟨g2, h⟩ := oif_some h
  obtain ⟨v3, -, h⟩ := elet_some h
  rcases oif_or h with ⟨c4, h⟩ | ⟨c4, h⟩
  · have h := h
    exact SP.tr p0 (s_X6_addShade_b29 _ h)
  · have h := h
    obtain ⟨g5, h⟩ := oif_some h
    obtain ⟨n6, en6, h⟩ := obind_some h
    obtain ⟨g7, h⟩ := oif_some h
    obtain ⟨v8, -, h⟩ := elet_some h
    obtain ⟨g9, h⟩ := oif_some h
    obtain ⟨g10, h⟩ := oif_some h
    obtain ⟨T11, eT11, h⟩ := elet_some h
    have p1 : SP T T11 := SP.tr p0 (by rw [eT11]; exact sp_uI)
    obtain ⟨g12, h⟩ := oif_some h
    obtain ⟨v13, -, h⟩ := elet_some h
    obtain ⟨v14, -, h⟩ := elet_some h
    obtain ⟨g15, h⟩ := oif_some h
    obtain ⟨T16, eT16, h⟩ := elet_some h
    have p2 : SP T T16 := SP.tr p1 (by rw [eT16]; exact sp_uI)
    exact SP.tr p2 (s_X6_addShade_b29 _ h)
def g_X3_failAsTooMany_b26  (T : AT) (s0 : Int32) (s1 : Int32) (s2 : Nat) : Option (Nat × Int32 × AT) := oif (oO T s2 3 = true) <| othr (g_X3_failAt T s2 s1 s0) 0 fun r5 T3 => some (0, 0, T3)
set_option maxHeartbeats 4000000 in
set_option maxRecDepth 100000 in
theorem u_X3_failAsTooMany_b26 {p : Program} {l : Launch} {e : Env} {s : State} {m : MethodId} {args : Array Value} {below : List Frame} {meth : Method} {c : Code} {Q : State → Prop} {D : va_G} {A : Nat → Prop} {cI cJ cZ cMic cSrc cSt cAI cAJ : ClassId} {ad : Nat → Nat} {r1 : Int32} {T1 : AT} (E : cE p c cX3_failAsTooMany s m args (Cond.code yX3_failAsTooMany cX3_failAsTooMany 2 none :: wsA) D RX3 (CT cI cJ cZ cMic cSrc cSt cAI cAJ)) (hA : ∀ q : Nat, s.heap.size ≤ q → A q) (hX : xT A s) (hN : nX s) (hml : c.maxLocals = 2) (hst : l.stackTraces = false) (kr29 : ∀ (H : Heap) (locs : List Loc) (ls : Array Slot), gC cI cJ cZ cMic cSrc cSt cAI cAJ D ad A s.heap H locs T1 → W p l e { frames := 7, cells := 0, slots := 0, locals := 103 } s m args below meth c H locs 0 0 Q (F0 m 29 ls [])) : ∀ (T : AT) (H : Heap) (locs : List Loc) (ls : Array Slot) (s0 : Int32) (s1 : Int32) (s2 : Nat), g_X3_failAsTooMany_b26 T s0 s1 s2 = some (0, r1, T1) → gC cI cJ cZ cMic cSrc cSt cAI cAJ D ad A s.heap H locs T → lv_has ls 2 [] → W p l e { frames := 7, cells := 0, slots := 0, locals := 103 } s m args below meth c H locs 0 0 Q (F0 m 26 ls [.int s0, .int s1, .ref (ad s2)]) := by
  have hx := E.1
  have hb := E.2.1
  have hts := E.2.2.1
  have hown := E.2.2.2.1
  have hK := E.2.2.2.2
  intro T H locs ls s0 s1 s2 h G hl
  unfold g_X3_failAsTooMany_b26 at h
  obtain ⟨g2, h⟩ := oif_some h
  obtain ⟨r5, T3, eT3, h⟩ := othr_n h
  refine q_cvv (As := [.int s1, .int s0]) (rest := []) E G hA hX hN hml (u_X3_failAt l hst D cI cJ cZ cMic cSrc cSt cAI cAJ ad T s2 s1 s0 eT3) (cwV 2 hts (gaV qA_293 qA_294 qA_295 qA_222 qA_296) rfl rfl rfl (by decide +kernel) ⟨Nat.le_of_ble_eq_true rfl, Nat.le_of_ble_eq_true rfl⟩) (oO_k g2).1 (cc_o3 (oO_k g2).2) rfl rfl hl.1 rfl (lv_room (Nat.le_of_ble_eq_true rfl)) dX3_failAsTooMany_26 ⟨Nat.zero_le _, Nat.zero_le _⟩ (fun T4 H locs hq G => ?_)
  rw [hq] at G
  clear hq eT3
  rw [(osome3 h).2.2] at G
  exact kr29 _ _ _ G
def g_X3_failAsTooMany_b25  (T : AT) (s0 : Int32) (s1 : Nat) : Option (Nat × Int32 × AT) := g_X3_failAsTooMany_b26 T 4 s0 s1
set_option maxHeartbeats 4000000 in
set_option maxRecDepth 100000 in
theorem u_X3_failAsTooMany_b25 {p : Program} {l : Launch} {e : Env} {s : State} {m : MethodId} {args : Array Value} {below : List Frame} {meth : Method} {c : Code} {Q : State → Prop} {D : va_G} {A : Nat → Prop} {cI cJ cZ cMic cSrc cSt cAI cAJ : ClassId} {ad : Nat → Nat} {r1 : Int32} {T1 : AT} (E : cE p c cX3_failAsTooMany s m args (Cond.code yX3_failAsTooMany cX3_failAsTooMany 2 none :: wsA) D RX3 (CT cI cJ cZ cMic cSrc cSt cAI cAJ)) (hA : ∀ q : Nat, s.heap.size ≤ q → A q) (hX : xT A s) (hN : nX s) (hml : c.maxLocals = 2) (hst : l.stackTraces = false) (kr29 : ∀ (H : Heap) (locs : List Loc) (ls : Array Slot), gC cI cJ cZ cMic cSrc cSt cAI cAJ D ad A s.heap H locs T1 → W p l e { frames := 7, cells := 0, slots := 0, locals := 103 } s m args below meth c H locs 0 0 Q (F0 m 29 ls [])) : ∀ (T : AT) (H : Heap) (locs : List Loc) (ls : Array Slot) (s0 : Int32) (s1 : Nat), g_X3_failAsTooMany_b25 T s0 s1 = some (0, r1, T1) → gC cI cJ cZ cMic cSrc cSt cAI cAJ D ad A s.heap H locs T → lv_has ls 2 [] → W p l e { frames := 7, cells := 0, slots := 0, locals := 103 } s m args below meth c H locs 0 0 Q (F0 m 25 ls [.int s0, .ref (ad s1)]) := by
  have hx := E.1
  have hb := E.2.1
  have hts := E.2.2.1
  have hown := E.2.2.2.1
  have hK := E.2.2.2.2
  intro T H locs ls s0 s1 h G hl
  unfold g_X3_failAsTooMany_b25 at h
  refine lv_iconst (v := 4) hx hb dX3_failAsTooMany_25 (by decide) ?_
  have hl := lv_sub hl [] rfl
  exact u_X3_failAsTooMany_b26 E hA hX hN hml hst kr29 _ _ _ _ _ _ _ h G hl
def g_X3_failAsTooMany (T : AT) (o : Nat) (a0 : Int32) : Option (Nat × Int32 × AT) := oif (oO T o 3 = true) <| elet (T.2.2.1 o 1) fun v3 => oif (oO T o 3 = true) <| obind2 (g_X3_kind T o) fun r7 T5 => if r7 = 2 then (oif (oO T5 o 3 = true) <| obind2 (g_X3_value T5 o) fun r13 T11 => if r13 ≤ a0 then (g_X3_failAsTooMany_b25 T11 v3 o) else (g_X3_failAsTooMany_b26 T11 2 v3 o)) else (g_X3_failAsTooMany_b25 T5 v3 o)
set_option maxHeartbeats 4000000 in
set_option maxRecDepth 100000 in
theorem u_X3_failAsTooMany (l : Launch) (hst : l.stackTraces = false) (D : va_G) (cI cJ cZ cMic cSrc cSt cAI cAJ : ClassId) (ad : Nat → Nat) (T : AT) (o : Nat) (a0 : Int32) {r1 : Int32} {T1 : AT} (h : g_X3_failAsTooMany T o a0 = some (0, r1, T1)) : kCv l yX3_failAsTooMany (Cond.code yX3_failAsTooMany cX3_failAsTooMany 2 none :: wsA) 7 103 cI cJ cZ cMic cSrc cSt cAI cAJ D ad T [.ref (ad o), .int a0] (fun T9 => T9 = T1) := by
  intro sz
  refine Met.ofW (cc := cX3_failAsTooMany) (maxL := 2) (ret := none) (by decide) rfl ?_
  intro p e s m args below meth c s₁ B hml hv
  obtain ⟨rfl, hsz, hP, hK, hD0, hX, hN⟩ := hv
  have hx := B.exec
  have hb := B.bytes
  have hr := B.returns
  have hts := atoms_spec (ws := (Cond.code yX3_failAsTooMany cX3_failAsTooMany 2 none :: wsA)) B.pre
  have hown : s.vm.findClass RX3 = some m.cls := findClass_of_methodNamed B.named
  have hlocks := B.notSynchronized
  subst hsz
  have hD := hD0.self (sz := s.heap.size)
  generalize hAe : va_A (cW ad T.1 (cc cI cJ cZ cMic cSrc cSt cAI cAJ ad T)) s.heap.size = A at hD hX ⊢
  have hA : ∀ q : Nat, s.heap.size ≤ q → A q := fun q h => by rw [← hAe]; exact Or.inr h
  have G : gC cI cJ cZ cMic cSrc cSt cAI cAJ D ad A s.heap s.heap [] T := ⟨hP, hD, va_S.rf⟩
  have E : cE p c cX3_failAsTooMany s m ([.ref (ad o), .int a0] : List Value).toArray (Cond.code yX3_failAsTooMany cX3_failAsTooMany 2 none :: wsA) D RX3 (CT cI cJ cZ cMic cSrc cSt cAI cAJ) := ⟨hx, hb, hts, hown, hK⟩
  have hl := lv_entry ([.ref (ad o), .int a0]) (n := 2) (Nat.le_of_ble_eq_true rfl)
  rw [lg_entry_eq]
  generalize (lg_sl ([.ref (ad o), .int a0]) ++ List.replicate (2 - (lg_sl ([.ref (ad o), .int a0])).length) Slot.unset).toArray = ls at hl ⊢
  have hl : lv_has ls 2 [(0, .ref (ad o)), (1, .int a0)] := hl
  unfold g_X3_failAsTooMany at h
  refine lv_aload_n hx hb dX3_failAsTooMany_0 rfl (lv_at hl 0 rfl) ?_
  refine lv_aload_n hx hb dX3_failAsTooMany_1 rfl (lv_at hl 0 rfl) ?_
  obtain ⟨g2, h⟩ := oif_some h
  refine c_get E G o 1 (oO_k g2).1 (cc_o3 (oO_k g2).2) rfl (fun w h => .tail _ (iA_17 h)) (by decide) (.tail _ qA_176) rfl rfl dX3_failAsTooMany_2 ?_
  refine lv_topi (fun v3 ev3 => ?_)
  have h := elet_at ev3 h
  clear ev3
  refine lv_aload_n hx hb dX3_failAsTooMany_5 rfl (lv_at hl 0 rfl) ?_
  obtain ⟨g4, h⟩ := oif_some h
  obtain ⟨r7, T5, eT5, h⟩ := obind2_some h
  refine q_cvi (As := []) (rest := [.int v3, .ref (ad o)]) E G hA hX hN hml (u_X3_kind l hst D cI cJ cZ cMic cSrc cSt cAI cAJ ad T o eT5) (cwV 0 hts (gaV qA_239 qA_240 qA_241 qA_222 qA_242) rfl rfl rfl (by decide +kernel) ⟨Nat.le_of_ble_eq_true rfl, Nat.le_of_ble_eq_true rfl⟩) (oO_k g4).1 (cc_o3 (oO_k g4).2) rfl rfl hl.1 rfl (lv_room (Nat.le_of_ble_eq_true rfl)) dX3_failAsTooMany_6 ⟨Nat.zero_le _, Nat.zero_le _⟩ (fun q8 T6 H locs hq G => ?_)
  obtain ⟨hq1, hq2⟩ := hq
  rw [hq2] at G
  refine lv_to hq1 ?_
  clear hq1 hq2 eT5
  refine lv_iconst (v := 2) hx hb dX3_failAsTooMany_9 (by decide) ?_
  refine lv_icmp_ne (tgt := 25) hx hb dX3_failAsTooMany_10 (by decide) (fun c9 => ?_) (fun c9 => ?_)
  · have h := oif_neg c9 h
    have hl := lv_sub hl [] rfl
    exact u_X3_failAsTooMany_b25 E hA hX hN hml hst (fun H locs ls G => W.vret hx hb hr (fun t ht hW => ⟨⟨T1, rfl, rfl, ⟨by rw [ht]; exact G.1, va_K.moved hW.alike hK, G.2.1⟩⟩, G.2.2.F ht⟩) G.2.2.2.2 dX3_failAsTooMany_29) _ _ _ _ _ _ h G hl
  · have h := oif_pos c9 h
    refine lv_aload_n hx hb dX3_failAsTooMany_13 rfl (lv_at hl 0 rfl) ?_
    obtain ⟨g10, h⟩ := oif_some h
    obtain ⟨r13, T11, eT11, h⟩ := obind2_some h
    refine q_cvi (As := []) (rest := [.int v3, .ref (ad o)]) E G hA hX hN hml (u_X3_value l hst D cI cJ cZ cMic cSrc cSt cAI cAJ ad T5 o eT11) (cwV 0 hts (gaV qA_303 qA_304 qA_305 qA_222 qA_306) rfl rfl rfl (by decide +kernel) ⟨Nat.le_of_ble_eq_true rfl, Nat.le_of_ble_eq_true rfl⟩) (oO_k g10).1 (cc_o3 (oO_k g10).2) rfl rfl hl.1 rfl (lv_room (Nat.le_of_ble_eq_true rfl)) dX3_failAsTooMany_14 ⟨Nat.zero_le _, Nat.zero_le _⟩ (fun q14 T12 H locs hq G => ?_)
    obtain ⟨hq1, hq2⟩ := hq
    rw [hq2] at G
    refine lv_to hq1 ?_
    clear hq1 hq2 eT11
    refine lv_iload_n hx hb dX3_failAsTooMany_17 rfl (lv_at hl 1 rfl) ?_
    refine lv_icmp_le (tgt := 25) hx hb dX3_failAsTooMany_18 (by decide) (fun c15 => ?_) (fun c15 => ?_)
    · have h := oif_pos c15 h
      have hl := lv_sub hl [] rfl
      exact u_X3_failAsTooMany_b25 E hA hX hN hml hst (fun H locs ls G => W.vret hx hb hr (fun t ht hW => ⟨⟨T1, rfl, rfl, ⟨by rw [ht]; exact G.1, va_K.moved hW.alike hK, G.2.1⟩⟩, G.2.2.F ht⟩) G.2.2.2.2 dX3_failAsTooMany_29) _ _ _ _ _ _ h G hl
    · have h := oif_neg c15 h
      refine lv_iconst (v := 2) hx hb dX3_failAsTooMany_21 (by decide) ?_
      refine lv_goto (tgt := 26) hx hb dX3_failAsTooMany_22 (by decide) ?_
      have hl := lv_sub hl [] rfl
      exact u_X3_failAsTooMany_b26 E hA hX hN hml hst (fun H locs ls G => W.vret hx hb hr (fun t ht hW => ⟨⟨T1, rfl, rfl, ⟨by rw [ht]; exact G.1, va_K.moved hW.alike hK, G.2.1⟩⟩, G.2.2.F ht⟩) G.2.2.2.2 dX3_failAsTooMany_29) _ _ _ _ _ _ _ h G hl
set_option maxHeartbeats 4000000 in
set_option maxRecDepth 100000 in
theorem s_X3_failAsTooMany_b26 {e1 : Nat} {r1 : Int32} {T1 : AT} : ∀ (T : AT) (s0 : Int32) (s1 : Int32) (s2 : Nat), g_X3_failAsTooMany_b26 T s0 s1 s2 = some (e1, r1, T1) → SP T T1 := by
  intro T s0 s1 s2 h
  have p0 := SP.rf T
  unfold g_X3_failAsTooMany_b26 at h
  obtain ⟨g2, h⟩ := oif_some h
  rcases othr_s h with ⟨k9, r9, e9, -⟩ | ⟨r4, T3, eT3, h⟩
  · exact SP.tr p0 (s_X3_failAt e9)
  have p1 : SP T T3 := SP.tr p0 (s_X3_failAt eT3)
  rw [← (osome3 h).2.2]
  exact p1
set_option maxHeartbeats 4000000 in
set_option maxRecDepth 100000 in
theorem s_X3_failAsTooMany_b25 {e1 : Nat} {r1 : Int32} {T1 : AT} : ∀ (T : AT) (s0 : Int32) (s1 : Nat), g_X3_failAsTooMany_b25 T s0 s1 = some (e1, r1, T1) → SP T T1 := by
  intro T s0 s1 h
  have p0 := SP.rf T
  unfold g_X3_failAsTooMany_b25 at h
  exact SP.tr p0 (s_X3_failAsTooMany_b26 _ _ _ _ h)
set_option maxHeartbeats 4000000 in
set_option maxRecDepth 100000 in
theorem s_X3_failAsTooMany {T : AT} {o : Nat} {a0 : Int32} {e1 : Nat} {r1 : Int32} {T1 : AT} (h : g_X3_failAsTooMany T o a0 = some (e1, r1, T1)) : SP T T1 := by
  have p0 := SP.rf T
  unfold g_X3_failAsTooMany at h
  obtain ⟨g2, h⟩ := oif_some h
  obtain ⟨v3, -, h⟩ := elet_some h
  obtain ⟨g4, h⟩ := oif_some h
  obtain ⟨r6, T5, eT5, h⟩ := obind2_some h
  have p1 : SP T T5 := SP.tr p0 (s_X3_kind eT5)
  rcases oif_or h with ⟨c7, h⟩ | ⟨c7, h⟩
  · have h := h
    obtain ⟨g8, h⟩ := oif_some h
    obtain ⟨r10, T9, eT9, h⟩ := obind2_some h
    have p2 : SP T T9 := SP.tr p1 (s_X3_value eT9)
    rcases oif_or h with ⟨c11, h⟩ | ⟨c11, h⟩
    · have h := h
      exact SP.tr p2 (s_X3_failAsTooMany_b25 _ _ _ h)
    · have h := h
      exact SP.tr p2 (s_X3_failAsTooMany_b26 _ _ _ _ h)
  · have h := h
    exact SP.tr p1 (s_X3_failAsTooMany_b25 _ _ _ h)
set_option maxHeartbeats 4000000 in
set_option maxRecDepth 100000 in
theorem x_X3_failAsTooMany_b26 {p : Program} {l : Launch} {e : Env} {s : State} {m : MethodId} {args : Array Value} {below : List Frame} {meth : Method} {c : Code} {Qc : Array Value → State → Outcome → State → Prop} {XC : String → State → State → Prop} {D : va_G} {A : Nat → Prop} {cI cJ cZ cMic cSrc cSt cAI cAJ : ClassId} {ad : Nat → Nat} {e1 : Nat} {r1 : Int32} {T1 : AT} (E : cE p c cX3_failAsTooMany s m args (Cond.code yX3_failAsTooMany cX3_failAsTooMany 2 none :: wsA) D RX3 (CT cI cJ cZ cMic cSrc cSt cAI cAJ)) (hA : ∀ q : Nat, s.heap.size ≤ q → A q) (hX : xT A s) (hN : nX s) (hml : c.maxLocals = 2) (hz9 : True) (hst : l.stackTraces = false) (htab : ∀ x ∈ c.exceptionTable.toList, False) (hlocks : meth.locks = false) (kx : ∀ (H : Heap) (locs : List Loc) (t : State), gC cI cJ cZ cMic cSrc cSt cAI cAJ D ad A s.heap H locs T1 → s.vm.Alike t.vm → H.size ≤ t.heap.size → (∀ q, q < H.size → t.heap[q]? = H[q]?) → XC (exn e1) s t) : ∀ (T : AT) (H : Heap) (locs : List Loc) (ls : Array Slot) (s0 : Int32) (s1 : Int32) (s2 : Nat), g_X3_failAsTooMany_b26 T s0 s1 s2 = some (e1 + 1, r1, T1) → gC cI cJ cZ cMic cSrc cSt cAI cAJ D ad A s.heap H locs T → lv_has ls 2 [] → W p l e { frames := 7, cells := 1, slots := 6, locals := 103 } s m args below meth c H locs 0 0 (vx_MQ below Qc XC args s 1 6 A) (F0 m 26 ls [.int s0, .int s1, .ref (ad s2)]) := by
  have hx := E.1
  have hb := E.2.1
  have hts := E.2.2.1
  have hown := E.2.2.2.1
  have hK := E.2.2.2.2
  intro T H locs ls s0 s1 s2 h G hl
  unfold g_X3_failAsTooMany_b26 at h
  obtain ⟨g2, h⟩ := oif_some h
  rcases othr_t h with ⟨r0, eT3⟩ | ⟨r5, T3, eT3, h⟩
  · refine q_xvv (As := [.int s1, .int s0]) (rest := []) E G hA hX hN hml (x_X3_failAt l hst D cI cJ cZ cMic cSrc cSt cAI cAJ ad T s2 s1 s0 eT3) (cwV 2 hts (gaV qA_293 qA_294 qA_295 qA_222 qA_296) rfl rfl rfl (by decide +kernel) ⟨Nat.le_of_ble_eq_true rfl, Nat.le_of_ble_eq_true rfl⟩) (oO_k g2).1 (cc_o3 (oO_k g2).2) rfl rfl hl.1 rfl (lv_room (Nat.le_of_ble_eq_true rfl)) dX3_failAsTooMany_26 ⟨Nat.le_of_ble_eq_true rfl, Nat.le_of_ble_eq_true rfl⟩ (fun E9 ce q9 T9 H locs hp G hce hcv hcl => ?_)
    obtain ⟨hE, hT⟩ := hp
    subst hE
    rw [hT] at G
    exact vx_out (fun x hx => (htab x hx).elim) hlocks hce hcv hcl (fun t ht hvm => kx _ _ _ G hvm (by rw [ht]; exact Nat.le_refl _) (fun q hq => by rw [ht])) G.2.2.2.2 (Nat.le_refl _) (Nat.le_refl _)
  refine q_cvv (As := [.int s1, .int s0]) (rest := []) E G hA hX hN hml (u_X3_failAt l hst D cI cJ cZ cMic cSrc cSt cAI cAJ ad T s2 s1 s0 eT3) (cwV 2 hts (gaV qA_293 qA_294 qA_295 qA_222 qA_296) rfl rfl rfl (by decide +kernel) ⟨Nat.le_of_ble_eq_true rfl, Nat.le_of_ble_eq_true rfl⟩) (oO_k g2).1 (cc_o3 (oO_k g2).2) rfl rfl hl.1 rfl (lv_room (Nat.le_of_ble_eq_true rfl)) dX3_failAsTooMany_26 ⟨Nat.zero_le _, Nat.zero_le _⟩ (fun T4 H locs hq G => ?_)
  rw [hq] at G
  clear hq eT3
  exact (Nat.succ_ne_zero _ (congrArg Prod.fst (Option.some.inj h)).symm).elim
set_option maxHeartbeats 4000000 in
set_option maxRecDepth 100000 in
theorem x_X3_failAsTooMany_b25 {p : Program} {l : Launch} {e : Env} {s : State} {m : MethodId} {args : Array Value} {below : List Frame} {meth : Method} {c : Code} {Qc : Array Value → State → Outcome → State → Prop} {XC : String → State → State → Prop} {D : va_G} {A : Nat → Prop} {cI cJ cZ cMic cSrc cSt cAI cAJ : ClassId} {ad : Nat → Nat} {e1 : Nat} {r1 : Int32} {T1 : AT} (E : cE p c cX3_failAsTooMany s m args (Cond.code yX3_failAsTooMany cX3_failAsTooMany 2 none :: wsA) D RX3 (CT cI cJ cZ cMic cSrc cSt cAI cAJ)) (hA : ∀ q : Nat, s.heap.size ≤ q → A q) (hX : xT A s) (hN : nX s) (hml : c.maxLocals = 2) (hz9 : True) (hst : l.stackTraces = false) (htab : ∀ x ∈ c.exceptionTable.toList, False) (hlocks : meth.locks = false) (kx : ∀ (H : Heap) (locs : List Loc) (t : State), gC cI cJ cZ cMic cSrc cSt cAI cAJ D ad A s.heap H locs T1 → s.vm.Alike t.vm → H.size ≤ t.heap.size → (∀ q, q < H.size → t.heap[q]? = H[q]?) → XC (exn e1) s t) : ∀ (T : AT) (H : Heap) (locs : List Loc) (ls : Array Slot) (s0 : Int32) (s1 : Nat), g_X3_failAsTooMany_b25 T s0 s1 = some (e1 + 1, r1, T1) → gC cI cJ cZ cMic cSrc cSt cAI cAJ D ad A s.heap H locs T → lv_has ls 2 [] → W p l e { frames := 7, cells := 1, slots := 6, locals := 103 } s m args below meth c H locs 0 0 (vx_MQ below Qc XC args s 1 6 A) (F0 m 25 ls [.int s0, .ref (ad s1)]) := by
  have hx := E.1
  have hb := E.2.1
  have hts := E.2.2.1
  have hown := E.2.2.2.1
  have hK := E.2.2.2.2
  intro T H locs ls s0 s1 h G hl
  unfold g_X3_failAsTooMany_b25 at h
  refine lv_iconst (v := 4) hx hb dX3_failAsTooMany_25 (by decide) ?_
  have hl := lv_sub hl [] rfl
  exact x_X3_failAsTooMany_b26 E hA hX hN hml trivial hst htab hlocks kx _ _ _ _ _ _ _ h G hl
set_option maxHeartbeats 4000000 in
set_option maxRecDepth 100000 in
theorem x_X3_failAsTooMany (l : Launch) (hst : l.stackTraces = false) (D : va_G) (cI cJ cZ cMic cSrc cSt cAI cAJ : ClassId) (ad : Nat → Nat) (T : AT) (o : Nat) (a0 : Int32) {e1 : Nat} {r1 : Int32} {T1 : AT} (h : g_X3_failAsTooMany T o a0 = some (e1 + 1, r1, T1)) : kXv l yX3_failAsTooMany (Cond.code yX3_failAsTooMany cX3_failAsTooMany 2 none :: wsA) 7 103 cI cJ cZ cMic cSrc cSt cAI cAJ D ad T [.ref (ad o), .int a0] e1 T1 := by
  intro sz
  refine vx_ofW (cc := cX3_failAsTooMany) (maxL := 2) (ret := none) (by decide) rfl ?_
  intro p e s m args below meth c s₁ B hml htab hv
  obtain ⟨rfl, hsz, hP, hK, hD0, hX, hN⟩ := hv
  have hx := B.exec
  have hb := B.bytes
  have hr := B.returns
  have hts := atoms_spec (ws := (Cond.code yX3_failAsTooMany cX3_failAsTooMany 2 none :: wsA)) B.pre
  have hown : s.vm.findClass RX3 = some m.cls := findClass_of_methodNamed B.named
  have hlocks := B.notSynchronized
  subst hsz
  have hD := hD0.self (sz := s.heap.size)
  generalize hAe : va_A (cW ad T.1 (cc cI cJ cZ cMic cSrc cSt cAI cAJ ad T)) s.heap.size = A at hD hX ⊢
  have hA : ∀ q : Nat, s.heap.size ≤ q → A q := fun q h => by rw [← hAe]; exact Or.inr h
  have G : gC cI cJ cZ cMic cSrc cSt cAI cAJ D ad A s.heap s.heap [] T := ⟨hP, hD, va_S.rf⟩
  have E : cE p c cX3_failAsTooMany s m ([.ref (ad o), .int a0] : List Value).toArray (Cond.code yX3_failAsTooMany cX3_failAsTooMany 2 none :: wsA) D RX3 (CT cI cJ cZ cMic cSrc cSt cAI cAJ) := ⟨hx, hb, hts, hown, hK⟩
  have htab : ∀ x ∈ c.exceptionTable.toList, False := fun x hx => htab x hx
  have hl := lv_entry ([.ref (ad o), .int a0]) (n := 2) (Nat.le_of_ble_eq_true rfl)
  rw [lg_entry_eq]
  generalize (lg_sl ([.ref (ad o), .int a0]) ++ List.replicate (2 - (lg_sl ([.ref (ad o), .int a0])).length) Slot.unset).toArray = ls at hl ⊢
  have hl : lv_has ls 2 [(0, .ref (ad o)), (1, .int a0)] := hl
  unfold g_X3_failAsTooMany at h
  refine lv_aload_n hx hb dX3_failAsTooMany_0 rfl (lv_at hl 0 rfl) ?_
  refine lv_aload_n hx hb dX3_failAsTooMany_1 rfl (lv_at hl 0 rfl) ?_
  obtain ⟨g2, h⟩ := oif_some h
  refine c_get E G o 1 (oO_k g2).1 (cc_o3 (oO_k g2).2) rfl (fun w h => .tail _ (iA_17 h)) (by decide) (.tail _ qA_176) rfl rfl dX3_failAsTooMany_2 ?_
  refine lv_topi (fun v3 ev3 => ?_)
  have h := elet_at ev3 h
  clear ev3
  refine lv_aload_n hx hb dX3_failAsTooMany_5 rfl (lv_at hl 0 rfl) ?_
  obtain ⟨g4, h⟩ := oif_some h
  obtain ⟨r7, T5, eT5, h⟩ := obind2_some h
  refine q_cvi (As := []) (rest := [.int v3, .ref (ad o)]) E G hA hX hN hml (u_X3_kind l hst D cI cJ cZ cMic cSrc cSt cAI cAJ ad T o eT5) (cwV 0 hts (gaV qA_239 qA_240 qA_241 qA_222 qA_242) rfl rfl rfl (by decide +kernel) ⟨Nat.le_of_ble_eq_true rfl, Nat.le_of_ble_eq_true rfl⟩) (oO_k g4).1 (cc_o3 (oO_k g4).2) rfl rfl hl.1 rfl (lv_room (Nat.le_of_ble_eq_true rfl)) dX3_failAsTooMany_6 ⟨Nat.zero_le _, Nat.zero_le _⟩ (fun q8 T6 H locs hq G => ?_)
  obtain ⟨hq1, hq2⟩ := hq
  rw [hq2] at G
  refine lv_to hq1 ?_
  clear hq1 hq2 eT5
  refine lv_iconst (v := 2) hx hb dX3_failAsTooMany_9 (by decide) ?_
  refine lv_icmp_ne (tgt := 25) hx hb dX3_failAsTooMany_10 (by decide) (fun c9 => ?_) (fun c9 => ?_)
  · have h := oif_neg c9 h
    have hl := lv_sub hl [] rfl
    exact x_X3_failAsTooMany_b25 E hA hX hN hml trivial hst htab hlocks (fun H locs t G hvm h1 h2 => ⟨T1, trivial, ⟨⟨rfl, rfl⟩, (c_thrown G hK hvm h1 h2).1⟩, (c_thrown G hK hvm h1 h2).2⟩) _ _ _ _ _ _ h G hl
  · have h := oif_pos c9 h
    refine lv_aload_n hx hb dX3_failAsTooMany_13 rfl (lv_at hl 0 rfl) ?_
    obtain ⟨g10, h⟩ := oif_some h
    obtain ⟨r13, T11, eT11, h⟩ := obind2_some h
    refine q_cvi (As := []) (rest := [.int v3, .ref (ad o)]) E G hA hX hN hml (u_X3_value l hst D cI cJ cZ cMic cSrc cSt cAI cAJ ad T5 o eT11) (cwV 0 hts (gaV qA_303 qA_304 qA_305 qA_222 qA_306) rfl rfl rfl (by decide +kernel) ⟨Nat.le_of_ble_eq_true rfl, Nat.le_of_ble_eq_true rfl⟩) (oO_k g10).1 (cc_o3 (oO_k g10).2) rfl rfl hl.1 rfl (lv_room (Nat.le_of_ble_eq_true rfl)) dX3_failAsTooMany_14 ⟨Nat.zero_le _, Nat.zero_le _⟩ (fun q14 T12 H locs hq G => ?_)
    obtain ⟨hq1, hq2⟩ := hq
    rw [hq2] at G
    refine lv_to hq1 ?_
    clear hq1 hq2 eT11
    refine lv_iload_n hx hb dX3_failAsTooMany_17 rfl (lv_at hl 1 rfl) ?_
    refine lv_icmp_le (tgt := 25) hx hb dX3_failAsTooMany_18 (by decide) (fun c15 => ?_) (fun c15 => ?_)
    · have h := oif_pos c15 h
      have hl := lv_sub hl [] rfl
      exact x_X3_failAsTooMany_b25 E hA hX hN hml trivial hst htab hlocks (fun H locs t G hvm h1 h2 => ⟨T1, trivial, ⟨⟨rfl, rfl⟩, (c_thrown G hK hvm h1 h2).1⟩, (c_thrown G hK hvm h1 h2).2⟩) _ _ _ _ _ _ h G hl
    · have h := oif_neg c15 h
      refine lv_iconst (v := 2) hx hb dX3_failAsTooMany_21 (by decide) ?_
      refine lv_goto (tgt := 26) hx hb dX3_failAsTooMany_22 (by decide) ?_
      have hl := lv_sub hl [] rfl
      exact x_X3_failAsTooMany_b26 E hA hX hN hml trivial hst htab hlocks (fun H locs t G hvm h1 h2 => ⟨T1, trivial, ⟨⟨rfl, rfl⟩, (c_thrown G hK hvm h1 h2).1⟩, (c_thrown G hK hvm h1 h2).2⟩) _ _ _ _ _ _ _ h G hl
def g_X3_parseShade_b73  (T : AT)  : Option (Nat × Int32 × AT) := some (0, 0, T)
set_option maxHeartbeats 4000000 in
set_option maxRecDepth 100000 in
theorem u_X3_parseShade_b73 {p : Program} {l : Launch} {e : Env} {s : State} {m : MethodId} {args : Array Value} {below : List Frame} {meth : Method} {c : Code} {Q : State → Prop} {D : va_G} {A : Nat → Prop} {cI cJ cZ cMic cSrc cSt cAI cAJ : ClassId} {ad : Nat → Nat} {r1 : Int32} {T1 : AT} (E : cE p c cX3_parseShade s m args (Cond.code yX3_parseShade cX3_parseShade 3 none :: wsA) D RX3 (CT cI cJ cZ cMic cSrc cSt cAI cAJ)) (hA : ∀ q : Nat, s.heap.size ≤ q → A q) (hX : xT A s) (hN : nX s) (hml : c.maxLocals = 3) (hst : l.stackTraces = false) (kr73 : ∀ (H : Heap) (locs : List Loc) (ls : Array Slot), gC cI cJ cZ cMic cSrc cSt cAI cAJ D ad A s.heap H locs T1 → W p l e { frames := 8, cells := 0, slots := 0, locals := 126 } s m args below meth c H locs 0 0 Q (F0 m 73 ls [])) : ∀ (T : AT) (H : Heap) (locs : List Loc) (ls : Array Slot), g_X3_parseShade_b73 T = some (0, r1, T1) → gC cI cJ cZ cMic cSrc cSt cAI cAJ D ad A s.heap H locs T → lv_has ls 3 [] → W p l e { frames := 8, cells := 0, slots := 0, locals := 126 } s m args below meth c H locs 0 0 Q (F0 m 73 ls []) := by
  have hx := E.1
  have hb := E.2.1
  have hts := E.2.2.1
  have hown := E.2.2.2.1
  have hK := E.2.2.2.2
  intro T H locs ls h G hl
  unfold g_X3_parseShade_b73 at h
  rw [(osome3 h).2.2] at G
  exact kr73 _ _ _ G
def g_X3_parseShade_b56 (k30 : AT → Nat → Nat → Int32 → Option (Nat × Int32 × AT)) (T : AT) (l0 : Nat) (l1 : Nat) (l2 : Int32) : Option (Nat × Int32 × AT) := oif (oO T l0 3 = true) <| othr (g_X3_number T l0 (0 : Int32) (9 : Int32)) 0 fun r5 T3 => oif (oO T3 l1 6 = true) <| obind (g_X6_addShade T3 l1 r5) fun T8 => elet (l2 + Int32.ofInt (1)) fun v10 => k30 T8 l0 l1 v10
set_option maxHeartbeats 4000000 in
set_option maxRecDepth 100000 in
theorem u_X3_parseShade_b56 {p : Program} {l : Launch} {e : Env} {s : State} {m : MethodId} {args : Array Value} {below : List Frame} {meth : Method} {c : Code} {Q : State → Prop} {D : va_G} {A : Nat → Prop} {cI cJ cZ cMic cSrc cSt cAI cAJ : ClassId} {ad : Nat → Nat} {r1 : Int32} {T1 : AT} (E : cE p c cX3_parseShade s m args (Cond.code yX3_parseShade cX3_parseShade 3 none :: wsA) D RX3 (CT cI cJ cZ cMic cSrc cSt cAI cAJ)) (hA : ∀ q : Nat, s.heap.size ≤ q → A q) (hX : xT A s) (hN : nX s) (hml : c.maxLocals = 3) (hst : l.stackTraces = false) (kr73 : ∀ (H : Heap) (locs : List Loc) (ls : Array Slot), gC cI cJ cZ cMic cSrc cSt cAI cAJ D ad A s.heap H locs T1 → W p l e { frames := 8, cells := 0, slots := 0, locals := 126 } s m args below meth c H locs 0 0 Q (F0 m 73 ls [])) {k30 : AT → Nat → Nat → Int32 → Option (Nat × Int32 × AT)} (hk30 : ∀ (T : AT) (H : Heap) (locs : List Loc) (ls : Array Slot) (l0 : Nat) (l1 : Nat) (l2 : Int32), k30 T l0 l1 l2 = some (0, r1, T1) → gC cI cJ cZ cMic cSrc cSt cAI cAJ D ad A s.heap H locs T → lv_has ls 3 [(0, .ref (ad l0)), (1, .ref (ad l1)), (2, .int l2)] → W p l e { frames := 8, cells := 0, slots := 0, locals := 126 } s m args below meth c H locs 0 0 Q (F0 m 30 ls [])) : ∀ (T : AT) (H : Heap) (locs : List Loc) (ls : Array Slot) (l0 : Nat) (l1 : Nat) (l2 : Int32), g_X3_parseShade_b56 k30 T l0 l1 l2 = some (0, r1, T1) → gC cI cJ cZ cMic cSrc cSt cAI cAJ D ad A s.heap H locs T → lv_has ls 3 [(0, .ref (ad l0)), (1, .ref (ad l1)), (2, .int l2)] → W p l e { frames := 8, cells := 0, slots := 0, locals := 126 } s m args below meth c H locs 0 0 Q (F0 m 56 ls []) := by
  have hx := E.1
  have hb := E.2.1
  have hts := E.2.2.1
  have hown := E.2.2.2.1
  have hK := E.2.2.2.2
  intro T H locs ls l0 l1 l2 h G hl
  unfold g_X3_parseShade_b56 at h
  refine lv_aload_n hx hb dX3_parseShade_56 rfl (lv_at hl 1 rfl) ?_
  refine lv_aload_n hx hb dX3_parseShade_57 rfl (lv_at hl 0 rfl) ?_
  refine lv_iconst (v := 0) hx hb dX3_parseShade_58 (by decide) ?_
  refine lv_bipush (v := 9) hx hb dX3_parseShade_59 (by decide) ?_
  obtain ⟨g2, h⟩ := oif_some h
  obtain ⟨r5, T3, eT3, h⟩ := othr_n h
  refine q_cvi (As := [.int 0, .int 9]) (rest := [.ref (ad l1)]) E G hA hX hN hml (u_X3_number l hst D cI cJ cZ cMic cSrc cSt cAI cAJ ad T l0 (0 : Int32) (9 : Int32) eT3) (cwV 2 hts (gaV qA_299 qA_300 qA_301 qA_222 qA_302) rfl rfl rfl (by decide +kernel) ⟨Nat.le_of_ble_eq_true rfl, Nat.le_of_ble_eq_true rfl⟩) (oO_k g2).1 (cc_o3 (oO_k g2).2) rfl rfl hl.1 rfl (lv_room (Nat.le_of_ble_eq_true rfl)) dX3_parseShade_61 ⟨Nat.zero_le _, Nat.zero_le _⟩ (fun q6 T4 H locs hq G => ?_)
  obtain ⟨hq1, hq2⟩ := hq
  rw [hq2] at G
  refine lv_to hq1 ?_
  clear hq1 hq2 eT3
  obtain ⟨g7, h⟩ := oif_some h
  obtain ⟨T8, eT8, h⟩ := obind_some h
  refine q_cvv (As := [.int r5]) (rest := []) E G hA hX hN hml (u_X6_addShade l hst D cI cJ cZ cMic cSrc cSt cAI cAJ ad T3 l1 r5 eT8) (cwV 1 hts (gaV qA_396 qA_397 qA_398 qA_207 qA_399) rfl rfl rfl (by decide +kernel) ⟨Nat.le_of_ble_eq_true rfl, Nat.le_of_ble_eq_true rfl⟩) (oO_k g7).1 (cc_o6 (oO_k g7).2) rfl rfl hl.1 rfl (lv_room (Nat.le_of_ble_eq_true rfl)) dX3_parseShade_64 ⟨Nat.zero_le _, Nat.zero_le _⟩ (fun T9 H locs hq G => ?_)
  rw [hq] at G
  clear hq eT8
  obtain ⟨v10, ev10, h⟩ := elet_some h
  refine lv_iinc (v := v10) (lv' := [(2, .int v10), (0, .ref (ad l0)), (1, .ref (ad l1))]) hx hb dX3_parseShade_67 hl (k := 2) rfl ev10.symm (by decide) rfl (fun ls hl => ?_)
  refine lv_goto (tgt := 30) hx hb dX3_parseShade_70 (by decide) ?_
  have hl := lv_sub hl [1, 2, 0] rfl
  exact hk30 _ _ _ _ _ _ _ h G hl
def g_X3_parseShade_b30  : Nat → AT → Nat → Nat → Int32 → Option (Nat × Int32 × AT)
  | 0, _, _, _, _ => none
  | n + 1, T, l0, l1, l2 => if 12 < l2 then (g_X3_parseShade_b73 T) else (oif (oO T l0 3 = true) <| obind2 (g_X3_kind T l0) fun r6 T4 => if r6 = 2 then (if l2 = 12 then (oif (oO T4 l0 3 = true) <| othr (g_X3_failAsTooMany T4 l0 (9 : Int32)) 0 fun r13 T11 => g_X3_parseShade_b56 (g_X3_parseShade_b30 n) T11 l0 l1 l2) else (g_X3_parseShade_b56 (g_X3_parseShade_b30 n) T4 l0 l1 l2)) else (g_X3_parseShade_b73 T4))
set_option maxHeartbeats 4000000 in
set_option maxRecDepth 100000 in
theorem u_X3_parseShade_b30 {p : Program} {l : Launch} {e : Env} {s : State} {m : MethodId} {args : Array Value} {below : List Frame} {meth : Method} {c : Code} {Q : State → Prop} {D : va_G} {A : Nat → Prop} {cI cJ cZ cMic cSrc cSt cAI cAJ : ClassId} {ad : Nat → Nat} {r1 : Int32} {T1 : AT} (E : cE p c cX3_parseShade s m args (Cond.code yX3_parseShade cX3_parseShade 3 none :: wsA) D RX3 (CT cI cJ cZ cMic cSrc cSt cAI cAJ)) (hA : ∀ q : Nat, s.heap.size ≤ q → A q) (hX : xT A s) (hN : nX s) (hml : c.maxLocals = 3) (hst : l.stackTraces = false) (kr73 : ∀ (H : Heap) (locs : List Loc) (ls : Array Slot), gC cI cJ cZ cMic cSrc cSt cAI cAJ D ad A s.heap H locs T1 → W p l e { frames := 8, cells := 0, slots := 0, locals := 126 } s m args below meth c H locs 0 0 Q (F0 m 73 ls [])) : ∀ n : Nat, ∀ (T : AT) (H : Heap) (locs : List Loc) (ls : Array Slot) (l0 : Nat) (l1 : Nat) (l2 : Int32), g_X3_parseShade_b30 n T l0 l1 l2 = some (0, r1, T1) → gC cI cJ cZ cMic cSrc cSt cAI cAJ D ad A s.heap H locs T → lv_has ls 3 [(0, .ref (ad l0)), (1, .ref (ad l1)), (2, .int l2)] → W p l e { frames := 8, cells := 0, slots := 0, locals := 126 } s m args below meth c H locs 0 0 Q (F0 m 30 ls []) := by
  have hx := E.1
  have hb := E.2.1
  have hts := E.2.2.1
  have hown := E.2.2.2.1
  have hK := E.2.2.2.2
  intro n
  induction n with
  | zero =>
    intro T H locs ls l0 l1 l2 h
    have h : (none : Option (Nat × Int32 × AT)) = some (0, r1, T1) := h
    cases h
  | succ n ih =>
    intro T H locs ls l0 l1 l2 h G hl
    unfold g_X3_parseShade_b30 at h
    refine lv_iload_n hx hb dX3_parseShade_30 rfl (lv_at hl 2 rfl) ?_
    refine lv_bipush (v := 12) hx hb dX3_parseShade_31 (by decide) ?_
    refine lv_icmp_gt (tgt := 73) hx hb dX3_parseShade_33 (by decide) (fun c2 => ?_) (fun c2 => ?_)
    · have h := oif_pos c2 h
      have hl := lv_sub hl [] rfl
      exact u_X3_parseShade_b73 E hA hX hN hml hst kr73 _ _ _ _ h G hl
    · have h := oif_neg c2 h
      refine lv_aload_n hx hb dX3_parseShade_36 rfl (lv_at hl 0 rfl) ?_
      obtain ⟨g3, h⟩ := oif_some h
      obtain ⟨r6, T4, eT4, h⟩ := obind2_some h
      refine q_cvi (As := []) (rest := []) E G hA hX hN hml (u_X3_kind l hst D cI cJ cZ cMic cSrc cSt cAI cAJ ad T l0 eT4) (cwV 0 hts (gaV qA_239 qA_240 qA_241 qA_222 qA_242) rfl rfl rfl (by decide +kernel) ⟨Nat.le_of_ble_eq_true rfl, Nat.le_of_ble_eq_true rfl⟩) (oO_k g3).1 (cc_o3 (oO_k g3).2) rfl rfl hl.1 rfl (lv_room (Nat.le_of_ble_eq_true rfl)) dX3_parseShade_37 ⟨Nat.zero_le _, Nat.zero_le _⟩ (fun q7 T5 H locs hq G => ?_)
      obtain ⟨hq1, hq2⟩ := hq
      rw [hq2] at G
      refine lv_to hq1 ?_
      clear hq1 hq2 eT4
      refine lv_iconst (v := 2) hx hb dX3_parseShade_40 (by decide) ?_
      refine lv_icmp_ne (tgt := 73) hx hb dX3_parseShade_41 (by decide) (fun c8 => ?_) (fun c8 => ?_)
      · have h := oif_neg c8 h
        have hl := lv_sub hl [] rfl
        exact u_X3_parseShade_b73 E hA hX hN hml hst kr73 _ _ _ _ h G hl
      · have h := oif_pos c8 h
        refine lv_iload_n hx hb dX3_parseShade_44 rfl (lv_at hl 2 rfl) ?_
        refine lv_bipush (v := 12) hx hb dX3_parseShade_45 (by decide) ?_
        refine lv_icmp_ne (tgt := 56) hx hb dX3_parseShade_47 (by decide) (fun c9 => ?_) (fun c9 => ?_)
        · have h := oif_neg c9 h
          have hl := lv_sub hl [0, 1, 2] rfl
          exact u_X3_parseShade_b56 E hA hX hN hml hst kr73 ih _ _ _ _ _ _ _ h G hl
        · have h := oif_pos c9 h
          refine lv_aload_n hx hb dX3_parseShade_50 rfl (lv_at hl 0 rfl) ?_
          refine lv_bipush (v := 9) hx hb dX3_parseShade_51 (by decide) ?_
          obtain ⟨g10, h⟩ := oif_some h
          obtain ⟨r13, T11, eT11, h⟩ := othr_n h
          refine q_cvv (As := [.int 9]) (rest := []) E G hA hX hN hml (u_X3_failAsTooMany l hst D cI cJ cZ cMic cSrc cSt cAI cAJ ad T4 l0 (9 : Int32) eT11) (cwV 1 hts (gaV qA_376 qA_377 qA_378 qA_222 qA_379) rfl rfl rfl (by decide +kernel) ⟨Nat.le_of_ble_eq_true rfl, Nat.le_of_ble_eq_true rfl⟩) (oO_k g10).1 (cc_o3 (oO_k g10).2) rfl rfl hl.1 rfl (lv_room (Nat.le_of_ble_eq_true rfl)) dX3_parseShade_53 ⟨Nat.zero_le _, Nat.zero_le _⟩ (fun T12 H locs hq G => ?_)
          rw [hq] at G
          clear hq eT11
          have hl := lv_sub hl [0, 1, 2] rfl
          exact u_X3_parseShade_b56 E hA hX hN hml hst kr73 ih _ _ _ _ _ _ _ h G hl
def g_X3_parseShade_b13  (T : AT) (s0 : Int32) (s1 : Nat) (l0 : Nat) (l1 : Nat) : Option (Nat × Int32 × AT) := oif (oO T s1 3 = true) <| othr (g_X3_startLine T s1 s0 (3 : Int32)) 0 fun r5 T3 => oif (oO T3 l0 3 = true) <| othr (g_X3_number T3 l0 (0 : Int32) (9 : Int32)) 0 fun r10 T8 => oif (oO T8 l1 6 = true) <| obind (g_X6_addShade T8 l1 r10) fun T13 => g_X3_parseShade_b30 16384 T13 l0 l1 1
set_option maxHeartbeats 4000000 in
set_option maxRecDepth 100000 in
theorem u_X3_parseShade_b13 {p : Program} {l : Launch} {e : Env} {s : State} {m : MethodId} {args : Array Value} {below : List Frame} {meth : Method} {c : Code} {Q : State → Prop} {D : va_G} {A : Nat → Prop} {cI cJ cZ cMic cSrc cSt cAI cAJ : ClassId} {ad : Nat → Nat} {r1 : Int32} {T1 : AT} (E : cE p c cX3_parseShade s m args (Cond.code yX3_parseShade cX3_parseShade 3 none :: wsA) D RX3 (CT cI cJ cZ cMic cSrc cSt cAI cAJ)) (hA : ∀ q : Nat, s.heap.size ≤ q → A q) (hX : xT A s) (hN : nX s) (hml : c.maxLocals = 3) (hst : l.stackTraces = false) (kr73 : ∀ (H : Heap) (locs : List Loc) (ls : Array Slot), gC cI cJ cZ cMic cSrc cSt cAI cAJ D ad A s.heap H locs T1 → W p l e { frames := 8, cells := 0, slots := 0, locals := 126 } s m args below meth c H locs 0 0 Q (F0 m 73 ls [])) : ∀ (T : AT) (H : Heap) (locs : List Loc) (ls : Array Slot) (s0 : Int32) (s1 : Nat) (l0 : Nat) (l1 : Nat), g_X3_parseShade_b13 T s0 s1 l0 l1 = some (0, r1, T1) → gC cI cJ cZ cMic cSrc cSt cAI cAJ D ad A s.heap H locs T → lv_has ls 3 [(0, .ref (ad l0)), (1, .ref (ad l1))] → W p l e { frames := 8, cells := 0, slots := 0, locals := 126 } s m args below meth c H locs 0 0 Q (F0 m 13 ls [.int s0, .ref (ad s1)]) := by
  have hx := E.1
  have hb := E.2.1
  have hts := E.2.2.1
  have hown := E.2.2.2.1
  have hK := E.2.2.2.2
  intro T H locs ls s0 s1 l0 l1 h G hl
  unfold g_X3_parseShade_b13 at h
  refine lv_iconst (v := 3) hx hb dX3_parseShade_13 (by decide) ?_
  obtain ⟨g2, h⟩ := oif_some h
  obtain ⟨r5, T3, eT3, h⟩ := othr_n h
  refine q_cvv (As := [.int s0, .int 3]) (rest := []) E G hA hX hN hml (u_X3_startLine l hst D cI cJ cZ cMic cSrc cSt cAI cAJ ad T s1 s0 (3 : Int32) eT3) (cwV 2 hts (gaV qA_321 qA_322 qA_323 qA_222 qA_324) rfl rfl rfl (by decide +kernel) ⟨Nat.le_of_ble_eq_true rfl, Nat.le_of_ble_eq_true rfl⟩) (oO_k g2).1 (cc_o3 (oO_k g2).2) rfl rfl hl.1 rfl (lv_room (Nat.le_of_ble_eq_true rfl)) dX3_parseShade_14 ⟨Nat.zero_le _, Nat.zero_le _⟩ (fun T4 H locs hq G => ?_)
  rw [hq] at G
  clear hq eT3
  refine lv_aload_n hx hb dX3_parseShade_17 rfl (lv_at hl 1 rfl) ?_
  refine lv_aload_n hx hb dX3_parseShade_18 rfl (lv_at hl 0 rfl) ?_
  refine lv_iconst (v := 0) hx hb dX3_parseShade_19 (by decide) ?_
  refine lv_bipush (v := 9) hx hb dX3_parseShade_20 (by decide) ?_
  obtain ⟨g7, h⟩ := oif_some h
  obtain ⟨r10, T8, eT8, h⟩ := othr_n h
  refine q_cvi (As := [.int 0, .int 9]) (rest := [.ref (ad l1)]) E G hA hX hN hml (u_X3_number l hst D cI cJ cZ cMic cSrc cSt cAI cAJ ad T3 l0 (0 : Int32) (9 : Int32) eT8) (cwV 2 hts (gaV qA_299 qA_300 qA_301 qA_222 qA_302) rfl rfl rfl (by decide +kernel) ⟨Nat.le_of_ble_eq_true rfl, Nat.le_of_ble_eq_true rfl⟩) (oO_k g7).1 (cc_o3 (oO_k g7).2) rfl rfl hl.1 rfl (lv_room (Nat.le_of_ble_eq_true rfl)) dX3_parseShade_22 ⟨Nat.zero_le _, Nat.zero_le _⟩ (fun q11 T9 H locs hq G => ?_)
  obtain ⟨hq1, hq2⟩ := hq
  rw [hq2] at G
  refine lv_to hq1 ?_
  clear hq1 hq2 eT8
  obtain ⟨g12, h⟩ := oif_some h
  obtain ⟨T13, eT13, h⟩ := obind_some h
  refine q_cvv (As := [.int r10]) (rest := []) E G hA hX hN hml (u_X6_addShade l hst D cI cJ cZ cMic cSrc cSt cAI cAJ ad T8 l1 r10 eT13) (cwV 1 hts (gaV qA_396 qA_397 qA_398 qA_207 qA_399) rfl rfl rfl (by decide +kernel) ⟨Nat.le_of_ble_eq_true rfl, Nat.le_of_ble_eq_true rfl⟩) (oO_k g12).1 (cc_o6 (oO_k g12).2) rfl rfl hl.1 rfl (lv_room (Nat.le_of_ble_eq_true rfl)) dX3_parseShade_25 ⟨Nat.zero_le _, Nat.zero_le _⟩ (fun T14 H locs hq G => ?_)
  rw [hq] at G
  clear hq eT13
  refine lv_iconst (v := 1) hx hb dX3_parseShade_28 (by decide) ?_
  refine lv_istore_n (lv' := [(2, .int 1), (0, .ref (ad l0)), (1, .ref (ad l1))]) hx hb dX3_parseShade_29 rfl hl (by decide) rfl (fun ls hl => ?_)
  have hl := lv_sub hl [1, 2, 0] rfl
  exact u_X3_parseShade_b30 E hA hX hN hml hst kr73 _ _ _ _ _ _ _ _ h G hl
def g_X3_parseShade (T : AT) (o : Nat) (a0 : Nat) : Option (Nat × Int32 × AT) := oif (oO T a0 6 = true) <| elet (T.2.2.1 a0 16) fun v3 => if v3 ≤ 0 then (g_X3_parseShade_b13 T 0 o o a0) else (g_X3_parseShade_b13 T 1 o o a0)
set_option maxHeartbeats 4000000 in
set_option maxRecDepth 100000 in
theorem u_X3_parseShade (l : Launch) (hst : l.stackTraces = false) (D : va_G) (cI cJ cZ cMic cSrc cSt cAI cAJ : ClassId) (ad : Nat → Nat) (T : AT) (o : Nat) (a0 : Nat) {r1 : Int32} {T1 : AT} (h : g_X3_parseShade T o a0 = some (0, r1, T1)) : kCv l yX3_parseShade (Cond.code yX3_parseShade cX3_parseShade 3 none :: wsA) 8 126 cI cJ cZ cMic cSrc cSt cAI cAJ D ad T [.ref (ad o), .ref (ad a0)] (fun T9 => T9 = T1) := by
  intro sz
  refine Met.ofW (cc := cX3_parseShade) (maxL := 3) (ret := none) (by decide) rfl ?_
  intro p e s m args below meth c s₁ B hml hv
  obtain ⟨rfl, hsz, hP, hK, hD0, hX, hN⟩ := hv
  have hx := B.exec
  have hb := B.bytes
  have hr := B.returns
  have hts := atoms_spec (ws := (Cond.code yX3_parseShade cX3_parseShade 3 none :: wsA)) B.pre
  have hown : s.vm.findClass RX3 = some m.cls := findClass_of_methodNamed B.named
  have hlocks := B.notSynchronized
  subst hsz
  have hD := hD0.self (sz := s.heap.size)
  generalize hAe : va_A (cW ad T.1 (cc cI cJ cZ cMic cSrc cSt cAI cAJ ad T)) s.heap.size = A at hD hX ⊢
  have hA : ∀ q : Nat, s.heap.size ≤ q → A q := fun q h => by rw [← hAe]; exact Or.inr h
  have G : gC cI cJ cZ cMic cSrc cSt cAI cAJ D ad A s.heap s.heap [] T := ⟨hP, hD, va_S.rf⟩
  have E : cE p c cX3_parseShade s m ([.ref (ad o), .ref (ad a0)] : List Value).toArray (Cond.code yX3_parseShade cX3_parseShade 3 none :: wsA) D RX3 (CT cI cJ cZ cMic cSrc cSt cAI cAJ) := ⟨hx, hb, hts, hown, hK⟩
  have hl := lv_entry ([.ref (ad o), .ref (ad a0)]) (n := 3) (Nat.le_of_ble_eq_true rfl)
  rw [lg_entry_eq]
  generalize (lg_sl ([.ref (ad o), .ref (ad a0)]) ++ List.replicate (3 - (lg_sl ([.ref (ad o), .ref (ad a0)])).length) Slot.unset).toArray = ls at hl ⊢
  have hl : lv_has ls 3 [(0, .ref (ad o)), (1, .ref (ad a0))] := hl
  unfold g_X3_parseShade at h
  refine lv_aload_n hx hb dX3_parseShade_0 rfl (lv_at hl 0 rfl) ?_
  refine lv_aload_n hx hb dX3_parseShade_1 rfl (lv_at hl 1 rfl) ?_
  obtain ⟨g2, h⟩ := oif_some h
  refine c_get E G a0 16 (oO_k g2).1 (cc_o6 (oO_k g2).2) rfl (fun w h => .tail _ (iA_14 h)) (by decide) (.tail _ qA_395) rfl rfl dX3_parseShade_2 ?_
  refine lv_topi (fun v3 ev3 => ?_)
  have h := elet_at ev3 h
  clear ev3
  refine lv_if_le (tgt := 12) hx hb dX3_parseShade_5 (by decide) (fun c4 => ?_) (fun c4 => ?_)
  · have h := oif_pos c4 h
    refine lv_iconst (v := 0) hx hb dX3_parseShade_12 (by decide) ?_
    have hl := lv_sub hl [0, 1] rfl
    exact u_X3_parseShade_b13 E hA hX hN hml hst (fun H locs ls G => W.vret hx hb hr (fun t ht hW => ⟨⟨T1, rfl, rfl, ⟨by rw [ht]; exact G.1, va_K.moved hW.alike hK, G.2.1⟩⟩, G.2.2.F ht⟩) G.2.2.2.2 dX3_parseShade_73) _ _ _ _ _ _ _ _ h G hl
  · have h := oif_neg c4 h
    refine lv_iconst (v := 1) hx hb dX3_parseShade_8 (by decide) ?_
    refine lv_goto (tgt := 13) hx hb dX3_parseShade_9 (by decide) ?_
    have hl := lv_sub hl [0, 1] rfl
    exact u_X3_parseShade_b13 E hA hX hN hml hst (fun H locs ls G => W.vret hx hb hr (fun t ht hW => ⟨⟨T1, rfl, rfl, ⟨by rw [ht]; exact G.1, va_K.moved hW.alike hK, G.2.1⟩⟩, G.2.2.F ht⟩) G.2.2.2.2 dX3_parseShade_73) _ _ _ _ _ _ _ _ h G hl
set_option maxHeartbeats 4000000 in
set_option maxRecDepth 100000 in
theorem s_X3_parseShade_b73 {e1 : Nat} {r1 : Int32} {T1 : AT} : ∀ (T : AT), g_X3_parseShade_b73 T = some (e1, r1, T1) → SP T T1 := by
  intro T h
  have p0 := SP.rf T
  unfold g_X3_parseShade_b73 at h
  rw [← (osome3 h).2.2]
  exact p0
set_option maxHeartbeats 4000000 in
set_option maxRecDepth 100000 in
theorem s_X3_parseShade_b56 {e1 : Nat} {r1 : Int32} {T1 : AT} {k30 : AT → Nat → Nat → Int32 → Option (Nat × Int32 × AT)} (hk30 : ∀ (T : AT) (l0 : Nat) (l1 : Nat) (l2 : Int32), k30 T l0 l1 l2 = some (e1, r1, T1) → SP T T1) : ∀ (T : AT) (l0 : Nat) (l1 : Nat) (l2 : Int32), g_X3_parseShade_b56 k30 T l0 l1 l2 = some (e1, r1, T1) → SP T T1 := by
  intro T l0 l1 l2 h
  have p0 := SP.rf T
  unfold g_X3_parseShade_b56 at h
  obtain ⟨g2, h⟩ := oif_some h
  rcases othr_s h with ⟨k9, r9, e9, -⟩ | ⟨r4, T3, eT3, h⟩
  · exact SP.tr p0 (s_X3_number e9)
  have p1 : SP T T3 := SP.tr p0 (s_X3_number eT3)
  obtain ⟨g5, h⟩ := oif_some h
  obtain ⟨T6, eT6, h⟩ := obind_some h
  have p2 : SP T T6 := SP.tr p1 (s_X6_addShade eT6)
  obtain ⟨v8, ev8, h⟩ := elet_some h
  exact SP.tr p2 (hk30 _ _ _ _ h)
set_option maxHeartbeats 4000000 in
set_option maxRecDepth 100000 in
theorem s_X3_parseShade_b30 {e1 : Nat} {r1 : Int32} {T1 : AT} : ∀ n : Nat, ∀ (T : AT) (l0 : Nat) (l1 : Nat) (l2 : Int32), g_X3_parseShade_b30 n T l0 l1 l2 = some (e1, r1, T1) → SP T T1 := by
  intro n
  induction n with
  | zero =>
    intro T l0 l1 l2 h
    have h : (none : Option (Nat × Int32 × AT)) = some (e1, r1, T1) := h
    cases h
  | succ n ih =>
    intro T l0 l1 l2 h
    have p0 := SP.rf T
    unfold g_X3_parseShade_b30 at h
    rcases oif_or h with ⟨c2, h⟩ | ⟨c2, h⟩
    · have h := h
      exact SP.tr p0 (s_X3_parseShade_b73 _ h)
    · have h := h
      obtain ⟨g3, h⟩ := oif_some h
      obtain ⟨r5, T4, eT4, h⟩ := obind2_some h
      have p1 : SP T T4 := SP.tr p0 (s_X3_kind eT4)
      rcases oif_or h with ⟨c6, h⟩ | ⟨c6, h⟩
      · have h := h
        rcases oif_or h with ⟨c7, h⟩ | ⟨c7, h⟩
        · have h := h
          obtain ⟨g8, h⟩ := oif_some h
          rcases othr_s h with ⟨k9, r9, e9, -⟩ | ⟨r10, T9, eT9, h⟩
          · exact SP.tr p1 (s_X3_failAsTooMany e9)
          have p2 : SP T T9 := SP.tr p1 (s_X3_failAsTooMany eT9)
          exact SP.tr p2 (s_X3_parseShade_b56 ih _ _ _ _ h)
        · have h := h
          exact SP.tr p1 (s_X3_parseShade_b56 ih _ _ _ _ h)
      · have h := h
        exact SP.tr p1 (s_X3_parseShade_b73 _ h)
set_option maxHeartbeats 4000000 in
set_option maxRecDepth 100000 in
theorem s_X3_parseShade_b13 {e1 : Nat} {r1 : Int32} {T1 : AT} : ∀ (T : AT) (s0 : Int32) (s1 : Nat) (l0 : Nat) (l1 : Nat), g_X3_parseShade_b13 T s0 s1 l0 l1 = some (e1, r1, T1) → SP T T1 := by
  intro T s0 s1 l0 l1 h
  have p0 := SP.rf T
  unfold g_X3_parseShade_b13 at h
  obtain ⟨g2, h⟩ := oif_some h
  rcases othr_s h with ⟨k9, r9, e9, -⟩ | ⟨r4, T3, eT3, h⟩
  · exact SP.tr p0 (s_X3_startLine e9)
  have p1 : SP T T3 := SP.tr p0 (s_X3_startLine eT3)
  obtain ⟨g5, h⟩ := oif_some h
  rcases othr_s h with ⟨k9, r9, e9, -⟩ | ⟨r7, T6, eT6, h⟩
  · exact SP.tr p1 (s_X3_number e9)
  have p2 : SP T T6 := SP.tr p1 (s_X3_number eT6)
  obtain ⟨g8, h⟩ := oif_some h
  obtain ⟨T9, eT9, h⟩ := obind_some h
  have p3 : SP T T9 := SP.tr p2 (s_X6_addShade eT9)
  exact SP.tr p3 (s_X3_parseShade_b30 _ _ _ _ _ h)
set_option maxHeartbeats 4000000 in
set_option maxRecDepth 100000 in
theorem s_X3_parseShade {T : AT} {o : Nat} {a0 : Nat} {e1 : Nat} {r1 : Int32} {T1 : AT} (h : g_X3_parseShade T o a0 = some (e1, r1, T1)) : SP T T1 := by
  have p0 := SP.rf T
  unfold g_X3_parseShade at h
  obtain ⟨g2, h⟩ := oif_some h
  obtain ⟨v3, -, h⟩ := elet_some h
  rcases oif_or h with ⟨c4, h⟩ | ⟨c4, h⟩
  · have h := h
    exact SP.tr p0 (s_X3_parseShade_b13 _ _ _ _ _ h)
  · have h := h
    exact SP.tr p0 (s_X3_parseShade_b13 _ _ _ _ _ h)
set_option maxHeartbeats 4000000 in
set_option maxRecDepth 100000 in
theorem x_X3_parseShade_b73 {p : Program} {l : Launch} {e : Env} {s : State} {m : MethodId} {args : Array Value} {below : List Frame} {meth : Method} {c : Code} {Qc : Array Value → State → Outcome → State → Prop} {XC : String → State → State → Prop} {D : va_G} {A : Nat → Prop} {cI cJ cZ cMic cSrc cSt cAI cAJ : ClassId} {ad : Nat → Nat} {e1 : Nat} {r1 : Int32} {T1 : AT} (E : cE p c cX3_parseShade s m args (Cond.code yX3_parseShade cX3_parseShade 3 none :: wsA) D RX3 (CT cI cJ cZ cMic cSrc cSt cAI cAJ)) (hA : ∀ q : Nat, s.heap.size ≤ q → A q) (hX : xT A s) (hN : nX s) (hml : c.maxLocals = 3) (hz9 : True) (hst : l.stackTraces = false) (htab : ∀ x ∈ c.exceptionTable.toList, False) (hlocks : meth.locks = false) (kx : ∀ (H : Heap) (locs : List Loc) (t : State), gC cI cJ cZ cMic cSrc cSt cAI cAJ D ad A s.heap H locs T1 → s.vm.Alike t.vm → H.size ≤ t.heap.size → (∀ q, q < H.size → t.heap[q]? = H[q]?) → XC (exn e1) s t) : ∀ (T : AT) (H : Heap) (locs : List Loc) (ls : Array Slot), g_X3_parseShade_b73 T = some (e1 + 1, r1, T1) → gC cI cJ cZ cMic cSrc cSt cAI cAJ D ad A s.heap H locs T → lv_has ls 3 [] → W p l e { frames := 8, cells := 1, slots := 6, locals := 126 } s m args below meth c H locs 0 0 (vx_MQ below Qc XC args s 1 6 A) (F0 m 73 ls []) := by
  have hx := E.1
  have hb := E.2.1
  have hts := E.2.2.1
  have hown := E.2.2.2.1
  have hK := E.2.2.2.2
  intro T H locs ls h G hl
  unfold g_X3_parseShade_b73 at h
  exact (Nat.succ_ne_zero _ (congrArg Prod.fst (Option.some.inj h)).symm).elim
set_option maxHeartbeats 4000000 in
set_option maxRecDepth 100000 in
theorem x_X3_parseShade_b56 {p : Program} {l : Launch} {e : Env} {s : State} {m : MethodId} {args : Array Value} {below : List Frame} {meth : Method} {c : Code} {Qc : Array Value → State → Outcome → State → Prop} {XC : String → State → State → Prop} {D : va_G} {A : Nat → Prop} {cI cJ cZ cMic cSrc cSt cAI cAJ : ClassId} {ad : Nat → Nat} {e1 : Nat} {r1 : Int32} {T1 : AT} (E : cE p c cX3_parseShade s m args (Cond.code yX3_parseShade cX3_parseShade 3 none :: wsA) D RX3 (CT cI cJ cZ cMic cSrc cSt cAI cAJ)) (hA : ∀ q : Nat, s.heap.size ≤ q → A q) (hX : xT A s) (hN : nX s) (hml : c.maxLocals = 3) (hz9 : True) (hst : l.stackTraces = false) (htab : ∀ x ∈ c.exceptionTable.toList, False) (hlocks : meth.locks = false) (kx : ∀ (H : Heap) (locs : List Loc) (t : State), gC cI cJ cZ cMic cSrc cSt cAI cAJ D ad A s.heap H locs T1 → s.vm.Alike t.vm → H.size ≤ t.heap.size → (∀ q, q < H.size → t.heap[q]? = H[q]?) → XC (exn e1) s t) {k30 : AT → Nat → Nat → Int32 → Option (Nat × Int32 × AT)} (hk30 : ∀ (T : AT) (H : Heap) (locs : List Loc) (ls : Array Slot) (l0 : Nat) (l1 : Nat) (l2 : Int32), k30 T l0 l1 l2 = some (e1 + 1, r1, T1) → gC cI cJ cZ cMic cSrc cSt cAI cAJ D ad A s.heap H locs T → lv_has ls 3 [(0, .ref (ad l0)), (1, .ref (ad l1)), (2, .int l2)] → W p l e { frames := 8, cells := 1, slots := 6, locals := 126 } s m args below meth c H locs 0 0 (vx_MQ below Qc XC args s 1 6 A) (F0 m 30 ls [])) : ∀ (T : AT) (H : Heap) (locs : List Loc) (ls : Array Slot) (l0 : Nat) (l1 : Nat) (l2 : Int32), g_X3_parseShade_b56 k30 T l0 l1 l2 = some (e1 + 1, r1, T1) → gC cI cJ cZ cMic cSrc cSt cAI cAJ D ad A s.heap H locs T → lv_has ls 3 [(0, .ref (ad l0)), (1, .ref (ad l1)), (2, .int l2)] → W p l e { frames := 8, cells := 1, slots := 6, locals := 126 } s m args below meth c H locs 0 0 (vx_MQ below Qc XC args s 1 6 A) (F0 m 56 ls []) := by
  have hx := E.1
  have hb := E.2.1
  have hts := E.2.2.1
  have hown := E.2.2.2.1
  have hK := E.2.2.2.2
  intro T H locs ls l0 l1 l2 h G hl
  unfold g_X3_parseShade_b56 at h
  refine lv_aload_n hx hb dX3_parseShade_56 rfl (lv_at hl 1 rfl) ?_
  refine lv_aload_n hx hb dX3_parseShade_57 rfl (lv_at hl 0 rfl) ?_
  refine lv_iconst (v := 0) hx hb dX3_parseShade_58 (by decide) ?_
  refine lv_bipush (v := 9) hx hb dX3_parseShade_59 (by decide) ?_
  obtain ⟨g2, h⟩ := oif_some h
  rcases othr_t h with ⟨r0, eT3⟩ | ⟨r5, T3, eT3, h⟩
  · refine q_xvi (As := [.int 0, .int 9]) (rest := [.ref (ad l1)]) E G hA hX hN hml (x_X3_number l hst D cI cJ cZ cMic cSrc cSt cAI cAJ ad T l0 (0 : Int32) (9 : Int32) eT3) (cwV 2 hts (gaV qA_299 qA_300 qA_301 qA_222 qA_302) rfl rfl rfl (by decide +kernel) ⟨Nat.le_of_ble_eq_true rfl, Nat.le_of_ble_eq_true rfl⟩) (oO_k g2).1 (cc_o3 (oO_k g2).2) rfl rfl hl.1 rfl (lv_room (Nat.le_of_ble_eq_true rfl)) dX3_parseShade_61 ⟨Nat.le_of_ble_eq_true rfl, Nat.le_of_ble_eq_true rfl⟩ (fun E9 ce q9 T9 H locs hp G hce hcv hcl => ?_)
    obtain ⟨hE, hT⟩ := hp
    subst hE
    rw [hT] at G
    exact vx_out (fun x hx => (htab x hx).elim) hlocks hce hcv hcl (fun t ht hvm => kx _ _ _ G hvm (by rw [ht]; exact Nat.le_refl _) (fun q hq => by rw [ht])) G.2.2.2.2 (Nat.le_refl _) (Nat.le_refl _)
  refine q_cvi (As := [.int 0, .int 9]) (rest := [.ref (ad l1)]) E G hA hX hN hml (u_X3_number l hst D cI cJ cZ cMic cSrc cSt cAI cAJ ad T l0 (0 : Int32) (9 : Int32) eT3) (cwV 2 hts (gaV qA_299 qA_300 qA_301 qA_222 qA_302) rfl rfl rfl (by decide +kernel) ⟨Nat.le_of_ble_eq_true rfl, Nat.le_of_ble_eq_true rfl⟩) (oO_k g2).1 (cc_o3 (oO_k g2).2) rfl rfl hl.1 rfl (lv_room (Nat.le_of_ble_eq_true rfl)) dX3_parseShade_61 ⟨Nat.zero_le _, Nat.zero_le _⟩ (fun q6 T4 H locs hq G => ?_)
  obtain ⟨hq1, hq2⟩ := hq
  rw [hq2] at G
  refine lv_to hq1 ?_
  clear hq1 hq2 eT3
  obtain ⟨g7, h⟩ := oif_some h
  obtain ⟨T8, eT8, h⟩ := obind_some h
  refine q_cvv (As := [.int r5]) (rest := []) E G hA hX hN hml (u_X6_addShade l hst D cI cJ cZ cMic cSrc cSt cAI cAJ ad T3 l1 r5 eT8) (cwV 1 hts (gaV qA_396 qA_397 qA_398 qA_207 qA_399) rfl rfl rfl (by decide +kernel) ⟨Nat.le_of_ble_eq_true rfl, Nat.le_of_ble_eq_true rfl⟩) (oO_k g7).1 (cc_o6 (oO_k g7).2) rfl rfl hl.1 rfl (lv_room (Nat.le_of_ble_eq_true rfl)) dX3_parseShade_64 ⟨Nat.zero_le _, Nat.zero_le _⟩ (fun T9 H locs hq G => ?_)
  rw [hq] at G
  clear hq eT8
  obtain ⟨v10, ev10, h⟩ := elet_some h
  refine lv_iinc (v := v10) (lv' := [(2, .int v10), (0, .ref (ad l0)), (1, .ref (ad l1))]) hx hb dX3_parseShade_67 hl (k := 2) rfl ev10.symm (by decide) rfl (fun ls hl => ?_)
  refine lv_goto (tgt := 30) hx hb dX3_parseShade_70 (by decide) ?_
  have hl := lv_sub hl [1, 2, 0] rfl
  exact hk30 _ _ _ _ _ _ _ h G hl
set_option maxHeartbeats 4000000 in
set_option maxRecDepth 100000 in
theorem x_X3_parseShade_b30 {p : Program} {l : Launch} {e : Env} {s : State} {m : MethodId} {args : Array Value} {below : List Frame} {meth : Method} {c : Code} {Qc : Array Value → State → Outcome → State → Prop} {XC : String → State → State → Prop} {D : va_G} {A : Nat → Prop} {cI cJ cZ cMic cSrc cSt cAI cAJ : ClassId} {ad : Nat → Nat} {e1 : Nat} {r1 : Int32} {T1 : AT} (E : cE p c cX3_parseShade s m args (Cond.code yX3_parseShade cX3_parseShade 3 none :: wsA) D RX3 (CT cI cJ cZ cMic cSrc cSt cAI cAJ)) (hA : ∀ q : Nat, s.heap.size ≤ q → A q) (hX : xT A s) (hN : nX s) (hml : c.maxLocals = 3) (hz9 : True) (hst : l.stackTraces = false) (htab : ∀ x ∈ c.exceptionTable.toList, False) (hlocks : meth.locks = false) (kx : ∀ (H : Heap) (locs : List Loc) (t : State), gC cI cJ cZ cMic cSrc cSt cAI cAJ D ad A s.heap H locs T1 → s.vm.Alike t.vm → H.size ≤ t.heap.size → (∀ q, q < H.size → t.heap[q]? = H[q]?) → XC (exn e1) s t) : ∀ n : Nat, ∀ (T : AT) (H : Heap) (locs : List Loc) (ls : Array Slot) (l0 : Nat) (l1 : Nat) (l2 : Int32), g_X3_parseShade_b30 n T l0 l1 l2 = some (e1 + 1, r1, T1) → gC cI cJ cZ cMic cSrc cSt cAI cAJ D ad A s.heap H locs T → lv_has ls 3 [(0, .ref (ad l0)), (1, .ref (ad l1)), (2, .int l2)] → W p l e { frames := 8, cells := 1, slots := 6, locals := 126 } s m args below meth c H locs 0 0 (vx_MQ below Qc XC args s 1 6 A) (F0 m 30 ls []) := by
  have hx := E.1
  have hb := E.2.1
  have hts := E.2.2.1
  have hown := E.2.2.2.1
  have hK := E.2.2.2.2
  intro n
  induction n with
  | zero =>
    intro T H locs ls l0 l1 l2 h
    have h : (none : Option (Nat × Int32 × AT)) = some (e1 + 1, r1, T1) := h
    cases h
  | succ n ih =>
    intro T H locs ls l0 l1 l2 h G hl
    unfold g_X3_parseShade_b30 at h
    refine lv_iload_n hx hb dX3_parseShade_30 rfl (lv_at hl 2 rfl) ?_
    refine lv_bipush (v := 12) hx hb dX3_parseShade_31 (by decide) ?_
    refine lv_icmp_gt (tgt := 73) hx hb dX3_parseShade_33 (by decide) (fun c2 => ?_) (fun c2 => ?_)
    · have h := oif_pos c2 h
      have hl := lv_sub hl [] rfl
      exact x_X3_parseShade_b73 E hA hX hN hml trivial hst htab hlocks kx _ _ _ _ h G hl
    · have h := oif_neg c2 h
      refine lv_aload_n hx hb dX3_parseShade_36 rfl (lv_at hl 0 rfl) ?_
      obtain ⟨g3, h⟩ := oif_some h
      obtain ⟨r6, T4, eT4, h⟩ := obind2_some h
      refine q_cvi (As := []) (rest := []) E G hA hX hN hml (u_X3_kind l hst D cI cJ cZ cMic cSrc cSt cAI cAJ ad T l0 eT4) (cwV 0 hts (gaV qA_239 qA_240 qA_241 qA_222 qA_242) rfl rfl rfl (by decide +kernel) ⟨Nat.le_of_ble_eq_true rfl, Nat.le_of_ble_eq_true rfl⟩) (oO_k g3).1 (cc_o3 (oO_k g3).2) rfl rfl hl.1 rfl (lv_room (Nat.le_of_ble_eq_true rfl)) dX3_parseShade_37 ⟨Nat.zero_le _, Nat.zero_le _⟩ (fun q7 T5 H locs hq G => ?_)
      obtain ⟨hq1, hq2⟩ := hq
      rw [hq2] at G
      refine lv_to hq1 ?_
      clear hq1 hq2 eT4
      refine lv_iconst (v := 2) hx hb dX3_parseShade_40 (by decide) ?_
      refine lv_icmp_ne (tgt := 73) hx hb dX3_parseShade_41 (by decide) (fun c8 => ?_) (fun c8 => ?_)
      · have h := oif_neg c8 h
        have hl := lv_sub hl [] rfl
        exact x_X3_parseShade_b73 E hA hX hN hml trivial hst htab hlocks kx _ _ _ _ h G hl
      · have h := oif_pos c8 h
        refine lv_iload_n hx hb dX3_parseShade_44 rfl (lv_at hl 2 rfl) ?_
        refine lv_bipush (v := 12) hx hb dX3_parseShade_45 (by decide) ?_
        refine lv_icmp_ne (tgt := 56) hx hb dX3_parseShade_47 (by decide) (fun c9 => ?_) (fun c9 => ?_)
        · have h := oif_neg c9 h
          have hl := lv_sub hl [0, 1, 2] rfl
          exact x_X3_parseShade_b56 E hA hX hN hml trivial hst htab hlocks kx ih _ _ _ _ _ _ _ h G hl
        · have h := oif_pos c9 h
          refine lv_aload_n hx hb dX3_parseShade_50 rfl (lv_at hl 0 rfl) ?_
          refine lv_bipush (v := 9) hx hb dX3_parseShade_51 (by decide) ?_
          obtain ⟨g10, h⟩ := oif_some h
          rcases othr_t h with ⟨r0, eT11⟩ | ⟨r13, T11, eT11, h⟩
          · refine q_xvv (As := [.int 9]) (rest := []) E G hA hX hN hml (x_X3_failAsTooMany l hst D cI cJ cZ cMic cSrc cSt cAI cAJ ad T4 l0 (9 : Int32) eT11) (cwV 1 hts (gaV qA_376 qA_377 qA_378 qA_222 qA_379) rfl rfl rfl (by decide +kernel) ⟨Nat.le_of_ble_eq_true rfl, Nat.le_of_ble_eq_true rfl⟩) (oO_k g10).1 (cc_o3 (oO_k g10).2) rfl rfl hl.1 rfl (lv_room (Nat.le_of_ble_eq_true rfl)) dX3_parseShade_53 ⟨Nat.le_of_ble_eq_true rfl, Nat.le_of_ble_eq_true rfl⟩ (fun E9 ce q9 T9 H locs hp G hce hcv hcl => ?_)
            obtain ⟨hE, hT⟩ := hp
            subst hE
            rw [hT] at G
            exact vx_out (fun x hx => (htab x hx).elim) hlocks hce hcv hcl (fun t ht hvm => kx _ _ _ G hvm (by rw [ht]; exact Nat.le_refl _) (fun q hq => by rw [ht])) G.2.2.2.2 (Nat.le_refl _) (Nat.le_refl _)
          refine q_cvv (As := [.int 9]) (rest := []) E G hA hX hN hml (u_X3_failAsTooMany l hst D cI cJ cZ cMic cSrc cSt cAI cAJ ad T4 l0 (9 : Int32) eT11) (cwV 1 hts (gaV qA_376 qA_377 qA_378 qA_222 qA_379) rfl rfl rfl (by decide +kernel) ⟨Nat.le_of_ble_eq_true rfl, Nat.le_of_ble_eq_true rfl⟩) (oO_k g10).1 (cc_o3 (oO_k g10).2) rfl rfl hl.1 rfl (lv_room (Nat.le_of_ble_eq_true rfl)) dX3_parseShade_53 ⟨Nat.zero_le _, Nat.zero_le _⟩ (fun T12 H locs hq G => ?_)
          rw [hq] at G
          clear hq eT11
          have hl := lv_sub hl [0, 1, 2] rfl
          exact x_X3_parseShade_b56 E hA hX hN hml trivial hst htab hlocks kx ih _ _ _ _ _ _ _ h G hl
set_option maxHeartbeats 4000000 in
set_option maxRecDepth 100000 in
theorem x_X3_parseShade_b13 {p : Program} {l : Launch} {e : Env} {s : State} {m : MethodId} {args : Array Value} {below : List Frame} {meth : Method} {c : Code} {Qc : Array Value → State → Outcome → State → Prop} {XC : String → State → State → Prop} {D : va_G} {A : Nat → Prop} {cI cJ cZ cMic cSrc cSt cAI cAJ : ClassId} {ad : Nat → Nat} {e1 : Nat} {r1 : Int32} {T1 : AT} (E : cE p c cX3_parseShade s m args (Cond.code yX3_parseShade cX3_parseShade 3 none :: wsA) D RX3 (CT cI cJ cZ cMic cSrc cSt cAI cAJ)) (hA : ∀ q : Nat, s.heap.size ≤ q → A q) (hX : xT A s) (hN : nX s) (hml : c.maxLocals = 3) (hz9 : True) (hst : l.stackTraces = false) (htab : ∀ x ∈ c.exceptionTable.toList, False) (hlocks : meth.locks = false) (kx : ∀ (H : Heap) (locs : List Loc) (t : State), gC cI cJ cZ cMic cSrc cSt cAI cAJ D ad A s.heap H locs T1 → s.vm.Alike t.vm → H.size ≤ t.heap.size → (∀ q, q < H.size → t.heap[q]? = H[q]?) → XC (exn e1) s t) : ∀ (T : AT) (H : Heap) (locs : List Loc) (ls : Array Slot) (s0 : Int32) (s1 : Nat) (l0 : Nat) (l1 : Nat), g_X3_parseShade_b13 T s0 s1 l0 l1 = some (e1 + 1, r1, T1) → gC cI cJ cZ cMic cSrc cSt cAI cAJ D ad A s.heap H locs T → lv_has ls 3 [(0, .ref (ad l0)), (1, .ref (ad l1))] → W p l e { frames := 8, cells := 1, slots := 6, locals := 126 } s m args below meth c H locs 0 0 (vx_MQ below Qc XC args s 1 6 A) (F0 m 13 ls [.int s0, .ref (ad s1)]) := by
  have hx := E.1
  have hb := E.2.1
  have hts := E.2.2.1
  have hown := E.2.2.2.1
  have hK := E.2.2.2.2
  intro T H locs ls s0 s1 l0 l1 h G hl
  unfold g_X3_parseShade_b13 at h
  refine lv_iconst (v := 3) hx hb dX3_parseShade_13 (by decide) ?_
  obtain ⟨g2, h⟩ := oif_some h
  rcases othr_t h with ⟨r0, eT3⟩ | ⟨r5, T3, eT3, h⟩
  · refine q_xvv (As := [.int s0, .int 3]) (rest := []) E G hA hX hN hml (x_X3_startLine l hst D cI cJ cZ cMic cSrc cSt cAI cAJ ad T s1 s0 (3 : Int32) eT3) (cwV 2 hts (gaV qA_321 qA_322 qA_323 qA_222 qA_324) rfl rfl rfl (by decide +kernel) ⟨Nat.le_of_ble_eq_true rfl, Nat.le_of_ble_eq_true rfl⟩) (oO_k g2).1 (cc_o3 (oO_k g2).2) rfl rfl hl.1 rfl (lv_room (Nat.le_of_ble_eq_true rfl)) dX3_parseShade_14 ⟨Nat.le_of_ble_eq_true rfl, Nat.le_of_ble_eq_true rfl⟩ (fun E9 ce q9 T9 H locs hp G hce hcv hcl => ?_)
    obtain ⟨hE, hT⟩ := hp
    subst hE
    rw [hT] at G
    exact vx_out (fun x hx => (htab x hx).elim) hlocks hce hcv hcl (fun t ht hvm => kx _ _ _ G hvm (by rw [ht]; exact Nat.le_refl _) (fun q hq => by rw [ht])) G.2.2.2.2 (Nat.le_refl _) (Nat.le_refl _)
  refine q_cvv (As := [.int s0, .int 3]) (rest := []) E G hA hX hN hml (u_X3_startLine l hst D cI cJ cZ cMic cSrc cSt cAI cAJ ad T s1 s0 (3 : Int32) eT3) (cwV 2 hts (gaV qA_321 qA_322 qA_323 qA_222 qA_324) rfl rfl rfl (by decide +kernel) ⟨Nat.le_of_ble_eq_true rfl, Nat.le_of_ble_eq_true rfl⟩) (oO_k g2).1 (cc_o3 (oO_k g2).2) rfl rfl hl.1 rfl (lv_room (Nat.le_of_ble_eq_true rfl)) dX3_parseShade_14 ⟨Nat.zero_le _, Nat.zero_le _⟩ (fun T4 H locs hq G => ?_)
  rw [hq] at G
  clear hq eT3
  refine lv_aload_n hx hb dX3_parseShade_17 rfl (lv_at hl 1 rfl) ?_
  refine lv_aload_n hx hb dX3_parseShade_18 rfl (lv_at hl 0 rfl) ?_
  refine lv_iconst (v := 0) hx hb dX3_parseShade_19 (by decide) ?_
  refine lv_bipush (v := 9) hx hb dX3_parseShade_20 (by decide) ?_
  obtain ⟨g7, h⟩ := oif_some h
  rcases othr_t h with ⟨r0, eT8⟩ | ⟨r10, T8, eT8, h⟩
  · refine q_xvi (As := [.int 0, .int 9]) (rest := [.ref (ad l1)]) E G hA hX hN hml (x_X3_number l hst D cI cJ cZ cMic cSrc cSt cAI cAJ ad T3 l0 (0 : Int32) (9 : Int32) eT8) (cwV 2 hts (gaV qA_299 qA_300 qA_301 qA_222 qA_302) rfl rfl rfl (by decide +kernel) ⟨Nat.le_of_ble_eq_true rfl, Nat.le_of_ble_eq_true rfl⟩) (oO_k g7).1 (cc_o3 (oO_k g7).2) rfl rfl hl.1 rfl (lv_room (Nat.le_of_ble_eq_true rfl)) dX3_parseShade_22 ⟨Nat.le_of_ble_eq_true rfl, Nat.le_of_ble_eq_true rfl⟩ (fun E9 ce q9 T9 H locs hp G hce hcv hcl => ?_)
    obtain ⟨hE, hT⟩ := hp
    subst hE
    rw [hT] at G
    exact vx_out (fun x hx => (htab x hx).elim) hlocks hce hcv hcl (fun t ht hvm => kx _ _ _ G hvm (by rw [ht]; exact Nat.le_refl _) (fun q hq => by rw [ht])) G.2.2.2.2 (Nat.le_refl _) (Nat.le_refl _)
  refine q_cvi (As := [.int 0, .int 9]) (rest := [.ref (ad l1)]) E G hA hX hN hml (u_X3_number l hst D cI cJ cZ cMic cSrc cSt cAI cAJ ad T3 l0 (0 : Int32) (9 : Int32) eT8) (cwV 2 hts (gaV qA_299 qA_300 qA_301 qA_222 qA_302) rfl rfl rfl (by decide +kernel) ⟨Nat.le_of_ble_eq_true rfl, Nat.le_of_ble_eq_true rfl⟩) (oO_k g7).1 (cc_o3 (oO_k g7).2) rfl rfl hl.1 rfl (lv_room (Nat.le_of_ble_eq_true rfl)) dX3_parseShade_22 ⟨Nat.zero_le _, Nat.zero_le _⟩ (fun q11 T9 H locs hq G => ?_)
  obtain ⟨hq1, hq2⟩ := hq
  rw [hq2] at G
  refine lv_to hq1 ?_
  clear hq1 hq2 eT8
  obtain ⟨g12, h⟩ := oif_some h
  obtain ⟨T13, eT13, h⟩ := obind_some h
  refine q_cvv (As := [.int r10]) (rest := []) E G hA hX hN hml (u_X6_addShade l hst D cI cJ cZ cMic cSrc cSt cAI cAJ ad T8 l1 r10 eT13) (cwV 1 hts (gaV qA_396 qA_397 qA_398 qA_207 qA_399) rfl rfl rfl (by decide +kernel) ⟨Nat.le_of_ble_eq_true rfl, Nat.le_of_ble_eq_true rfl⟩) (oO_k g12).1 (cc_o6 (oO_k g12).2) rfl rfl hl.1 rfl (lv_room (Nat.le_of_ble_eq_true rfl)) dX3_parseShade_25 ⟨Nat.zero_le _, Nat.zero_le _⟩ (fun T14 H locs hq G => ?_)
  rw [hq] at G
  clear hq eT13
  refine lv_iconst (v := 1) hx hb dX3_parseShade_28 (by decide) ?_
  refine lv_istore_n (lv' := [(2, .int 1), (0, .ref (ad l0)), (1, .ref (ad l1))]) hx hb dX3_parseShade_29 rfl hl (by decide) rfl (fun ls hl => ?_)
  have hl := lv_sub hl [1, 2, 0] rfl
  exact x_X3_parseShade_b30 E hA hX hN hml trivial hst htab hlocks kx _ _ _ _ _ _ _ _ h G hl
set_option maxHeartbeats 4000000 in
set_option maxRecDepth 100000 in
theorem x_X3_parseShade (l : Launch) (hst : l.stackTraces = false) (D : va_G) (cI cJ cZ cMic cSrc cSt cAI cAJ : ClassId) (ad : Nat → Nat) (T : AT) (o : Nat) (a0 : Nat) {e1 : Nat} {r1 : Int32} {T1 : AT} (h : g_X3_parseShade T o a0 = some (e1 + 1, r1, T1)) : kXv l yX3_parseShade (Cond.code yX3_parseShade cX3_parseShade 3 none :: wsA) 8 126 cI cJ cZ cMic cSrc cSt cAI cAJ D ad T [.ref (ad o), .ref (ad a0)] e1 T1 := by
  intro sz
  refine vx_ofW (cc := cX3_parseShade) (maxL := 3) (ret := none) (by decide) rfl ?_
  intro p e s m args below meth c s₁ B hml htab hv
  obtain ⟨rfl, hsz, hP, hK, hD0, hX, hN⟩ := hv
  have hx := B.exec
  have hb := B.bytes
  have hr := B.returns
  have hts := atoms_spec (ws := (Cond.code yX3_parseShade cX3_parseShade 3 none :: wsA)) B.pre
  have hown : s.vm.findClass RX3 = some m.cls := findClass_of_methodNamed B.named
  have hlocks := B.notSynchronized
  subst hsz
  have hD := hD0.self (sz := s.heap.size)
  generalize hAe : va_A (cW ad T.1 (cc cI cJ cZ cMic cSrc cSt cAI cAJ ad T)) s.heap.size = A at hD hX ⊢
  have hA : ∀ q : Nat, s.heap.size ≤ q → A q := fun q h => by rw [← hAe]; exact Or.inr h
  have G : gC cI cJ cZ cMic cSrc cSt cAI cAJ D ad A s.heap s.heap [] T := ⟨hP, hD, va_S.rf⟩
  have E : cE p c cX3_parseShade s m ([.ref (ad o), .ref (ad a0)] : List Value).toArray (Cond.code yX3_parseShade cX3_parseShade 3 none :: wsA) D RX3 (CT cI cJ cZ cMic cSrc cSt cAI cAJ) := ⟨hx, hb, hts, hown, hK⟩
  have htab : ∀ x ∈ c.exceptionTable.toList, False := fun x hx => htab x hx
  have hl := lv_entry ([.ref (ad o), .ref (ad a0)]) (n := 3) (Nat.le_of_ble_eq_true rfl)
  rw [lg_entry_eq]
  generalize (lg_sl ([.ref (ad o), .ref (ad a0)]) ++ List.replicate (3 - (lg_sl ([.ref (ad o), .ref (ad a0)])).length) Slot.unset).toArray = ls at hl ⊢
  have hl : lv_has ls 3 [(0, .ref (ad o)), (1, .ref (ad a0))] := hl
  unfold g_X3_parseShade at h
  refine lv_aload_n hx hb dX3_parseShade_0 rfl (lv_at hl 0 rfl) ?_
  refine lv_aload_n hx hb dX3_parseShade_1 rfl (lv_at hl 1 rfl) ?_
  obtain ⟨g2, h⟩ := oif_some h
  refine c_get E G a0 16 (oO_k g2).1 (cc_o6 (oO_k g2).2) rfl (fun w h => .tail _ (iA_14 h)) (by decide) (.tail _ qA_395) rfl rfl dX3_parseShade_2 ?_
  refine lv_topi (fun v3 ev3 => ?_)
  have h := elet_at ev3 h
  clear ev3
  refine lv_if_le (tgt := 12) hx hb dX3_parseShade_5 (by decide) (fun c4 => ?_) (fun c4 => ?_)
  · have h := oif_pos c4 h
    refine lv_iconst (v := 0) hx hb dX3_parseShade_12 (by decide) ?_
    have hl := lv_sub hl [0, 1] rfl
    exact x_X3_parseShade_b13 E hA hX hN hml trivial hst htab hlocks (fun H locs t G hvm h1 h2 => ⟨T1, trivial, ⟨⟨rfl, rfl⟩, (c_thrown G hK hvm h1 h2).1⟩, (c_thrown G hK hvm h1 h2).2⟩) _ _ _ _ _ _ _ _ h G hl
  · have h := oif_neg c4 h
    refine lv_iconst (v := 1) hx hb dX3_parseShade_8 (by decide) ?_
    refine lv_goto (tgt := 13) hx hb dX3_parseShade_9 (by decide) ?_
    have hl := lv_sub hl [0, 1] rfl
    exact x_X3_parseShade_b13 E hA hX hN hml trivial hst htab hlocks (fun H locs t G hvm h1 h2 => ⟨T1, trivial, ⟨⟨rfl, rfl⟩, (c_thrown G hK hvm h1 h2).1⟩, (c_thrown G hK hvm h1 h2).2⟩) _ _ _ _ _ _ _ _ h G hl
def g_X3_parseZone_b14  (T : AT) (s0 : Int32) (s1 : Nat) (l0 : Nat) (l1 : Nat) : Option (Nat × Int32 × AT) := oif (oO T s1 3 = true) <| othr (g_X3_startLine T s1 s0 (4 : Int32)) 0 fun r5 T3 => oif (oO T3 l1 1 = true) <| obind (T3.2.2.2.2 l1 6) fun n8 => oif (oO T3 l1 1 = true) <| elet (T3.2.2.1 l1 7) fun v10 => oif (aA T3 n8 106 = true) <| oif (inb v10 (T3.2.1 n8).2 = true) <| obind (T3.2.2.2.2 n8 v10.toNatClampNeg) fun n13 => oif (oO T3 l1 1 = true) <| elet (T3.2.2.1 l1 3) fun v15 => elet (v15 - 1) fun v16 => oif (oO T3 l0 3 = true) <| othr (g_X3_number T3 l0 (0 : Int32) v16) 0 fun r20 T18 => oif (aA T18 n13 100 = true) <| oif (inb 0 (T18.2.1 n13).2 = true) <| elet (uI T18 n13 (0 : Int32).toNatClampNeg r20) fun T24 => oif (oO T24 l1 1 = true) <| elet (T24.2.2.1 l1 4) fun v26 => elet (v26 - 1) fun v27 => oif (oO T24 l0 3 = true) <| othr (g_X3_number T24 l0 (0 : Int32) v27) 0 fun r31 T29 => oif (aA T29 n13 100 = true) <| oif (inb 1 (T29.2.1 n13).2 = true) <| elet (uI T29 n13 (1 : Int32).toNatClampNeg r31) fun T35 => oif (aA T35 n13 100 = true) <| oif (inb 0 (T35.2.1 n13).2 = true) <| elet (T35.2.2.1 n13 (0 : Int32).toNatClampNeg) fun v38 => oif (oO T35 l1 1 = true) <| elet (T35.2.2.1 l1 3) fun v40 => elet (v40 - 1) fun v41 => oif (oO T35 l0 3 = true) <| othr (g_X3_number T35 l0 v38 v41) 0 fun r45 T43 => oif (aA T43 n13 100 = true) <| oif (inb 2 (T43.2.1 n13).2 = true) <| elet (uI T43 n13 (2 : Int32).toNatClampNeg r45) fun T49 => oif (aA T49 n13 100 = true) <| oif (inb 1 (T49.2.1 n13).2 = true) <| elet (T49.2.2.1 n13 (1 : Int32).toNatClampNeg) fun v52 => oif (oO T49 l1 1 = true) <| elet (T49.2.2.1 l1 4) fun v54 => elet (v54 - 1) fun v55 => oif (oO T49 l0 3 = true) <| othr (g_X3_number T49 l0 v52 v55) 0 fun r59 T57 => oif (aA T57 n13 100 = true) <| oif (inb 3 (T57.2.1 n13).2 = true) <| elet (uI T57 n13 (3 : Int32).toNatClampNeg r59) fun T63 => oif (oO T63 l1 1 = true) <| elet (T63.2.2.1 l1 7) fun v65 => elet (v65 + 1) fun v66 => oif (oO T63 l1 1 = true) <| elet (uI T63 l1 7 v66) fun T68 => some (0, 0, T68)
set_option maxHeartbeats 4000000 in
set_option maxRecDepth 100000 in
theorem u_X3_parseZone_b14 {p : Program} {l : Launch} {e : Env} {s : State} {m : MethodId} {args : Array Value} {below : List Frame} {meth : Method} {c : Code} {Q : State → Prop} {D : va_G} {A : Nat → Prop} {cI cJ cZ cMic cSrc cSt cAI cAJ : ClassId} {ad : Nat → Nat} {r1 : Int32} {T1 : AT} (E : cE p c cX3_parseZone s m args (Cond.code yX3_parseZone cX3_parseZone 3 none :: wsA) D RX3 (CT cI cJ cZ cMic cSrc cSt cAI cAJ)) (hA : ∀ q : Nat, s.heap.size ≤ q → A q) (hX : xT A s) (hN : nX s) (hml : c.maxLocals = 3) (hst : l.stackTraces = false) (kr98 : ∀ (H : Heap) (locs : List Loc) (ls : Array Slot), gC cI cJ cZ cMic cSrc cSt cAI cAJ D ad A s.heap H locs T1 → W p l e { frames := 8, cells := 0, slots := 0, locals := 126 } s m args below meth c H locs 0 0 Q (F0 m 98 ls [])) : ∀ (T : AT) (H : Heap) (locs : List Loc) (ls : Array Slot) (s0 : Int32) (s1 : Nat) (l0 : Nat) (l1 : Nat), g_X3_parseZone_b14 T s0 s1 l0 l1 = some (0, r1, T1) → gC cI cJ cZ cMic cSrc cSt cAI cAJ D ad A s.heap H locs T → lv_has ls 3 [(0, .ref (ad l0)), (1, .ref (ad l1))] → W p l e { frames := 8, cells := 0, slots := 0, locals := 126 } s m args below meth c H locs 0 0 Q (F0 m 14 ls [.int s0, .ref (ad s1)]) := by
  have hx := E.1
  have hb := E.2.1
  have hts := E.2.2.1
  have hown := E.2.2.2.1
  have hK := E.2.2.2.2
  intro T H locs ls s0 s1 l0 l1 h G hl
  unfold g_X3_parseZone_b14 at h
  refine lv_iconst (v := 4) hx hb dX3_parseZone_14 (by decide) ?_
  obtain ⟨g2, h⟩ := oif_some h
  obtain ⟨r5, T3, eT3, h⟩ := othr_n h
  refine q_cvv (As := [.int s0, .int 4]) (rest := []) E G hA hX hN hml (u_X3_startLine l hst D cI cJ cZ cMic cSrc cSt cAI cAJ ad T s1 s0 (4 : Int32) eT3) (cwV 2 hts (gaV qA_321 qA_322 qA_323 qA_222 qA_324) rfl rfl rfl (by decide +kernel) ⟨Nat.le_of_ble_eq_true rfl, Nat.le_of_ble_eq_true rfl⟩) (oO_k g2).1 (cc_o3 (oO_k g2).2) rfl rfl hl.1 rfl (lv_room (Nat.le_of_ble_eq_true rfl)) dX3_parseZone_15 ⟨Nat.zero_le _, Nat.zero_le _⟩ (fun T4 H locs hq G => ?_)
  rw [hq] at G
  clear hq eT3
  refine lv_aload_n hx hb dX3_parseZone_18 rfl (lv_at hl 1 rfl) ?_
  obtain ⟨g7, h⟩ := oif_some h
  obtain ⟨n8, en8, h⟩ := obind_some h
  refine c_get E G l1 6 (v := .ref (ad n8)) (oO_k g7).1 (cc_o1 (oO_k g7).2) rfl (fun w h => .tail _ (iA_15 h)) (by decide) (.tail _ qA_389) rfl (by rw [en8]; rfl) dX3_parseZone_19 ?_
  clear en8
  refine lv_aload_n hx hb dX3_parseZone_22 rfl (lv_at hl 1 rfl) ?_
  obtain ⟨g9, h⟩ := oif_some h
  refine c_get E G l1 7 (oO_k g9).1 (cc_o1 (oO_k g9).2) rfl (fun w h => .tail _ (iA_15 h)) (by decide) (.tail _ qA_388) rfl rfl dX3_parseZone_23 ?_
  refine lv_topi (fun v10 ev10 => ?_)
  have h := elet_at ev10 h
  clear ev10
  obtain ⟨g11, h⟩ := oif_some h
  obtain ⟨g12, h⟩ := oif_some h
  obtain ⟨n13, en13, h⟩ := obind_some h
  refine c_alda E G n8 6 (k := v10.toNatClampNeg) (v := .ref (ad n13)) (aA_k g11).1 (cc_a106 (aA_k g11).2.1) rfl (inb_k g12).1 (inb_k g12).2 (aA_k g11).2.2 (by show va_rf ((T3.2.2.2.2 n8 v10.toNatClampNeg).map ad) = _; rw [en13]; rfl) dX3_parseZone_26 ?_
  clear en13
  refine lv_astore_n (lv' := [(2, .ref (ad n13)), (0, .ref (ad l0)), (1, .ref (ad l1))]) hx hb dX3_parseZone_27 rfl hl (by decide) rfl (fun ls hl => ?_)
  refine lv_aload_n hx hb dX3_parseZone_28 rfl (lv_at hl 0 rfl) ?_
  refine lv_iconst (v := 0) hx hb dX3_parseZone_29 (by decide) ?_
  refine lv_aload_n hx hb dX3_parseZone_30 rfl (lv_at hl 1 rfl) ?_
  refine lv_iconst (v := 0) hx hb dX3_parseZone_31 (by decide) ?_
  refine lv_aload_n hx hb dX3_parseZone_32 rfl (lv_at hl 2 rfl) ?_
  obtain ⟨g14, h⟩ := oif_some h
  refine c_get E G l1 3 (oO_k g14).1 (cc_o1 (oO_k g14).2) rfl (fun w h => .tail _ (iA_15 h)) (by decide) (.tail _ qA_180) rfl rfl dX3_parseZone_33 ?_
  refine lv_topi (fun v15 ev15 => ?_)
  have h := elet_at ev15 h
  clear ev15
  refine lv_iconst (v := 1) hx hb dX3_parseZone_36 (by decide) ?_
  refine lv_isub hx hb dX3_parseZone_37 ?_
  refine lv_topi (fun v16 ev16 => ?_)
  have h := elet_at ev16 h
  clear ev16
  obtain ⟨g17, h⟩ := oif_some h
  obtain ⟨r20, T18, eT18, h⟩ := othr_n h
  refine q_cvi (As := [.int 0, .int v16]) (rest := [.int 0, .ref (ad n13)]) E G hA hX hN hml (u_X3_number l hst D cI cJ cZ cMic cSrc cSt cAI cAJ ad T3 l0 (0 : Int32) v16 eT18) (cwV 2 hts (gaV qA_299 qA_300 qA_301 qA_222 qA_302) rfl rfl rfl (by decide +kernel) ⟨Nat.le_of_ble_eq_true rfl, Nat.le_of_ble_eq_true rfl⟩) (oO_k g17).1 (cc_o3 (oO_k g17).2) rfl rfl hl.1 rfl (lv_room (Nat.le_of_ble_eq_true rfl)) dX3_parseZone_38 ⟨Nat.zero_le _, Nat.zero_le _⟩ (fun q21 T19 H locs hq G => ?_)
  obtain ⟨hq1, hq2⟩ := hq
  rw [hq2] at G
  refine lv_to hq1 ?_
  clear hq1 hq2 eT18
  obtain ⟨g22, h⟩ := oif_some h
  obtain ⟨g23, h⟩ := oif_some h
  refine c_iast E G n13 0 (k := (0 : Int32).toNatClampNeg) (v := r20) (aA_k g22).1 (cc_a100 (aA_k g22).2.1) rfl (inb_k g23).1 (inb_k g23).2 (aA_k g22).2.2 dX3_parseZone_41 (fun H locs G => ?_)
  have G := gC_up_i (f := upd (T18.2.2.1 n13) (0 : Int32).toNatClampNeg r20) (ccv_100 (aA_k g22).2.1) G
  obtain ⟨T24, eT24, h⟩ := elet_some h
  have G : gC cI cJ cZ cMic cSrc cSt cAI cAJ D ad A s.heap H locs T24 := by rw [eT24]; exact G
  clear eT24
  refine lv_aload_n hx hb dX3_parseZone_42 rfl (lv_at hl 0 rfl) ?_
  refine lv_iconst (v := 1) hx hb dX3_parseZone_43 (by decide) ?_
  refine lv_aload_n hx hb dX3_parseZone_44 rfl (lv_at hl 1 rfl) ?_
  refine lv_iconst (v := 0) hx hb dX3_parseZone_45 (by decide) ?_
  refine lv_aload_n hx hb dX3_parseZone_46 rfl (lv_at hl 2 rfl) ?_
  obtain ⟨g25, h⟩ := oif_some h
  refine c_get E G l1 4 (oO_k g25).1 (cc_o1 (oO_k g25).2) rfl (fun w h => .tail _ (iA_15 h)) (by decide) (.tail _ qA_390) rfl rfl dX3_parseZone_47 ?_
  refine lv_topi (fun v26 ev26 => ?_)
  have h := elet_at ev26 h
  clear ev26
  refine lv_iconst (v := 1) hx hb dX3_parseZone_50 (by decide) ?_
  refine lv_isub hx hb dX3_parseZone_51 ?_
  refine lv_topi (fun v27 ev27 => ?_)
  have h := elet_at ev27 h
  clear ev27
  obtain ⟨g28, h⟩ := oif_some h
  obtain ⟨r31, T29, eT29, h⟩ := othr_n h
  refine q_cvi (As := [.int 0, .int v27]) (rest := [.int 1, .ref (ad n13)]) E G hA hX hN hml (u_X3_number l hst D cI cJ cZ cMic cSrc cSt cAI cAJ ad T24 l0 (0 : Int32) v27 eT29) (cwV 2 hts (gaV qA_299 qA_300 qA_301 qA_222 qA_302) rfl rfl rfl (by decide +kernel) ⟨Nat.le_of_ble_eq_true rfl, Nat.le_of_ble_eq_true rfl⟩) (oO_k g28).1 (cc_o3 (oO_k g28).2) rfl rfl hl.1 rfl (lv_room (Nat.le_of_ble_eq_true rfl)) dX3_parseZone_52 ⟨Nat.zero_le _, Nat.zero_le _⟩ (fun q32 T30 H locs hq G => ?_)
  obtain ⟨hq1, hq2⟩ := hq
  rw [hq2] at G
  refine lv_to hq1 ?_
  clear hq1 hq2 eT29
  obtain ⟨g33, h⟩ := oif_some h
  obtain ⟨g34, h⟩ := oif_some h
  refine c_iast E G n13 0 (k := (1 : Int32).toNatClampNeg) (v := r31) (aA_k g33).1 (cc_a100 (aA_k g33).2.1) rfl (inb_k g34).1 (inb_k g34).2 (aA_k g33).2.2 dX3_parseZone_55 (fun H locs G => ?_)
  have G := gC_up_i (f := upd (T29.2.2.1 n13) (1 : Int32).toNatClampNeg r31) (ccv_100 (aA_k g33).2.1) G
  obtain ⟨T35, eT35, h⟩ := elet_some h
  have G : gC cI cJ cZ cMic cSrc cSt cAI cAJ D ad A s.heap H locs T35 := by rw [eT35]; exact G
  clear eT35
  refine lv_aload_n hx hb dX3_parseZone_56 rfl (lv_at hl 0 rfl) ?_
  refine lv_iconst (v := 2) hx hb dX3_parseZone_57 (by decide) ?_
  refine lv_aload_n hx hb dX3_parseZone_58 rfl (lv_at hl 1 rfl) ?_
  refine lv_aload_n hx hb dX3_parseZone_59 rfl (lv_at hl 0 rfl) ?_
  refine lv_iconst (v := 0) hx hb dX3_parseZone_60 (by decide) ?_
  obtain ⟨g36, h⟩ := oif_some h
  obtain ⟨g37, h⟩ := oif_some h
  refine c_iald E G n13 0 (k := (0 : Int32).toNatClampNeg) (aA_k g36).1 (cc_a100 (aA_k g36).2.1) rfl (inb_k g37).1 (inb_k g37).2 (aA_k g36).2.2 dX3_parseZone_61 ?_
  refine lv_topi (fun v38 ev38 => ?_)
  have h := elet_at ev38 h
  clear ev38
  refine lv_aload_n hx hb dX3_parseZone_62 rfl (lv_at hl 2 rfl) ?_
  obtain ⟨g39, h⟩ := oif_some h
  refine c_get E G l1 3 (oO_k g39).1 (cc_o1 (oO_k g39).2) rfl (fun w h => .tail _ (iA_15 h)) (by decide) (.tail _ qA_180) rfl rfl dX3_parseZone_63 ?_
  refine lv_topi (fun v40 ev40 => ?_)
  have h := elet_at ev40 h
  clear ev40
  refine lv_iconst (v := 1) hx hb dX3_parseZone_66 (by decide) ?_
  refine lv_isub hx hb dX3_parseZone_67 ?_
  refine lv_topi (fun v41 ev41 => ?_)
  have h := elet_at ev41 h
  clear ev41
  obtain ⟨g42, h⟩ := oif_some h
  obtain ⟨r45, T43, eT43, h⟩ := othr_n h
  refine q_cvi (As := [.int v38, .int v41]) (rest := [.int 2, .ref (ad n13)]) E G hA hX hN hml (u_X3_number l hst D cI cJ cZ cMic cSrc cSt cAI cAJ ad T35 l0 v38 v41 eT43) (cwV 2 hts (gaV qA_299 qA_300 qA_301 qA_222 qA_302) rfl rfl rfl (by decide +kernel) ⟨Nat.le_of_ble_eq_true rfl, Nat.le_of_ble_eq_true rfl⟩) (oO_k g42).1 (cc_o3 (oO_k g42).2) rfl rfl hl.1 rfl (lv_room (Nat.le_of_ble_eq_true rfl)) dX3_parseZone_68 ⟨Nat.zero_le _, Nat.zero_le _⟩ (fun q46 T44 H locs hq G => ?_)
  obtain ⟨hq1, hq2⟩ := hq
  rw [hq2] at G
  refine lv_to hq1 ?_
  clear hq1 hq2 eT43
  obtain ⟨g47, h⟩ := oif_some h
  obtain ⟨g48, h⟩ := oif_some h
  refine c_iast E G n13 0 (k := (2 : Int32).toNatClampNeg) (v := r45) (aA_k g47).1 (cc_a100 (aA_k g47).2.1) rfl (inb_k g48).1 (inb_k g48).2 (aA_k g47).2.2 dX3_parseZone_71 (fun H locs G => ?_)
  have G := gC_up_i (f := upd (T43.2.2.1 n13) (2 : Int32).toNatClampNeg r45) (ccv_100 (aA_k g47).2.1) G
  obtain ⟨T49, eT49, h⟩ := elet_some h
  have G : gC cI cJ cZ cMic cSrc cSt cAI cAJ D ad A s.heap H locs T49 := by rw [eT49]; exact G
  clear eT49
  refine lv_aload_n hx hb dX3_parseZone_72 rfl (lv_at hl 0 rfl) ?_
  refine lv_iconst (v := 3) hx hb dX3_parseZone_73 (by decide) ?_
  refine lv_aload_n hx hb dX3_parseZone_74 rfl (lv_at hl 1 rfl) ?_
  refine lv_aload_n hx hb dX3_parseZone_75 rfl (lv_at hl 0 rfl) ?_
  refine lv_iconst (v := 1) hx hb dX3_parseZone_76 (by decide) ?_
  obtain ⟨g50, h⟩ := oif_some h
  obtain ⟨g51, h⟩ := oif_some h
  refine c_iald E G n13 0 (k := (1 : Int32).toNatClampNeg) (aA_k g50).1 (cc_a100 (aA_k g50).2.1) rfl (inb_k g51).1 (inb_k g51).2 (aA_k g50).2.2 dX3_parseZone_77 ?_
  refine lv_topi (fun v52 ev52 => ?_)
  have h := elet_at ev52 h
  clear ev52
  refine lv_aload_n hx hb dX3_parseZone_78 rfl (lv_at hl 2 rfl) ?_
  obtain ⟨g53, h⟩ := oif_some h
  refine c_get E G l1 4 (oO_k g53).1 (cc_o1 (oO_k g53).2) rfl (fun w h => .tail _ (iA_15 h)) (by decide) (.tail _ qA_390) rfl rfl dX3_parseZone_79 ?_
  refine lv_topi (fun v54 ev54 => ?_)
  have h := elet_at ev54 h
  clear ev54
  refine lv_iconst (v := 1) hx hb dX3_parseZone_82 (by decide) ?_
  refine lv_isub hx hb dX3_parseZone_83 ?_
  refine lv_topi (fun v55 ev55 => ?_)
  have h := elet_at ev55 h
  clear ev55
  obtain ⟨g56, h⟩ := oif_some h
  obtain ⟨r59, T57, eT57, h⟩ := othr_n h
  refine q_cvi (As := [.int v52, .int v55]) (rest := [.int 3, .ref (ad n13)]) E G hA hX hN hml (u_X3_number l hst D cI cJ cZ cMic cSrc cSt cAI cAJ ad T49 l0 v52 v55 eT57) (cwV 2 hts (gaV qA_299 qA_300 qA_301 qA_222 qA_302) rfl rfl rfl (by decide +kernel) ⟨Nat.le_of_ble_eq_true rfl, Nat.le_of_ble_eq_true rfl⟩) (oO_k g56).1 (cc_o3 (oO_k g56).2) rfl rfl hl.1 rfl (lv_room (Nat.le_of_ble_eq_true rfl)) dX3_parseZone_84 ⟨Nat.zero_le _, Nat.zero_le _⟩ (fun q60 T58 H locs hq G => ?_)
  obtain ⟨hq1, hq2⟩ := hq
  rw [hq2] at G
  refine lv_to hq1 ?_
  clear hq1 hq2 eT57
  obtain ⟨g61, h⟩ := oif_some h
  obtain ⟨g62, h⟩ := oif_some h
  refine c_iast E G n13 0 (k := (3 : Int32).toNatClampNeg) (v := r59) (aA_k g61).1 (cc_a100 (aA_k g61).2.1) rfl (inb_k g62).1 (inb_k g62).2 (aA_k g61).2.2 dX3_parseZone_87 (fun H locs G => ?_)
  have G := gC_up_i (f := upd (T57.2.2.1 n13) (3 : Int32).toNatClampNeg r59) (ccv_100 (aA_k g61).2.1) G
  obtain ⟨T63, eT63, h⟩ := elet_some h
  have G : gC cI cJ cZ cMic cSrc cSt cAI cAJ D ad A s.heap H locs T63 := by rw [eT63]; exact G
  clear eT63
  refine lv_aload_n hx hb dX3_parseZone_88 rfl (lv_at hl 2 rfl) ?_
  refine lv_dup hx hb dX3_parseZone_89 rfl ?_
  obtain ⟨g64, h⟩ := oif_some h
  refine c_get E G l1 7 (oO_k g64).1 (cc_o1 (oO_k g64).2) rfl (fun w h => .tail _ (iA_15 h)) (by decide) (.tail _ qA_388) rfl rfl dX3_parseZone_90 ?_
  refine lv_topi (fun v65 ev65 => ?_)
  have h := elet_at ev65 h
  clear ev65
  refine lv_iconst (v := 1) hx hb dX3_parseZone_93 (by decide) ?_
  refine lv_iadd hx hb dX3_parseZone_94 ?_
  refine lv_topi (fun v66 ev66 => ?_)
  have h := elet_at ev66 h
  clear ev66
  obtain ⟨g67, h⟩ := oif_some h
  refine c_put E G l1 7 (v := .int v66) (oO_k g67).1 (cc_o1 (oO_k g67).2) rfl (fun w h => .tail _ (iA_15 h)) tyX1 tyX1_ok nmX1 (by decide) (.tail _ qA_388) ⟨rfl, rfl, rfl⟩ rfl rfl (Nat.le_of_ble_eq_true rfl) dX3_parseZone_95 (fun H locs G => ?_)
  have G := gC_up_i (f := upd (T63.2.2.1 l1) 7 v66) (by rw [(oO_k g67).2]; rfl) G
  obtain ⟨T68, eT68, h⟩ := elet_some h
  have G : gC cI cJ cZ cMic cSrc cSt cAI cAJ D ad A s.heap H locs T68 := by rw [eT68]; exact G
  clear eT68
  rw [(osome3 h).2.2] at G
  exact kr98 _ _ _ G
def g_X3_parseZone (T : AT) (o : Nat) (a0 : Nat) : Option (Nat × Int32 × AT) := oif (oO T a0 1 = true) <| elet (T.2.2.1 a0 7) fun v3 => if v3 < 4 then (g_X3_parseZone_b14 T 0 o o a0) else (g_X3_parseZone_b14 T 1 o o a0)
set_option maxHeartbeats 4000000 in
set_option maxRecDepth 100000 in
theorem u_X3_parseZone (l : Launch) (hst : l.stackTraces = false) (D : va_G) (cI cJ cZ cMic cSrc cSt cAI cAJ : ClassId) (ad : Nat → Nat) (T : AT) (o : Nat) (a0 : Nat) {r1 : Int32} {T1 : AT} (h : g_X3_parseZone T o a0 = some (0, r1, T1)) : kCv l yX3_parseZone (Cond.code yX3_parseZone cX3_parseZone 3 none :: wsA) 8 126 cI cJ cZ cMic cSrc cSt cAI cAJ D ad T [.ref (ad o), .ref (ad a0)] (fun T9 => T9 = T1) := by
  intro sz
  refine Met.ofW (cc := cX3_parseZone) (maxL := 3) (ret := none) (by decide) rfl ?_
  intro p e s m args below meth c s₁ B hml hv
  obtain ⟨rfl, hsz, hP, hK, hD0, hX, hN⟩ := hv
  have hx := B.exec
  have hb := B.bytes
  have hr := B.returns
  have hts := atoms_spec (ws := (Cond.code yX3_parseZone cX3_parseZone 3 none :: wsA)) B.pre
  have hown : s.vm.findClass RX3 = some m.cls := findClass_of_methodNamed B.named
  have hlocks := B.notSynchronized
  subst hsz
  have hD := hD0.self (sz := s.heap.size)
  generalize hAe : va_A (cW ad T.1 (cc cI cJ cZ cMic cSrc cSt cAI cAJ ad T)) s.heap.size = A at hD hX ⊢
  have hA : ∀ q : Nat, s.heap.size ≤ q → A q := fun q h => by rw [← hAe]; exact Or.inr h
  have G : gC cI cJ cZ cMic cSrc cSt cAI cAJ D ad A s.heap s.heap [] T := ⟨hP, hD, va_S.rf⟩
  have E : cE p c cX3_parseZone s m ([.ref (ad o), .ref (ad a0)] : List Value).toArray (Cond.code yX3_parseZone cX3_parseZone 3 none :: wsA) D RX3 (CT cI cJ cZ cMic cSrc cSt cAI cAJ) := ⟨hx, hb, hts, hown, hK⟩
  have hl := lv_entry ([.ref (ad o), .ref (ad a0)]) (n := 3) (Nat.le_of_ble_eq_true rfl)
  rw [lg_entry_eq]
  generalize (lg_sl ([.ref (ad o), .ref (ad a0)]) ++ List.replicate (3 - (lg_sl ([.ref (ad o), .ref (ad a0)])).length) Slot.unset).toArray = ls at hl ⊢
  have hl : lv_has ls 3 [(0, .ref (ad o)), (1, .ref (ad a0))] := hl
  unfold g_X3_parseZone at h
  refine lv_aload_n hx hb dX3_parseZone_0 rfl (lv_at hl 0 rfl) ?_
  refine lv_aload_n hx hb dX3_parseZone_1 rfl (lv_at hl 1 rfl) ?_
  obtain ⟨g2, h⟩ := oif_some h
  refine c_get E G a0 7 (oO_k g2).1 (cc_o1 (oO_k g2).2) rfl (fun w h => .tail _ (iA_15 h)) (by decide) (.tail _ qA_388) rfl rfl dX3_parseZone_2 ?_
  refine lv_topi (fun v3 ev3 => ?_)
  have h := elet_at ev3 h
  clear ev3
  refine lv_iconst (v := 4) hx hb dX3_parseZone_5 (by decide) ?_
  refine lv_icmp_lt (tgt := 13) hx hb dX3_parseZone_6 (by decide) (fun c4 => ?_) (fun c4 => ?_)
  · have h := oif_pos c4 h
    refine lv_iconst (v := 0) hx hb dX3_parseZone_13 (by decide) ?_
    have hl := lv_sub hl [0, 1] rfl
    exact u_X3_parseZone_b14 E hA hX hN hml hst (fun H locs ls G => W.vret hx hb hr (fun t ht hW => ⟨⟨T1, rfl, rfl, ⟨by rw [ht]; exact G.1, va_K.moved hW.alike hK, G.2.1⟩⟩, G.2.2.F ht⟩) G.2.2.2.2 dX3_parseZone_98) _ _ _ _ _ _ _ _ h G hl
  · have h := oif_neg c4 h
    refine lv_iconst (v := 1) hx hb dX3_parseZone_9 (by decide) ?_
    refine lv_goto (tgt := 14) hx hb dX3_parseZone_10 (by decide) ?_
    have hl := lv_sub hl [0, 1] rfl
    exact u_X3_parseZone_b14 E hA hX hN hml hst (fun H locs ls G => W.vret hx hb hr (fun t ht hW => ⟨⟨T1, rfl, rfl, ⟨by rw [ht]; exact G.1, va_K.moved hW.alike hK, G.2.1⟩⟩, G.2.2.F ht⟩) G.2.2.2.2 dX3_parseZone_98) _ _ _ _ _ _ _ _ h G hl
set_option maxHeartbeats 4000000 in
set_option maxRecDepth 100000 in
theorem s_X3_parseZone_b14 {e1 : Nat} {r1 : Int32} {T1 : AT} : ∀ (T : AT) (s0 : Int32) (s1 : Nat) (l0 : Nat) (l1 : Nat), g_X3_parseZone_b14 T s0 s1 l0 l1 = some (e1, r1, T1) → SP T T1 := by
  intro T s0 s1 l0 l1 h
  have p0 := SP.rf T
  unfold g_X3_parseZone_b14 at h
  obtain ⟨g2, h⟩ := oif_some h
  rcases othr_s h with ⟨k9, r9, e9, -⟩ | ⟨r4, T3, eT3, h⟩
  · exact SP.tr p0 (s_X3_startLine e9)
  have p1 : SP T T3 := SP.tr p0 (s_X3_startLine eT3)
  obtain ⟨g5, h⟩ := oif_some h
  obtain ⟨n6, en6, h⟩ := obind_some h
  obtain ⟨g7, h⟩ := oif_some h
  obtain ⟨v8, -, h⟩ := elet_some h
  obtain ⟨g9, h⟩ := oif_some h
  obtain ⟨g10, h⟩ := oif_some h
  obtain ⟨n11, en11, h⟩ := obind_some h
  obtain ⟨g12, h⟩ := oif_some h
  obtain ⟨v13, -, h⟩ := elet_some h
  obtain ⟨v14, -, h⟩ := elet_some h
  obtain ⟨g15, h⟩ := oif_some h
  rcases othr_s h with ⟨k9, r9, e9, -⟩ | ⟨r17, T16, eT16, h⟩
  · exact SP.tr p1 (s_X3_number e9)
  have p2 : SP T T16 := SP.tr p1 (s_X3_number eT16)
  obtain ⟨g18, h⟩ := oif_some h
  obtain ⟨g19, h⟩ := oif_some h
  obtain ⟨T20, eT20, h⟩ := elet_some h
  have p3 : SP T T20 := SP.tr p2 (by rw [eT20]; exact sp_uI)
  obtain ⟨g21, h⟩ := oif_some h
  obtain ⟨v22, -, h⟩ := elet_some h
  obtain ⟨v23, -, h⟩ := elet_some h
  obtain ⟨g24, h⟩ := oif_some h
  rcases othr_s h with ⟨k9, r9, e9, -⟩ | ⟨r26, T25, eT25, h⟩
  · exact SP.tr p3 (s_X3_number e9)
  have p4 : SP T T25 := SP.tr p3 (s_X3_number eT25)
  obtain ⟨g27, h⟩ := oif_some h
  obtain ⟨g28, h⟩ := oif_some h
  obtain ⟨T29, eT29, h⟩ := elet_some h
  have p5 : SP T T29 := SP.tr p4 (by rw [eT29]; exact sp_uI)
  obtain ⟨g30, h⟩ := oif_some h
  obtain ⟨g31, h⟩ := oif_some h
  obtain ⟨v32, -, h⟩ := elet_some h
  obtain ⟨g33, h⟩ := oif_some h
  obtain ⟨v34, -, h⟩ := elet_some h
  obtain ⟨v35, -, h⟩ := elet_some h
  obtain ⟨g36, h⟩ := oif_some h
  rcases othr_s h with ⟨k9, r9, e9, -⟩ | ⟨r38, T37, eT37, h⟩
  · exact SP.tr p5 (s_X3_number e9)
  have p6 : SP T T37 := SP.tr p5 (s_X3_number eT37)
  obtain ⟨g39, h⟩ := oif_some h
  obtain ⟨g40, h⟩ := oif_some h
  obtain ⟨T41, eT41, h⟩ := elet_some h
  have p7 : SP T T41 := SP.tr p6 (by rw [eT41]; exact sp_uI)
  obtain ⟨g42, h⟩ := oif_some h
  obtain ⟨g43, h⟩ := oif_some h
  obtain ⟨v44, -, h⟩ := elet_some h
  obtain ⟨g45, h⟩ := oif_some h
  obtain ⟨v46, -, h⟩ := elet_some h
  obtain ⟨v47, -, h⟩ := elet_some h
  obtain ⟨g48, h⟩ := oif_some h
  rcases othr_s h with ⟨k9, r9, e9, -⟩ | ⟨r50, T49, eT49, h⟩
  · exact SP.tr p7 (s_X3_number e9)
  have p8 : SP T T49 := SP.tr p7 (s_X3_number eT49)
  obtain ⟨g51, h⟩ := oif_some h
  obtain ⟨g52, h⟩ := oif_some h
  obtain ⟨T53, eT53, h⟩ := elet_some h
  have p9 : SP T T53 := SP.tr p8 (by rw [eT53]; exact sp_uI)
  obtain ⟨g54, h⟩ := oif_some h
  obtain ⟨v55, -, h⟩ := elet_some h
  obtain ⟨v56, -, h⟩ := elet_some h
  obtain ⟨g57, h⟩ := oif_some h
  obtain ⟨T58, eT58, h⟩ := elet_some h
  have p10 : SP T T58 := SP.tr p9 (by rw [eT58]; exact sp_uI)
  rw [← (osome3 h).2.2]
  exact p10
set_option maxHeartbeats 4000000 in
set_option maxRecDepth 100000 in
theorem s_X3_parseZone {T : AT} {o : Nat} {a0 : Nat} {e1 : Nat} {r1 : Int32} {T1 : AT} (h : g_X3_parseZone T o a0 = some (e1, r1, T1)) : SP T T1 := by
  have p0 := SP.rf T
  unfold g_X3_parseZone at h
  obtain ⟨g2, h⟩ := oif_some h
  obtain ⟨v3, -, h⟩ := elet_some h
  rcases oif_or h with ⟨c4, h⟩ | ⟨c4, h⟩
  · have h := h
    exact SP.tr p0 (s_X3_parseZone_b14 _ _ _ _ _ h)
  · have h := h
    exact SP.tr p0 (s_X3_parseZone_b14 _ _ _ _ _ h)
set_option maxHeartbeats 4000000 in
set_option maxRecDepth 100000 in
theorem x_X3_parseZone_b14 {p : Program} {l : Launch} {e : Env} {s : State} {m : MethodId} {args : Array Value} {below : List Frame} {meth : Method} {c : Code} {Qc : Array Value → State → Outcome → State → Prop} {XC : String → State → State → Prop} {D : va_G} {A : Nat → Prop} {cI cJ cZ cMic cSrc cSt cAI cAJ : ClassId} {ad : Nat → Nat} {e1 : Nat} {r1 : Int32} {T1 : AT} (E : cE p c cX3_parseZone s m args (Cond.code yX3_parseZone cX3_parseZone 3 none :: wsA) D RX3 (CT cI cJ cZ cMic cSrc cSt cAI cAJ)) (hA : ∀ q : Nat, s.heap.size ≤ q → A q) (hX : xT A s) (hN : nX s) (hml : c.maxLocals = 3) (hz9 : True) (hst : l.stackTraces = false) (htab : ∀ x ∈ c.exceptionTable.toList, False) (hlocks : meth.locks = false) (kx : ∀ (H : Heap) (locs : List Loc) (t : State), gC cI cJ cZ cMic cSrc cSt cAI cAJ D ad A s.heap H locs T1 → s.vm.Alike t.vm → H.size ≤ t.heap.size → (∀ q, q < H.size → t.heap[q]? = H[q]?) → XC (exn e1) s t) : ∀ (T : AT) (H : Heap) (locs : List Loc) (ls : Array Slot) (s0 : Int32) (s1 : Nat) (l0 : Nat) (l1 : Nat), g_X3_parseZone_b14 T s0 s1 l0 l1 = some (e1 + 1, r1, T1) → gC cI cJ cZ cMic cSrc cSt cAI cAJ D ad A s.heap H locs T → lv_has ls 3 [(0, .ref (ad l0)), (1, .ref (ad l1))] → W p l e { frames := 8, cells := 1, slots := 6, locals := 126 } s m args below meth c H locs 0 0 (vx_MQ below Qc XC args s 1 6 A) (F0 m 14 ls [.int s0, .ref (ad s1)]) := by
  have hx := E.1
  have hb := E.2.1
  have hts := E.2.2.1
  have hown := E.2.2.2.1
  have hK := E.2.2.2.2
  intro T H locs ls s0 s1 l0 l1 h G hl
  unfold g_X3_parseZone_b14 at h
  refine lv_iconst (v := 4) hx hb dX3_parseZone_14 (by decide) ?_
  obtain ⟨g2, h⟩ := oif_some h
  rcases othr_t h with ⟨r0, eT3⟩ | ⟨r5, T3, eT3, h⟩
  · refine q_xvv (As := [.int s0, .int 4]) (rest := []) E G hA hX hN hml (x_X3_startLine l hst D cI cJ cZ cMic cSrc cSt cAI cAJ ad T s1 s0 (4 : Int32) eT3) (cwV 2 hts (gaV qA_321 qA_322 qA_323 qA_222 qA_324) rfl rfl rfl (by decide +kernel) ⟨Nat.le_of_ble_eq_true rfl, Nat.le_of_ble_eq_true rfl⟩) (oO_k g2).1 (cc_o3 (oO_k g2).2) rfl rfl hl.1 rfl (lv_room (Nat.le_of_ble_eq_true rfl)) dX3_parseZone_15 ⟨Nat.le_of_ble_eq_true rfl, Nat.le_of_ble_eq_true rfl⟩ (fun E9 ce q9 T9 H locs hp G hce hcv hcl => ?_)
    obtain ⟨hE, hT⟩ := hp
    subst hE
    rw [hT] at G
    exact vx_out (fun x hx => (htab x hx).elim) hlocks hce hcv hcl (fun t ht hvm => kx _ _ _ G hvm (by rw [ht]; exact Nat.le_refl _) (fun q hq => by rw [ht])) G.2.2.2.2 (Nat.le_refl _) (Nat.le_refl _)
  refine q_cvv (As := [.int s0, .int 4]) (rest := []) E G hA hX hN hml (u_X3_startLine l hst D cI cJ cZ cMic cSrc cSt cAI cAJ ad T s1 s0 (4 : Int32) eT3) (cwV 2 hts (gaV qA_321 qA_322 qA_323 qA_222 qA_324) rfl rfl rfl (by decide +kernel) ⟨Nat.le_of_ble_eq_true rfl, Nat.le_of_ble_eq_true rfl⟩) (oO_k g2).1 (cc_o3 (oO_k g2).2) rfl rfl hl.1 rfl (lv_room (Nat.le_of_ble_eq_true rfl)) dX3_parseZone_15 ⟨Nat.zero_le _, Nat.zero_le _⟩ (fun T4 H locs hq G => ?_)
  rw [hq] at G
  clear hq eT3
  refine lv_aload_n hx hb dX3_parseZone_18 rfl (lv_at hl 1 rfl) ?_
  obtain ⟨g7, h⟩ := oif_some h
  obtain ⟨n8, en8, h⟩ := obind_some h
  refine c_get E G l1 6 (v := .ref (ad n8)) (oO_k g7).1 (cc_o1 (oO_k g7).2) rfl (fun w h => .tail _ (iA_15 h)) (by decide) (.tail _ qA_389) rfl (by rw [en8]; rfl) dX3_parseZone_19 ?_
  clear en8
  refine lv_aload_n hx hb dX3_parseZone_22 rfl (lv_at hl 1 rfl) ?_
  obtain ⟨g9, h⟩ := oif_some h
  refine c_get E G l1 7 (oO_k g9).1 (cc_o1 (oO_k g9).2) rfl (fun w h => .tail _ (iA_15 h)) (by decide) (.tail _ qA_388) rfl rfl dX3_parseZone_23 ?_
  refine lv_topi (fun v10 ev10 => ?_)
  have h := elet_at ev10 h
  clear ev10
  obtain ⟨g11, h⟩ := oif_some h
  obtain ⟨g12, h⟩ := oif_some h
  obtain ⟨n13, en13, h⟩ := obind_some h
  refine c_alda E G n8 6 (k := v10.toNatClampNeg) (v := .ref (ad n13)) (aA_k g11).1 (cc_a106 (aA_k g11).2.1) rfl (inb_k g12).1 (inb_k g12).2 (aA_k g11).2.2 (by show va_rf ((T3.2.2.2.2 n8 v10.toNatClampNeg).map ad) = _; rw [en13]; rfl) dX3_parseZone_26 ?_
  clear en13
  refine lv_astore_n (lv' := [(2, .ref (ad n13)), (0, .ref (ad l0)), (1, .ref (ad l1))]) hx hb dX3_parseZone_27 rfl hl (by decide) rfl (fun ls hl => ?_)
  refine lv_aload_n hx hb dX3_parseZone_28 rfl (lv_at hl 0 rfl) ?_
  refine lv_iconst (v := 0) hx hb dX3_parseZone_29 (by decide) ?_
  refine lv_aload_n hx hb dX3_parseZone_30 rfl (lv_at hl 1 rfl) ?_
  refine lv_iconst (v := 0) hx hb dX3_parseZone_31 (by decide) ?_
  refine lv_aload_n hx hb dX3_parseZone_32 rfl (lv_at hl 2 rfl) ?_
  obtain ⟨g14, h⟩ := oif_some h
  refine c_get E G l1 3 (oO_k g14).1 (cc_o1 (oO_k g14).2) rfl (fun w h => .tail _ (iA_15 h)) (by decide) (.tail _ qA_180) rfl rfl dX3_parseZone_33 ?_
  refine lv_topi (fun v15 ev15 => ?_)
  have h := elet_at ev15 h
  clear ev15
  refine lv_iconst (v := 1) hx hb dX3_parseZone_36 (by decide) ?_
  refine lv_isub hx hb dX3_parseZone_37 ?_
  refine lv_topi (fun v16 ev16 => ?_)
  have h := elet_at ev16 h
  clear ev16
  obtain ⟨g17, h⟩ := oif_some h
  rcases othr_t h with ⟨r0, eT18⟩ | ⟨r20, T18, eT18, h⟩
  · refine q_xvi (As := [.int 0, .int v16]) (rest := [.int 0, .ref (ad n13)]) E G hA hX hN hml (x_X3_number l hst D cI cJ cZ cMic cSrc cSt cAI cAJ ad T3 l0 (0 : Int32) v16 eT18) (cwV 2 hts (gaV qA_299 qA_300 qA_301 qA_222 qA_302) rfl rfl rfl (by decide +kernel) ⟨Nat.le_of_ble_eq_true rfl, Nat.le_of_ble_eq_true rfl⟩) (oO_k g17).1 (cc_o3 (oO_k g17).2) rfl rfl hl.1 rfl (lv_room (Nat.le_of_ble_eq_true rfl)) dX3_parseZone_38 ⟨Nat.le_of_ble_eq_true rfl, Nat.le_of_ble_eq_true rfl⟩ (fun E9 ce q9 T9 H locs hp G hce hcv hcl => ?_)
    obtain ⟨hE, hT⟩ := hp
    subst hE
    rw [hT] at G
    exact vx_out (fun x hx => (htab x hx).elim) hlocks hce hcv hcl (fun t ht hvm => kx _ _ _ G hvm (by rw [ht]; exact Nat.le_refl _) (fun q hq => by rw [ht])) G.2.2.2.2 (Nat.le_refl _) (Nat.le_refl _)
  refine q_cvi (As := [.int 0, .int v16]) (rest := [.int 0, .ref (ad n13)]) E G hA hX hN hml (u_X3_number l hst D cI cJ cZ cMic cSrc cSt cAI cAJ ad T3 l0 (0 : Int32) v16 eT18) (cwV 2 hts (gaV qA_299 qA_300 qA_301 qA_222 qA_302) rfl rfl rfl (by decide +kernel) ⟨Nat.le_of_ble_eq_true rfl, Nat.le_of_ble_eq_true rfl⟩) (oO_k g17).1 (cc_o3 (oO_k g17).2) rfl rfl hl.1 rfl (lv_room (Nat.le_of_ble_eq_true rfl)) dX3_parseZone_38 ⟨Nat.zero_le _, Nat.zero_le _⟩ (fun q21 T19 H locs hq G => ?_)
  obtain ⟨hq1, hq2⟩ := hq
  rw [hq2] at G
  refine lv_to hq1 ?_
  clear hq1 hq2 eT18
  obtain ⟨g22, h⟩ := oif_some h
  obtain ⟨g23, h⟩ := oif_some h
  refine c_iast E G n13 0 (k := (0 : Int32).toNatClampNeg) (v := r20) (aA_k g22).1 (cc_a100 (aA_k g22).2.1) rfl (inb_k g23).1 (inb_k g23).2 (aA_k g22).2.2 dX3_parseZone_41 (fun H locs G => ?_)
  have G := gC_up_i (f := upd (T18.2.2.1 n13) (0 : Int32).toNatClampNeg r20) (ccv_100 (aA_k g22).2.1) G
  obtain ⟨T24, eT24, h⟩ := elet_some h
  have G : gC cI cJ cZ cMic cSrc cSt cAI cAJ D ad A s.heap H locs T24 := by rw [eT24]; exact G
  clear eT24
  refine lv_aload_n hx hb dX3_parseZone_42 rfl (lv_at hl 0 rfl) ?_
  refine lv_iconst (v := 1) hx hb dX3_parseZone_43 (by decide) ?_
  refine lv_aload_n hx hb dX3_parseZone_44 rfl (lv_at hl 1 rfl) ?_
  refine lv_iconst (v := 0) hx hb dX3_parseZone_45 (by decide) ?_
  refine lv_aload_n hx hb dX3_parseZone_46 rfl (lv_at hl 2 rfl) ?_
  obtain ⟨g25, h⟩ := oif_some h
  refine c_get E G l1 4 (oO_k g25).1 (cc_o1 (oO_k g25).2) rfl (fun w h => .tail _ (iA_15 h)) (by decide) (.tail _ qA_390) rfl rfl dX3_parseZone_47 ?_
  refine lv_topi (fun v26 ev26 => ?_)
  have h := elet_at ev26 h
  clear ev26
  refine lv_iconst (v := 1) hx hb dX3_parseZone_50 (by decide) ?_
  refine lv_isub hx hb dX3_parseZone_51 ?_
  refine lv_topi (fun v27 ev27 => ?_)
  have h := elet_at ev27 h
  clear ev27
  obtain ⟨g28, h⟩ := oif_some h
  rcases othr_t h with ⟨r0, eT29⟩ | ⟨r31, T29, eT29, h⟩
  · refine q_xvi (As := [.int 0, .int v27]) (rest := [.int 1, .ref (ad n13)]) E G hA hX hN hml (x_X3_number l hst D cI cJ cZ cMic cSrc cSt cAI cAJ ad T24 l0 (0 : Int32) v27 eT29) (cwV 2 hts (gaV qA_299 qA_300 qA_301 qA_222 qA_302) rfl rfl rfl (by decide +kernel) ⟨Nat.le_of_ble_eq_true rfl, Nat.le_of_ble_eq_true rfl⟩) (oO_k g28).1 (cc_o3 (oO_k g28).2) rfl rfl hl.1 rfl (lv_room (Nat.le_of_ble_eq_true rfl)) dX3_parseZone_52 ⟨Nat.le_of_ble_eq_true rfl, Nat.le_of_ble_eq_true rfl⟩ (fun E9 ce q9 T9 H locs hp G hce hcv hcl => ?_)
    obtain ⟨hE, hT⟩ := hp
    subst hE
    rw [hT] at G
    exact vx_out (fun x hx => (htab x hx).elim) hlocks hce hcv hcl (fun t ht hvm => kx _ _ _ G hvm (by rw [ht]; exact Nat.le_refl _) (fun q hq => by rw [ht])) G.2.2.2.2 (Nat.le_refl _) (Nat.le_refl _)
  refine q_cvi (As := [.int 0, .int v27]) (rest := [.int 1, .ref (ad n13)]) E G hA hX hN hml (u_X3_number l hst D cI cJ cZ cMic cSrc cSt cAI cAJ ad T24 l0 (0 : Int32) v27 eT29) (cwV 2 hts (gaV qA_299 qA_300 qA_301 qA_222 qA_302) rfl rfl rfl (by decide +kernel) ⟨Nat.le_of_ble_eq_true rfl, Nat.le_of_ble_eq_true rfl⟩) (oO_k g28).1 (cc_o3 (oO_k g28).2) rfl rfl hl.1 rfl (lv_room (Nat.le_of_ble_eq_true rfl)) dX3_parseZone_52 ⟨Nat.zero_le _, Nat.zero_le _⟩ (fun q32 T30 H locs hq G => ?_)
  obtain ⟨hq1, hq2⟩ := hq
  rw [hq2] at G
  refine lv_to hq1 ?_
  clear hq1 hq2 eT29
  obtain ⟨g33, h⟩ := oif_some h
  obtain ⟨g34, h⟩ := oif_some h
  refine c_iast E G n13 0 (k := (1 : Int32).toNatClampNeg) (v := r31) (aA_k g33).1 (cc_a100 (aA_k g33).2.1) rfl (inb_k g34).1 (inb_k g34).2 (aA_k g33).2.2 dX3_parseZone_55 (fun H locs G => ?_)
  have G := gC_up_i (f := upd (T29.2.2.1 n13) (1 : Int32).toNatClampNeg r31) (ccv_100 (aA_k g33).2.1) G
  obtain ⟨T35, eT35, h⟩ := elet_some h
  have G : gC cI cJ cZ cMic cSrc cSt cAI cAJ D ad A s.heap H locs T35 := by rw [eT35]; exact G
  clear eT35
  refine lv_aload_n hx hb dX3_parseZone_56 rfl (lv_at hl 0 rfl) ?_
  refine lv_iconst (v := 2) hx hb dX3_parseZone_57 (by decide) ?_
  refine lv_aload_n hx hb dX3_parseZone_58 rfl (lv_at hl 1 rfl) ?_
  refine lv_aload_n hx hb dX3_parseZone_59 rfl (lv_at hl 0 rfl) ?_
  refine lv_iconst (v := 0) hx hb dX3_parseZone_60 (by decide) ?_
  obtain ⟨g36, h⟩ := oif_some h
  obtain ⟨g37, h⟩ := oif_some h
  refine c_iald E G n13 0 (k := (0 : Int32).toNatClampNeg) (aA_k g36).1 (cc_a100 (aA_k g36).2.1) rfl (inb_k g37).1 (inb_k g37).2 (aA_k g36).2.2 dX3_parseZone_61 ?_
  refine lv_topi (fun v38 ev38 => ?_)
  have h := elet_at ev38 h
  clear ev38
  refine lv_aload_n hx hb dX3_parseZone_62 rfl (lv_at hl 2 rfl) ?_
  obtain ⟨g39, h⟩ := oif_some h
  refine c_get E G l1 3 (oO_k g39).1 (cc_o1 (oO_k g39).2) rfl (fun w h => .tail _ (iA_15 h)) (by decide) (.tail _ qA_180) rfl rfl dX3_parseZone_63 ?_
  refine lv_topi (fun v40 ev40 => ?_)
  have h := elet_at ev40 h
  clear ev40
  refine lv_iconst (v := 1) hx hb dX3_parseZone_66 (by decide) ?_
  refine lv_isub hx hb dX3_parseZone_67 ?_
  refine lv_topi (fun v41 ev41 => ?_)
  have h := elet_at ev41 h
  clear ev41
  obtain ⟨g42, h⟩ := oif_some h
  rcases othr_t h with ⟨r0, eT43⟩ | ⟨r45, T43, eT43, h⟩
  · refine q_xvi (As := [.int v38, .int v41]) (rest := [.int 2, .ref (ad n13)]) E G hA hX hN hml (x_X3_number l hst D cI cJ cZ cMic cSrc cSt cAI cAJ ad T35 l0 v38 v41 eT43) (cwV 2 hts (gaV qA_299 qA_300 qA_301 qA_222 qA_302) rfl rfl rfl (by decide +kernel) ⟨Nat.le_of_ble_eq_true rfl, Nat.le_of_ble_eq_true rfl⟩) (oO_k g42).1 (cc_o3 (oO_k g42).2) rfl rfl hl.1 rfl (lv_room (Nat.le_of_ble_eq_true rfl)) dX3_parseZone_68 ⟨Nat.le_of_ble_eq_true rfl, Nat.le_of_ble_eq_true rfl⟩ (fun E9 ce q9 T9 H locs hp G hce hcv hcl => ?_)
    obtain ⟨hE, hT⟩ := hp
    subst hE
    rw [hT] at G
    exact vx_out (fun x hx => (htab x hx).elim) hlocks hce hcv hcl (fun t ht hvm => kx _ _ _ G hvm (by rw [ht]; exact Nat.le_refl _) (fun q hq => by rw [ht])) G.2.2.2.2 (Nat.le_refl _) (Nat.le_refl _)
  refine q_cvi (As := [.int v38, .int v41]) (rest := [.int 2, .ref (ad n13)]) E G hA hX hN hml (u_X3_number l hst D cI cJ cZ cMic cSrc cSt cAI cAJ ad T35 l0 v38 v41 eT43) (cwV 2 hts (gaV qA_299 qA_300 qA_301 qA_222 qA_302) rfl rfl rfl (by decide +kernel) ⟨Nat.le_of_ble_eq_true rfl, Nat.le_of_ble_eq_true rfl⟩) (oO_k g42).1 (cc_o3 (oO_k g42).2) rfl rfl hl.1 rfl (lv_room (Nat.le_of_ble_eq_true rfl)) dX3_parseZone_68 ⟨Nat.zero_le _, Nat.zero_le _⟩ (fun q46 T44 H locs hq G => ?_)
  obtain ⟨hq1, hq2⟩ := hq
  rw [hq2] at G
  refine lv_to hq1 ?_
  clear hq1 hq2 eT43
  obtain ⟨g47, h⟩ := oif_some h
  obtain ⟨g48, h⟩ := oif_some h
  refine c_iast E G n13 0 (k := (2 : Int32).toNatClampNeg) (v := r45) (aA_k g47).1 (cc_a100 (aA_k g47).2.1) rfl (inb_k g48).1 (inb_k g48).2 (aA_k g47).2.2 dX3_parseZone_71 (fun H locs G => ?_)
  have G := gC_up_i (f := upd (T43.2.2.1 n13) (2 : Int32).toNatClampNeg r45) (ccv_100 (aA_k g47).2.1) G
  obtain ⟨T49, eT49, h⟩ := elet_some h
  have G : gC cI cJ cZ cMic cSrc cSt cAI cAJ D ad A s.heap H locs T49 := by rw [eT49]; exact G
  clear eT49
  refine lv_aload_n hx hb dX3_parseZone_72 rfl (lv_at hl 0 rfl) ?_
  refine lv_iconst (v := 3) hx hb dX3_parseZone_73 (by decide) ?_
  refine lv_aload_n hx hb dX3_parseZone_74 rfl (lv_at hl 1 rfl) ?_
  refine lv_aload_n hx hb dX3_parseZone_75 rfl (lv_at hl 0 rfl) ?_
  refine lv_iconst (v := 1) hx hb dX3_parseZone_76 (by decide) ?_
  obtain ⟨g50, h⟩ := oif_some h
  obtain ⟨g51, h⟩ := oif_some h
  refine c_iald E G n13 0 (k := (1 : Int32).toNatClampNeg) (aA_k g50).1 (cc_a100 (aA_k g50).2.1) rfl (inb_k g51).1 (inb_k g51).2 (aA_k g50).2.2 dX3_parseZone_77 ?_
  refine lv_topi (fun v52 ev52 => ?_)
  have h := elet_at ev52 h
  clear ev52
  refine lv_aload_n hx hb dX3_parseZone_78 rfl (lv_at hl 2 rfl) ?_
  obtain ⟨g53, h⟩ := oif_some h
  refine c_get E G l1 4 (oO_k g53).1 (cc_o1 (oO_k g53).2) rfl (fun w h => .tail _ (iA_15 h)) (by decide) (.tail _ qA_390) rfl rfl dX3_parseZone_79 ?_
  refine lv_topi (fun v54 ev54 => ?_)
  have h := elet_at ev54 h
  clear ev54
  refine lv_iconst (v := 1) hx hb dX3_parseZone_82 (by decide) ?_
  refine lv_isub hx hb dX3_parseZone_83 ?_
  refine lv_topi (fun v55 ev55 => ?_)
  have h := elet_at ev55 h
  clear ev55
  obtain ⟨g56, h⟩ := oif_some h
  rcases othr_t h with ⟨r0, eT57⟩ | ⟨r59, T57, eT57, h⟩
  · refine q_xvi (As := [.int v52, .int v55]) (rest := [.int 3, .ref (ad n13)]) E G hA hX hN hml (x_X3_number l hst D cI cJ cZ cMic cSrc cSt cAI cAJ ad T49 l0 v52 v55 eT57) (cwV 2 hts (gaV qA_299 qA_300 qA_301 qA_222 qA_302) rfl rfl rfl (by decide +kernel) ⟨Nat.le_of_ble_eq_true rfl, Nat.le_of_ble_eq_true rfl⟩) (oO_k g56).1 (cc_o3 (oO_k g56).2) rfl rfl hl.1 rfl (lv_room (Nat.le_of_ble_eq_true rfl)) dX3_parseZone_84 ⟨Nat.le_of_ble_eq_true rfl, Nat.le_of_ble_eq_true rfl⟩ (fun E9 ce q9 T9 H locs hp G hce hcv hcl => ?_)
    obtain ⟨hE, hT⟩ := hp
    subst hE
    rw [hT] at G
    exact vx_out (fun x hx => (htab x hx).elim) hlocks hce hcv hcl (fun t ht hvm => kx _ _ _ G hvm (by rw [ht]; exact Nat.le_refl _) (fun q hq => by rw [ht])) G.2.2.2.2 (Nat.le_refl _) (Nat.le_refl _)
  refine q_cvi (As := [.int v52, .int v55]) (rest := [.int 3, .ref (ad n13)]) E G hA hX hN hml (u_X3_number l hst D cI cJ cZ cMic cSrc cSt cAI cAJ ad T49 l0 v52 v55 eT57) (cwV 2 hts (gaV qA_299 qA_300 qA_301 qA_222 qA_302) rfl rfl rfl (by decide +kernel) ⟨Nat.le_of_ble_eq_true rfl, Nat.le_of_ble_eq_true rfl⟩) (oO_k g56).1 (cc_o3 (oO_k g56).2) rfl rfl hl.1 rfl (lv_room (Nat.le_of_ble_eq_true rfl)) dX3_parseZone_84 ⟨Nat.zero_le _, Nat.zero_le _⟩ (fun q60 T58 H locs hq G => ?_)
  obtain ⟨hq1, hq2⟩ := hq
  rw [hq2] at G
  refine lv_to hq1 ?_
  clear hq1 hq2 eT57
  obtain ⟨g61, h⟩ := oif_some h
  obtain ⟨g62, h⟩ := oif_some h
  refine c_iast E G n13 0 (k := (3 : Int32).toNatClampNeg) (v := r59) (aA_k g61).1 (cc_a100 (aA_k g61).2.1) rfl (inb_k g62).1 (inb_k g62).2 (aA_k g61).2.2 dX3_parseZone_87 (fun H locs G => ?_)
  have G := gC_up_i (f := upd (T57.2.2.1 n13) (3 : Int32).toNatClampNeg r59) (ccv_100 (aA_k g61).2.1) G
  obtain ⟨T63, eT63, h⟩ := elet_some h
  have G : gC cI cJ cZ cMic cSrc cSt cAI cAJ D ad A s.heap H locs T63 := by rw [eT63]; exact G
  clear eT63
  refine lv_aload_n hx hb dX3_parseZone_88 rfl (lv_at hl 2 rfl) ?_
  refine lv_dup hx hb dX3_parseZone_89 rfl ?_
  obtain ⟨g64, h⟩ := oif_some h
  refine c_get E G l1 7 (oO_k g64).1 (cc_o1 (oO_k g64).2) rfl (fun w h => .tail _ (iA_15 h)) (by decide) (.tail _ qA_388) rfl rfl dX3_parseZone_90 ?_
  refine lv_topi (fun v65 ev65 => ?_)
  have h := elet_at ev65 h
  clear ev65
  refine lv_iconst (v := 1) hx hb dX3_parseZone_93 (by decide) ?_
  refine lv_iadd hx hb dX3_parseZone_94 ?_
  refine lv_topi (fun v66 ev66 => ?_)
  have h := elet_at ev66 h
  clear ev66
  obtain ⟨g67, h⟩ := oif_some h
  refine c_put E G l1 7 (v := .int v66) (oO_k g67).1 (cc_o1 (oO_k g67).2) rfl (fun w h => .tail _ (iA_15 h)) tyX1 tyX1_ok nmX1 (by decide) (.tail _ qA_388) ⟨rfl, rfl, rfl⟩ rfl rfl (Nat.le_of_ble_eq_true rfl) dX3_parseZone_95 (fun H locs G => ?_)
  have G := gC_up_i (f := upd (T63.2.2.1 l1) 7 v66) (by rw [(oO_k g67).2]; rfl) G
  obtain ⟨T68, eT68, h⟩ := elet_some h
  have G : gC cI cJ cZ cMic cSrc cSt cAI cAJ D ad A s.heap H locs T68 := by rw [eT68]; exact G
  clear eT68
  exact (Nat.succ_ne_zero _ (congrArg Prod.fst (Option.some.inj h)).symm).elim
set_option maxHeartbeats 4000000 in
set_option maxRecDepth 100000 in
theorem x_X3_parseZone (l : Launch) (hst : l.stackTraces = false) (D : va_G) (cI cJ cZ cMic cSrc cSt cAI cAJ : ClassId) (ad : Nat → Nat) (T : AT) (o : Nat) (a0 : Nat) {e1 : Nat} {r1 : Int32} {T1 : AT} (h : g_X3_parseZone T o a0 = some (e1 + 1, r1, T1)) : kXv l yX3_parseZone (Cond.code yX3_parseZone cX3_parseZone 3 none :: wsA) 8 126 cI cJ cZ cMic cSrc cSt cAI cAJ D ad T [.ref (ad o), .ref (ad a0)] e1 T1 := by
  intro sz
  refine vx_ofW (cc := cX3_parseZone) (maxL := 3) (ret := none) (by decide) rfl ?_
  intro p e s m args below meth c s₁ B hml htab hv
  obtain ⟨rfl, hsz, hP, hK, hD0, hX, hN⟩ := hv
  have hx := B.exec
  have hb := B.bytes
  have hr := B.returns
  have hts := atoms_spec (ws := (Cond.code yX3_parseZone cX3_parseZone 3 none :: wsA)) B.pre
  have hown : s.vm.findClass RX3 = some m.cls := findClass_of_methodNamed B.named
  have hlocks := B.notSynchronized
  subst hsz
  have hD := hD0.self (sz := s.heap.size)
  generalize hAe : va_A (cW ad T.1 (cc cI cJ cZ cMic cSrc cSt cAI cAJ ad T)) s.heap.size = A at hD hX ⊢
  have hA : ∀ q : Nat, s.heap.size ≤ q → A q := fun q h => by rw [← hAe]; exact Or.inr h
  have G : gC cI cJ cZ cMic cSrc cSt cAI cAJ D ad A s.heap s.heap [] T := ⟨hP, hD, va_S.rf⟩
  have E : cE p c cX3_parseZone s m ([.ref (ad o), .ref (ad a0)] : List Value).toArray (Cond.code yX3_parseZone cX3_parseZone 3 none :: wsA) D RX3 (CT cI cJ cZ cMic cSrc cSt cAI cAJ) := ⟨hx, hb, hts, hown, hK⟩
  have htab : ∀ x ∈ c.exceptionTable.toList, False := fun x hx => htab x hx
  have hl := lv_entry ([.ref (ad o), .ref (ad a0)]) (n := 3) (Nat.le_of_ble_eq_true rfl)
  rw [lg_entry_eq]
  generalize (lg_sl ([.ref (ad o), .ref (ad a0)]) ++ List.replicate (3 - (lg_sl ([.ref (ad o), .ref (ad a0)])).length) Slot.unset).toArray = ls at hl ⊢
  have hl : lv_has ls 3 [(0, .ref (ad o)), (1, .ref (ad a0))] := hl
  unfold g_X3_parseZone at h
  refine lv_aload_n hx hb dX3_parseZone_0 rfl (lv_at hl 0 rfl) ?_
  refine lv_aload_n hx hb dX3_parseZone_1 rfl (lv_at hl 1 rfl) ?_
  obtain ⟨g2, h⟩ := oif_some h
  refine c_get E G a0 7 (oO_k g2).1 (cc_o1 (oO_k g2).2) rfl (fun w h => .tail _ (iA_15 h)) (by decide) (.tail _ qA_388) rfl rfl dX3_parseZone_2 ?_
  refine lv_topi (fun v3 ev3 => ?_)
  have h := elet_at ev3 h
  clear ev3
  refine lv_iconst (v := 4) hx hb dX3_parseZone_5 (by decide) ?_
  refine lv_icmp_lt (tgt := 13) hx hb dX3_parseZone_6 (by decide) (fun c4 => ?_) (fun c4 => ?_)
  · have h := oif_pos c4 h
    refine lv_iconst (v := 0) hx hb dX3_parseZone_13 (by decide) ?_
    have hl := lv_sub hl [0, 1] rfl
    exact x_X3_parseZone_b14 E hA hX hN hml trivial hst htab hlocks (fun H locs t G hvm h1 h2 => ⟨T1, trivial, ⟨⟨rfl, rfl⟩, (c_thrown G hK hvm h1 h2).1⟩, (c_thrown G hK hvm h1 h2).2⟩) _ _ _ _ _ _ _ _ h G hl
  · have h := oif_neg c4 h
    refine lv_iconst (v := 1) hx hb dX3_parseZone_9 (by decide) ?_
    refine lv_goto (tgt := 14) hx hb dX3_parseZone_10 (by decide) ?_
    have hl := lv_sub hl [0, 1] rfl
    exact x_X3_parseZone_b14 E hA hX hN hml trivial hst htab hlocks (fun H locs t G hvm h1 h2 => ⟨T1, trivial, ⟨⟨rfl, rfl⟩, (c_thrown G hK hvm h1 h2).1⟩, (c_thrown G hK hvm h1 h2).2⟩) _ _ _ _ _ _ _ _ h G hl
end
