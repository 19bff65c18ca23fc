section
/-! 11ke.cd4.lean.txt -/
def g_X3_number_b41  (T : AT) (l0 : Nat) (l3 : Int32) : Option (Nat × Int32 × AT) := oif (oO T l0 3 = true) <| elet (T.2.2.1 l0 1) fun v3 => elet (v3 + 1) fun v4 => oif (oO T l0 3 = true) <| elet (uI T l0 1 v4) fun T6 => some (0, l3, T6)
set_option maxHeartbeats 4000000 in
set_option maxRecDepth 100000 in
theorem u_X3_number_b41 {p : Program} {l : Launch} {e : Env} {s : State} {m : MethodId} {args : Array Value} {below : List Frame} {meth : Method} {c : Code} {Q : State → Prop} {D : va_G} {A : Nat → Prop} {cI cJ cZ cMic cSrc cSt cAI cAJ : ClassId} {ad : Nat → Nat} {r1 : Int32} {T1 : AT} (E : cE p c cX3_number s m args (Cond.code yX3_number cX3_number 4 (some .int) :: wsA) D RX3 (CT cI cJ cZ cMic cSrc cSt cAI cAJ)) (hA : ∀ q : Nat, s.heap.size ≤ q → A q) (hX : xT A s) (hN : nX s) (hml : c.maxLocals = 4) (hst : l.stackTraces = false) (kr52 : ∀ (H : Heap) (locs : List Loc) (ls : Array Slot), gC cI cJ cZ cMic cSrc cSt cAI cAJ D ad A s.heap H locs T1 → W p l e { frames := 7, cells := 0, slots := 0, locals := 103 } s m args below meth c H locs 0 0 Q (F0 m 52 ls [.int r1])) : ∀ (T : AT) (H : Heap) (locs : List Loc) (ls : Array Slot) (l0 : Nat) (l3 : Int32), g_X3_number_b41 T l0 l3 = some (0, r1, T1) → gC cI cJ cZ cMic cSrc cSt cAI cAJ D ad A s.heap H locs T → lv_has ls 4 [(0, .ref (ad l0)), (3, .int l3)] → W p l e { frames := 7, cells := 0, slots := 0, locals := 103 } s m args below meth c H locs 0 0 Q (F0 m 41 ls []) := by
  have hx := E.1
  have hb := E.2.1
  have hts := E.2.2.1
  have hown := E.2.2.2.1
  have hK := E.2.2.2.2
  intro T H locs ls l0 l3 h G hl
  unfold g_X3_number_b41 at h
  refine lv_aload_n hx hb dX3_number_41 rfl (lv_at hl 0 rfl) ?_
  refine lv_dup hx hb dX3_number_42 rfl ?_
  obtain ⟨g2, h⟩ := oif_some h
  refine c_get E G l0 1 (oO_k g2).1 (cc_o3 (oO_k g2).2) rfl (fun w h => .tail _ (iA_17 h)) (by decide) (.tail _ qA_176) rfl rfl dX3_number_43 ?_
  refine lv_topi (fun v3 ev3 => ?_)
  have h := elet_at ev3 h
  clear ev3
  refine lv_iconst (v := 1) hx hb dX3_number_46 (by decide) ?_
  refine lv_iadd hx hb dX3_number_47 ?_
  refine lv_topi (fun v4 ev4 => ?_)
  have h := elet_at ev4 h
  clear ev4
  obtain ⟨g5, h⟩ := oif_some h
  refine c_put E G l0 1 (v := .int v4) (oO_k g5).1 (cc_o3 (oO_k g5).2) rfl (fun w h => .tail _ (iA_17 h)) tyX3 tyX3_ok nmX3 (by decide) (.tail _ qA_176) ⟨rfl, rfl, rfl⟩ rfl rfl (Nat.le_of_ble_eq_true rfl) dX3_number_48 (fun H locs G => ?_)
  have G := gC_up_i (f := upd (T.2.2.1 l0) 1 v4) (by rw [(oO_k g5).2]; rfl) G
  obtain ⟨T6, eT6, h⟩ := elet_some h
  have G : gC cI cJ cZ cMic cSrc cSt cAI cAJ D ad A s.heap H locs T6 := by rw [eT6]; exact G
  clear eT6
  refine lv_iload_n hx hb dX3_number_51 rfl (lv_at hl 1 rfl) ?_
  rw [(osome3 h).2.2] at G
  refine lv_to (osome3 h).2.1 ?_
  exact kr52 _ _ _ G
def g_X3_number_b32  (T : AT) (l0 : Nat) (l3 : Int32) : Option (Nat × Int32 × AT) := oif (oO T l0 3 = true) <| elet (T.2.2.1 l0 1) fun v3 => oif (oO T l0 3 = true) <| othr (g_X3_failAt T l0 v3 (2 : Int32)) 0 fun r7 T5 => g_X3_number_b41 T5 l0 l3
set_option maxHeartbeats 4000000 in
set_option maxRecDepth 100000 in
theorem u_X3_number_b32 {p : Program} {l : Launch} {e : Env} {s : State} {m : MethodId} {args : Array Value} {below : List Frame} {meth : Method} {c : Code} {Q : State → Prop} {D : va_G} {A : Nat → Prop} {cI cJ cZ cMic cSrc cSt cAI cAJ : ClassId} {ad : Nat → Nat} {r1 : Int32} {T1 : AT} (E : cE p c cX3_number s m args (Cond.code yX3_number cX3_number 4 (some .int) :: wsA) D RX3 (CT cI cJ cZ cMic cSrc cSt cAI cAJ)) (hA : ∀ q : Nat, s.heap.size ≤ q → A q) (hX : xT A s) (hN : nX s) (hml : c.maxLocals = 4) (hst : l.stackTraces = false) (kr52 : ∀ (H : Heap) (locs : List Loc) (ls : Array Slot), gC cI cJ cZ cMic cSrc cSt cAI cAJ D ad A s.heap H locs T1 → W p l e { frames := 7, cells := 0, slots := 0, locals := 103 } s m args below meth c H locs 0 0 Q (F0 m 52 ls [.int r1])) : ∀ (T : AT) (H : Heap) (locs : List Loc) (ls : Array Slot) (l0 : Nat) (l3 : Int32), g_X3_number_b32 T l0 l3 = some (0, r1, T1) → gC cI cJ cZ cMic cSrc cSt cAI cAJ D ad A s.heap H locs T → lv_has ls 4 [(0, .ref (ad l0)), (3, .int l3)] → W p l e { frames := 7, cells := 0, slots := 0, locals := 103 } s m args below meth c H locs 0 0 Q (F0 m 32 ls []) := by
  have hx := E.1
  have hb := E.2.1
  have hts := E.2.2.1
  have hown := E.2.2.2.1
  have hK := E.2.2.2.2
  intro T H locs ls l0 l3 h G hl
  unfold g_X3_number_b32 at h
  refine lv_aload_n hx hb dX3_number_32 rfl (lv_at hl 0 rfl) ?_
  refine lv_aload_n hx hb dX3_number_33 rfl (lv_at hl 0 rfl) ?_
  obtain ⟨g2, h⟩ := oif_some h
  refine c_get E G l0 1 (oO_k g2).1 (cc_o3 (oO_k g2).2) rfl (fun w h => .tail _ (iA_17 h)) (by decide) (.tail _ qA_176) rfl rfl dX3_number_34 ?_
  refine lv_topi (fun v3 ev3 => ?_)
  have h := elet_at ev3 h
  clear ev3
  refine lv_iconst (v := 2) hx hb dX3_number_37 (by decide) ?_
  obtain ⟨g4, h⟩ := oif_some h
  obtain ⟨r7, T5, eT5, h⟩ := othr_n h
  refine q_cvv (As := [.int v3, .int 2]) (rest := []) E G hA hX hN hml (u_X3_failAt l hst D cI cJ cZ cMic cSrc cSt cAI cAJ ad T l0 v3 (2 : Int32) eT5) (cwV 2 hts (gaV qA_293 qA_294 qA_295 qA_222 qA_296) rfl rfl rfl (by decide +kernel) ⟨Nat.le_of_ble_eq_true rfl, Nat.le_of_ble_eq_true rfl⟩) (oO_k g4).1 (cc_o3 (oO_k g4).2) rfl rfl hl.1 rfl (lv_room (Nat.le_of_ble_eq_true rfl)) dX3_number_38 ⟨Nat.zero_le _, Nat.zero_le _⟩ (fun T6 H locs hq G => ?_)
  rw [hq] at G
  clear hq eT5
  have hl := lv_sub hl [0, 1] rfl
  exact u_X3_number_b41 E hA hX hN hml hst kr52 _ _ _ _ _ _ h G hl
def g_X3_number_b17  (T : AT) (l0 : Nat) (l1 : Int32) (l2 : Int32) : Option (Nat × Int32 × AT) := oif (oO T l0 3 = true) <| obind2 (g_X3_value T l0) fun r5 T3 => if r5 < l1 then (g_X3_number_b32 T3 l0 r5) else (if r5 ≤ l2 then (g_X3_number_b41 T3 l0 r5) else (g_X3_number_b32 T3 l0 r5))
set_option maxHeartbeats 4000000 in
set_option maxRecDepth 100000 in
theorem u_X3_number_b17 {p : Program} {l : Launch} {e : Env} {s : State} {m : MethodId} {args : Array Value} {below : List Frame} {meth : Method} {c : Code} {Q : State → Prop} {D : va_G} {A : Nat → Prop} {cI cJ cZ cMic cSrc cSt cAI cAJ : ClassId} {ad : Nat → Nat} {r1 : Int32} {T1 : AT} (E : cE p c cX3_number s m args (Cond.code yX3_number cX3_number 4 (some .int) :: wsA) D RX3 (CT cI cJ cZ cMic cSrc cSt cAI cAJ)) (hA : ∀ q : Nat, s.heap.size ≤ q → A q) (hX : xT A s) (hN : nX s) (hml : c.maxLocals = 4) (hst : l.stackTraces = false) (kr52 : ∀ (H : Heap) (locs : List Loc) (ls : Array Slot), gC cI cJ cZ cMic cSrc cSt cAI cAJ D ad A s.heap H locs T1 → W p l e { frames := 7, cells := 0, slots := 0, locals := 103 } s m args below meth c H locs 0 0 Q (F0 m 52 ls [.int r1])) : ∀ (T : AT) (H : Heap) (locs : List Loc) (ls : Array Slot) (l0 : Nat) (l1 : Int32) (l2 : Int32), g_X3_number_b17 T l0 l1 l2 = some (0, r1, T1) → gC cI cJ cZ cMic cSrc cSt cAI cAJ D ad A s.heap H locs T → lv_has ls 4 [(0, .ref (ad l0)), (1, .int l1), (2, .int l2)] → W p l e { frames := 7, cells := 0, slots := 0, locals := 103 } s m args below meth c H locs 0 0 Q (F0 m 17 ls []) := by
  have hx := E.1
  have hb := E.2.1
  have hts := E.2.2.1
  have hown := E.2.2.2.1
  have hK := E.2.2.2.2
  intro T H locs ls l0 l1 l2 h G hl
  unfold g_X3_number_b17 at h
  refine lv_aload_n hx hb dX3_number_17 rfl (lv_at hl 0 rfl) ?_
  obtain ⟨g2, h⟩ := oif_some h
  obtain ⟨r5, T3, eT3, h⟩ := obind2_some h
  refine q_cvi (As := []) (rest := []) E G hA hX hN hml (u_X3_value l hst D cI cJ cZ cMic cSrc cSt cAI cAJ ad T l0 eT3) (cwV 0 hts (gaV qA_303 qA_304 qA_305 qA_222 qA_306) rfl rfl rfl (by decide +kernel) ⟨Nat.le_of_ble_eq_true rfl, Nat.le_of_ble_eq_true rfl⟩) (oO_k g2).1 (cc_o3 (oO_k g2).2) rfl rfl hl.1 rfl (lv_room (Nat.le_of_ble_eq_true rfl)) dX3_number_18 ⟨Nat.zero_le _, Nat.zero_le _⟩ (fun q6 T4 H locs hq G => ?_)
  obtain ⟨hq1, hq2⟩ := hq
  rw [hq2] at G
  refine lv_to hq1 ?_
  clear hq1 hq2 eT3
  refine lv_istore_n (lv' := [(3, .int r5), (0, .ref (ad l0)), (1, .int l1), (2, .int l2)]) hx hb dX3_number_21 rfl hl (by decide) rfl (fun ls hl => ?_)
  refine lv_iload_n hx hb dX3_number_22 rfl (lv_at hl 0 rfl) ?_
  refine lv_iload_n hx hb dX3_number_23 rfl (lv_at hl 2 rfl) ?_
  refine lv_icmp_lt (tgt := 32) hx hb dX3_number_24 (by decide) (fun c7 => ?_) (fun c7 => ?_)
  · have h := oif_pos c7 h
    have hl := lv_sub hl [1, 0] rfl
    exact u_X3_number_b32 E hA hX hN hml hst kr52 _ _ _ _ _ _ h G hl
  · have h := oif_neg c7 h
    refine lv_iload_n hx hb dX3_number_27 rfl (lv_at hl 0 rfl) ?_
    refine lv_iload_n hx hb dX3_number_28 rfl (lv_at hl 3 rfl) ?_
    refine lv_icmp_le (tgt := 41) hx hb dX3_number_29 (by decide) (fun c8 => ?_) (fun c8 => ?_)
    · have h := oif_pos c8 h
      have hl := lv_sub hl [1, 0] rfl
      exact u_X3_number_b41 E hA hX hN hml hst kr52 _ _ _ _ _ _ h G hl
    · have h := oif_neg c8 h
      have hl := lv_sub hl [1, 0] rfl
      exact u_X3_number_b32 E hA hX hN hml hst kr52 _ _ _ _ _ _ h G hl
def g_X3_number (T : AT) (o : Nat) (a0 : Int32) (a1 : Int32) : Option (Nat × Int32 × AT) := oif (oO T o 3 = true) <| obind2 (g_X3_kind T o) fun r5 T3 => if r5 = 2 then (g_X3_number_b17 T3 o a0 a1) else (oif (oO T3 o 3 = true) <| elet (T3.2.2.1 o 1) fun v9 => oif (oO T3 o 3 = true) <| othr (g_X3_failAt T3 o v9 (1 : Int32)) 0 fun r13 T11 => g_X3_number_b17 T11 o a0 a1)
set_option maxHeartbeats 4000000 in
set_option maxRecDepth 100000 in
theorem u_X3_number (l : Launch) (hst : l.stackTraces = false) (D : va_G) (cI cJ cZ cMic cSrc cSt cAI cAJ : ClassId) (ad : Nat → Nat) (T : AT) (o : Nat) (a0 : Int32) (a1 : Int32) {r1 : Int32} {T1 : AT} (h : g_X3_number T o a0 a1 = some (0, r1, T1)) : kCi l yX3_number (Cond.code yX3_number cX3_number 4 (some .int) :: wsA) 7 103 cI cJ cZ cMic cSrc cSt cAI cAJ D ad T [.ref (ad o), .int a0, .int a1] (fun r T9 => r = r1 ∧ T9 = T1) := by
  intro sz
  refine Met.ofW (cc := cX3_number) (maxL := 4) (ret := (some .int)) (by decide) rfl ?_
  intro p e s m args below meth c s₁ B hml hv
  obtain ⟨rfl, hsz, hP, hK, hD0, hX, hN⟩ := hv
  have hx := B.exec
  have hb := B.bytes
  have hr := B.returns
  have hts := atoms_spec (ws := (Cond.code yX3_number cX3_number 4 (some .int) :: wsA)) B.pre
  have hown : s.vm.findClass RX3 = some m.cls := findClass_of_methodNamed B.named
  have hlocks := B.notSynchronized
  subst hsz
  have hD := hD0.self (sz := s.heap.size)
  generalize hAe : va_A (cW ad T.1 (cc cI cJ cZ cMic cSrc cSt cAI cAJ ad T)) s.heap.size = A at hD hX ⊢
  have hA : ∀ q : Nat, s.heap.size ≤ q → A q := fun q h => by rw [← hAe]; exact Or.inr h
  have G : gC cI cJ cZ cMic cSrc cSt cAI cAJ D ad A s.heap s.heap [] T := ⟨hP, hD, va_S.rf⟩
  have E : cE p c cX3_number s m ([.ref (ad o), .int a0, .int a1] : List Value).toArray (Cond.code yX3_number cX3_number 4 (some .int) :: wsA) D RX3 (CT cI cJ cZ cMic cSrc cSt cAI cAJ) := ⟨hx, hb, hts, hown, hK⟩
  have hl := lv_entry ([.ref (ad o), .int a0, .int a1]) (n := 4) (Nat.le_of_ble_eq_true rfl)
  rw [lg_entry_eq]
  generalize (lg_sl ([.ref (ad o), .int a0, .int a1]) ++ List.replicate (4 - (lg_sl ([.ref (ad o), .int a0, .int a1])).length) Slot.unset).toArray = ls at hl ⊢
  have hl : lv_has ls 4 [(0, .ref (ad o)), (1, .int a0), (2, .int a1)] := hl
  unfold g_X3_number at h
  refine lv_aload_n hx hb dX3_number_0 rfl (lv_at hl 0 rfl) ?_
  obtain ⟨g2, h⟩ := oif_some h
  obtain ⟨r5, T3, eT3, h⟩ := obind2_some h
  refine q_cvi (As := []) (rest := []) E G hA hX hN hml (u_X3_kind l hst D cI cJ cZ cMic cSrc cSt cAI cAJ ad T o eT3) (cwV 0 hts (gaV qA_239 qA_240 qA_241 qA_222 qA_242) rfl rfl rfl (by decide +kernel) ⟨Nat.le_of_ble_eq_true rfl, Nat.le_of_ble_eq_true rfl⟩) (oO_k g2).1 (cc_o3 (oO_k g2).2) rfl rfl hl.1 rfl (lv_room (Nat.le_of_ble_eq_true rfl)) dX3_number_1 ⟨Nat.zero_le _, Nat.zero_le _⟩ (fun q6 T4 H locs hq G => ?_)
  obtain ⟨hq1, hq2⟩ := hq
  rw [hq2] at G
  refine lv_to hq1 ?_
  clear hq1 hq2 eT3
  refine lv_iconst (v := 2) hx hb dX3_number_4 (by decide) ?_
  refine lv_icmp_eq (tgt := 17) hx hb dX3_number_5 (by decide) (fun c7 => ?_) (fun c7 => ?_)
  · have h := oif_pos c7 h
    have hl := lv_sub hl [0, 1, 2] rfl
    exact u_X3_number_b17 E hA hX hN hml hst (fun H locs ls G => W.iret (v := r1) hx hb hr (fun t ht hW => ⟨⟨r1, T1, rfl, ⟨rfl, rfl⟩, ⟨by rw [ht]; exact G.1, va_K.moved hW.alike hK, G.2.1⟩⟩, G.2.2.F ht⟩) G.2.2.2.2 dX3_number_52) _ _ _ _ _ _ _ h G hl
  · have h := oif_neg c7 h
    refine lv_aload_n hx hb dX3_number_8 rfl (lv_at hl 0 rfl) ?_
    refine lv_aload_n hx hb dX3_number_9 rfl (lv_at hl 0 rfl) ?_
    obtain ⟨g8, h⟩ := oif_some h
    refine c_get E G o 1 (oO_k g8).1 (cc_o3 (oO_k g8).2) rfl (fun w h => .tail _ (iA_17 h)) (by decide) (.tail _ qA_176) rfl rfl dX3_number_10 ?_
    refine lv_topi (fun v9 ev9 => ?_)
    have h := elet_at ev9 h
    clear ev9
    refine lv_iconst (v := 1) hx hb dX3_number_13 (by decide) ?_
    obtain ⟨g10, h⟩ := oif_some h
    obtain ⟨r13, T11, eT11, h⟩ := othr_n h
    refine q_cvv (As := [.int v9, .int 1]) (rest := []) E G hA hX hN hml (u_X3_failAt l hst D cI cJ cZ cMic cSrc cSt cAI cAJ ad T3 o v9 (1 : Int32) eT11) (cwV 2 hts (gaV qA_293 qA_294 qA_295 qA_222 qA_296) rfl rfl rfl (by decide +kernel) ⟨Nat.le_of_ble_eq_true rfl, Nat.le_of_ble_eq_true rfl⟩) (oO_k g10).1 (cc_o3 (oO_k g10).2) rfl rfl hl.1 rfl (lv_room (Nat.le_of_ble_eq_true rfl)) dX3_number_14 ⟨Nat.zero_le _, Nat.zero_le _⟩ (fun T12 H locs hq G => ?_)
    rw [hq] at G
    clear hq eT11
    have hl := lv_sub hl [0, 1, 2] rfl
    exact u_X3_number_b17 E hA hX hN hml hst (fun H locs ls G => W.iret (v := r1) hx hb hr (fun t ht hW => ⟨⟨r1, T1, rfl, ⟨rfl, rfl⟩, ⟨by rw [ht]; exact G.1, va_K.moved hW.alike hK, G.2.1⟩⟩, G.2.2.F ht⟩) G.2.2.2.2 dX3_number_52) _ _ _ _ _ _ _ h G hl
set_option maxHeartbeats 4000000 in
set_option maxRecDepth 100000 in
theorem s_X3_number_b41 {e1 : Nat} {r1 : Int32} {T1 : AT} : ∀ (T : AT) (l0 : Nat) (l3 : Int32), g_X3_number_b41 T l0 l3 = some (e1, r1, T1) → SP T T1 := by
  intro T l0 l3 h
  have p0 := SP.rf T
  unfold g_X3_number_b41 at h
  obtain ⟨g2, h⟩ := oif_some h
  obtain ⟨v3, -, h⟩ := elet_some h
  obtain ⟨v4, -, h⟩ := elet_some h
  obtain ⟨g5, h⟩ := oif_some h
  obtain ⟨T6, eT6, h⟩ := elet_some h
  have p1 : SP T T6 := SP.tr p0 (by rw [eT6]; exact sp_uI)
  rw [← (osome3 h).2.2]
  exact p1
set_option maxHeartbeats 4000000 in
set_option maxRecDepth 100000 in
theorem s_X3_number_b32 {e1 : Nat} {r1 : Int32} {T1 : AT} : ∀ (T : AT) (l0 : Nat) (l3 : Int32), g_X3_number_b32 T l0 l3 = some (e1, r1, T1) → SP T T1 := by
  intro T l0 l3 h
  have p0 := SP.rf T
  unfold g_X3_number_b32 at h
  obtain ⟨g2, h⟩ := oif_some h
  obtain ⟨v3, -, h⟩ := elet_some h
  obtain ⟨g4, h⟩ := oif_some h
  rcases othr_s h with ⟨k9, r9, e9, -⟩ | ⟨r6, T5, eT5, h⟩
  · exact SP.tr p0 (s_X3_failAt e9)
  have p1 : SP T T5 := SP.tr p0 (s_X3_failAt eT5)
  exact SP.tr p1 (s_X3_number_b41 _ _ _ h)
set_option maxHeartbeats 4000000 in
set_option maxRecDepth 100000 in
theorem s_X3_number_b17 {e1 : Nat} {r1 : Int32} {T1 : AT} : ∀ (T : AT) (l0 : Nat) (l1 : Int32) (l2 : Int32), g_X3_number_b17 T l0 l1 l2 = some (e1, r1, T1) → SP T T1 := by
  intro T l0 l1 l2 h
  have p0 := SP.rf T
  unfold g_X3_number_b17 at h
  obtain ⟨g2, h⟩ := oif_some h
  obtain ⟨r4, T3, eT3, h⟩ := obind2_some h
  have p1 : SP T T3 := SP.tr p0 (s_X3_value eT3)
  rcases oif_or h with ⟨c5, h⟩ | ⟨c5, h⟩
  · have h := h
    exact SP.tr p1 (s_X3_number_b32 _ _ _ h)
  · have h := h
    rcases oif_or h with ⟨c6, h⟩ | ⟨c6, h⟩
    · have h := h
      exact SP.tr p1 (s_X3_number_b41 _ _ _ h)
    · have h := h
      exact SP.tr p1 (s_X3_number_b32 _ _ _ h)
set_option maxHeartbeats 4000000 in
set_option maxRecDepth 100000 in
theorem s_X3_number {T : AT} {o : Nat} {a0 : Int32} {a1 : Int32} {e1 : Nat} {r1 : Int32} {T1 : AT} (h : g_X3_number T o a0 a1 = some (e1, r1, T1)) : SP T T1 := by
  have p0 := SP.rf T
  unfold g_X3_number at h
  obtain ⟨g2, h⟩ := oif_some h
  obtain ⟨r4, T3, eT3, h⟩ := obind2_some h
  have p1 : SP T T3 := SP.tr p0 (s_X3_kind eT3)
  rcases oif_or h with ⟨c5, h⟩ | ⟨c5, h⟩
  · have h := h
    exact SP.tr p1 (s_X3_number_b17 _ _ _ _ h)
  · have h := h
    obtain ⟨g6, h⟩ := oif_some h
    obtain ⟨v7, -, h⟩ := elet_some h
    obtain ⟨g8, h⟩ := oif_some h
    rcases othr_s h with ⟨k9, r9, e9, -⟩ | ⟨r10, T9, eT9, h⟩
    · exact SP.tr p1 (s_X3_failAt e9)
    have p2 : SP T T9 := SP.tr p1 (s_X3_failAt eT9)
    exact SP.tr p2 (s_X3_number_b17 _ _ _ _ h)
set_option maxHeartbeats 4000000 in
set_option maxRecDepth 100000 in
theorem x_X3_number_b41 {p : Program} {l : Launch} {e : Env} {s : State} {m : MethodId} {args : Array Value} {below : List Frame} {meth : Method} {c : Code} {Qc : Array Value → State → Outcome → State → Prop} {XC : String → State → State → Prop} {D : va_G} {A : Nat → Prop} {cI cJ cZ cMic cSrc cSt cAI cAJ : ClassId} {ad : Nat → Nat} {e1 : Nat} {r1 : Int32} {T1 : AT} (E : cE p c cX3_number s m args (Cond.code yX3_number cX3_number 4 (some .int) :: wsA) D RX3 (CT cI cJ cZ cMic cSrc cSt cAI cAJ)) (hA : ∀ q : Nat, s.heap.size ≤ q → A q) (hX : xT A s) (hN : nX s) (hml : c.maxLocals = 4) (hz9 : True) (hst : l.stackTraces = false) (htab : ∀ x ∈ c.exceptionTable.toList, False) (hlocks : meth.locks = false) (kx : ∀ (H : Heap) (locs : List Loc) (t : State), gC cI cJ cZ cMic cSrc cSt cAI cAJ D ad A s.heap H locs T1 → s.vm.Alike t.vm → H.size ≤ t.heap.size → (∀ q, q < H.size → t.heap[q]? = H[q]?) → XC (exn e1) s t) : ∀ (T : AT) (H : Heap) (locs : List Loc) (ls : Array Slot) (l0 : Nat) (l3 : Int32), g_X3_number_b41 T l0 l3 = some (e1 + 1, r1, T1) → gC cI cJ cZ cMic cSrc cSt cAI cAJ D ad A s.heap H locs T → lv_has ls 4 [(0, .ref (ad l0)), (3, .int l3)] → W p l e { frames := 7, cells := 1, slots := 6, locals := 103 } s m args below meth c H locs 0 0 (vx_MQ below Qc XC args s 1 6 A) (F0 m 41 ls []) := by
  have hx := E.1
  have hb := E.2.1
  have hts := E.2.2.1
  have hown := E.2.2.2.1
  have hK := E.2.2.2.2
  intro T H locs ls l0 l3 h G hl
  unfold g_X3_number_b41 at h
  refine lv_aload_n hx hb dX3_number_41 rfl (lv_at hl 0 rfl) ?_
  refine lv_dup hx hb dX3_number_42 rfl ?_
  obtain ⟨g2, h⟩ := oif_some h
  refine c_get E G l0 1 (oO_k g2).1 (cc_o3 (oO_k g2).2) rfl (fun w h => .tail _ (iA_17 h)) (by decide) (.tail _ qA_176) rfl rfl dX3_number_43 ?_
  refine lv_topi (fun v3 ev3 => ?_)
  have h := elet_at ev3 h
  clear ev3
  refine lv_iconst (v := 1) hx hb dX3_number_46 (by decide) ?_
  refine lv_iadd hx hb dX3_number_47 ?_
  refine lv_topi (fun v4 ev4 => ?_)
  have h := elet_at ev4 h
  clear ev4
  obtain ⟨g5, h⟩ := oif_some h
  refine c_put E G l0 1 (v := .int v4) (oO_k g5).1 (cc_o3 (oO_k g5).2) rfl (fun w h => .tail _ (iA_17 h)) tyX3 tyX3_ok nmX3 (by decide) (.tail _ qA_176) ⟨rfl, rfl, rfl⟩ rfl rfl (Nat.le_of_ble_eq_true rfl) dX3_number_48 (fun H locs G => ?_)
  have G := gC_up_i (f := upd (T.2.2.1 l0) 1 v4) (by rw [(oO_k g5).2]; rfl) G
  obtain ⟨T6, eT6, h⟩ := elet_some h
  have G : gC cI cJ cZ cMic cSrc cSt cAI cAJ D ad A s.heap H locs T6 := by rw [eT6]; exact G
  clear eT6
  refine lv_iload_n hx hb dX3_number_51 rfl (lv_at hl 1 rfl) ?_
  exact (Nat.succ_ne_zero _ (congrArg Prod.fst (Option.some.inj h)).symm).elim
set_option maxHeartbeats 4000000 in
set_option maxRecDepth 100000 in
theorem x_X3_number_b32 {p : Program} {l : Launch} {e : Env} {s : State} {m : MethodId} {args : Array Value} {below : List Frame} {meth : Method} {c : Code} {Qc : Array Value → State → Outcome → State → Prop} {XC : String → State → State → Prop} {D : va_G} {A : Nat → Prop} {cI cJ cZ cMic cSrc cSt cAI cAJ : ClassId} {ad : Nat → Nat} {e1 : Nat} {r1 : Int32} {T1 : AT} (E : cE p c cX3_number s m args (Cond.code yX3_number cX3_number 4 (some .int) :: wsA) D RX3 (CT cI cJ cZ cMic cSrc cSt cAI cAJ)) (hA : ∀ q : Nat, s.heap.size ≤ q → A q) (hX : xT A s) (hN : nX s) (hml : c.maxLocals = 4) (hz9 : True) (hst : l.stackTraces = false) (htab : ∀ x ∈ c.exceptionTable.toList, False) (hlocks : meth.locks = false) (kx : ∀ (H : Heap) (locs : List Loc) (t : State), gC cI cJ cZ cMic cSrc cSt cAI cAJ D ad A s.heap H locs T1 → s.vm.Alike t.vm → H.size ≤ t.heap.size → (∀ q, q < H.size → t.heap[q]? = H[q]?) → XC (exn e1) s t) : ∀ (T : AT) (H : Heap) (locs : List Loc) (ls : Array Slot) (l0 : Nat) (l3 : Int32), g_X3_number_b32 T l0 l3 = some (e1 + 1, r1, T1) → gC cI cJ cZ cMic cSrc cSt cAI cAJ D ad A s.heap H locs T → lv_has ls 4 [(0, .ref (ad l0)), (3, .int l3)] → W p l e { frames := 7, cells := 1, slots := 6, locals := 103 } s m args below meth c H locs 0 0 (vx_MQ below Qc XC args s 1 6 A) (F0 m 32 ls []) := by
  have hx := E.1
  have hb := E.2.1
  have hts := E.2.2.1
  have hown := E.2.2.2.1
  have hK := E.2.2.2.2
  intro T H locs ls l0 l3 h G hl
  unfold g_X3_number_b32 at h
  refine lv_aload_n hx hb dX3_number_32 rfl (lv_at hl 0 rfl) ?_
  refine lv_aload_n hx hb dX3_number_33 rfl (lv_at hl 0 rfl) ?_
  obtain ⟨g2, h⟩ := oif_some h
  refine c_get E G l0 1 (oO_k g2).1 (cc_o3 (oO_k g2).2) rfl (fun w h => .tail _ (iA_17 h)) (by decide) (.tail _ qA_176) rfl rfl dX3_number_34 ?_
  refine lv_topi (fun v3 ev3 => ?_)
  have h := elet_at ev3 h
  clear ev3
  refine lv_iconst (v := 2) hx hb dX3_number_37 (by decide) ?_
  obtain ⟨g4, h⟩ := oif_some h
  rcases othr_t h with ⟨r0, eT5⟩ | ⟨r7, T5, eT5, h⟩
  · refine q_xvv (As := [.int v3, .int 2]) (rest := []) E G hA hX hN hml (x_X3_failAt l hst D cI cJ cZ cMic cSrc cSt cAI cAJ ad T l0 v3 (2 : Int32) eT5) (cwV 2 hts (gaV qA_293 qA_294 qA_295 qA_222 qA_296) rfl rfl rfl (by decide +kernel) ⟨Nat.le_of_ble_eq_true rfl, Nat.le_of_ble_eq_true rfl⟩) (oO_k g4).1 (cc_o3 (oO_k g4).2) rfl rfl hl.1 rfl (lv_room (Nat.le_of_ble_eq_true rfl)) dX3_number_38 ⟨Nat.le_of_ble_eq_true rfl, Nat.le_of_ble_eq_true rfl⟩ (fun E9 ce q9 T9 H locs hp G hce hcv hcl => ?_)
    obtain ⟨hE, hT⟩ := hp
    subst hE
    rw [hT] at G
    exact vx_out (fun x hx => (htab x hx).elim) hlocks hce hcv hcl (fun t ht hvm => kx _ _ _ G hvm (by rw [ht]; exact Nat.le_refl _) (fun q hq => by rw [ht])) G.2.2.2.2 (Nat.le_refl _) (Nat.le_refl _)
  refine q_cvv (As := [.int v3, .int 2]) (rest := []) E G hA hX hN hml (u_X3_failAt l hst D cI cJ cZ cMic cSrc cSt cAI cAJ ad T l0 v3 (2 : Int32) eT5) (cwV 2 hts (gaV qA_293 qA_294 qA_295 qA_222 qA_296) rfl rfl rfl (by decide +kernel) ⟨Nat.le_of_ble_eq_true rfl, Nat.le_of_ble_eq_true rfl⟩) (oO_k g4).1 (cc_o3 (oO_k g4).2) rfl rfl hl.1 rfl (lv_room (Nat.le_of_ble_eq_true rfl)) dX3_number_38 ⟨Nat.zero_le _, Nat.zero_le _⟩ (fun T6 H locs hq G => ?_)
  rw [hq] at G
  clear hq eT5
  have hl := lv_sub hl [0, 1] rfl
  exact x_X3_number_b41 E hA hX hN hml trivial hst htab hlocks kx _ _ _ _ _ _ h G hl
set_option maxHeartbeats 4000000 in
set_option maxRecDepth 100000 in
theorem x_X3_number_b17 {p : Program} {l : Launch} {e : Env} {s : State} {m : MethodId} {args : Array Value} {below : List Frame} {meth : Method} {c : Code} {Qc : Array Value → State → Outcome → State → Prop} {XC : String → State → State → Prop} {D : va_G} {A : Nat → Prop} {cI cJ cZ cMic cSrc cSt cAI cAJ : ClassId} {ad : Nat → Nat} {e1 : Nat} {r1 : Int32} {T1 : AT} (E : cE p c cX3_number s m args (Cond.code yX3_number cX3_number 4 (some .int) :: wsA) D RX3 (CT cI cJ cZ cMic cSrc cSt cAI cAJ)) (hA : ∀ q : Nat, s.heap.size ≤ q → A q) (hX : xT A s) (hN : nX s) (hml : c.maxLocals = 4) (hz9 : True) (hst : l.stackTraces = false) (htab : ∀ x ∈ c.exceptionTable.toList, False) (hlocks : meth.locks = false) (kx : ∀ (H : Heap) (locs : List Loc) (t : State), gC cI cJ cZ cMic cSrc cSt cAI cAJ D ad A s.heap H locs T1 → s.vm.Alike t.vm → H.size ≤ t.heap.size → (∀ q, q < H.size → t.heap[q]? = H[q]?) → XC (exn e1) s t) : ∀ (T : AT) (H : Heap) (locs : List Loc) (ls : Array Slot) (l0 : Nat) (l1 : Int32) (l2 : Int32), g_X3_number_b17 T l0 l1 l2 = some (e1 + 1, r1, T1) → gC cI cJ cZ cMic cSrc cSt cAI cAJ D ad A s.heap H locs T → lv_has ls 4 [(0, .ref (ad l0)), (1, .int l1), (2, .int l2)] → W p l e { frames := 7, cells := 1, slots := 6, locals := 103 } s m args below meth c H locs 0 0 (vx_MQ below Qc XC args s 1 6 A) (F0 m 17 ls []) := by
  have hx := E.1
  have hb := E.2.1
  have hts := E.2.2.1
  have hown := E.2.2.2.1
  have hK := E.2.2.2.2
  intro T H locs ls l0 l1 l2 h G hl
  unfold g_X3_number_b17 at h
  refine lv_aload_n hx hb dX3_number_17 rfl (lv_at hl 0 rfl) ?_
  obtain ⟨g2, h⟩ := oif_some h
  obtain ⟨r5, T3, eT3, h⟩ := obind2_some h
  refine q_cvi (As := []) (rest := []) E G hA hX hN hml (u_X3_value l hst D cI cJ cZ cMic cSrc cSt cAI cAJ ad T l0 eT3) (cwV 0 hts (gaV qA_303 qA_304 qA_305 qA_222 qA_306) rfl rfl rfl (by decide +kernel) ⟨Nat.le_of_ble_eq_true rfl, Nat.le_of_ble_eq_true rfl⟩) (oO_k g2).1 (cc_o3 (oO_k g2).2) rfl rfl hl.1 rfl (lv_room (Nat.le_of_ble_eq_true rfl)) dX3_number_18 ⟨Nat.zero_le _, Nat.zero_le _⟩ (fun q6 T4 H locs hq G => ?_)
  obtain ⟨hq1, hq2⟩ := hq
  rw [hq2] at G
  refine lv_to hq1 ?_
  clear hq1 hq2 eT3
  refine lv_istore_n (lv' := [(3, .int r5), (0, .ref (ad l0)), (1, .int l1), (2, .int l2)]) hx hb dX3_number_21 rfl hl (by decide) rfl (fun ls hl => ?_)
  refine lv_iload_n hx hb dX3_number_22 rfl (lv_at hl 0 rfl) ?_
  refine lv_iload_n hx hb dX3_number_23 rfl (lv_at hl 2 rfl) ?_
  refine lv_icmp_lt (tgt := 32) hx hb dX3_number_24 (by decide) (fun c7 => ?_) (fun c7 => ?_)
  · have h := oif_pos c7 h
    have hl := lv_sub hl [1, 0] rfl
    exact x_X3_number_b32 E hA hX hN hml trivial hst htab hlocks kx _ _ _ _ _ _ h G hl
  · have h := oif_neg c7 h
    refine lv_iload_n hx hb dX3_number_27 rfl (lv_at hl 0 rfl) ?_
    refine lv_iload_n hx hb dX3_number_28 rfl (lv_at hl 3 rfl) ?_
    refine lv_icmp_le (tgt := 41) hx hb dX3_number_29 (by decide) (fun c8 => ?_) (fun c8 => ?_)
    · have h := oif_pos c8 h
      have hl := lv_sub hl [1, 0] rfl
      exact x_X3_number_b41 E hA hX hN hml trivial hst htab hlocks kx _ _ _ _ _ _ h G hl
    · have h := oif_neg c8 h
      have hl := lv_sub hl [1, 0] rfl
      exact x_X3_number_b32 E hA hX hN hml trivial hst htab hlocks kx _ _ _ _ _ _ h G hl
set_option maxHeartbeats 4000000 in
set_option maxRecDepth 100000 in
theorem x_X3_number (l : Launch) (hst : l.stackTraces = false) (D : va_G) (cI cJ cZ cMic cSrc cSt cAI cAJ : ClassId) (ad : Nat → Nat) (T : AT) (o : Nat) (a0 : Int32) (a1 : Int32) {e1 : Nat} {r1 : Int32} {T1 : AT} (h : g_X3_number T o a0 a1 = some (e1 + 1, r1, T1)) : kXi l yX3_number (Cond.code yX3_number cX3_number 4 (some .int) :: wsA) 7 103 cI cJ cZ cMic cSrc cSt cAI cAJ D ad T [.ref (ad o), .int a0, .int a1] e1 T1 := by
  intro sz
  refine vx_ofW (cc := cX3_number) (maxL := 4) (ret := (some .int)) (by decide) rfl ?_
  intro p e s m args below meth c s₁ B hml htab hv
  obtain ⟨rfl, hsz, hP, hK, hD0, hX, hN⟩ := hv
  have hx := B.exec
  have hb := B.bytes
  have hr := B.returns
  have hts := atoms_spec (ws := (Cond.code yX3_number cX3_number 4 (some .int) :: wsA)) B.pre
  have hown : s.vm.findClass RX3 = some m.cls := findClass_of_methodNamed B.named
  have hlocks := B.notSynchronized
  subst hsz
  have hD := hD0.self (sz := s.heap.size)
  generalize hAe : va_A (cW ad T.1 (cc cI cJ cZ cMic cSrc cSt cAI cAJ ad T)) s.heap.size = A at hD hX ⊢
  have hA : ∀ q : Nat, s.heap.size ≤ q → A q := fun q h => by rw [← hAe]; exact Or.inr h
  have G : gC cI cJ cZ cMic cSrc cSt cAI cAJ D ad A s.heap s.heap [] T := ⟨hP, hD, va_S.rf⟩
  have E : cE p c cX3_number s m ([.ref (ad o), .int a0, .int a1] : List Value).toArray (Cond.code yX3_number cX3_number 4 (some .int) :: wsA) D RX3 (CT cI cJ cZ cMic cSrc cSt cAI cAJ) := ⟨hx, hb, hts, hown, hK⟩
  have htab : ∀ x ∈ c.exceptionTable.toList, False := fun x hx => htab x hx
  have hl := lv_entry ([.ref (ad o), .int a0, .int a1]) (n := 4) (Nat.le_of_ble_eq_true rfl)
  rw [lg_entry_eq]
  generalize (lg_sl ([.ref (ad o), .int a0, .int a1]) ++ List.replicate (4 - (lg_sl ([.ref (ad o), .int a0, .int a1])).length) Slot.unset).toArray = ls at hl ⊢
  have hl : lv_has ls 4 [(0, .ref (ad o)), (1, .int a0), (2, .int a1)] := hl
  unfold g_X3_number at h
  refine lv_aload_n hx hb dX3_number_0 rfl (lv_at hl 0 rfl) ?_
  obtain ⟨g2, h⟩ := oif_some h
  obtain ⟨r5, T3, eT3, h⟩ := obind2_some h
  refine q_cvi (As := []) (rest := []) E G hA hX hN hml (u_X3_kind l hst D cI cJ cZ cMic cSrc cSt cAI cAJ ad T o eT3) (cwV 0 hts (gaV qA_239 qA_240 qA_241 qA_222 qA_242) rfl rfl rfl (by decide +kernel) ⟨Nat.le_of_ble_eq_true rfl, Nat.le_of_ble_eq_true rfl⟩) (oO_k g2).1 (cc_o3 (oO_k g2).2) rfl rfl hl.1 rfl (lv_room (Nat.le_of_ble_eq_true rfl)) dX3_number_1 ⟨Nat.zero_le _, Nat.zero_le _⟩ (fun q6 T4 H locs hq G => ?_)
  obtain ⟨hq1, hq2⟩ := hq
  rw [hq2] at G
  refine lv_to hq1 ?_
  clear hq1 hq2 eT3
  refine lv_iconst (v := 2) hx hb dX3_number_4 (by decide) ?_
  refine lv_icmp_eq (tgt := 17) hx hb dX3_number_5 (by decide) (fun c7 => ?_) (fun c7 => ?_)
  · have h := oif_pos c7 h
    have hl := lv_sub hl [0, 1, 2] rfl
    exact x_X3_number_b17 E hA hX hN hml trivial hst htab hlocks (fun H locs t G hvm h1 h2 => ⟨T1, trivial, ⟨⟨rfl, rfl⟩, (c_thrown G hK hvm h1 h2).1⟩, (c_thrown G hK hvm h1 h2).2⟩) _ _ _ _ _ _ _ h G hl
  · have h := oif_neg c7 h
    refine lv_aload_n hx hb dX3_number_8 rfl (lv_at hl 0 rfl) ?_
    refine lv_aload_n hx hb dX3_number_9 rfl (lv_at hl 0 rfl) ?_
    obtain ⟨g8, h⟩ := oif_some h
    refine c_get E G o 1 (oO_k g8).1 (cc_o3 (oO_k g8).2) rfl (fun w h => .tail _ (iA_17 h)) (by decide) (.tail _ qA_176) rfl rfl dX3_number_10 ?_
    refine lv_topi (fun v9 ev9 => ?_)
    have h := elet_at ev9 h
    clear ev9
    refine lv_iconst (v := 1) hx hb dX3_number_13 (by decide) ?_
    obtain ⟨g10, h⟩ := oif_some h
    rcases othr_t h with ⟨r0, eT11⟩ | ⟨r13, T11, eT11, h⟩
    · refine q_xvv (As := [.int v9, .int 1]) (rest := []) E G hA hX hN hml (x_X3_failAt l hst D cI cJ cZ cMic cSrc cSt cAI cAJ ad T3 o v9 (1 : Int32) eT11) (cwV 2 hts (gaV qA_293 qA_294 qA_295 qA_222 qA_296) rfl rfl rfl (by decide +kernel) ⟨Nat.le_of_ble_eq_true rfl, Nat.le_of_ble_eq_true rfl⟩) (oO_k g10).1 (cc_o3 (oO_k g10).2) rfl rfl hl.1 rfl (lv_room (Nat.le_of_ble_eq_true rfl)) dX3_number_14 ⟨Nat.le_of_ble_eq_true rfl, Nat.le_of_ble_eq_true rfl⟩ (fun E9 ce q9 T9 H locs hp G hce hcv hcl => ?_)
      obtain ⟨hE, hT⟩ := hp
      subst hE
      rw [hT] at G
      exact vx_out (fun x hx => (htab x hx).elim) hlocks hce hcv hcl (fun t ht hvm => ⟨T1, trivial, ⟨⟨rfl, rfl⟩, by rw [ht]; exact G.1, va_K.moved hvm hK, G.2.1⟩, G.2.2.F ht⟩) G.2.2.2.2 (Nat.le_refl _) (Nat.le_refl _)
    refine q_cvv (As := [.int v9, .int 1]) (rest := []) E G hA hX hN hml (u_X3_failAt l hst D cI cJ cZ cMic cSrc cSt cAI cAJ ad T3 o v9 (1 : Int32) eT11) (cwV 2 hts (gaV qA_293 qA_294 qA_295 qA_222 qA_296) rfl rfl rfl (by decide +kernel) ⟨Nat.le_of_ble_eq_true rfl, Nat.le_of_ble_eq_true rfl⟩) (oO_k g10).1 (cc_o3 (oO_k g10).2) rfl rfl hl.1 rfl (lv_room (Nat.le_of_ble_eq_true rfl)) dX3_number_14 ⟨Nat.zero_le _, Nat.zero_le _⟩ (fun T12 H locs hq G => ?_)
    rw [hq] at G
    clear hq eT11
    have hl := lv_sub hl [0, 1, 2] rfl
    exact x_X3_number_b17 E hA hX hN hml trivial hst htab hlocks (fun H locs t G hvm h1 h2 => ⟨T1, trivial, ⟨⟨rfl, rfl⟩, (c_thrown G hK hvm h1 h2).1⟩, (c_thrown G hK hvm h1 h2).2⟩) _ _ _ _ _ _ _ h G hl
def g_X3_parseHead (T : AT) (o : Nat) (a0 : Nat) : Option (Nat × Int32 × AT) := oif (oO T o 3 = true) <| othr (g_X3_takeWord T (sTx "camera") o) 0 fun r6 T4 => oif (oO T4 o 3 = true) <| othr (g_X3_takeWord T4 (sTx "distance") o) 0 fun r12 T10 => oif (oO T10 o 3 = true) <| othr (g_X3_number T10 o (100 : Int32) (5000 : Int32)) 0 fun r17 T15 => oif (oO T15 a0 6 = true) <| elet (uI T15 a0 0 r17) fun T20 => oif (oO T20 o 3 = true) <| othr (g_X3_takeWord T20 (sTx "step") o) 0 fun r25 T23 => oif (oO T23 o 3 = true) <| othr (g_X3_number T23 o (1 : Int32) (99 : Int32)) 0 fun r30 T28 => oif (oO T28 a0 6 = true) <| elet (uI T28 a0 1 r30) fun T33 => oif (oO T33 o 3 = true) <| othr (g_X3_takeWord T33 (sTx "samples") o) 0 fun r38 T36 => oif (oO T36 o 3 = true) <| othr (g_X3_number T36 o (32 : Int32) (200 : Int32)) 0 fun r43 T41 => oif (oO T41 a0 6 = true) <| elet (uI T41 a0 2 r43) fun T46 => oif (oO T46 o 3 = true) <| othr (g_X3_takeWord T46 (sTx "limit") o) 0 fun r51 T49 => oif (oO T49 o 3 = true) <| othr (g_X3_number T49 o (1 : Int32) (9999 : Int32)) 0 fun r56 T54 => oif (oO T54 a0 6 = true) <| elet (uI T54 a0 3 r56) fun T59 => some (0, 0, T59)
set_option maxHeartbeats 4000000 in
set_option maxRecDepth 100000 in
theorem u_X3_parseHead (l : Launch) (hst : l.stackTraces = false) (D : va_G) (cI cJ cZ cMic cSrc cSt cAI cAJ : ClassId) (ad : Nat → Nat) (T : AT) (h0 : Nat) (o : Nat) (a0 : Nat) {r1 : Int32} {T1 : AT} (h : g_X3_parseHead T o a0 = some (0, r1, T1)) : kCvX l yX3_parseHead (Cond.code yX3_parseHead cX3_parseHead 2 none :: wsA) 8 132 cI cJ cZ cMic cSrc cSt cAI cAJ D ad T [.ref (ad o), .ref (ad a0)] (yT0 cI cJ cZ cMic cSrc cSt cAI cAJ h0 ad T) (fun T9 => T9 = T1) := by
  intro sz
  refine Met.ofW (cc := cX3_parseHead) (maxL := 2) (ret := none) (by decide) rfl ?_
  intro p e s m args below meth c s₁ B hml hv
  obtain ⟨rfl, ⟨hsz, hP, hK, hD0, hX, hN⟩, hA1, hT⟩ := hv
  have hx := B.exec
  have hb := B.bytes
  have hr := B.returns
  have hts := atoms_spec (ws := (Cond.code yX3_parseHead cX3_parseHead 2 none :: wsA)) B.pre
  have hown : s.vm.findClass RX3 = some m.cls := findClass_of_methodNamed B.named
  have hlocks := B.notSynchronized
  subst hsz
  have hD := hD0.self (sz := s.heap.size)
  generalize hAe : va_A (cW ad T.1 (cc cI cJ cZ cMic cSrc cSt cAI cAJ ad T)) s.heap.size = A at hD hX hA1 ⊢
  have hA : ∀ q : Nat, s.heap.size ≤ q → A q := fun q h => by rw [← hAe]; exact Or.inr h
  have G : gC cI cJ cZ cMic cSrc cSt cAI cAJ D ad A s.heap s.heap [] T := ⟨hP, hD, va_S.rf⟩
  have E : cE p c cX3_parseHead s m ([.ref (ad o), .ref (ad a0)] : List Value).toArray (Cond.code yX3_parseHead cX3_parseHead 2 none :: wsA) D RX3 (CT cI cJ cZ cMic cSrc cSt cAI cAJ) := ⟨hx, hb, hts, hown, hK⟩
  have hA0 : ∀ a : Nat, A a → h0 ≤ a := hA1
  have hl := lv_entry ([.ref (ad o), .ref (ad a0)]) (n := 2) (Nat.le_of_ble_eq_true rfl)
  rw [lg_entry_eq]
  generalize (lg_sl ([.ref (ad o), .ref (ad a0)]) ++ List.replicate (2 - (lg_sl ([.ref (ad o), .ref (ad a0)])).length) Slot.unset).toArray = ls at hl ⊢
  have hl : lv_has ls 2 [(0, .ref (ad o)), (1, .ref (ad a0))] := hl
  unfold g_X3_parseHead at h
  refine lv_aload_n hx hb dX3_parseHead_0 rfl (lv_at hl 0 rfl) ?_
  obtain ⟨w2, hw2, ow2⟩ := hT.1 ("AcousticCamera$Parser", 66, "camera") (List.mem_of_getElem? (i := 0) rfl)
  refine va_ldcS hx hb hown hw2 dX3_parseHead_1 ?_
  obtain ⟨g3, h⟩ := oif_some h
  obtain ⟨r6, T4, eT4, h⟩ := othr_n h
  refine q_cvvX (As := [.ref w2]) (rest := []) E G hA hX hN hml (u_X3_takeWord l hst D cI cJ cZ cMic cSrc cSt cAI cAJ ad T h0 (q := w2) (sTx_ok (by decide +kernel)) o eT4) (cwV 1 hts (gaV qA_228 qA_229 qA_230 qA_222 qA_231) rfl rfl rfl (by decide +kernel) ⟨Nat.le_of_ble_eq_true rfl, Nat.le_of_ble_eq_true rfl⟩) (oO_k g3).1 (cc_o3 (oO_k g3).2) rfl rfl hl.1 rfl (lv_room (Nat.le_of_ble_eq_true rfl)) dX3_parseHead_3 ⟨Nat.zero_le _, Nat.zero_le _⟩ (yT1.blind) (yT1.go hT hA0 hA G ow2) (fun T5 H locs hq G => ?_)
  rw [hq] at G
  clear hq eT4
  refine lv_aload_n hx hb dX3_parseHead_6 rfl (lv_at hl 0 rfl) ?_
  obtain ⟨w8, hw8, ow8⟩ := hT.1 ("AcousticCamera$Parser", 72, "distance") (List.mem_of_getElem? (i := 1) rfl)
  refine va_ldcS hx hb hown hw8 dX3_parseHead_7 ?_
  obtain ⟨g9, h⟩ := oif_some h
  obtain ⟨r12, T10, eT10, h⟩ := othr_n h
  refine q_cvvX (As := [.ref w8]) (rest := []) E G hA hX hN hml (u_X3_takeWord l hst D cI cJ cZ cMic cSrc cSt cAI cAJ ad T4 h0 (q := w8) (sTx_ok (by decide +kernel)) o eT10) (cwV 1 hts (gaV qA_228 qA_229 qA_230 qA_222 qA_231) rfl rfl rfl (by decide +kernel) ⟨Nat.le_of_ble_eq_true rfl, Nat.le_of_ble_eq_true rfl⟩) (oO_k g9).1 (cc_o3 (oO_k g9).2) rfl rfl hl.1 rfl (lv_room (Nat.le_of_ble_eq_true rfl)) dX3_parseHead_9 ⟨Nat.zero_le _, Nat.zero_le _⟩ (yT1.blind) (yT1.go hT hA0 hA G ow8) (fun T11 H locs hq G => ?_)
  rw [hq] at G
  clear hq eT10
  refine lv_aload_n hx hb dX3_parseHead_12 rfl (lv_at hl 1 rfl) ?_
  refine lv_aload_n hx hb dX3_parseHead_13 rfl (lv_at hl 0 rfl) ?_
  refine lv_bipush (v := 100) hx hb dX3_parseHead_14 (by decide) ?_
  refine lv_sipush (v := 5000) hx hb dX3_parseHead_16 (by decide) ?_
  obtain ⟨g14, h⟩ := oif_some h
  obtain ⟨r17, T15, eT15, h⟩ := othr_n h
  refine q_cvi (As := [.int 100, .int 5000]) (rest := [.ref (ad a0)]) E G hA hX hN hml (u_X3_number l hst D cI cJ cZ cMic cSrc cSt cAI cAJ ad T10 o (100 : Int32) (5000 : Int32) eT15) (cwV 2 hts (gaV qA_299 qA_300 qA_301 qA_222 qA_302) rfl rfl rfl (by decide +kernel) ⟨Nat.le_of_ble_eq_true rfl, Nat.le_of_ble_eq_true rfl⟩) (oO_k g14).1 (cc_o3 (oO_k g14).2) rfl rfl hl.1 rfl (lv_room (Nat.le_of_ble_eq_true rfl)) dX3_parseHead_19 ⟨Nat.zero_le _, Nat.zero_le _⟩ (fun q18 T16 H locs hq G => ?_)
  obtain ⟨hq1, hq2⟩ := hq
  rw [hq2] at G
  refine lv_to hq1 ?_
  clear hq1 hq2 eT15
  obtain ⟨g19, h⟩ := oif_some h
  refine c_put E G a0 0 (v := .int r17) (oO_k g19).1 (cc_o6 (oO_k g19).2) rfl (fun w h => .tail _ (iA_14 h)) tyX6 tyX6_ok nmX6 (by decide) (.tail _ qA_224) ⟨rfl, rfl, rfl⟩ rfl rfl (Nat.le_of_ble_eq_true rfl) dX3_parseHead_22 (fun H locs G => ?_)
  have G := gC_up_i (f := upd (T15.2.2.1 a0) 0 r17) (by rw [(oO_k g19).2]; rfl) G
  obtain ⟨T20, eT20, h⟩ := elet_some h
  have G : gC cI cJ cZ cMic cSrc cSt cAI cAJ D ad A s.heap H locs T20 := by rw [eT20]; exact G
  clear eT20
  refine lv_aload_n hx hb dX3_parseHead_25 rfl (lv_at hl 0 rfl) ?_
  obtain ⟨w21, hw21, ow21⟩ := hT.1 ("AcousticCamera$Parser", 80, "step") (List.mem_of_getElem? (i := 2) rfl)
  refine va_ldcS hx hb hown hw21 dX3_parseHead_26 ?_
  obtain ⟨g22, h⟩ := oif_some h
  obtain ⟨r25, T23, eT23, h⟩ := othr_n h
  refine q_cvvX (As := [.ref w21]) (rest := []) E G hA hX hN hml (u_X3_takeWord l hst D cI cJ cZ cMic cSrc cSt cAI cAJ ad T20 h0 (q := w21) (sTx_ok (by decide +kernel)) o eT23) (cwV 1 hts (gaV qA_228 qA_229 qA_230 qA_222 qA_231) rfl rfl rfl (by decide +kernel) ⟨Nat.le_of_ble_eq_true rfl, Nat.le_of_ble_eq_true rfl⟩) (oO_k g22).1 (cc_o3 (oO_k g22).2) rfl rfl hl.1 rfl (lv_room (Nat.le_of_ble_eq_true rfl)) dX3_parseHead_28 ⟨Nat.zero_le _, Nat.zero_le _⟩ (yT1.blind) (yT1.go hT hA0 hA G ow21) (fun T24 H locs hq G => ?_)
  rw [hq] at G
  clear hq eT23
  refine lv_aload_n hx hb dX3_parseHead_31 rfl (lv_at hl 1 rfl) ?_
  refine lv_aload_n hx hb dX3_parseHead_32 rfl (lv_at hl 0 rfl) ?_
  refine lv_iconst (v := 1) hx hb dX3_parseHead_33 (by decide) ?_
  refine lv_bipush (v := 99) hx hb dX3_parseHead_34 (by decide) ?_
  obtain ⟨g27, h⟩ := oif_some h
  obtain ⟨r30, T28, eT28, h⟩ := othr_n h
  refine q_cvi (As := [.int 1, .int 99]) (rest := [.ref (ad a0)]) E G hA hX hN hml (u_X3_number l hst D cI cJ cZ cMic cSrc cSt cAI cAJ ad T23 o (1 : Int32) (99 : Int32) eT28) (cwV 2 hts (gaV qA_299 qA_300 qA_301 qA_222 qA_302) rfl rfl rfl (by decide +kernel) ⟨Nat.le_of_ble_eq_true rfl, Nat.le_of_ble_eq_true rfl⟩) (oO_k g27).1 (cc_o3 (oO_k g27).2) rfl rfl hl.1 rfl (lv_room (Nat.le_of_ble_eq_true rfl)) dX3_parseHead_36 ⟨Nat.zero_le _, Nat.zero_le _⟩ (fun q31 T29 H locs hq G => ?_)
  obtain ⟨hq1, hq2⟩ := hq
  rw [hq2] at G
  refine lv_to hq1 ?_
  clear hq1 hq2 eT28
  obtain ⟨g32, h⟩ := oif_some h
  refine c_put E G a0 1 (v := .int r30) (oO_k g32).1 (cc_o6 (oO_k g32).2) rfl (fun w h => .tail _ (iA_14 h)) tyX6 tyX6_ok nmX6 (by decide) (.tail _ qA_225) ⟨rfl, rfl, rfl⟩ rfl rfl (Nat.le_of_ble_eq_true rfl) dX3_parseHead_39 (fun H locs G => ?_)
  have G := gC_up_i (f := upd (T28.2.2.1 a0) 1 r30) (by rw [(oO_k g32).2]; rfl) G
  obtain ⟨T33, eT33, h⟩ := elet_some h
  have G : gC cI cJ cZ cMic cSrc cSt cAI cAJ D ad A s.heap H locs T33 := by rw [eT33]; exact G
  clear eT33
  refine lv_aload_n hx hb dX3_parseHead_42 rfl (lv_at hl 0 rfl) ?_
  obtain ⟨w34, hw34, ow34⟩ := hT.1 ("AcousticCamera$Parser", 84, "samples") (List.mem_of_getElem? (i := 3) rfl)
  refine va_ldcS hx hb hown hw34 dX3_parseHead_43 ?_
  obtain ⟨g35, h⟩ := oif_some h
  obtain ⟨r38, T36, eT36, h⟩ := othr_n h
  refine q_cvvX (As := [.ref w34]) (rest := []) E G hA hX hN hml (u_X3_takeWord l hst D cI cJ cZ cMic cSrc cSt cAI cAJ ad T33 h0 (q := w34) (sTx_ok (by decide +kernel)) o eT36) (cwV 1 hts (gaV qA_228 qA_229 qA_230 qA_222 qA_231) rfl rfl rfl (by decide +kernel) ⟨Nat.le_of_ble_eq_true rfl, Nat.le_of_ble_eq_true rfl⟩) (oO_k g35).1 (cc_o3 (oO_k g35).2) rfl rfl hl.1 rfl (lv_room (Nat.le_of_ble_eq_true rfl)) dX3_parseHead_45 ⟨Nat.zero_le _, Nat.zero_le _⟩ (yT1.blind) (yT1.go hT hA0 hA G ow34) (fun T37 H locs hq G => ?_)
  rw [hq] at G
  clear hq eT36
  refine lv_aload_n hx hb dX3_parseHead_48 rfl (lv_at hl 1 rfl) ?_
  refine lv_aload_n hx hb dX3_parseHead_49 rfl (lv_at hl 0 rfl) ?_
  refine lv_bipush (v := 32) hx hb dX3_parseHead_50 (by decide) ?_
  refine lv_sipush (v := 200) hx hb dX3_parseHead_52 (by decide) ?_
  obtain ⟨g40, h⟩ := oif_some h
  obtain ⟨r43, T41, eT41, h⟩ := othr_n h
  refine q_cvi (As := [.int 32, .int 200]) (rest := [.ref (ad a0)]) E G hA hX hN hml (u_X3_number l hst D cI cJ cZ cMic cSrc cSt cAI cAJ ad T36 o (32 : Int32) (200 : Int32) eT41) (cwV 2 hts (gaV qA_299 qA_300 qA_301 qA_222 qA_302) rfl rfl rfl (by decide +kernel) ⟨Nat.le_of_ble_eq_true rfl, Nat.le_of_ble_eq_true rfl⟩) (oO_k g40).1 (cc_o3 (oO_k g40).2) rfl rfl hl.1 rfl (lv_room (Nat.le_of_ble_eq_true rfl)) dX3_parseHead_55 ⟨Nat.zero_le _, Nat.zero_le _⟩ (fun q44 T42 H locs hq G => ?_)
  obtain ⟨hq1, hq2⟩ := hq
  rw [hq2] at G
  refine lv_to hq1 ?_
  clear hq1 hq2 eT41
  obtain ⟨g45, h⟩ := oif_some h
  refine c_put E G a0 2 (v := .int r43) (oO_k g45).1 (cc_o6 (oO_k g45).2) rfl (fun w h => .tail _ (iA_14 h)) tyX6 tyX6_ok nmX6 (by decide) (.tail _ qA_226) ⟨rfl, rfl, rfl⟩ rfl rfl (Nat.le_of_ble_eq_true rfl) dX3_parseHead_58 (fun H locs G => ?_)
  have G := gC_up_i (f := upd (T41.2.2.1 a0) 2 r43) (by rw [(oO_k g45).2]; rfl) G
  obtain ⟨T46, eT46, h⟩ := elet_some h
  have G : gC cI cJ cZ cMic cSrc cSt cAI cAJ D ad A s.heap H locs T46 := by rw [eT46]; exact G
  clear eT46
  refine lv_aload_n hx hb dX3_parseHead_61 rfl (lv_at hl 0 rfl) ?_
  obtain ⟨w47, hw47, ow47⟩ := hT.1 ("AcousticCamera$Parser", 88, "limit") (List.mem_of_getElem? (i := 4) rfl)
  refine va_ldcS hx hb hown hw47 dX3_parseHead_62 ?_
  obtain ⟨g48, h⟩ := oif_some h
  obtain ⟨r51, T49, eT49, h⟩ := othr_n h
  refine q_cvvX (As := [.ref w47]) (rest := []) E G hA hX hN hml (u_X3_takeWord l hst D cI cJ cZ cMic cSrc cSt cAI cAJ ad T46 h0 (q := w47) (sTx_ok (by decide +kernel)) o eT49) (cwV 1 hts (gaV qA_228 qA_229 qA_230 qA_222 qA_231) rfl rfl rfl (by decide +kernel) ⟨Nat.le_of_ble_eq_true rfl, Nat.le_of_ble_eq_true rfl⟩) (oO_k g48).1 (cc_o3 (oO_k g48).2) rfl rfl hl.1 rfl (lv_room (Nat.le_of_ble_eq_true rfl)) dX3_parseHead_64 ⟨Nat.zero_le _, Nat.zero_le _⟩ (yT1.blind) (yT1.go hT hA0 hA G ow47) (fun T50 H locs hq G => ?_)
  rw [hq] at G
  clear hq eT49
  refine lv_aload_n hx hb dX3_parseHead_67 rfl (lv_at hl 1 rfl) ?_
  refine lv_aload_n hx hb dX3_parseHead_68 rfl (lv_at hl 0 rfl) ?_
  refine lv_iconst (v := 1) hx hb dX3_parseHead_69 (by decide) ?_
  refine lv_sipush (v := 9999) hx hb dX3_parseHead_70 (by decide) ?_
  obtain ⟨g53, h⟩ := oif_some h
  obtain ⟨r56, T54, eT54, h⟩ := othr_n h
  refine q_cvi (As := [.int 1, .int 9999]) (rest := [.ref (ad a0)]) E G hA hX hN hml (u_X3_number l hst D cI cJ cZ cMic cSrc cSt cAI cAJ ad T49 o (1 : Int32) (9999 : Int32) eT54) (cwV 2 hts (gaV qA_299 qA_300 qA_301 qA_222 qA_302) rfl rfl rfl (by decide +kernel) ⟨Nat.le_of_ble_eq_true rfl, Nat.le_of_ble_eq_true rfl⟩) (oO_k g53).1 (cc_o3 (oO_k g53).2) rfl rfl hl.1 rfl (lv_room (Nat.le_of_ble_eq_true rfl)) dX3_parseHead_73 ⟨Nat.zero_le _, Nat.zero_le _⟩ (fun q57 T55 H locs hq G => ?_)
  obtain ⟨hq1, hq2⟩ := hq
  rw [hq2] at G
  refine lv_to hq1 ?_
  clear hq1 hq2 eT54
  obtain ⟨g58, h⟩ := oif_some h
  refine c_put E G a0 3 (v := .int r56) (oO_k g58).1 (cc_o6 (oO_k g58).2) rfl (fun w h => .tail _ (iA_14 h)) tyX6 tyX6_ok nmX6 (by decide) (.tail _ qA_227) ⟨rfl, rfl, rfl⟩ rfl rfl (Nat.le_of_ble_eq_true rfl) dX3_parseHead_76 (fun H locs G => ?_)
  have G := gC_up_i (f := upd (T54.2.2.1 a0) 3 r56) (by rw [(oO_k g58).2]; rfl) G
  obtain ⟨T59, eT59, h⟩ := elet_some h
  have G : gC cI cJ cZ cMic cSrc cSt cAI cAJ D ad A s.heap H locs T59 := by rw [eT59]; exact G
  clear eT59
  exact W.vret hx hb hr (fun t ht hW => ⟨⟨T59, rfl, (osome3 h).2.2, ⟨by rw [ht]; exact G.1, va_K.moved hW.alike hK, G.2.1⟩⟩, G.2.2.F ht⟩) G.2.2.2.2 dX3_parseHead_79
set_option maxHeartbeats 4000000 in
set_option maxRecDepth 100000 in
theorem s_X3_parseHead {T : AT} {o : Nat} {a0 : Nat} {e1 : Nat} {r1 : Int32} {T1 : AT} (h : g_X3_parseHead T o a0 = some (e1, r1, T1)) : SP T T1 := by
  have p0 := SP.rf T
  unfold g_X3_parseHead at h
  obtain ⟨g3, h⟩ := oif_some h
  rcases othr_s h with ⟨k9, r9, e9, -⟩ | ⟨r5, T4, eT4, h⟩
  · exact SP.tr p0 (s_X3_takeWord e9)
  have p1 : SP T T4 := SP.tr p0 (s_X3_takeWord eT4)
  obtain ⟨g7, h⟩ := oif_some h
  rcases othr_s h with ⟨k9, r9, e9, -⟩ | ⟨r9, T8, eT8, h⟩
  · exact SP.tr p1 (s_X3_takeWord e9)
  have p2 : SP T T8 := SP.tr p1 (s_X3_takeWord eT8)
  obtain ⟨g10, h⟩ := oif_some h
  rcases othr_s h with ⟨k9, r9, e9, -⟩ | ⟨r12, T11, eT11, h⟩
  · exact SP.tr p2 (s_X3_number e9)
  have p3 : SP T T11 := SP.tr p2 (s_X3_number eT11)
  obtain ⟨g13, h⟩ := oif_some h
  obtain ⟨T14, eT14, h⟩ := elet_some h
  have p4 : SP T T14 := SP.tr p3 (by rw [eT14]; exact sp_uI)
  obtain ⟨g16, h⟩ := oif_some h
  rcases othr_s h with ⟨k9, r9, e9, -⟩ | ⟨r18, T17, eT17, h⟩
  · exact SP.tr p4 (s_X3_takeWord e9)
  have p5 : SP T T17 := SP.tr p4 (s_X3_takeWord eT17)
  obtain ⟨g19, h⟩ := oif_some h
  rcases othr_s h with ⟨k9, r9, e9, -⟩ | ⟨r21, T20, eT20, h⟩
  · exact SP.tr p5 (s_X3_number e9)
  have p6 : SP T T20 := SP.tr p5 (s_X3_number eT20)
  obtain ⟨g22, h⟩ := oif_some h
  obtain ⟨T23, eT23, h⟩ := elet_some h
  have p7 : SP T T23 := SP.tr p6 (by rw [eT23]; exact sp_uI)
  obtain ⟨g25, h⟩ := oif_some h
  rcases othr_s h with ⟨k9, r9, e9, -⟩ | ⟨r27, T26, eT26, h⟩
  · exact SP.tr p7 (s_X3_takeWord e9)
  have p8 : SP T T26 := SP.tr p7 (s_X3_takeWord eT26)
  obtain ⟨g28, h⟩ := oif_some h
  rcases othr_s h with ⟨k9, r9, e9, -⟩ | ⟨r30, T29, eT29, h⟩
  · exact SP.tr p8 (s_X3_number e9)
  have p9 : SP T T29 := SP.tr p8 (s_X3_number eT29)
  obtain ⟨g31, h⟩ := oif_some h
  obtain ⟨T32, eT32, h⟩ := elet_some h
  have p10 : SP T T32 := SP.tr p9 (by rw [eT32]; exact sp_uI)
  obtain ⟨g34, h⟩ := oif_some h
  rcases othr_s h with ⟨k9, r9, e9, -⟩ | ⟨r36, T35, eT35, h⟩
  · exact SP.tr p10 (s_X3_takeWord e9)
  have p11 : SP T T35 := SP.tr p10 (s_X3_takeWord eT35)
  obtain ⟨g37, h⟩ := oif_some h
  rcases othr_s h with ⟨k9, r9, e9, -⟩ | ⟨r39, T38, eT38, h⟩
  · exact SP.tr p11 (s_X3_number e9)
  have p12 : SP T T38 := SP.tr p11 (s_X3_number eT38)
  obtain ⟨g40, h⟩ := oif_some h
  obtain ⟨T41, eT41, h⟩ := elet_some h
  have p13 : SP T T41 := SP.tr p12 (by rw [eT41]; exact sp_uI)
  rw [← (osome3 h).2.2]
  exact p13
set_option maxHeartbeats 4000000 in
set_option maxRecDepth 100000 in
theorem x_X3_parseHead (l : Launch) (hst : l.stackTraces = false) (D : va_G) (cI cJ cZ cMic cSrc cSt cAI cAJ : ClassId) (ad : Nat → Nat) (T : AT) (h0 : Nat) (o : Nat) (a0 : Nat) {e1 : Nat} {r1 : Int32} {T1 : AT} (h : g_X3_parseHead T o a0 = some (e1 + 1, r1, T1)) : kXvX l yX3_parseHead (Cond.code yX3_parseHead cX3_parseHead 2 none :: wsA) 8 132 cI cJ cZ cMic cSrc cSt cAI cAJ D ad T [.ref (ad o), .ref (ad a0)] (yT0 cI cJ cZ cMic cSrc cSt cAI cAJ h0 ad T) e1 T1 := by
  intro sz
  refine vx_ofW (cc := cX3_parseHead) (maxL := 2) (ret := none) (by decide) rfl ?_
  intro p e s m args below meth c s₁ B hml htab hv
  obtain ⟨rfl, ⟨hsz, hP, hK, hD0, hX, hN⟩, hA1, hT⟩ := hv
  have hx := B.exec
  have hb := B.bytes
  have hr := B.returns
  have hts := atoms_spec (ws := (Cond.code yX3_parseHead cX3_parseHead 2 none :: wsA)) B.pre
  have hown : s.vm.findClass RX3 = some m.cls := findClass_of_methodNamed B.named
  have hlocks := B.notSynchronized
  subst hsz
  have hD := hD0.self (sz := s.heap.size)
  generalize hAe : va_A (cW ad T.1 (cc cI cJ cZ cMic cSrc cSt cAI cAJ ad T)) s.heap.size = A at hD hX hA1 ⊢
  have hA : ∀ q : Nat, s.heap.size ≤ q → A q := fun q h => by rw [← hAe]; exact Or.inr h
  have G : gC cI cJ cZ cMic cSrc cSt cAI cAJ D ad A s.heap s.heap [] T := ⟨hP, hD, va_S.rf⟩
  have E : cE p c cX3_parseHead s m ([.ref (ad o), .ref (ad a0)] : List Value).toArray (Cond.code yX3_parseHead cX3_parseHead 2 none :: wsA) D RX3 (CT cI cJ cZ cMic cSrc cSt cAI cAJ) := ⟨hx, hb, hts, hown, hK⟩
  have htab : ∀ x ∈ c.exceptionTable.toList, False := fun x hx => htab x hx
  have hA0 : ∀ a : Nat, A a → h0 ≤ a := hA1
  have hl := lv_entry ([.ref (ad o), .ref (ad a0)]) (n := 2) (Nat.le_of_ble_eq_true rfl)
  rw [lg_entry_eq]
  generalize (lg_sl ([.ref (ad o), .ref (ad a0)]) ++ List.replicate (2 - (lg_sl ([.ref (ad o), .ref (ad a0)])).length) Slot.unset).toArray = ls at hl ⊢
  have hl : lv_has ls 2 [(0, .ref (ad o)), (1, .ref (ad a0))] := hl
  unfold g_X3_parseHead at h
  refine lv_aload_n hx hb dX3_parseHead_0 rfl (lv_at hl 0 rfl) ?_
  obtain ⟨w2, hw2, ow2⟩ := hT.1 ("AcousticCamera$Parser", 66, "camera") (List.mem_of_getElem? (i := 0) rfl)
  refine va_ldcS hx hb hown hw2 dX3_parseHead_1 ?_
  obtain ⟨g3, h⟩ := oif_some h
  rcases othr_t h with ⟨r0, eT4⟩ | ⟨r6, T4, eT4, h⟩
  · refine q_xvvX (As := [.ref w2]) (rest := []) E G hA hX hN hml (x_X3_takeWord l hst D cI cJ cZ cMic cSrc cSt cAI cAJ ad T h0 (q := w2) (sTx_ok (by decide +kernel)) o eT4) (cwV 1 hts (gaV qA_228 qA_229 qA_230 qA_222 qA_231) rfl rfl rfl (by decide +kernel) ⟨Nat.le_of_ble_eq_true rfl, Nat.le_of_ble_eq_true rfl⟩) (oO_k g3).1 (cc_o3 (oO_k g3).2) rfl rfl hl.1 rfl (lv_room (Nat.le_of_ble_eq_true rfl)) dX3_parseHead_3 ⟨Nat.le_of_ble_eq_true rfl, Nat.le_of_ble_eq_true rfl⟩ (yT1.blind) (yT1.go hT hA0 hA G ow2) (fun E9 ce q9 T9 H locs hp G hce hcv hcl => ?_)
    obtain ⟨hE, hT⟩ := hp
    subst hE
    rw [hT] at G
    exact vx_out (fun x hx => (htab x hx).elim) hlocks hce hcv hcl (fun t ht hvm => ⟨T1, trivial, ⟨⟨rfl, rfl⟩, by rw [ht]; exact G.1, va_K.moved hvm hK, G.2.1⟩, G.2.2.F ht⟩) G.2.2.2.2 (Nat.le_refl _) (Nat.le_refl _)
  refine q_cvvX (As := [.ref w2]) (rest := []) E G hA hX hN hml (u_X3_takeWord l hst D cI cJ cZ cMic cSrc cSt cAI cAJ ad T h0 (q := w2) (sTx_ok (by decide +kernel)) o eT4) (cwV 1 hts (gaV qA_228 qA_229 qA_230 qA_222 qA_231) rfl rfl rfl (by decide +kernel) ⟨Nat.le_of_ble_eq_true rfl, Nat.le_of_ble_eq_true rfl⟩) (oO_k g3).1 (cc_o3 (oO_k g3).2) rfl rfl hl.1 rfl (lv_room (Nat.le_of_ble_eq_true rfl)) dX3_parseHead_3 ⟨Nat.zero_le _, Nat.zero_le _⟩ (yT1.blind) (yT1.go hT hA0 hA G ow2) (fun T5 H locs hq G => ?_)
  rw [hq] at G
  clear hq eT4
  refine lv_aload_n hx hb dX3_parseHead_6 rfl (lv_at hl 0 rfl) ?_
  obtain ⟨w8, hw8, ow8⟩ := hT.1 ("AcousticCamera$Parser", 72, "distance") (List.mem_of_getElem? (i := 1) rfl)
  refine va_ldcS hx hb hown hw8 dX3_parseHead_7 ?_
  obtain ⟨g9, h⟩ := oif_some h
  rcases othr_t h with ⟨r0, eT10⟩ | ⟨r12, T10, eT10, h⟩
  · refine q_xvvX (As := [.ref w8]) (rest := []) E G hA hX hN hml (x_X3_takeWord l hst D cI cJ cZ cMic cSrc cSt cAI cAJ ad T4 h0 (q := w8) (sTx_ok (by decide +kernel)) o eT10) (cwV 1 hts (gaV qA_228 qA_229 qA_230 qA_222 qA_231) rfl rfl rfl (by decide +kernel) ⟨Nat.le_of_ble_eq_true rfl, Nat.le_of_ble_eq_true rfl⟩) (oO_k g9).1 (cc_o3 (oO_k g9).2) rfl rfl hl.1 rfl (lv_room (Nat.le_of_ble_eq_true rfl)) dX3_parseHead_9 ⟨Nat.le_of_ble_eq_true rfl, Nat.le_of_ble_eq_true rfl⟩ (yT1.blind) (yT1.go hT hA0 hA G ow8) (fun E9 ce q9 T9 H locs hp G hce hcv hcl => ?_)
    obtain ⟨hE, hT⟩ := hp
    subst hE
    rw [hT] at G
    exact vx_out (fun x hx => (htab x hx).elim) hlocks hce hcv hcl (fun t ht hvm => ⟨T1, trivial, ⟨⟨rfl, rfl⟩, by rw [ht]; exact G.1, va_K.moved hvm hK, G.2.1⟩, G.2.2.F ht⟩) G.2.2.2.2 (Nat.le_refl _) (Nat.le_refl _)
  refine q_cvvX (As := [.ref w8]) (rest := []) E G hA hX hN hml (u_X3_takeWord l hst D cI cJ cZ cMic cSrc cSt cAI cAJ ad T4 h0 (q := w8) (sTx_ok (by decide +kernel)) o eT10) (cwV 1 hts (gaV qA_228 qA_229 qA_230 qA_222 qA_231) rfl rfl rfl (by decide +kernel) ⟨Nat.le_of_ble_eq_true rfl, Nat.le_of_ble_eq_true rfl⟩) (oO_k g9).1 (cc_o3 (oO_k g9).2) rfl rfl hl.1 rfl (lv_room (Nat.le_of_ble_eq_true rfl)) dX3_parseHead_9 ⟨Nat.zero_le _, Nat.zero_le _⟩ (yT1.blind) (yT1.go hT hA0 hA G ow8) (fun T11 H locs hq G => ?_)
  rw [hq] at G
  clear hq eT10
  refine lv_aload_n hx hb dX3_parseHead_12 rfl (lv_at hl 1 rfl) ?_
  refine lv_aload_n hx hb dX3_parseHead_13 rfl (lv_at hl 0 rfl) ?_
  refine lv_bipush (v := 100) hx hb dX3_parseHead_14 (by decide) ?_
  refine lv_sipush (v := 5000) hx hb dX3_parseHead_16 (by decide) ?_
  obtain ⟨g14, h⟩ := oif_some h
  rcases othr_t h with ⟨r0, eT15⟩ | ⟨r17, T15, eT15, h⟩
  · refine q_xvi (As := [.int 100, .int 5000]) (rest := [.ref (ad a0)]) E G hA hX hN hml (x_X3_number l hst D cI cJ cZ cMic cSrc cSt cAI cAJ ad T10 o (100 : Int32) (5000 : Int32) eT15) (cwV 2 hts (gaV qA_299 qA_300 qA_301 qA_222 qA_302) rfl rfl rfl (by decide +kernel) ⟨Nat.le_of_ble_eq_true rfl, Nat.le_of_ble_eq_true rfl⟩) (oO_k g14).1 (cc_o3 (oO_k g14).2) rfl rfl hl.1 rfl (lv_room (Nat.le_of_ble_eq_true rfl)) dX3_parseHead_19 ⟨Nat.le_of_ble_eq_true rfl, Nat.le_of_ble_eq_true rfl⟩ (fun E9 ce q9 T9 H locs hp G hce hcv hcl => ?_)
    obtain ⟨hE, hT⟩ := hp
    subst hE
    rw [hT] at G
    exact vx_out (fun x hx => (htab x hx).elim) hlocks hce hcv hcl (fun t ht hvm => ⟨T1, trivial, ⟨⟨rfl, rfl⟩, by rw [ht]; exact G.1, va_K.moved hvm hK, G.2.1⟩, G.2.2.F ht⟩) G.2.2.2.2 (Nat.le_refl _) (Nat.le_refl _)
  refine q_cvi (As := [.int 100, .int 5000]) (rest := [.ref (ad a0)]) E G hA hX hN hml (u_X3_number l hst D cI cJ cZ cMic cSrc cSt cAI cAJ ad T10 o (100 : Int32) (5000 : Int32) eT15) (cwV 2 hts (gaV qA_299 qA_300 qA_301 qA_222 qA_302) rfl rfl rfl (by decide +kernel) ⟨Nat.le_of_ble_eq_true rfl, Nat.le_of_ble_eq_true rfl⟩) (oO_k g14).1 (cc_o3 (oO_k g14).2) rfl rfl hl.1 rfl (lv_room (Nat.le_of_ble_eq_true rfl)) dX3_parseHead_19 ⟨Nat.zero_le _, Nat.zero_le _⟩ (fun q18 T16 H locs hq G => ?_)
  obtain ⟨hq1, hq2⟩ := hq
  rw [hq2] at G
  refine lv_to hq1 ?_
  clear hq1 hq2 eT15
  obtain ⟨g19, h⟩ := oif_some h
  refine c_put E G a0 0 (v := .int r17) (oO_k g19).1 (cc_o6 (oO_k g19).2) rfl (fun w h => .tail _ (iA_14 h)) tyX6 tyX6_ok nmX6 (by decide) (.tail _ qA_224) ⟨rfl, rfl, rfl⟩ rfl rfl (Nat.le_of_ble_eq_true rfl) dX3_parseHead_22 (fun H locs G => ?_)
  have G := gC_up_i (f := upd (T15.2.2.1 a0) 0 r17) (by rw [(oO_k g19).2]; rfl) G
  obtain ⟨T20, eT20, h⟩ := elet_some h
  have G : gC cI cJ cZ cMic cSrc cSt cAI cAJ D ad A s.heap H locs T20 := by rw [eT20]; exact G
  clear eT20
  refine lv_aload_n hx hb dX3_parseHead_25 rfl (lv_at hl 0 rfl) ?_
  obtain ⟨w21, hw21, ow21⟩ := hT.1 ("AcousticCamera$Parser", 80, "step") (List.mem_of_getElem? (i := 2) rfl)
  refine va_ldcS hx hb hown hw21 dX3_parseHead_26 ?_
  obtain ⟨g22, h⟩ := oif_some h
  rcases othr_t h with ⟨r0, eT23⟩ | ⟨r25, T23, eT23, h⟩
  · refine q_xvvX (As := [.ref w21]) (rest := []) E G hA hX hN hml (x_X3_takeWord l hst D cI cJ cZ cMic cSrc cSt cAI cAJ ad T20 h0 (q := w21) (sTx_ok (by decide +kernel)) o eT23) (cwV 1 hts (gaV qA_228 qA_229 qA_230 qA_222 qA_231) rfl rfl rfl (by decide +kernel) ⟨Nat.le_of_ble_eq_true rfl, Nat.le_of_ble_eq_true rfl⟩) (oO_k g22).1 (cc_o3 (oO_k g22).2) rfl rfl hl.1 rfl (lv_room (Nat.le_of_ble_eq_true rfl)) dX3_parseHead_28 ⟨Nat.le_of_ble_eq_true rfl, Nat.le_of_ble_eq_true rfl⟩ (yT1.blind) (yT1.go hT hA0 hA G ow21) (fun E9 ce q9 T9 H locs hp G hce hcv hcl => ?_)
    obtain ⟨hE, hT⟩ := hp
    subst hE
    rw [hT] at G
    exact vx_out (fun x hx => (htab x hx).elim) hlocks hce hcv hcl (fun t ht hvm => ⟨T1, trivial, ⟨⟨rfl, rfl⟩, by rw [ht]; exact G.1, va_K.moved hvm hK, G.2.1⟩, G.2.2.F ht⟩) G.2.2.2.2 (Nat.le_refl _) (Nat.le_refl _)
  refine q_cvvX (As := [.ref w21]) (rest := []) E G hA hX hN hml (u_X3_takeWord l hst D cI cJ cZ cMic cSrc cSt cAI cAJ ad T20 h0 (q := w21) (sTx_ok (by decide +kernel)) o eT23) (cwV 1 hts (gaV qA_228 qA_229 qA_230 qA_222 qA_231) rfl rfl rfl (by decide +kernel) ⟨Nat.le_of_ble_eq_true rfl, Nat.le_of_ble_eq_true rfl⟩) (oO_k g22).1 (cc_o3 (oO_k g22).2) rfl rfl hl.1 rfl (lv_room (Nat.le_of_ble_eq_true rfl)) dX3_parseHead_28 ⟨Nat.zero_le _, Nat.zero_le _⟩ (yT1.blind) (yT1.go hT hA0 hA G ow21) (fun T24 H locs hq G => ?_)
  rw [hq] at G
  clear hq eT23
  refine lv_aload_n hx hb dX3_parseHead_31 rfl (lv_at hl 1 rfl) ?_
  refine lv_aload_n hx hb dX3_parseHead_32 rfl (lv_at hl 0 rfl) ?_
  refine lv_iconst (v := 1) hx hb dX3_parseHead_33 (by decide) ?_
  refine lv_bipush (v := 99) hx hb dX3_parseHead_34 (by decide) ?_
  obtain ⟨g27, h⟩ := oif_some h
  rcases othr_t h with ⟨r0, eT28⟩ | ⟨r30, T28, eT28, h⟩
  · refine q_xvi (As := [.int 1, .int 99]) (rest := [.ref (ad a0)]) E G hA hX hN hml (x_X3_number l hst D cI cJ cZ cMic cSrc cSt cAI cAJ ad T23 o (1 : Int32) (99 : Int32) eT28) (cwV 2 hts (gaV qA_299 qA_300 qA_301 qA_222 qA_302) rfl rfl rfl (by decide +kernel) ⟨Nat.le_of_ble_eq_true rfl, Nat.le_of_ble_eq_true rfl⟩) (oO_k g27).1 (cc_o3 (oO_k g27).2) rfl rfl hl.1 rfl (lv_room (Nat.le_of_ble_eq_true rfl)) dX3_parseHead_36 ⟨Nat.le_of_ble_eq_true rfl, Nat.le_of_ble_eq_true rfl⟩ (fun E9 ce q9 T9 H locs hp G hce hcv hcl => ?_)
    obtain ⟨hE, hT⟩ := hp
    subst hE
    rw [hT] at G
    exact vx_out (fun x hx => (htab x hx).elim) hlocks hce hcv hcl (fun t ht hvm => ⟨T1, trivial, ⟨⟨rfl, rfl⟩, by rw [ht]; exact G.1, va_K.moved hvm hK, G.2.1⟩, G.2.2.F ht⟩) G.2.2.2.2 (Nat.le_refl _) (Nat.le_refl _)
  refine q_cvi (As := [.int 1, .int 99]) (rest := [.ref (ad a0)]) E G hA hX hN hml (u_X3_number l hst D cI cJ cZ cMic cSrc cSt cAI cAJ ad T23 o (1 : Int32) (99 : Int32) eT28) (cwV 2 hts (gaV qA_299 qA_300 qA_301 qA_222 qA_302) rfl rfl rfl (by decide +kernel) ⟨Nat.le_of_ble_eq_true rfl, Nat.le_of_ble_eq_true rfl⟩) (oO_k g27).1 (cc_o3 (oO_k g27).2) rfl rfl hl.1 rfl (lv_room (Nat.le_of_ble_eq_true rfl)) dX3_parseHead_36 ⟨Nat.zero_le _, Nat.zero_le _⟩ (fun q31 T29 H locs hq G => ?_)
  obtain ⟨hq1, hq2⟩ := hq
  rw [hq2] at G
  refine lv_to hq1 ?_
  clear hq1 hq2 eT28
  obtain ⟨g32, h⟩ := oif_some h
  refine c_put E G a0 1 (v := .int r30) (oO_k g32).1 (cc_o6 (oO_k g32).2) rfl (fun w h => .tail _ (iA_14 h)) tyX6 tyX6_ok nmX6 (by decide) (.tail _ qA_225) ⟨rfl, rfl, rfl⟩ rfl rfl (Nat.le_of_ble_eq_true rfl) dX3_parseHead_39 (fun H locs G => ?_)
  have G := gC_up_i (f := upd (T28.2.2.1 a0) 1 r30) (by rw [(oO_k g32).2]; rfl) G
  obtain ⟨T33, eT33, h⟩ := elet_some h
  have G : gC cI cJ cZ cMic cSrc cSt cAI cAJ D ad A s.heap H locs T33 := by rw [eT33]; exact G
  clear eT33
  refine lv_aload_n hx hb dX3_parseHead_42 rfl (lv_at hl 0 rfl) ?_
  obtain ⟨w34, hw34, ow34⟩ := hT.1 ("AcousticCamera$Parser", 84, "samples") (List.mem_of_getElem? (i := 3) rfl)
  refine va_ldcS hx hb hown hw34 dX3_parseHead_43 ?_
  obtain ⟨g35, h⟩ := oif_some h
  rcases othr_t h with ⟨r0, eT36⟩ | ⟨r38, T36, eT36, h⟩
  · refine q_xvvX (As := [.ref w34]) (rest := []) E G hA hX hN hml (x_X3_takeWord l hst D cI cJ cZ cMic cSrc cSt cAI cAJ ad T33 h0 (q := w34) (sTx_ok (by decide +kernel)) o eT36) (cwV 1 hts (gaV qA_228 qA_229 qA_230 qA_222 qA_231) rfl rfl rfl (by decide +kernel) ⟨Nat.le_of_ble_eq_true rfl, Nat.le_of_ble_eq_true rfl⟩) (oO_k g35).1 (cc_o3 (oO_k g35).2) rfl rfl hl.1 rfl (lv_room (Nat.le_of_ble_eq_true rfl)) dX3_parseHead_45 ⟨Nat.le_of_ble_eq_true rfl, Nat.le_of_ble_eq_true rfl⟩ (yT1.blind) (yT1.go hT hA0 hA G ow34) (fun E9 ce q9 T9 H locs hp G hce hcv hcl => ?_)
    obtain ⟨hE, hT⟩ := hp
    subst hE
    rw [hT] at G
    exact vx_out (fun x hx => (htab x hx).elim) hlocks hce hcv hcl (fun t ht hvm => ⟨T1, trivial, ⟨⟨rfl, rfl⟩, by rw [ht]; exact G.1, va_K.moved hvm hK, G.2.1⟩, G.2.2.F ht⟩) G.2.2.2.2 (Nat.le_refl _) (Nat.le_refl _)
  refine q_cvvX (As := [.ref w34]) (rest := []) E G hA hX hN hml (u_X3_takeWord l hst D cI cJ cZ cMic cSrc cSt cAI cAJ ad T33 h0 (q := w34) (sTx_ok (by decide +kernel)) o eT36) (cwV 1 hts (gaV qA_228 qA_229 qA_230 qA_222 qA_231) rfl rfl rfl (by decide +kernel) ⟨Nat.le_of_ble_eq_true rfl, Nat.le_of_ble_eq_true rfl⟩) (oO_k g35).1 (cc_o3 (oO_k g35).2) rfl rfl hl.1 rfl (lv_room (Nat.le_of_ble_eq_true rfl)) dX3_parseHead_45 ⟨Nat.zero_le _, Nat.zero_le _⟩ (yT1.blind) (yT1.go hT hA0 hA G ow34) (fun T37 H locs hq G => ?_)
  rw [hq] at G
  clear hq eT36
  refine lv_aload_n hx hb dX3_parseHead_48 rfl (lv_at hl 1 rfl) ?_
  refine lv_aload_n hx hb dX3_parseHead_49 rfl (lv_at hl 0 rfl) ?_
  refine lv_bipush (v := 32) hx hb dX3_parseHead_50 (by decide) ?_
  refine lv_sipush (v := 200) hx hb dX3_parseHead_52 (by decide) ?_
  obtain ⟨g40, h⟩ := oif_some h
  rcases othr_t h with ⟨r0, eT41⟩ | ⟨r43, T41, eT41, h⟩
  · refine q_xvi (As := [.int 32, .int 200]) (rest := [.ref (ad a0)]) E G hA hX hN hml (x_X3_number l hst D cI cJ cZ cMic cSrc cSt cAI cAJ ad T36 o (32 : Int32) (200 : Int32) eT41) (cwV 2 hts (gaV qA_299 qA_300 qA_301 qA_222 qA_302) rfl rfl rfl (by decide +kernel) ⟨Nat.le_of_ble_eq_true rfl, Nat.le_of_ble_eq_true rfl⟩) (oO_k g40).1 (cc_o3 (oO_k g40).2) rfl rfl hl.1 rfl (lv_room (Nat.le_of_ble_eq_true rfl)) dX3_parseHead_55 ⟨Nat.le_of_ble_eq_true rfl, Nat.le_of_ble_eq_true rfl⟩ (fun E9 ce q9 T9 H locs hp G hce hcv hcl => ?_)
    obtain ⟨hE, hT⟩ := hp
    subst hE
    rw [hT] at G
    exact vx_out (fun x hx => (htab x hx).elim) hlocks hce hcv hcl (fun t ht hvm => ⟨T1, trivial, ⟨⟨rfl, rfl⟩, by rw [ht]; exact G.1, va_K.moved hvm hK, G.2.1⟩, G.2.2.F ht⟩) G.2.2.2.2 (Nat.le_refl _) (Nat.le_refl _)
  refine q_cvi (As := [.int 32, .int 200]) (rest := [.ref (ad a0)]) E G hA hX hN hml (u_X3_number l hst D cI cJ cZ cMic cSrc cSt cAI cAJ ad T36 o (32 : Int32) (200 : Int32) eT41) (cwV 2 hts (gaV qA_299 qA_300 qA_301 qA_222 qA_302) rfl rfl rfl (by decide +kernel) ⟨Nat.le_of_ble_eq_true rfl, Nat.le_of_ble_eq_true rfl⟩) (oO_k g40).1 (cc_o3 (oO_k g40).2) rfl rfl hl.1 rfl (lv_room (Nat.le_of_ble_eq_true rfl)) dX3_parseHead_55 ⟨Nat.zero_le _, Nat.zero_le _⟩ (fun q44 T42 H locs hq G => ?_)
  obtain ⟨hq1, hq2⟩ := hq
  rw [hq2] at G
  refine lv_to hq1 ?_
  clear hq1 hq2 eT41
  obtain ⟨g45, h⟩ := oif_some h
  refine c_put E G a0 2 (v := .int r43) (oO_k g45).1 (cc_o6 (oO_k g45).2) rfl (fun w h => .tail _ (iA_14 h)) tyX6 tyX6_ok nmX6 (by decide) (.tail _ qA_226) ⟨rfl, rfl, rfl⟩ rfl rfl (Nat.le_of_ble_eq_true rfl) dX3_parseHead_58 (fun H locs G => ?_)
  have G := gC_up_i (f := upd (T41.2.2.1 a0) 2 r43) (by rw [(oO_k g45).2]; rfl) G
  obtain ⟨T46, eT46, h⟩ := elet_some h
  have G : gC cI cJ cZ cMic cSrc cSt cAI cAJ D ad A s.heap H locs T46 := by rw [eT46]; exact G
  clear eT46
  refine lv_aload_n hx hb dX3_parseHead_61 rfl (lv_at hl 0 rfl) ?_
  obtain ⟨w47, hw47, ow47⟩ := hT.1 ("AcousticCamera$Parser", 88, "limit") (List.mem_of_getElem? (i := 4) rfl)
  refine va_ldcS hx hb hown hw47 dX3_parseHead_62 ?_
  obtain ⟨g48, h⟩ := oif_some h
  rcases othr_t h with ⟨r0, eT49⟩ | ⟨r51, T49, eT49, h⟩
  · refine q_xvvX (As := [.ref w47]) (rest := []) E G hA hX hN hml (x_X3_takeWord l hst D cI cJ cZ cMic cSrc cSt cAI cAJ ad T46 h0 (q := w47) (sTx_ok (by decide +kernel)) o eT49) (cwV 1 hts (gaV qA_228 qA_229 qA_230 qA_222 qA_231) rfl rfl rfl (by decide +kernel) ⟨Nat.le_of_ble_eq_true rfl, Nat.le_of_ble_eq_true rfl⟩) (oO_k g48).1 (cc_o3 (oO_k g48).2) rfl rfl hl.1 rfl (lv_room (Nat.le_of_ble_eq_true rfl)) dX3_parseHead_64 ⟨Nat.le_of_ble_eq_true rfl, Nat.le_of_ble_eq_true rfl⟩ (yT1.blind) (yT1.go hT hA0 hA G ow47) (fun E9 ce q9 T9 H locs hp G hce hcv hcl => ?_)
    obtain ⟨hE, hT⟩ := hp
    subst hE
    rw [hT] at G
    exact vx_out (fun x hx => (htab x hx).elim) hlocks hce hcv hcl (fun t ht hvm => ⟨T1, trivial, ⟨⟨rfl, rfl⟩, by rw [ht]; exact G.1, va_K.moved hvm hK, G.2.1⟩, G.2.2.F ht⟩) G.2.2.2.2 (Nat.le_refl _) (Nat.le_refl _)
  refine q_cvvX (As := [.ref w47]) (rest := []) E G hA hX hN hml (u_X3_takeWord l hst D cI cJ cZ cMic cSrc cSt cAI cAJ ad T46 h0 (q := w47) (sTx_ok (by decide +kernel)) o eT49) (cwV 1 hts (gaV qA_228 qA_229 qA_230 qA_222 qA_231) rfl rfl rfl (by decide +kernel) ⟨Nat.le_of_ble_eq_true rfl, Nat.le_of_ble_eq_true rfl⟩) (oO_k g48).1 (cc_o3 (oO_k g48).2) rfl rfl hl.1 rfl (lv_room (Nat.le_of_ble_eq_true rfl)) dX3_parseHead_64 ⟨Nat.zero_le _, Nat.zero_le _⟩ (yT1.blind) (yT1.go hT hA0 hA G ow47) (fun T50 H locs hq G => ?_)
  rw [hq] at G
  clear hq eT49
  refine lv_aload_n hx hb dX3_parseHead_67 rfl (lv_at hl 1 rfl) ?_
  refine lv_aload_n hx hb dX3_parseHead_68 rfl (lv_at hl 0 rfl) ?_
  refine lv_iconst (v := 1) hx hb dX3_parseHead_69 (by decide) ?_
  refine lv_sipush (v := 9999) hx hb dX3_parseHead_70 (by decide) ?_
  obtain ⟨g53, h⟩ := oif_some h
  rcases othr_t h with ⟨r0, eT54⟩ | ⟨r56, T54, eT54, h⟩
  · refine q_xvi (As := [.int 1, .int 9999]) (rest := [.ref (ad a0)]) E G hA hX hN hml (x_X3_number l hst D cI cJ cZ cMic cSrc cSt cAI cAJ ad T49 o (1 : Int32) (9999 : Int32) eT54) (cwV 2 hts (gaV qA_299 qA_300 qA_301 qA_222 qA_302) rfl rfl rfl (by decide +kernel) ⟨Nat.le_of_ble_eq_true rfl, Nat.le_of_ble_eq_true rfl⟩) (oO_k g53).1 (cc_o3 (oO_k g53).2) rfl rfl hl.1 rfl (lv_room (Nat.le_of_ble_eq_true rfl)) dX3_parseHead_73 ⟨Nat.le_of_ble_eq_true rfl, Nat.le_of_ble_eq_true rfl⟩ (fun E9 ce q9 T9 H locs hp G hce hcv hcl => ?_)
    obtain ⟨hE, hT⟩ := hp
    subst hE
    rw [hT] at G
    exact vx_out (fun x hx => (htab x hx).elim) hlocks hce hcv hcl (fun t ht hvm => ⟨T1, trivial, ⟨⟨rfl, rfl⟩, by rw [ht]; exact G.1, va_K.moved hvm hK, G.2.1⟩, G.2.2.F ht⟩) G.2.2.2.2 (Nat.le_refl _) (Nat.le_refl _)
  refine q_cvi (As := [.int 1, .int 9999]) (rest := [.ref (ad a0)]) E G hA hX hN hml (u_X3_number l hst D cI cJ cZ cMic cSrc cSt cAI cAJ ad T49 o (1 : Int32) (9999 : Int32) eT54) (cwV 2 hts (gaV qA_299 qA_300 qA_301 qA_222 qA_302) rfl rfl rfl (by decide +kernel) ⟨Nat.le_of_ble_eq_true rfl, Nat.le_of_ble_eq_true rfl⟩) (oO_k g53).1 (cc_o3 (oO_k g53).2) rfl rfl hl.1 rfl (lv_room (Nat.le_of_ble_eq_true rfl)) dX3_parseHead_73 ⟨Nat.zero_le _, Nat.zero_le _⟩ (fun q57 T55 H locs hq G => ?_)
  obtain ⟨hq1, hq2⟩ := hq
  rw [hq2] at G
  refine lv_to hq1 ?_
  clear hq1 hq2 eT54
  obtain ⟨g58, h⟩ := oif_some h
  refine c_put E G a0 3 (v := .int r56) (oO_k g58).1 (cc_o6 (oO_k g58).2) rfl (fun w h => .tail _ (iA_14 h)) tyX6 tyX6_ok nmX6 (by decide) (.tail _ qA_227) ⟨rfl, rfl, rfl⟩ rfl rfl (Nat.le_of_ble_eq_true rfl) dX3_parseHead_76 (fun H locs G => ?_)
  have G := gC_up_i (f := upd (T54.2.2.1 a0) 3 r56) (by rw [(oO_k g58).2]; rfl) G
  obtain ⟨T59, eT59, h⟩ := elet_some h
  have G : gC cI cJ cZ cMic cSrc cSt cAI cAJ D ad A s.heap H locs T59 := by rw [eT59]; exact G
  clear eT59
  exact (Nat.succ_ne_zero _ (congrArg Prod.fst (Option.some.inj h)).symm).elim
def g_X3_startLine_b13  (T : AT) (l0 : Nat) : Option (Nat × Int32 × AT) := oif (oO T l0 3 = true) <| elet (T.2.2.1 l0 1) fun v3 => elet (v3 + 1) fun v4 => oif (oO T l0 3 = true) <| elet (uI T l0 1 v4) fun T6 => some (0, 0, T6)
set_option maxHeartbeats 4000000 in
set_option maxRecDepth 100000 in
theorem u_X3_startLine_b13 {p : Program} {l : Launch} {e : Env} {s : State} {m : MethodId} {args : Array Value} {below : List Frame} {meth : Method} {c : Code} {Q : State → Prop} {D : va_G} {A : Nat → Prop} {cI cJ cZ cMic cSrc cSt cAI cAJ : ClassId} {ad : Nat → Nat} {r1 : Int32} {T1 : AT} (E : cE p c cX3_startLine s m args (Cond.code yX3_startLine cX3_startLine 3 none :: wsA) D RX3 (CT cI cJ cZ cMic cSrc cSt cAI cAJ)) (hA : ∀ q : Nat, s.heap.size ≤ q → A q) (hX : xT A s) (hN : nX s) (hml : c.maxLocals = 3) (hst : l.stackTraces = false) (kr23 : ∀ (H : Heap) (locs : List Loc) (ls : Array Slot), gC cI cJ cZ cMic cSrc cSt cAI cAJ D ad A s.heap H locs T1 → W p l e { frames := 7, cells := 0, slots := 0, locals := 103 } s m args below meth c H locs 0 0 Q (F0 m 23 ls [])) : ∀ (T : AT) (H : Heap) (locs : List Loc) (ls : Array Slot) (l0 : Nat), g_X3_startLine_b13 T l0 = some (0, r1, T1) → gC cI cJ cZ cMic cSrc cSt cAI cAJ D ad A s.heap H locs T → lv_has ls 3 [(0, .ref (ad l0))] → W p l e { frames := 7, cells := 0, slots := 0, locals := 103 } s m args below meth c H locs 0 0 Q (F0 m 13 ls []) := by
  have hx := E.1
  have hb := E.2.1
  have hts := E.2.2.1
  have hown := E.2.2.2.1
  have hK := E.2.2.2.2
  intro T H locs ls l0 h G hl
  unfold g_X3_startLine_b13 at h
  refine lv_aload_n hx hb dX3_startLine_13 rfl (lv_at hl 0 rfl) ?_
  refine lv_dup hx hb dX3_startLine_14 rfl ?_
  obtain ⟨g2, h⟩ := oif_some h
  refine c_get E G l0 1 (oO_k g2).1 (cc_o3 (oO_k g2).2) rfl (fun w h => .tail _ (iA_17 h)) (by decide) (.tail _ qA_176) rfl rfl dX3_startLine_15 ?_
  refine lv_topi (fun v3 ev3 => ?_)
  have h := elet_at ev3 h
  clear ev3
  refine lv_iconst (v := 1) hx hb dX3_startLine_18 (by decide) ?_
  refine lv_iadd hx hb dX3_startLine_19 ?_
  refine lv_topi (fun v4 ev4 => ?_)
  have h := elet_at ev4 h
  clear ev4
  obtain ⟨g5, h⟩ := oif_some h
  refine c_put E G l0 1 (v := .int v4) (oO_k g5).1 (cc_o3 (oO_k g5).2) rfl (fun w h => .tail _ (iA_17 h)) tyX3 tyX3_ok nmX3 (by decide) (.tail _ qA_176) ⟨rfl, rfl, rfl⟩ rfl rfl (Nat.le_of_ble_eq_true rfl) dX3_startLine_20 (fun H locs G => ?_)
  have G := gC_up_i (f := upd (T.2.2.1 l0) 1 v4) (by rw [(oO_k g5).2]; rfl) G
  obtain ⟨T6, eT6, h⟩ := elet_some h
  have G : gC cI cJ cZ cMic cSrc cSt cAI cAJ D ad A s.heap H locs T6 := by rw [eT6]; exact G
  clear eT6
  rw [(osome3 h).2.2] at G
  exact kr23 _ _ _ G
def g_X3_startLine (T : AT) (o : Nat) (a0 : Int32) (a1 : Int32) : Option (Nat × Int32 × AT) := if a0 = 0 then (g_X3_startLine_b13 T o) else (oif (oO T o 3 = true) <| elet (T.2.2.1 o 1) fun v4 => oif (oO T o 3 = true) <| othr (g_X3_failAt T o v4 a1) 0 fun r8 T6 => g_X3_startLine_b13 T6 o)
set_option maxHeartbeats 4000000 in
set_option maxRecDepth 100000 in
theorem u_X3_startLine (l : Launch) (hst : l.stackTraces = false) (D : va_G) (cI cJ cZ cMic cSrc cSt cAI cAJ : ClassId) (ad : Nat → Nat) (T : AT) (o : Nat) (a0 : Int32) (a1 : Int32) {r1 : Int32} {T1 : AT} (h : g_X3_startLine T o a0 a1 = some (0, r1, T1)) : kCv l yX3_startLine (Cond.code yX3_startLine cX3_startLine 3 none :: wsA) 7 103 cI cJ cZ cMic cSrc cSt cAI cAJ D ad T [.ref (ad o), .int a0, .int a1] (fun T9 => T9 = T1) := by
  intro sz
  refine Met.ofW (cc := cX3_startLine) (maxL := 3) (ret := none) (by decide) rfl ?_
  intro p e s m args below meth c s₁ B hml hv
  obtain ⟨rfl, hsz, hP, hK, hD0, hX, hN⟩ := hv
  have hx := B.exec
  have hb := B.bytes
  have hr := B.returns
  have hts := atoms_spec (ws := (Cond.code yX3_startLine cX3_startLine 3 none :: wsA)) B.pre
  have hown : s.vm.findClass RX3 = some m.cls := findClass_of_methodNamed B.named
  have hlocks := B.notSynchronized
  subst hsz
  have hD := hD0.self (sz := s.heap.size)
  generalize hAe : va_A (cW ad T.1 (cc cI cJ cZ cMic cSrc cSt cAI cAJ ad T)) s.heap.size = A at hD hX ⊢
  have hA : ∀ q : Nat, s.heap.size ≤ q → A q := fun q h => by rw [← hAe]; exact Or.inr h
  have G : gC cI cJ cZ cMic cSrc cSt cAI cAJ D ad A s.heap s.heap [] T := ⟨hP, hD, va_S.rf⟩
  have E : cE p c cX3_startLine s m ([.ref (ad o), .int a0, .int a1] : List Value).toArray (Cond.code yX3_startLine cX3_startLine 3 none :: wsA) D RX3 (CT cI cJ cZ cMic cSrc cSt cAI cAJ) := ⟨hx, hb, hts, hown, hK⟩
  have hl := lv_entry ([.ref (ad o), .int a0, .int a1]) (n := 3) (Nat.le_of_ble_eq_true rfl)
  rw [lg_entry_eq]
  generalize (lg_sl ([.ref (ad o), .int a0, .int a1]) ++ List.replicate (3 - (lg_sl ([.ref (ad o), .int a0, .int a1])).length) Slot.unset).toArray = ls at hl ⊢
  have hl : lv_has ls 3 [(0, .ref (ad o)), (1, .int a0), (2, .int a1)] := hl
  unfold g_X3_startLine at h
  refine lv_iload_n hx hb dX3_startLine_0 rfl (lv_at hl 1 rfl) ?_
  refine lv_if_eq (tgt := 13) hx hb dX3_startLine_1 (by decide) (fun c2 => ?_) (fun c2 => ?_)
  · have h := oif_pos c2 h
    have hl := lv_sub hl [0] rfl
    exact u_X3_startLine_b13 E hA hX hN hml hst (fun H locs ls G => W.vret hx hb hr (fun t ht hW => ⟨⟨T1, rfl, rfl, ⟨by rw [ht]; exact G.1, va_K.moved hW.alike hK, G.2.1⟩⟩, G.2.2.F ht⟩) G.2.2.2.2 dX3_startLine_23) _ _ _ _ _ h G hl
  · have h := oif_neg c2 h
    refine lv_aload_n hx hb dX3_startLine_4 rfl (lv_at hl 0 rfl) ?_
    refine lv_aload_n hx hb dX3_startLine_5 rfl (lv_at hl 0 rfl) ?_
    obtain ⟨g3, h⟩ := oif_some h
    refine c_get E G o 1 (oO_k g3).1 (cc_o3 (oO_k g3).2) rfl (fun w h => .tail _ (iA_17 h)) (by decide) (.tail _ qA_176) rfl rfl dX3_startLine_6 ?_
    refine lv_topi (fun v4 ev4 => ?_)
    have h := elet_at ev4 h
    clear ev4
    refine lv_iload_n hx hb dX3_startLine_9 rfl (lv_at hl 2 rfl) ?_
    obtain ⟨g5, h⟩ := oif_some h
    obtain ⟨r8, T6, eT6, h⟩ := othr_n h
    refine q_cvv (As := [.int v4, .int a1]) (rest := []) E G hA hX hN hml (u_X3_failAt l hst D cI cJ cZ cMic cSrc cSt cAI cAJ ad T o v4 a1 eT6) (cwV 2 hts (gaV qA_293 qA_294 qA_295 qA_222 qA_296) rfl rfl rfl (by decide +kernel) ⟨Nat.le_of_ble_eq_true rfl, Nat.le_of_ble_eq_true rfl⟩) (oO_k g5).1 (cc_o3 (oO_k g5).2) rfl rfl hl.1 rfl (lv_room (Nat.le_of_ble_eq_true rfl)) dX3_startLine_10 ⟨Nat.zero_le _, Nat.zero_le _⟩ (fun T7 H locs hq G => ?_)
    rw [hq] at G
    clear hq eT6
    have hl := lv_sub hl [0] rfl
    exact u_X3_startLine_b13 E hA hX hN hml hst (fun H locs ls G => W.vret hx hb hr (fun t ht hW => ⟨⟨T1, rfl, rfl, ⟨by rw [ht]; exact G.1, va_K.moved hW.alike hK, G.2.1⟩⟩, G.2.2.F ht⟩) G.2.2.2.2 dX3_startLine_23) _ _ _ _ _ h G hl
set_option maxHeartbeats 4000000 in
set_option maxRecDepth 100000 in
theorem s_X3_startLine_b13 {e1 : Nat} {r1 : Int32} {T1 : AT} : ∀ (T : AT) (l0 : Nat), g_X3_startLine_b13 T l0 = some (e1, r1, T1) → SP T T1 := by
  intro T l0 h
  have p0 := SP.rf T
  unfold g_X3_startLine_b13 at h
  obtain ⟨g2, h⟩ := oif_some h
  obtain ⟨v3, -, h⟩ := elet_some h
  obtain ⟨v4, -, h⟩ := elet_some h
  obtain ⟨g5, h⟩ := oif_some h
  obtain ⟨T6, eT6, h⟩ := elet_some h
  have p1 : SP T T6 := SP.tr p0 (by rw [eT6]; exact sp_uI)
  rw [← (osome3 h).2.2]
  exact p1
set_option maxHeartbeats 4000000 in
set_option maxRecDepth 100000 in
theorem s_X3_startLine {T : AT} {o : Nat} {a0 : Int32} {a1 : Int32} {e1 : Nat} {r1 : Int32} {T1 : AT} (h : g_X3_startLine T o a0 a1 = some (e1, r1, T1)) : SP T T1 := by
  have p0 := SP.rf T
  unfold g_X3_startLine at h
  rcases oif_or h with ⟨c2, h⟩ | ⟨c2, h⟩
  · have h := h
    exact SP.tr p0 (s_X3_startLine_b13 _ _ h)
  · have h := h
    obtain ⟨g3, h⟩ := oif_some h
    obtain ⟨v4, -, h⟩ := elet_some h
    obtain ⟨g5, h⟩ := oif_some h
    rcases othr_s h with ⟨k9, r9, e9, -⟩ | ⟨r7, T6, eT6, h⟩
    · exact SP.tr p0 (s_X3_failAt e9)
    have p1 : SP T T6 := SP.tr p0 (s_X3_failAt eT6)
    exact SP.tr p1 (s_X3_startLine_b13 _ _ h)
set_option maxHeartbeats 4000000 in
set_option maxRecDepth 100000 in
theorem x_X3_startLine_b13 {p : Program} {l : Launch} {e : Env} {s : State} {m : MethodId} {args : Array Value} {below : List Frame} {meth : Method} {c : Code} {Qc : Array Value → State → Outcome → State → Prop} {XC : String → State → State → Prop} {D : va_G} {A : Nat → Prop} {cI cJ cZ cMic cSrc cSt cAI cAJ : ClassId} {ad : Nat → Nat} {e1 : Nat} {r1 : Int32} {T1 : AT} (E : cE p c cX3_startLine s m args (Cond.code yX3_startLine cX3_startLine 3 none :: wsA) D RX3 (CT cI cJ cZ cMic cSrc cSt cAI cAJ)) (hA : ∀ q : Nat, s.heap.size ≤ q → A q) (hX : xT A s) (hN : nX s) (hml : c.maxLocals = 3) (hz9 : True) (hst : l.stackTraces = false) (htab : ∀ x ∈ c.exceptionTable.toList, False) (hlocks : meth.locks = false) (kx : ∀ (H : Heap) (locs : List Loc) (t : State), gC cI cJ cZ cMic cSrc cSt cAI cAJ D ad A s.heap H locs T1 → s.vm.Alike t.vm → H.size ≤ t.heap.size → (∀ q, q < H.size → t.heap[q]? = H[q]?) → XC (exn e1) s t) : ∀ (T : AT) (H : Heap) (locs : List Loc) (ls : Array Slot) (l0 : Nat), g_X3_startLine_b13 T l0 = some (e1 + 1, r1, T1) → gC cI cJ cZ cMic cSrc cSt cAI cAJ D ad A s.heap H locs T → lv_has ls 3 [(0, .ref (ad l0))] → W p l e { frames := 7, cells := 1, slots := 6, locals := 103 } s m args below meth c H locs 0 0 (vx_MQ below Qc XC args s 1 6 A) (F0 m 13 ls []) := by
  have hx := E.1
  have hb := E.2.1
  have hts := E.2.2.1
  have hown := E.2.2.2.1
  have hK := E.2.2.2.2
  intro T H locs ls l0 h G hl
  unfold g_X3_startLine_b13 at h
  refine lv_aload_n hx hb dX3_startLine_13 rfl (lv_at hl 0 rfl) ?_
  refine lv_dup hx hb dX3_startLine_14 rfl ?_
  obtain ⟨g2, h⟩ := oif_some h
  refine c_get E G l0 1 (oO_k g2).1 (cc_o3 (oO_k g2).2) rfl (fun w h => .tail _ (iA_17 h)) (by decide) (.tail _ qA_176) rfl rfl dX3_startLine_15 ?_
  refine lv_topi (fun v3 ev3 => ?_)
  have h := elet_at ev3 h
  clear ev3
  refine lv_iconst (v := 1) hx hb dX3_startLine_18 (by decide) ?_
  refine lv_iadd hx hb dX3_startLine_19 ?_
  refine lv_topi (fun v4 ev4 => ?_)
  have h := elet_at ev4 h
  clear ev4
  obtain ⟨g5, h⟩ := oif_some h
  refine c_put E G l0 1 (v := .int v4) (oO_k g5).1 (cc_o3 (oO_k g5).2) rfl (fun w h => .tail _ (iA_17 h)) tyX3 tyX3_ok nmX3 (by decide) (.tail _ qA_176) ⟨rfl, rfl, rfl⟩ rfl rfl (Nat.le_of_ble_eq_true rfl) dX3_startLine_20 (fun H locs G => ?_)
  have G := gC_up_i (f := upd (T.2.2.1 l0) 1 v4) (by rw [(oO_k g5).2]; rfl) G
  obtain ⟨T6, eT6, h⟩ := elet_some h
  have G : gC cI cJ cZ cMic cSrc cSt cAI cAJ D ad A s.heap H locs T6 := by rw [eT6]; exact G
  clear eT6
  exact (Nat.succ_ne_zero _ (congrArg Prod.fst (Option.some.inj h)).symm).elim
set_option maxHeartbeats 4000000 in
set_option maxRecDepth 100000 in
theorem x_X3_startLine (l : Launch) (hst : l.stackTraces = false) (D : va_G) (cI cJ cZ cMic cSrc cSt cAI cAJ : ClassId) (ad : Nat → Nat) (T : AT) (o : Nat) (a0 : Int32) (a1 : Int32) {e1 : Nat} {r1 : Int32} {T1 : AT} (h : g_X3_startLine T o a0 a1 = some (e1 + 1, r1, T1)) : kXv l yX3_startLine (Cond.code yX3_startLine cX3_startLine 3 none :: wsA) 7 103 cI cJ cZ cMic cSrc cSt cAI cAJ D ad T [.ref (ad o), .int a0, .int a1] e1 T1 := by
  intro sz
  refine vx_ofW (cc := cX3_startLine) (maxL := 3) (ret := none) (by decide) rfl ?_
  intro p e s m args below meth c s₁ B hml htab hv
  obtain ⟨rfl, hsz, hP, hK, hD0, hX, hN⟩ := hv
  have hx := B.exec
  have hb := B.bytes
  have hr := B.returns
  have hts := atoms_spec (ws := (Cond.code yX3_startLine cX3_startLine 3 none :: wsA)) B.pre
  have hown : s.vm.findClass RX3 = some m.cls := findClass_of_methodNamed B.named
  have hlocks := B.notSynchronized
  subst hsz
  have hD := hD0.self (sz := s.heap.size)
  generalize hAe : va_A (cW ad T.1 (cc cI cJ cZ cMic cSrc cSt cAI cAJ ad T)) s.heap.size = A at hD hX ⊢
  have hA : ∀ q : Nat, s.heap.size ≤ q → A q := fun q h => by rw [← hAe]; exact Or.inr h
  have G : gC cI cJ cZ cMic cSrc cSt cAI cAJ D ad A s.heap s.heap [] T := ⟨hP, hD, va_S.rf⟩
  have E : cE p c cX3_startLine s m ([.ref (ad o), .int a0, .int a1] : List Value).toArray (Cond.code yX3_startLine cX3_startLine 3 none :: wsA) D RX3 (CT cI cJ cZ cMic cSrc cSt cAI cAJ) := ⟨hx, hb, hts, hown, hK⟩
  have htab : ∀ x ∈ c.exceptionTable.toList, False := fun x hx => htab x hx
  have hl := lv_entry ([.ref (ad o), .int a0, .int a1]) (n := 3) (Nat.le_of_ble_eq_true rfl)
  rw [lg_entry_eq]
  generalize (lg_sl ([.ref (ad o), .int a0, .int a1]) ++ List.replicate (3 - (lg_sl ([.ref (ad o), .int a0, .int a1])).length) Slot.unset).toArray = ls at hl ⊢
  have hl : lv_has ls 3 [(0, .ref (ad o)), (1, .int a0), (2, .int a1)] := hl
  unfold g_X3_startLine at h
  refine lv_iload_n hx hb dX3_startLine_0 rfl (lv_at hl 1 rfl) ?_
  refine lv_if_eq (tgt := 13) hx hb dX3_startLine_1 (by decide) (fun c2 => ?_) (fun c2 => ?_)
  · have h := oif_pos c2 h
    have hl := lv_sub hl [0] rfl
    exact x_X3_startLine_b13 E hA hX hN hml trivial hst htab hlocks (fun H locs t G hvm h1 h2 => ⟨T1, trivial, ⟨⟨rfl, rfl⟩, (c_thrown G hK hvm h1 h2).1⟩, (c_thrown G hK hvm h1 h2).2⟩) _ _ _ _ _ h G hl
  · have h := oif_neg c2 h
    refine lv_aload_n hx hb dX3_startLine_4 rfl (lv_at hl 0 rfl) ?_
    refine lv_aload_n hx hb dX3_startLine_5 rfl (lv_at hl 0 rfl) ?_
    obtain ⟨g3, h⟩ := oif_some h
    refine c_get E G o 1 (oO_k g3).1 (cc_o3 (oO_k g3).2) rfl (fun w h => .tail _ (iA_17 h)) (by decide) (.tail _ qA_176) rfl rfl dX3_startLine_6 ?_
    refine lv_topi (fun v4 ev4 => ?_)
    have h := elet_at ev4 h
    clear ev4
    refine lv_iload_n hx hb dX3_startLine_9 rfl (lv_at hl 2 rfl) ?_
    obtain ⟨g5, h⟩ := oif_some h
    rcases othr_t h with ⟨r0, eT6⟩ | ⟨r8, T6, eT6, h⟩
    · refine q_xvv (As := [.int v4, .int a1]) (rest := []) E G hA hX hN hml (x_X3_failAt l hst D cI cJ cZ cMic cSrc cSt cAI cAJ ad T o v4 a1 eT6) (cwV 2 hts (gaV qA_293 qA_294 qA_295 qA_222 qA_296) rfl rfl rfl (by decide +kernel) ⟨Nat.le_of_ble_eq_true rfl, Nat.le_of_ble_eq_true rfl⟩) (oO_k g5).1 (cc_o3 (oO_k g5).2) rfl rfl hl.1 rfl (lv_room (Nat.le_of_ble_eq_true rfl)) dX3_startLine_10 ⟨Nat.le_of_ble_eq_true rfl, Nat.le_of_ble_eq_true rfl⟩ (fun E9 ce q9 T9 H locs hp G hce hcv hcl => ?_)
      obtain ⟨hE, hT⟩ := hp
      subst hE
      rw [hT] at G
      exact vx_out (fun x hx => (htab x hx).elim) hlocks hce hcv hcl (fun t ht hvm => ⟨T1, trivial, ⟨⟨rfl, rfl⟩, by rw [ht]; exact G.1, va_K.moved hvm hK, G.2.1⟩, G.2.2.F ht⟩) G.2.2.2.2 (Nat.le_refl _) (Nat.le_refl _)
    refine q_cvv (As := [.int v4, .int a1]) (rest := []) E G hA hX hN hml (u_X3_failAt l hst D cI cJ cZ cMic cSrc cSt cAI cAJ ad T o v4 a1 eT6) (cwV 2 hts (gaV qA_293 qA_294 qA_295 qA_222 qA_296) rfl rfl rfl (by decide +kernel) ⟨Nat.le_of_ble_eq_true rfl, Nat.le_of_ble_eq_true rfl⟩) (oO_k g5).1 (cc_o3 (oO_k g5).2) rfl rfl hl.1 rfl (lv_room (Nat.le_of_ble_eq_true rfl)) dX3_startLine_10 ⟨Nat.zero_le _, Nat.zero_le _⟩ (fun T7 H locs hq G => ?_)
    rw [hq] at G
    clear hq eT6
    have hl := lv_sub hl [0] rfl
    exact x_X3_startLine_b13 E hA hX hN hml trivial hst htab hlocks (fun H locs t G hvm h1 h2 => ⟨T1, trivial, ⟨⟨rfl, rfl⟩, (c_thrown G hK hvm h1 h2).1⟩, (c_thrown G hK hvm h1 h2).2⟩) _ _ _ _ _ h G hl
def g_X3_parseOff_b41  (T : AT) (l1 : Nat) (l2 : Int32) : Option (Nat × Int32 × AT) := oif (oO T l1 6 = true) <| obind (T.2.2.2.2 l1 7) fun n3 => oif (aA T n3 104 = true) <| oif (inb l2 (T.2.1 n3).2 = true) <| obind (T.2.2.2.2 n3 l2.toNatClampNeg) fun n6 => oif (oO T n6 7 = true) <| elet (uI T n6 9 1) fun T8 => some (0, 0, T8)
set_option maxHeartbeats 4000000 in
set_option maxRecDepth 100000 in
theorem u_X3_parseOff_b41 {p : Program} {l : Launch} {e : Env} {s : State} {m : MethodId} {args : Array Value} {below : List Frame} {meth : Method} {c : Code} {Q : State → Prop} {D : va_G} {A : Nat → Prop} {cI cJ cZ cMic cSrc cSt cAI cAJ : ClassId} {ad : Nat → Nat} {r1 : Int32} {T1 : AT} (E : cE p c cX3_parseOff s m args (Cond.code yX3_parseOff cX3_parseOff 3 none :: wsA) D RX3 (CT cI cJ cZ cMic cSrc cSt cAI cAJ)) (hA : ∀ q : Nat, s.heap.size ≤ q → A q) (hX : xT A s) (hN : nX s) (hml : c.maxLocals = 3) (hst : l.stackTraces = false) (kr51 : ∀ (H : Heap) (locs : List Loc) (ls : Array Slot), gC cI cJ cZ cMic cSrc cSt cAI cAJ D ad A s.heap H locs T1 → W p l e { frames := 8, cells := 0, slots := 0, locals := 126 } s m args below meth c H locs 0 0 Q (F0 m 51 ls [])) : ∀ (T : AT) (H : Heap) (locs : List Loc) (ls : Array Slot) (l1 : Nat) (l2 : Int32), g_X3_parseOff_b41 T l1 l2 = some (0, r1, T1) → gC cI cJ cZ cMic cSrc cSt cAI cAJ D ad A s.heap H locs T → lv_has ls 3 [(1, .ref (ad l1)), (2, .int l2)] → W p l e { frames := 8, cells := 0, slots := 0, locals := 126 } s m args below meth c H locs 0 0 Q (F0 m 41 ls []) := by
  have hx := E.1
  have hb := E.2.1
  have hts := E.2.2.1
  have hown := E.2.2.2.1
  have hK := E.2.2.2.2
  intro T H locs ls l1 l2 h G hl
  unfold g_X3_parseOff_b41 at h
  refine lv_aload_n hx hb dX3_parseOff_41 rfl (lv_at hl 0 rfl) ?_
  obtain ⟨g2, h⟩ := oif_some h
  obtain ⟨n3, en3, h⟩ := obind_some h
  refine c_get E G l1 7 (v := .ref (ad n3)) (oO_k g2).1 (cc_o6 (oO_k g2).2) rfl (fun w h => .tail _ (iA_14 h)) (by decide) (.tail _ qA_344) rfl (by rw [en3]; rfl) dX3_parseOff_42 ?_
  clear en3
  refine lv_iload_n hx hb dX3_parseOff_45 rfl (lv_at hl 1 rfl) ?_
  obtain ⟨g4, h⟩ := oif_some h
  obtain ⟨g5, h⟩ := oif_some h
  obtain ⟨n6, en6, h⟩ := obind_some h
  refine c_aldq E G n3 4 (k := l2.toNatClampNeg) (v := .ref (ad n6)) (aA_k g4).1 (cc_a104 (aA_k g4).2.1) rfl (inb_k g5).1 (inb_k g5).2 (aA_k g4).2.2 (by show va_rf ((T.2.2.2.2 n3 l2.toNatClampNeg).map ad) = _; rw [en6]; rfl) dX3_parseOff_46 ?_
  clear en6
  refine lv_iconst (v := 1) hx hb dX3_parseOff_47 (by decide) ?_
  obtain ⟨g7, h⟩ := oif_some h
  refine c_put E G n6 9 (v := .int 1) (oO_k g7).1 (cc_o7 (oO_k g7).2) rfl (fun w h => .tail _ (iA_20 h)) tyX7 tyX7_ok nmX7 (by decide) (.tail _ qA_354) ⟨rfl, rfl, rfl⟩ rfl rfl (Nat.le_of_ble_eq_true rfl) dX3_parseOff_48 (fun H locs G => ?_)
  have G := gC_up_i (f := upd (T.2.2.1 n6) 9 1) (by rw [(oO_k g7).2]; rfl) G
  obtain ⟨T8, eT8, h⟩ := elet_some h
  have G : gC cI cJ cZ cMic cSrc cSt cAI cAJ D ad A s.heap H locs T8 := by rw [eT8]; exact G
  clear eT8
  rw [(osome3 h).2.2] at G
  exact kr51 _ _ _ G
def g_X3_parseOff (T : AT) (o : Nat) (a0 : Nat) : Option (Nat × Int32 × AT) := oif (oO T o 3 = true) <| othr (g_X3_startLine T o (0 : Int32) (3 : Int32)) 0 fun r5 T3 => oif (oO T3 a0 6 = true) <| elet (T3.2.2.1 a0 8) fun v8 => elet (v8 - 1) fun v9 => oif (oO T3 o 3 = true) <| othr (g_X3_number T3 o (0 : Int32) v9) 0 fun r13 T11 => oif (oO T11 a0 6 = true) <| obind (T11.2.2.2.2 a0 7) fun n16 => oif (aA T11 n16 104 = true) <| oif (inb r13 (T11.2.1 n16).2 = true) <| obind (T11.2.2.2.2 n16 r13.toNatClampNeg) fun n19 => oif (oO T11 n19 7 = true) <| elet (T11.2.2.1 n19 9) fun v21 => if v21 = 0 then (g_X3_parseOff_b41 T11 a0 r13) else (oif (oO T11 o 3 = true) <| elet (T11.2.2.1 o 1) fun v24 => elet (v24 - 1) fun v25 => oif (oO T11 o 3 = true) <| othr (g_X3_failAt T11 o v25 (3 : Int32)) 0 fun r29 T27 => g_X3_parseOff_b41 T27 a0 r13)
set_option maxHeartbeats 4000000 in
set_option maxRecDepth 100000 in
theorem u_X3_parseOff (l : Launch) (hst : l.stackTraces = false) (D : va_G) (cI cJ cZ cMic cSrc cSt cAI cAJ : ClassId) (ad : Nat → Nat) (T : AT) (o : Nat) (a0 : Nat) {r1 : Int32} {T1 : AT} (h : g_X3_parseOff T o a0 = some (0, r1, T1)) : kCv l yX3_parseOff (Cond.code yX3_parseOff cX3_parseOff 3 none :: wsA) 8 126 cI cJ cZ cMic cSrc cSt cAI cAJ D ad T [.ref (ad o), .ref (ad a0)] (fun T9 => T9 = T1) := by
  intro sz
  refine Met.ofW (cc := cX3_parseOff) (maxL := 3) (ret := none) (by decide) rfl ?_
  intro p e s m args below meth c s₁ B hml hv
  obtain ⟨rfl, hsz, hP, hK, hD0, hX, hN⟩ := hv
  have hx := B.exec
  have hb := B.bytes
  have hr := B.returns
  have hts := atoms_spec (ws := (Cond.code yX3_parseOff cX3_parseOff 3 none :: wsA)) B.pre
  have hown : s.vm.findClass RX3 = some m.cls := findClass_of_methodNamed B.named
  have hlocks := B.notSynchronized
  subst hsz
  have hD := hD0.self (sz := s.heap.size)
  generalize hAe : va_A (cW ad T.1 (cc cI cJ cZ cMic cSrc cSt cAI cAJ ad T)) s.heap.size = A at hD hX ⊢
  have hA : ∀ q : Nat, s.heap.size ≤ q → A q := fun q h => by rw [← hAe]; exact Or.inr h
  have G : gC cI cJ cZ cMic cSrc cSt cAI cAJ D ad A s.heap s.heap [] T := ⟨hP, hD, va_S.rf⟩
  have E : cE p c cX3_parseOff s m ([.ref (ad o), .ref (ad a0)] : List Value).toArray (Cond.code yX3_parseOff cX3_parseOff 3 none :: wsA) D RX3 (CT cI cJ cZ cMic cSrc cSt cAI cAJ) := ⟨hx, hb, hts, hown, hK⟩
  have hl := lv_entry ([.ref (ad o), .ref (ad a0)]) (n := 3) (Nat.le_of_ble_eq_true rfl)
  rw [lg_entry_eq]
  generalize (lg_sl ([.ref (ad o), .ref (ad a0)]) ++ List.replicate (3 - (lg_sl ([.ref (ad o), .ref (ad a0)])).length) Slot.unset).toArray = ls at hl ⊢
  have hl : lv_has ls 3 [(0, .ref (ad o)), (1, .ref (ad a0))] := hl
  unfold g_X3_parseOff at h
  refine lv_aload_n hx hb dX3_parseOff_0 rfl (lv_at hl 0 rfl) ?_
  refine lv_iconst (v := 0) hx hb dX3_parseOff_1 (by decide) ?_
  refine lv_iconst (v := 3) hx hb dX3_parseOff_2 (by decide) ?_
  obtain ⟨g2, h⟩ := oif_some h
  obtain ⟨r5, T3, eT3, h⟩ := othr_n h
  refine q_cvv (As := [.int 0, .int 3]) (rest := []) E G hA hX hN hml (u_X3_startLine l hst D cI cJ cZ cMic cSrc cSt cAI cAJ ad T o (0 : Int32) (3 : Int32) eT3) (cwV 2 hts (gaV qA_321 qA_322 qA_323 qA_222 qA_324) rfl rfl rfl (by decide +kernel) ⟨Nat.le_of_ble_eq_true rfl, Nat.le_of_ble_eq_true rfl⟩) (oO_k g2).1 (cc_o3 (oO_k g2).2) rfl rfl hl.1 rfl (lv_room (Nat.le_of_ble_eq_true rfl)) dX3_parseOff_3 ⟨Nat.zero_le _, Nat.zero_le _⟩ (fun T4 H locs hq G => ?_)
  rw [hq] at G
  clear hq eT3
  refine lv_aload_n hx hb dX3_parseOff_6 rfl (lv_at hl 0 rfl) ?_
  refine lv_iconst (v := 0) hx hb dX3_parseOff_7 (by decide) ?_
  refine lv_aload_n hx hb dX3_parseOff_8 rfl (lv_at hl 1 rfl) ?_
  obtain ⟨g7, h⟩ := oif_some h
  refine c_get E G a0 8 (oO_k g7).1 (cc_o6 (oO_k g7).2) rfl (fun w h => .tail _ (iA_14 h)) (by decide) (.tail _ qA_343) rfl rfl dX3_parseOff_9 ?_
  refine lv_topi (fun v8 ev8 => ?_)
  have h := elet_at ev8 h
  clear ev8
  refine lv_iconst (v := 1) hx hb dX3_parseOff_12 (by decide) ?_
  refine lv_isub hx hb dX3_parseOff_13 ?_
  refine lv_topi (fun v9 ev9 => ?_)
  have h := elet_at ev9 h
  clear ev9
  obtain ⟨g10, h⟩ := oif_some h
  obtain ⟨r13, T11, eT11, h⟩ := othr_n h
  refine q_cvi (As := [.int 0, .int v9]) (rest := []) E G hA hX hN hml (u_X3_number l hst D cI cJ cZ cMic cSrc cSt cAI cAJ ad T3 o (0 : Int32) v9 eT11) (cwV 2 hts (gaV qA_299 qA_300 qA_301 qA_222 qA_302) rfl rfl rfl (by decide +kernel) ⟨Nat.le_of_ble_eq_true rfl, Nat.le_of_ble_eq_true rfl⟩) (oO_k g10).1 (cc_o3 (oO_k g10).2) rfl rfl hl.1 rfl (lv_room (Nat.le_of_ble_eq_true rfl)) dX3_parseOff_14 ⟨Nat.zero_le _, Nat.zero_le _⟩ (fun q14 T12 H locs hq G => ?_)
  obtain ⟨hq1, hq2⟩ := hq
  rw [hq2] at G
  refine lv_to hq1 ?_
  clear hq1 hq2 eT11
  refine lv_istore_n (lv' := [(2, .int r13), (0, .ref (ad o)), (1, .ref (ad a0))]) hx hb dX3_parseOff_17 rfl hl (by decide) rfl (fun ls hl => ?_)
  refine lv_aload_n hx hb dX3_parseOff_18 rfl (lv_at hl 2 rfl) ?_
  obtain ⟨g15, h⟩ := oif_some h
  obtain ⟨n16, en16, h⟩ := obind_some h
  refine c_get E G a0 7 (v := .ref (ad n16)) (oO_k g15).1 (cc_o6 (oO_k g15).2) rfl (fun w h => .tail _ (iA_14 h)) (by decide) (.tail _ qA_344) rfl (by rw [en16]; rfl) dX3_parseOff_19 ?_
  clear en16
  refine lv_iload_n hx hb dX3_parseOff_22 rfl (lv_at hl 0 rfl) ?_
  obtain ⟨g17, h⟩ := oif_some h
  obtain ⟨g18, h⟩ := oif_some h
  obtain ⟨n19, en19, h⟩ := obind_some h
  refine c_aldq E G n16 4 (k := r13.toNatClampNeg) (v := .ref (ad n19)) (aA_k g17).1 (cc_a104 (aA_k g17).2.1) rfl (inb_k g18).1 (inb_k g18).2 (aA_k g17).2.2 (by show va_rf ((T11.2.2.2.2 n16 r13.toNatClampNeg).map ad) = _; rw [en19]; rfl) dX3_parseOff_23 ?_
  clear en19
  obtain ⟨g20, h⟩ := oif_some h
  refine c_get E G n19 9 (oO_k g20).1 (cc_o7 (oO_k g20).2) rfl (fun w h => .tail _ (iA_20 h)) (by decide) (.tail _ qA_354) rfl rfl dX3_parseOff_24 ?_
  refine lv_topi (fun v21 ev21 => ?_)
  have h := elet_at ev21 h
  clear ev21
  refine lv_if_eq (tgt := 41) hx hb dX3_parseOff_27 (by decide) (fun c22 => ?_) (fun c22 => ?_)
  · have h := oif_pos c22 h
    have hl := lv_sub hl [2, 0] rfl
    exact u_X3_parseOff_b41 E hA hX hN hml hst (fun H locs ls G => W.vret hx hb hr (fun t ht hW => ⟨⟨T1, rfl, rfl, ⟨by rw [ht]; exact G.1, va_K.moved hW.alike hK, G.2.1⟩⟩, G.2.2.F ht⟩) G.2.2.2.2 dX3_parseOff_51) _ _ _ _ _ _ h G hl
  · have h := oif_neg c22 h
    refine lv_aload_n hx hb dX3_parseOff_30 rfl (lv_at hl 1 rfl) ?_
    refine lv_aload_n hx hb dX3_parseOff_31 rfl (lv_at hl 1 rfl) ?_
    obtain ⟨g23, h⟩ := oif_some h
    refine c_get E G o 1 (oO_k g23).1 (cc_o3 (oO_k g23).2) rfl (fun w h => .tail _ (iA_17 h)) (by decide) (.tail _ qA_176) rfl rfl dX3_parseOff_32 ?_
    refine lv_topi (fun v24 ev24 => ?_)
    have h := elet_at ev24 h
    clear ev24
    refine lv_iconst (v := 1) hx hb dX3_parseOff_35 (by decide) ?_
    refine lv_isub hx hb dX3_parseOff_36 ?_
    refine lv_topi (fun v25 ev25 => ?_)
    have h := elet_at ev25 h
    clear ev25
    refine lv_iconst (v := 3) hx hb dX3_parseOff_37 (by decide) ?_
    obtain ⟨g26, h⟩ := oif_some h
    obtain ⟨r29, T27, eT27, h⟩ := othr_n h
    refine q_cvv (As := [.int v25, .int 3]) (rest := []) E G hA hX hN hml (u_X3_failAt l hst D cI cJ cZ cMic cSrc cSt cAI cAJ ad T11 o v25 (3 : Int32) eT27) (cwV 2 hts (gaV qA_293 qA_294 qA_295 qA_222 qA_296) rfl rfl rfl (by decide +kernel) ⟨Nat.le_of_ble_eq_true rfl, Nat.le_of_ble_eq_true rfl⟩) (oO_k g26).1 (cc_o3 (oO_k g26).2) rfl rfl hl.1 rfl (lv_room (Nat.le_of_ble_eq_true rfl)) dX3_parseOff_38 ⟨Nat.zero_le _, Nat.zero_le _⟩ (fun T28 H locs hq G => ?_)
    rw [hq] at G
    clear hq eT27
    have hl := lv_sub hl [2, 0] rfl
    exact u_X3_parseOff_b41 E hA hX hN hml hst (fun H locs ls G => W.vret hx hb hr (fun t ht hW => ⟨⟨T1, rfl, rfl, ⟨by rw [ht]; exact G.1, va_K.moved hW.alike hK, G.2.1⟩⟩, G.2.2.F ht⟩) G.2.2.2.2 dX3_parseOff_51) _ _ _ _ _ _ h G hl
set_option maxHeartbeats 4000000 in
set_option maxRecDepth 100000 in
theorem s_X3_parseOff_b41 {e1 : Nat} {r1 : Int32} {T1 : AT} : ∀ (T : AT) (l1 : Nat) (l2 : Int32), g_X3_parseOff_b41 T l1 l2 = some (e1, r1, T1) → SP T T1 := by
  intro T l1 l2 h
  have p0 := SP.rf T
  unfold g_X3_parseOff_b41 at h
  obtain ⟨g2, h⟩ := oif_some h
  obtain ⟨n3, en3, h⟩ := obind_some h
  obtain ⟨g4, h⟩ := oif_some h
  obtain ⟨g5, h⟩ := oif_some h
  obtain ⟨n6, en6, h⟩ := obind_some h
  obtain ⟨g7, h⟩ := oif_some h
  obtain ⟨T8, eT8, h⟩ := elet_some h
  have p1 : SP T T8 := SP.tr p0 (by rw [eT8]; exact sp_uI)
  rw [← (osome3 h).2.2]
  exact p1
set_option maxHeartbeats 4000000 in
set_option maxRecDepth 100000 in
theorem s_X3_parseOff {T : AT} {o : Nat} {a0 : Nat} {e1 : Nat} {r1 : Int32} {T1 : AT} (h : g_X3_parseOff T o a0 = some (e1, r1, T1)) : SP T T1 := by
  have p0 := SP.rf T
  unfold g_X3_parseOff at h
  obtain ⟨g2, h⟩ := oif_some h
  rcases othr_s h with ⟨k9, r9, e9, -⟩ | ⟨r4, T3, eT3, h⟩
  · exact SP.tr p0 (s_X3_startLine e9)
  have p1 : SP T T3 := SP.tr p0 (s_X3_startLine eT3)
  obtain ⟨g5, h⟩ := oif_some h
  obtain ⟨v6, -, h⟩ := elet_some h
  obtain ⟨v7, -, h⟩ := elet_some h
  obtain ⟨g8, h⟩ := oif_some h
  rcases othr_s h with ⟨k9, r9, e9, -⟩ | ⟨r10, T9, eT9, h⟩
  · exact SP.tr p1 (s_X3_number e9)
  have p2 : SP T T9 := SP.tr p1 (s_X3_number eT9)
  obtain ⟨g11, h⟩ := oif_some h
  obtain ⟨n12, en12, h⟩ := obind_some h
  obtain ⟨g13, h⟩ := oif_some h
  obtain ⟨g14, h⟩ := oif_some h
  obtain ⟨n15, en15, h⟩ := obind_some h
  obtain ⟨g16, h⟩ := oif_some h
  obtain ⟨v17, -, h⟩ := elet_some h
  rcases oif_or h with ⟨c18, h⟩ | ⟨c18, h⟩
  · have h := h
    exact SP.tr p2 (s_X3_parseOff_b41 _ _ _ h)
  · have h := h
    obtain ⟨g19, h⟩ := oif_some h
    obtain ⟨v20, -, h⟩ := elet_some h
    obtain ⟨v21, -, h⟩ := elet_some h
    obtain ⟨g22, h⟩ := oif_some h
    rcases othr_s h with ⟨k9, r9, e9, -⟩ | ⟨r24, T23, eT23, h⟩
    · exact SP.tr p2 (s_X3_failAt e9)
    have p3 : SP T T23 := SP.tr p2 (s_X3_failAt eT23)
    exact SP.tr p3 (s_X3_parseOff_b41 _ _ _ h)
set_option maxHeartbeats 4000000 in
set_option maxRecDepth 100000 in
theorem x_X3_parseOff_b41 {p : Program} {l : Launch} {e : Env} {s : State} {m : MethodId} {args : Array Value} {below : List Frame} {meth : Method} {c : Code} {Qc : Array Value → State → Outcome → State → Prop} {XC : String → State → State → Prop} {D : va_G} {A : Nat → Prop} {cI cJ cZ cMic cSrc cSt cAI cAJ : ClassId} {ad : Nat → Nat} {e1 : Nat} {r1 : Int32} {T1 : AT} (E : cE p c cX3_parseOff s m args (Cond.code yX3_parseOff cX3_parseOff 3 none :: wsA) D RX3 (CT cI cJ cZ cMic cSrc cSt cAI cAJ)) (hA : ∀ q : Nat, s.heap.size ≤ q → A q) (hX : xT A s) (hN : nX s) (hml : c.maxLocals = 3) (hz9 : True) (hst : l.stackTraces = false) (htab : ∀ x ∈ c.exceptionTable.toList, False) (hlocks : meth.locks = false) (kx : ∀ (H : Heap) (locs : List Loc) (t : State), gC cI cJ cZ cMic cSrc cSt cAI cAJ D ad A s.heap H locs T1 → s.vm.Alike t.vm → H.size ≤ t.heap.size → (∀ q, q < H.size → t.heap[q]? = H[q]?) → XC (exn e1) s t) : ∀ (T : AT) (H : Heap) (locs : List Loc) (ls : Array Slot) (l1 : Nat) (l2 : Int32), g_X3_parseOff_b41 T l1 l2 = some (e1 + 1, r1, T1) → gC cI cJ cZ cMic cSrc cSt cAI cAJ D ad A s.heap H locs T → lv_has ls 3 [(1, .ref (ad l1)), (2, .int l2)] → W p l e { frames := 8, cells := 1, slots := 6, locals := 126 } s m args below meth c H locs 0 0 (vx_MQ below Qc XC args s 1 6 A) (F0 m 41 ls []) := by
  have hx := E.1
  have hb := E.2.1
  have hts := E.2.2.1
  have hown := E.2.2.2.1
  have hK := E.2.2.2.2
  intro T H locs ls l1 l2 h G hl
  unfold g_X3_parseOff_b41 at h
  refine lv_aload_n hx hb dX3_parseOff_41 rfl (lv_at hl 0 rfl) ?_
  obtain ⟨g2, h⟩ := oif_some h
  obtain ⟨n3, en3, h⟩ := obind_some h
  refine c_get E G l1 7 (v := .ref (ad n3)) (oO_k g2).1 (cc_o6 (oO_k g2).2) rfl (fun w h => .tail _ (iA_14 h)) (by decide) (.tail _ qA_344) rfl (by rw [en3]; rfl) dX3_parseOff_42 ?_
  clear en3
  refine lv_iload_n hx hb dX3_parseOff_45 rfl (lv_at hl 1 rfl) ?_
  obtain ⟨g4, h⟩ := oif_some h
  obtain ⟨g5, h⟩ := oif_some h
  obtain ⟨n6, en6, h⟩ := obind_some h
  refine c_aldq E G n3 4 (k := l2.toNatClampNeg) (v := .ref (ad n6)) (aA_k g4).1 (cc_a104 (aA_k g4).2.1) rfl (inb_k g5).1 (inb_k g5).2 (aA_k g4).2.2 (by show va_rf ((T.2.2.2.2 n3 l2.toNatClampNeg).map ad) = _; rw [en6]; rfl) dX3_parseOff_46 ?_
  clear en6
  refine lv_iconst (v := 1) hx hb dX3_parseOff_47 (by decide) ?_
  obtain ⟨g7, h⟩ := oif_some h
  refine c_put E G n6 9 (v := .int 1) (oO_k g7).1 (cc_o7 (oO_k g7).2) rfl (fun w h => .tail _ (iA_20 h)) tyX7 tyX7_ok nmX7 (by decide) (.tail _ qA_354) ⟨rfl, rfl, rfl⟩ rfl rfl (Nat.le_of_ble_eq_true rfl) dX3_parseOff_48 (fun H locs G => ?_)
  have G := gC_up_i (f := upd (T.2.2.1 n6) 9 1) (by rw [(oO_k g7).2]; rfl) G
  obtain ⟨T8, eT8, h⟩ := elet_some h
  have G : gC cI cJ cZ cMic cSrc cSt cAI cAJ D ad A s.heap H locs T8 := by rw [eT8]; exact G
  clear eT8
  exact (Nat.succ_ne_zero _ (congrArg Prod.fst (Option.some.inj h)).symm).elim
set_option maxHeartbeats 4000000 in
set_option maxRecDepth 100000 in
theorem x_X3_parseOff (l : Launch) (hst : l.stackTraces = false) (D : va_G) (cI cJ cZ cMic cSrc cSt cAI cAJ : ClassId) (ad : Nat → Nat) (T : AT) (o : Nat) (a0 : Nat) {e1 : Nat} {r1 : Int32} {T1 : AT} (h : g_X3_parseOff T o a0 = some (e1 + 1, r1, T1)) : kXv l yX3_parseOff (Cond.code yX3_parseOff cX3_parseOff 3 none :: wsA) 8 126 cI cJ cZ cMic cSrc cSt cAI cAJ D ad T [.ref (ad o), .ref (ad a0)] e1 T1 := by
  intro sz
  refine vx_ofW (cc := cX3_parseOff) (maxL := 3) (ret := none) (by decide) rfl ?_
  intro p e s m args below meth c s₁ B hml htab hv
  obtain ⟨rfl, hsz, hP, hK, hD0, hX, hN⟩ := hv
  have hx := B.exec
  have hb := B.bytes
  have hr := B.returns
  have hts := atoms_spec (ws := (Cond.code yX3_parseOff cX3_parseOff 3 none :: wsA)) B.pre
  have hown : s.vm.findClass RX3 = some m.cls := findClass_of_methodNamed B.named
  have hlocks := B.notSynchronized
  subst hsz
  have hD := hD0.self (sz := s.heap.size)
  generalize hAe : va_A (cW ad T.1 (cc cI cJ cZ cMic cSrc cSt cAI cAJ ad T)) s.heap.size = A at hD hX ⊢
  have hA : ∀ q : Nat, s.heap.size ≤ q → A q := fun q h => by rw [← hAe]; exact Or.inr h
  have G : gC cI cJ cZ cMic cSrc cSt cAI cAJ D ad A s.heap s.heap [] T := ⟨hP, hD, va_S.rf⟩
  have E : cE p c cX3_parseOff s m ([.ref (ad o), .ref (ad a0)] : List Value).toArray (Cond.code yX3_parseOff cX3_parseOff 3 none :: wsA) D RX3 (CT cI cJ cZ cMic cSrc cSt cAI cAJ) := ⟨hx, hb, hts, hown, hK⟩
  have htab : ∀ x ∈ c.exceptionTable.toList, False := fun x hx => htab x hx
  have hl := lv_entry ([.ref (ad o), .ref (ad a0)]) (n := 3) (Nat.le_of_ble_eq_true rfl)
  rw [lg_entry_eq]
  generalize (lg_sl ([.ref (ad o), .ref (ad a0)]) ++ List.replicate (3 - (lg_sl ([.ref (ad o), .ref (ad a0)])).length) Slot.unset).toArray = ls at hl ⊢
  have hl : lv_has ls 3 [(0, .ref (ad o)), (1, .ref (ad a0))] := hl
  unfold g_X3_parseOff at h
  refine lv_aload_n hx hb dX3_parseOff_0 rfl (lv_at hl 0 rfl) ?_
  refine lv_iconst (v := 0) hx hb dX3_parseOff_1 (by decide) ?_
  refine lv_iconst (v := 3) hx hb dX3_parseOff_2 (by decide) ?_
  obtain ⟨g2, h⟩ := oif_some h
  rcases othr_t h with ⟨r0, eT3⟩ | ⟨r5, T3, eT3, h⟩
  · refine q_xvv (As := [.int 0, .int 3]) (rest := []) E G hA hX hN hml (x_X3_startLine l hst D cI cJ cZ cMic cSrc cSt cAI cAJ ad T o (0 : Int32) (3 : Int32) eT3) (cwV 2 hts (gaV qA_321 qA_322 qA_323 qA_222 qA_324) rfl rfl rfl (by decide +kernel) ⟨Nat.le_of_ble_eq_true rfl, Nat.le_of_ble_eq_true rfl⟩) (oO_k g2).1 (cc_o3 (oO_k g2).2) rfl rfl hl.1 rfl (lv_room (Nat.le_of_ble_eq_true rfl)) dX3_parseOff_3 ⟨Nat.le_of_ble_eq_true rfl, Nat.le_of_ble_eq_true rfl⟩ (fun E9 ce q9 T9 H locs hp G hce hcv hcl => ?_)
    obtain ⟨hE, hT⟩ := hp
    subst hE
    rw [hT] at G
    exact vx_out (fun x hx => (htab x hx).elim) hlocks hce hcv hcl (fun t ht hvm => ⟨T1, trivial, ⟨⟨rfl, rfl⟩, by rw [ht]; exact G.1, va_K.moved hvm hK, G.2.1⟩, G.2.2.F ht⟩) G.2.2.2.2 (Nat.le_refl _) (Nat.le_refl _)
  refine q_cvv (As := [.int 0, .int 3]) (rest := []) E G hA hX hN hml (u_X3_startLine l hst D cI cJ cZ cMic cSrc cSt cAI cAJ ad T o (0 : Int32) (3 : Int32) eT3) (cwV 2 hts (gaV qA_321 qA_322 qA_323 qA_222 qA_324) rfl rfl rfl (by decide +kernel) ⟨Nat.le_of_ble_eq_true rfl, Nat.le_of_ble_eq_true rfl⟩) (oO_k g2).1 (cc_o3 (oO_k g2).2) rfl rfl hl.1 rfl (lv_room (Nat.le_of_ble_eq_true rfl)) dX3_parseOff_3 ⟨Nat.zero_le _, Nat.zero_le _⟩ (fun T4 H locs hq G => ?_)
  rw [hq] at G
  clear hq eT3
  refine lv_aload_n hx hb dX3_parseOff_6 rfl (lv_at hl 0 rfl) ?_
  refine lv_iconst (v := 0) hx hb dX3_parseOff_7 (by decide) ?_
  refine lv_aload_n hx hb dX3_parseOff_8 rfl (lv_at hl 1 rfl) ?_
  obtain ⟨g7, h⟩ := oif_some h
  refine c_get E G a0 8 (oO_k g7).1 (cc_o6 (oO_k g7).2) rfl (fun w h => .tail _ (iA_14 h)) (by decide) (.tail _ qA_343) rfl rfl dX3_parseOff_9 ?_
  refine lv_topi (fun v8 ev8 => ?_)
  have h := elet_at ev8 h
  clear ev8
  refine lv_iconst (v := 1) hx hb dX3_parseOff_12 (by decide) ?_
  refine lv_isub hx hb dX3_parseOff_13 ?_
  refine lv_topi (fun v9 ev9 => ?_)
  have h := elet_at ev9 h
  clear ev9
  obtain ⟨g10, h⟩ := oif_some h
  rcases othr_t h with ⟨r0, eT11⟩ | ⟨r13, T11, eT11, h⟩
  · refine q_xvi (As := [.int 0, .int v9]) (rest := []) E G hA hX hN hml (x_X3_number l hst D cI cJ cZ cMic cSrc cSt cAI cAJ ad T3 o (0 : Int32) v9 eT11) (cwV 2 hts (gaV qA_299 qA_300 qA_301 qA_222 qA_302) rfl rfl rfl (by decide +kernel) ⟨Nat.le_of_ble_eq_true rfl, Nat.le_of_ble_eq_true rfl⟩) (oO_k g10).1 (cc_o3 (oO_k g10).2) rfl rfl hl.1 rfl (lv_room (Nat.le_of_ble_eq_true rfl)) dX3_parseOff_14 ⟨Nat.le_of_ble_eq_true rfl, Nat.le_of_ble_eq_true rfl⟩ (fun E9 ce q9 T9 H locs hp G hce hcv hcl => ?_)
    obtain ⟨hE, hT⟩ := hp
    subst hE
    rw [hT] at G
    exact vx_out (fun x hx => (htab x hx).elim) hlocks hce hcv hcl (fun t ht hvm => ⟨T1, trivial, ⟨⟨rfl, rfl⟩, by rw [ht]; exact G.1, va_K.moved hvm hK, G.2.1⟩, G.2.2.F ht⟩) G.2.2.2.2 (Nat.le_refl _) (Nat.le_refl _)
  refine q_cvi (As := [.int 0, .int v9]) (rest := []) E G hA hX hN hml (u_X3_number l hst D cI cJ cZ cMic cSrc cSt cAI cAJ ad T3 o (0 : Int32) v9 eT11) (cwV 2 hts (gaV qA_299 qA_300 qA_301 qA_222 qA_302) rfl rfl rfl (by decide +kernel) ⟨Nat.le_of_ble_eq_true rfl, Nat.le_of_ble_eq_true rfl⟩) (oO_k g10).1 (cc_o3 (oO_k g10).2) rfl rfl hl.1 rfl (lv_room (Nat.le_of_ble_eq_true rfl)) dX3_parseOff_14 ⟨Nat.zero_le _, Nat.zero_le _⟩ (fun q14 T12 H locs hq G => ?_)
  obtain ⟨hq1, hq2⟩ := hq
  rw [hq2] at G
  refine lv_to hq1 ?_
  clear hq1 hq2 eT11
  refine lv_istore_n (lv' := [(2, .int r13), (0, .ref (ad o)), (1, .ref (ad a0))]) hx hb dX3_parseOff_17 rfl hl (by decide) rfl (fun ls hl => ?_)
  refine lv_aload_n hx hb dX3_parseOff_18 rfl (lv_at hl 2 rfl) ?_
  obtain ⟨g15, h⟩ := oif_some h
  obtain ⟨n16, en16, h⟩ := obind_some h
  refine c_get E G a0 7 (v := .ref (ad n16)) (oO_k g15).1 (cc_o6 (oO_k g15).2) rfl (fun w h => .tail _ (iA_14 h)) (by decide) (.tail _ qA_344) rfl (by rw [en16]; rfl) dX3_parseOff_19 ?_
  clear en16
  refine lv_iload_n hx hb dX3_parseOff_22 rfl (lv_at hl 0 rfl) ?_
  obtain ⟨g17, h⟩ := oif_some h
  obtain ⟨g18, h⟩ := oif_some h
  obtain ⟨n19, en19, h⟩ := obind_some h
  refine c_aldq E G n16 4 (k := r13.toNatClampNeg) (v := .ref (ad n19)) (aA_k g17).1 (cc_a104 (aA_k g17).2.1) rfl (inb_k g18).1 (inb_k g18).2 (aA_k g17).2.2 (by show va_rf ((T11.2.2.2.2 n16 r13.toNatClampNeg).map ad) = _; rw [en19]; rfl) dX3_parseOff_23 ?_
  clear en19
  obtain ⟨g20, h⟩ := oif_some h
  refine c_get E G n19 9 (oO_k g20).1 (cc_o7 (oO_k g20).2) rfl (fun w h => .tail _ (iA_20 h)) (by decide) (.tail _ qA_354) rfl rfl dX3_parseOff_24 ?_
  refine lv_topi (fun v21 ev21 => ?_)
  have h := elet_at ev21 h
  clear ev21
  refine lv_if_eq (tgt := 41) hx hb dX3_parseOff_27 (by decide) (fun c22 => ?_) (fun c22 => ?_)
  · have h := oif_pos c22 h
    have hl := lv_sub hl [2, 0] rfl
    exact x_X3_parseOff_b41 E hA hX hN hml trivial hst htab hlocks (fun H locs t G hvm h1 h2 => ⟨T1, trivial, ⟨⟨rfl, rfl⟩, (c_thrown G hK hvm h1 h2).1⟩, (c_thrown G hK hvm h1 h2).2⟩) _ _ _ _ _ _ h G hl
  · have h := oif_neg c22 h
    refine lv_aload_n hx hb dX3_parseOff_30 rfl (lv_at hl 1 rfl) ?_
    refine lv_aload_n hx hb dX3_parseOff_31 rfl (lv_at hl 1 rfl) ?_
    obtain ⟨g23, h⟩ := oif_some h
    refine c_get E G o 1 (oO_k g23).1 (cc_o3 (oO_k g23).2) rfl (fun w h => .tail _ (iA_17 h)) (by decide) (.tail _ qA_176) rfl rfl dX3_parseOff_32 ?_
    refine lv_topi (fun v24 ev24 => ?_)
    have h := elet_at ev24 h
    clear ev24
    refine lv_iconst (v := 1) hx hb dX3_parseOff_35 (by decide) ?_
    refine lv_isub hx hb dX3_parseOff_36 ?_
    refine lv_topi (fun v25 ev25 => ?_)
    have h := elet_at ev25 h
    clear ev25
    refine lv_iconst (v := 3) hx hb dX3_parseOff_37 (by decide) ?_
    obtain ⟨g26, h⟩ := oif_some h
    rcases othr_t h with ⟨r0, eT27⟩ | ⟨r29, T27, eT27, h⟩
    · refine q_xvv (As := [.int v25, .int 3]) (rest := []) E G hA hX hN hml (x_X3_failAt l hst D cI cJ cZ cMic cSrc cSt cAI cAJ ad T11 o v25 (3 : Int32) eT27) (cwV 2 hts (gaV qA_293 qA_294 qA_295 qA_222 qA_296) rfl rfl rfl (by decide +kernel) ⟨Nat.le_of_ble_eq_true rfl, Nat.le_of_ble_eq_true rfl⟩) (oO_k g26).1 (cc_o3 (oO_k g26).2) rfl rfl hl.1 rfl (lv_room (Nat.le_of_ble_eq_true rfl)) dX3_parseOff_38 ⟨Nat.le_of_ble_eq_true rfl, Nat.le_of_ble_eq_true rfl⟩ (fun E9 ce q9 T9 H locs hp G hce hcv hcl => ?_)
      obtain ⟨hE, hT⟩ := hp
      subst hE
      rw [hT] at G
      exact vx_out (fun x hx => (htab x hx).elim) hlocks hce hcv hcl (fun t ht hvm => ⟨T1, trivial, ⟨⟨rfl, rfl⟩, by rw [ht]; exact G.1, va_K.moved hvm hK, G.2.1⟩, G.2.2.F ht⟩) G.2.2.2.2 (Nat.le_refl _) (Nat.le_refl _)
    refine q_cvv (As := [.int v25, .int 3]) (rest := []) E G hA hX hN hml (u_X3_failAt l hst D cI cJ cZ cMic cSrc cSt cAI cAJ ad T11 o v25 (3 : Int32) eT27) (cwV 2 hts (gaV qA_293 qA_294 qA_295 qA_222 qA_296) rfl rfl rfl (by decide +kernel) ⟨Nat.le_of_ble_eq_true rfl, Nat.le_of_ble_eq_true rfl⟩) (oO_k g26).1 (cc_o3 (oO_k g26).2) rfl rfl hl.1 rfl (lv_room (Nat.le_of_ble_eq_true rfl)) dX3_parseOff_38 ⟨Nat.zero_le _, Nat.zero_le _⟩ (fun T28 H locs hq G => ?_)
    rw [hq] at G
    clear hq eT27
    have hl := lv_sub hl [2, 0] rfl
    exact x_X3_parseOff_b41 E hA hX hN hml trivial hst htab hlocks (fun H locs t G hvm h1 h2 => ⟨T1, trivial, ⟨⟨rfl, rfl⟩, (c_thrown G hK hvm h1 h2).1⟩, (c_thrown G hK hvm h1 h2).2⟩) _ _ _ _ _ _ h G hl
def g_X6_addShade_b29  (T : AT)  : Option (AT) := some T
set_option maxHeartbeats 4000000 in
set_option maxRecDepth 100000 in
theorem u_X6_addShade_b29 {p : Program} {l : Launch} {e : Env} {s : State} {m : MethodId} {args : Array Value} {below : List Frame} {meth : Method} {c : Code} {Q : State → Prop} {D : va_G} {A : Nat → Prop} {cI cJ cZ cMic cSrc cSt cAI cAJ : ClassId} {ad : Nat → Nat} {T1 : AT} (E : cE p c cX6_addShade s m args (Cond.code yX6_addShade cX6_addShade 2 none :: wsA) D RX6 (CT cI cJ cZ cMic cSrc cSt cAI cAJ)) (hA : ∀ q : Nat, s.heap.size ≤ q → A q) (hX : xT A s) (hN : nX s) (hml : c.maxLocals = 2) (hst : l.stackTraces = false) (kr29 : ∀ (H : Heap) (locs : List Loc) (ls : Array Slot), gC cI cJ cZ cMic cSrc cSt cAI cAJ D ad A s.heap H locs T1 → W p l e { frames := 1, cells := 0, slots := 0, locals := 0 } s m args below meth c H locs 0 0 Q (F0 m 29 ls [])) : ∀ (T : AT) (H : Heap) (locs : List Loc) (ls : Array Slot), g_X6_addShade_b29 T = some T1 → gC cI cJ cZ cMic cSrc cSt cAI cAJ D ad A s.heap H locs T → lv_has ls 2 [] → W p l e { frames := 1, cells := 0, slots := 0, locals := 0 } s m args below meth c H locs 0 0 Q (F0 m 29 ls []) := by
  have hx := E.1
  have hb := E.2.1
  have hts := E.2.2.1
  have hown := E.2.2.2.1
  have hK := E.2.2.2.2
  intro T H locs ls h G hl
  unfold g_X6_addShade_b29 at h
  rw [osome1 h] at G
  exact kr29 _ _ _ G
def g_X6_addShade (T : AT) (o : Nat) (a0 : Int32) : Option (AT) := oif (oO T o 6 = true) <| elet (T.2.2.1 o 16) fun v3 => if 12 ≤ v3 then (g_X6_addShade_b29 T) else (oif (oO T o 6 = true) <| obind (T.2.2.2.2 o 15) fun n6 => oif (oO T o 6 = true) <| elet (T.2.2.1 o 16) fun v8 => oif (aA T n6 100 = true) <| oif (inb v8 (T.2.1 n6).2 = true) <| elet (uI T n6 v8.toNatClampNeg a0) fun T11 => oif (oO T11 o 6 = true) <| elet (T11.2.2.1 o 16) fun v13 => elet (v13 + 1) fun v14 => oif (oO T11 o 6 = true) <| elet (uI T11 o 16 v14) fun T16 => g_X6_addShade_b29 T16)
set_option maxHeartbeats 4000000 in
set_option maxRecDepth 100000 in
theorem u_X6_addShade (l : Launch) (hst : l.stackTraces = false) (D : va_G) (cI cJ cZ cMic cSrc cSt cAI cAJ : ClassId) (ad : Nat → Nat) (T : AT) (o : Nat) (a0 : Int32) {T1 : AT} (h : g_X6_addShade T o a0 = some T1) : kCv l yX6_addShade (Cond.code yX6_addShade cX6_addShade 2 none :: wsA) 1 0 cI cJ cZ cMic cSrc cSt cAI cAJ D ad T [.ref (ad o), .int a0] (fun T9 => T9 = T1) := by
  intro sz
  refine Met.ofW (cc := cX6_addShade) (maxL := 2) (ret := none) (by decide) rfl ?_
  intro p e s m args below meth c s₁ B hml hv
  obtain ⟨rfl, hsz, hP, hK, hD0, hX, hN⟩ := hv
  have hx := B.exec
  have hb := B.bytes
  have hr := B.returns
  have hts := atoms_spec (ws := (Cond.code yX6_addShade cX6_addShade 2 none :: wsA)) B.pre
  have hown : s.vm.findClass RX6 = some m.cls := findClass_of_methodNamed B.named
  have hlocks := B.notSynchronized
  subst hsz
  have hD := hD0.self (sz := s.heap.size)
  generalize hAe : va_A (cW ad T.1 (cc cI cJ cZ cMic cSrc cSt cAI cAJ ad T)) s.heap.size = A at hD hX ⊢
  have hA : ∀ q : Nat, s.heap.size ≤ q → A q := fun q h => by rw [← hAe]; exact Or.inr h
  have G : gC cI cJ cZ cMic cSrc cSt cAI cAJ D ad A s.heap s.heap [] T := ⟨hP, hD, va_S.rf⟩
  have E : cE p c cX6_addShade s m ([.ref (ad o), .int a0] : List Value).toArray (Cond.code yX6_addShade cX6_addShade 2 none :: wsA) D RX6 (CT cI cJ cZ cMic cSrc cSt cAI cAJ) := ⟨hx, hb, hts, hown, hK⟩
  have hl := lv_entry ([.ref (ad o), .int a0]) (n := 2) (Nat.le_of_ble_eq_true rfl)
  rw [lg_entry_eq]
  generalize (lg_sl ([.ref (ad o), .int a0]) ++ List.replicate (2 - (lg_sl ([.ref (ad o), .int a0])).length) Slot.unset).toArray = ls at hl ⊢
  have hl : lv_has ls 2 [(0, .ref (ad o)), (1, .int a0)] := hl
  unfold g_X6_addShade at h
  refine lv_aload_n hx hb dX6_addShade_0 rfl (lv_at hl 0 rfl) ?_
  obtain ⟨g2, h⟩ := oif_some h
  refine c_get E G o 16 (oO_k g2).1 (cc_o6 (oO_k g2).2) rfl (fun w h => .tail _ (iA_14 h)) (by decide) (.tail _ qA_215) rfl rfl dX6_addShade_1 ?_
  refine lv_topi (fun v3 ev3 => ?_)
  have h := elet_at ev3 h
  clear ev3
  refine lv_bipush (v := 12) hx hb dX6_addShade_4 (by decide) ?_
  refine lv_icmp_ge (tgt := 29) hx hb dX6_addShade_6 (by decide) (fun c4 => ?_) (fun c4 => ?_)
  · have h := oif_pos c4 h
    have hl := lv_sub hl [] rfl
    exact u_X6_addShade_b29 E hA hX hN hml hst (fun H locs ls G => W.vret hx hb hr (fun t ht hW => ⟨⟨T1, rfl, rfl, ⟨by rw [ht]; exact G.1, va_K.moved hW.alike hK, G.2.1⟩⟩, G.2.2.F ht⟩) G.2.2.2.2 dX6_addShade_29) _ _ _ _ h G hl
  · have h := oif_neg c4 h
    refine lv_aload_n hx hb dX6_addShade_9 rfl (lv_at hl 0 rfl) ?_
    obtain ⟨g5, h⟩ := oif_some h
    obtain ⟨n6, en6, h⟩ := obind_some h
    refine c_get E G o 15 (v := .ref (ad n6)) (oO_k g5).1 (cc_o6 (oO_k g5).2) rfl (fun w h => .tail _ (iA_14 h)) (by decide) (.tail _ qA_400) rfl (by rw [en6]; rfl) dX6_addShade_10 ?_
    clear en6
    refine lv_aload_n hx hb dX6_addShade_13 rfl (lv_at hl 0 rfl) ?_
    obtain ⟨g7, h⟩ := oif_some h
    refine c_get E G o 16 (oO_k g7).1 (cc_o6 (oO_k g7).2) rfl (fun w h => .tail _ (iA_14 h)) (by decide) (.tail _ qA_215) rfl rfl dX6_addShade_14 ?_
    refine lv_topi (fun v8 ev8 => ?_)
    have h := elet_at ev8 h
    clear ev8
    refine lv_iload_n hx hb dX6_addShade_17 rfl (lv_at hl 1 rfl) ?_
    obtain ⟨g9, h⟩ := oif_some h
    obtain ⟨g10, h⟩ := oif_some h
    refine c_iast E G n6 0 (k := v8.toNatClampNeg) (v := a0) (aA_k g9).1 (cc_a100 (aA_k g9).2.1) rfl (inb_k g10).1 (inb_k g10).2 (aA_k g9).2.2 dX6_addShade_18 (fun H locs G => ?_)
    have G := gC_up_i (f := upd (T.2.2.1 n6) v8.toNatClampNeg a0) (ccv_100 (aA_k g9).2.1) G
    obtain ⟨T11, eT11, h⟩ := elet_some h
    have G : gC cI cJ cZ cMic cSrc cSt cAI cAJ D ad A s.heap H locs T11 := by rw [eT11]; exact G
    clear eT11
    refine lv_aload_n hx hb dX6_addShade_19 rfl (lv_at hl 0 rfl) ?_
    refine lv_dup hx hb dX6_addShade_20 rfl ?_
    obtain ⟨g12, h⟩ := oif_some h
    refine c_get E G o 16 (oO_k g12).1 (cc_o6 (oO_k g12).2) rfl (fun w h => .tail _ (iA_14 h)) (by decide) (.tail _ qA_215) rfl rfl dX6_addShade_21 ?_
    refine lv_topi (fun v13 ev13 => ?_)
    have h := elet_at ev13 h
    clear ev13
    refine lv_iconst (v := 1) hx hb dX6_addShade_24 (by decide) ?_
    refine lv_iadd hx hb dX6_addShade_25 ?_
    refine lv_topi (fun v14 ev14 => ?_)
    have h := elet_at ev14 h
    clear ev14
    obtain ⟨g15, h⟩ := oif_some h
    refine c_put E G o 16 (v := .int v14) (oO_k g15).1 (cc_o6 (oO_k g15).2) rfl (fun w h => .tail _ (iA_14 h)) tyX6 tyX6_ok nmX6 (by decide) (.tail _ qA_215) ⟨rfl, rfl, rfl⟩ rfl rfl (Nat.le_of_ble_eq_true rfl) dX6_addShade_26 (fun H locs G => ?_)
    have G := gC_up_i (f := upd (T11.2.2.1 o) 16 v14) (by rw [(oO_k g15).2]; rfl) G
    obtain ⟨T16, eT16, h⟩ := elet_some h
    have G : gC cI cJ cZ cMic cSrc cSt cAI cAJ D ad A s.heap H locs T16 := by rw [eT16]; exact G
    clear eT16
    have hl := lv_sub hl [] rfl
    exact u_X6_addShade_b29 E hA hX hN hml hst (fun H locs ls G => W.vret hx hb hr (fun t ht hW => ⟨⟨T1, rfl, rfl, ⟨by rw [ht]; exact G.1, va_K.moved hW.alike hK, G.2.1⟩⟩, G.2.2.F ht⟩) G.2.2.2.2 dX6_addShade_29) _ _ _ _ h G hl
set_option maxHeartbeats 4000000 in
set_option maxRecDepth 100000 in
theorem s_X6_addShade_b29 {T1 : AT} : ∀ (T : AT), g_X6_addShade_b29 T = some T1 → SP T T1 := by
  intro T h
  have p0 := SP.rf T
  unfold g_X6_addShade_b29 at h
  rw [← osome1 h]
  exact p0
set_option maxHeartbeats 4000000 in
set_option maxRecDepth 100000 in
theorem s_X6_addShade {T : AT} {o : Nat} {a0 : Int32} {T1 : AT} (h : g_X6_addShade T o a0 = some T1) : SP T T1 := by
  have p0 := SP.rf T
  unfold g_X6_addShade at h
  obtain ⟨g2, h⟩ := oif_some h
  obtain ⟨v3, -, h⟩ := elet_some h
  rcases oif_or h with ⟨c4, h⟩ | ⟨c4, h⟩
  · have h := h
    exact SP.tr p0 (s_X6_addShade_b29 _ h)
  · have h := h
    obtain ⟨g5, h⟩ := oif_some h
    obtain ⟨n6, en6, h⟩ := obind_some h
    obtain ⟨g7, h⟩ := oif_some h
    obtain ⟨v8, -, h⟩ := elet_some h
    obtain ⟨g9, h⟩ := oif_some h
    obtain ⟨g10, h⟩ := oif_some h
    obtain ⟨T11, eT11, h⟩ := elet_some h
    have p1 : SP T T11 := SP.tr p0 (by rw [eT11]; exact sp_uI)
    obtain ⟨g12, h⟩ := oif_some h
    obtain ⟨v13, -, h⟩ := elet_some h
    obtain ⟨v14, -, h⟩ := elet_some h
    obtain ⟨g15, h⟩ := oif_some h
    obtain ⟨T16, eT16, h⟩ := elet_some h
    have p2 : SP T T16 := SP.tr p1 (by rw [eT16]; exact sp_uI)
    exact SP.tr p2 (s_X6_addShade_b29 _ h)
def g_X3_failAsTooMany_b26  (T : AT) (s0 : Int32) (s1 : Int32) (s2 : Nat) : Option (Nat × Int32 × AT) := oif (oO T s2 3 = true) <| othr (g_X3_failAt T s2 s1 s0) 0 fun r5 T3 => some (0, 0, T3)
set_option maxHeartbeats 4000000 in
set_option maxRecDepth 100000 in
theorem u_X3_failAsTooMany_b26 {p : Program} {l : Launch} {e : Env} {s : State} {m : MethodId} {args : Array Value} {below : List Frame} {meth : Method} {c : Code} {Q : State → Prop} {D : va_G} {A : Nat → Prop} {cI cJ cZ cMic cSrc cSt cAI cAJ : ClassId} {ad : Nat → Nat} {r1 : Int32} {T1 : AT} (E : cE p c cX3_failAsTooMany s m args (Cond.code yX3_failAsTooMany cX3_failAsTooMany 2 none :: wsA) D RX3 (CT cI cJ cZ cMic cSrc cSt cAI cAJ)) (hA : ∀ q : Nat, s.heap.size ≤ q → A q) (hX : xT A s) (hN : nX s) (hml : c.maxLocals = 2) (hst : l.stackTraces = false) (kr29 : ∀ (H : Heap) (locs : List Loc) (ls : Array Slot), gC cI cJ cZ cMic cSrc cSt cAI cAJ D ad A s.heap H locs T1 → W p l e { frames := 7, cells := 0, slots := 0, locals := 103 } s m args below meth c H locs 0 0 Q (F0 m 29 ls [])) : ∀ (T : AT) (H : Heap) (locs : List Loc) (ls : Array Slot) (s0 : Int32) (s1 : Int32) (s2 : Nat), g_X3_failAsTooMany_b26 T s0 s1 s2 = some (0, r1, T1) → gC cI cJ cZ cMic cSrc cSt cAI cAJ D ad A s.heap H locs T → lv_has ls 2 [] → W p l e { frames := 7, cells := 0, slots := 0, locals := 103 } s m args below meth c H locs 0 0 Q (F0 m 26 ls [.int s0, .int s1, .ref (ad s2)]) := by
  have hx := E.1
  have hb := E.2.1
  have hts := E.2.2.1
  have hown := E.2.2.2.1
  have hK := E.2.2.2.2
  intro T H locs ls s0 s1 s2 h G hl
  unfold g_X3_failAsTooMany_b26 at h
  obtain ⟨g2, h⟩ := oif_some h
  obtain ⟨r5, T3, eT3, h⟩ := othr_n h
  refine q_cvv (As := [.int s1, .int s0]) (rest := []) E G hA hX hN hml (u_X3_failAt l hst D cI cJ cZ cMic cSrc cSt cAI cAJ ad T s2 s1 s0 eT3) (cwV 2 hts (gaV qA_293 qA_294 qA_295 qA_222 qA_296) rfl rfl rfl (by decide +kernel) ⟨Nat.le_of_ble_eq_true rfl, Nat.le_of_ble_eq_true rfl⟩) (oO_k g2).1 (cc_o3 (oO_k g2).2) rfl rfl hl.1 rfl (lv_room (Nat.le_of_ble_eq_true rfl)) dX3_failAsTooMany_26 ⟨Nat.zero_le _, Nat.zero_le _⟩ (fun T4 H locs hq G => ?_)
  rw [hq] at G
  clear hq eT3
  rw [(osome3 h).2.2] at G
  exact kr29 _ _ _ G
def g_X3_failAsTooMany_b25  (T : AT) (s0 : Int32) (s1 : Nat) : Option (Nat × Int32 × AT) := g_X3_failAsTooMany_b26 T 4 s0 s1
set_option maxHeartbeats 4000000 in
set_option maxRecDepth 100000 in
theorem u_X3_failAsTooMany_b25 {p : Program} {l : Launch} {e : Env} {s : State} {m : MethodId} {args : Array Value} {below : List Frame} {meth : Method} {c : Code} {Q : State → Prop} {D : va_G} {A : Nat → Prop} {cI cJ cZ cMic cSrc cSt cAI cAJ : ClassId} {ad : Nat → Nat} {r1 : Int32} {T1 : AT} (E : cE p c cX3_failAsTooMany s m args (Cond.code yX3_failAsTooMany cX3_failAsTooMany 2 none :: wsA) D RX3 (CT cI cJ cZ cMic cSrc cSt cAI cAJ)) (hA : ∀ q : Nat, s.heap.size ≤ q → A q) (hX : xT A s) (hN : nX s) (hml : c.maxLocals = 2) (hst : l.stackTraces = false) (kr29 : ∀ (H : Heap) (locs : List Loc) (ls : Array Slot), gC cI cJ cZ cMic cSrc cSt cAI cAJ D ad A s.heap H locs T1 → W p l e { frames := 7, cells := 0, slots := 0, locals := 103 } s m args below meth c H locs 0 0 Q (F0 m 29 ls [])) : ∀ (T : AT) (H : Heap) (locs : List Loc) (ls : Array Slot) (s0 : Int32) (s1 : Nat), g_X3_failAsTooMany_b25 T s0 s1 = some (0, r1, T1) → gC cI cJ cZ cMic cSrc cSt cAI cAJ D ad A s.heap H locs T → lv_has ls 2 [] → W p l e { frames := 7, cells := 0, slots := 0, locals := 103 } s m args below meth c H locs 0 0 Q (F0 m 25 ls [.int s0, .ref (ad s1)]) := by
  have hx := E.1
  have hb := E.2.1
  have hts := E.2.2.1
  have hown := E.2.2.2.1
  have hK := E.2.2.2.2
  intro T H locs ls s0 s1 h G hl
  unfold g_X3_failAsTooMany_b25 at h
  refine lv_iconst (v := 4) hx hb dX3_failAsTooMany_25 (by decide) ?_
  have hl := lv_sub hl [] rfl
  exact u_X3_failAsTooMany_b26 E hA hX hN hml hst kr29 _ _ _ _ _ _ _ h G hl
def g_X3_failAsTooMany (T : AT) (o : Nat) (a0 : Int32) : Option (Nat × Int32 × AT) := oif (oO T o 3 = true) <| elet (T.2.2.1 o 1) fun v3 => oif (oO T o 3 = true) <| obind2 (g_X3_kind T o) fun r7 T5 => if r7 = 2 then (oif (oO T5 o 3 = true) <| obind2 (g_X3_value T5 o) fun r13 T11 => if r13 ≤ a0 then (g_X3_failAsTooMany_b25 T11 v3 o) else (g_X3_failAsTooMany_b26 T11 2 v3 o)) else (g_X3_failAsTooMany_b25 T5 v3 o)
set_option maxHeartbeats 4000000 in
set_option maxRecDepth 100000 in
theorem u_X3_failAsTooMany (l : Launch) (hst : l.stackTraces = false) (D : va_G) (cI cJ cZ cMic cSrc cSt cAI cAJ : ClassId) (ad : Nat → Nat) (T : AT) (o : Nat) (a0 : Int32) {r1 : Int32} {T1 : AT} (h : g_X3_failAsTooMany T o a0 = some (0, r1, T1)) : kCv l yX3_failAsTooMany (Cond.code yX3_failAsTooMany cX3_failAsTooMany 2 none :: wsA) 7 103 cI cJ cZ cMic cSrc cSt cAI cAJ D ad T [.ref (ad o), .int a0] (fun T9 => T9 = T1) := by
  intro sz
  refine Met.ofW (cc := cX3_failAsTooMany) (maxL := 2) (ret := none) (by decide) rfl ?_
  intro p e s m args below meth c s₁ B hml hv
  obtain ⟨rfl, hsz, hP, hK, hD0, hX, hN⟩ := hv
  have hx := B.exec
  have hb := B.bytes
  have hr := B.returns
  have hts := atoms_spec (ws := (Cond.code yX3_failAsTooMany cX3_failAsTooMany 2 none :: wsA)) B.pre
  have hown : s.vm.findClass RX3 = some m.cls := findClass_of_methodNamed B.named
  have hlocks := B.notSynchronized
  subst hsz
  have hD := hD0.self (sz := s.heap.size)
  generalize hAe : va_A (cW ad T.1 (cc cI cJ cZ cMic cSrc cSt cAI cAJ ad T)) s.heap.size = A at hD hX ⊢
  have hA : ∀ q : Nat, s.heap.size ≤ q → A q := fun q h => by rw [← hAe]; exact Or.inr h
  have G : gC cI cJ cZ cMic cSrc cSt cAI cAJ D ad A s.heap s.heap [] T := ⟨hP, hD, va_S.rf⟩
  have E : cE p c cX3_failAsTooMany s m ([.ref (ad o), .int a0] : List Value).toArray (Cond.code yX3_failAsTooMany cX3_failAsTooMany 2 none :: wsA) D RX3 (CT cI cJ cZ cMic cSrc cSt cAI cAJ) := ⟨hx, hb, hts, hown, hK⟩
  have hl := lv_entry ([.ref (ad o), .int a0]) (n := 2) (Nat.le_of_ble_eq_true rfl)
  rw [lg_entry_eq]
  generalize (lg_sl ([.ref (ad o), .int a0]) ++ List.replicate (2 - (lg_sl ([.ref (ad o), .int a0])).length) Slot.unset).toArray = ls at hl ⊢
  have hl : lv_has ls 2 [(0, .ref (ad o)), (1, .int a0)] := hl
  unfold g_X3_failAsTooMany at h
  refine lv_aload_n hx hb dX3_failAsTooMany_0 rfl (lv_at hl 0 rfl) ?_
  refine lv_aload_n hx hb dX3_failAsTooMany_1 rfl (lv_at hl 0 rfl) ?_
  obtain ⟨g2, h⟩ := oif_some h
  refine c_get E G o 1 (oO_k g2).1 (cc_o3 (oO_k g2).2) rfl (fun w h => .tail _ (iA_17 h)) (by decide) (.tail _ qA_176) rfl rfl dX3_failAsTooMany_2 ?_
  refine lv_topi (fun v3 ev3 => ?_)
  have h := elet_at ev3 h
  clear ev3
  refine lv_aload_n hx hb dX3_failAsTooMany_5 rfl (lv_at hl 0 rfl) ?_
  obtain ⟨g4, h⟩ := oif_some h
  obtain ⟨r7, T5, eT5, h⟩ := obind2_some h
  refine q_cvi (As := []) (rest := [.int v3, .ref (ad o)]) E G hA hX hN hml (u_X3_kind l hst D cI cJ cZ cMic cSrc cSt cAI cAJ ad T o eT5) (cwV 0 hts (gaV qA_239 qA_240 qA_241 qA_222 qA_242) rfl rfl rfl (by decide +kernel) ⟨Nat.le_of_ble_eq_true rfl, Nat.le_of_ble_eq_true rfl⟩) (oO_k g4).1 (cc_o3 (oO_k g4).2) rfl rfl hl.1 rfl (lv_room (Nat.le_of_ble_eq_true rfl)) dX3_failAsTooMany_6 ⟨Nat.zero_le _, Nat.zero_le _⟩ (fun q8 T6 H locs hq G => ?_)
  obtain ⟨hq1, hq2⟩ := hq
  rw [hq2] at G
  refine lv_to hq1 ?_
  clear hq1 hq2 eT5
  refine lv_iconst (v := 2) hx hb dX3_failAsTooMany_9 (by decide) ?_
  refine lv_icmp_ne (tgt := 25) hx hb dX3_failAsTooMany_10 (by decide) (fun c9 => ?_) (fun c9 => ?_)
  · have h := oif_neg c9 h
    have hl := lv_sub hl [] rfl
    exact u_X3_failAsTooMany_b25 E hA hX hN hml hst (fun H locs ls G => W.vret hx hb hr (fun t ht hW => ⟨⟨T1, rfl, rfl, ⟨by rw [ht]; exact G.1, va_K.moved hW.alike hK, G.2.1⟩⟩, G.2.2.F ht⟩) G.2.2.2.2 dX3_failAsTooMany_29) _ _ _ _ _ _ h G hl
  · have h := oif_pos c9 h
    refine lv_aload_n hx hb dX3_failAsTooMany_13 rfl (lv_at hl 0 rfl) ?_
    obtain ⟨g10, h⟩ := oif_some h
    obtain ⟨r13, T11, eT11, h⟩ := obind2_some h
    refine q_cvi (As := []) (rest := [.int v3, .ref (ad o)]) E G hA hX hN hml (u_X3_value l hst D cI cJ cZ cMic cSrc cSt cAI cAJ ad T5 o eT11) (cwV 0 hts (gaV qA_303 qA_304 qA_305 qA_222 qA_306) rfl rfl rfl (by decide +kernel) ⟨Nat.le_of_ble_eq_true rfl, Nat.le_of_ble_eq_true rfl⟩) (oO_k g10).1 (cc_o3 (oO_k g10).2) rfl rfl hl.1 rfl (lv_room (Nat.le_of_ble_eq_true rfl)) dX3_failAsTooMany_14 ⟨Nat.zero_le _, Nat.zero_le _⟩ (fun q14 T12 H locs hq G => ?_)
    obtain ⟨hq1, hq2⟩ := hq
    rw [hq2] at G
    refine lv_to hq1 ?_
    clear hq1 hq2 eT11
    refine lv_iload_n hx hb dX3_failAsTooMany_17 rfl (lv_at hl 1 rfl) ?_
    refine lv_icmp_le (tgt := 25) hx hb dX3_failAsTooMany_18 (by decide) (fun c15 => ?_) (fun c15 => ?_)
    · have h := oif_pos c15 h
      have hl := lv_sub hl [] rfl
      exact u_X3_failAsTooMany_b25 E hA hX hN hml hst (fun H locs ls G => W.vret hx hb hr (fun t ht hW => ⟨⟨T1, rfl, rfl, ⟨by rw [ht]; exact G.1, va_K.moved hW.alike hK, G.2.1⟩⟩, G.2.2.F ht⟩) G.2.2.2.2 dX3_failAsTooMany_29) _ _ _ _ _ _ h G hl
    · have h := oif_neg c15 h
      refine lv_iconst (v := 2) hx hb dX3_failAsTooMany_21 (by decide) ?_
      refine lv_goto (tgt := 26) hx hb dX3_failAsTooMany_22 (by decide) ?_
      have hl := lv_sub hl [] rfl
      exact u_X3_failAsTooMany_b26 E hA hX hN hml hst (fun H locs ls G => W.vret hx hb hr (fun t ht hW => ⟨⟨T1, rfl, rfl, ⟨by rw [ht]; exact G.1, va_K.moved hW.alike hK, G.2.1⟩⟩, G.2.2.F ht⟩) G.2.2.2.2 dX3_failAsTooMany_29) _ _ _ _ _ _ _ h G hl
set_option maxHeartbeats 4000000 in
set_option maxRecDepth 100000 in
theorem s_X3_failAsTooMany_b26 {e1 : Nat} {r1 : Int32} {T1 : AT} : ∀ (T : AT) (s0 : Int32) (s1 : Int32) (s2 : Nat), g_X3_failAsTooMany_b26 T s0 s1 s2 = some (e1, r1, T1) → SP T T1 := by
  intro T s0 s1 s2 h
  have p0 := SP.rf T
  unfold g_X3_failAsTooMany_b26 at h
  obtain ⟨g2, h⟩ := oif_some h
  rcases othr_s h with ⟨k9, r9, e9, -⟩ | ⟨r4, T3, eT3, h⟩
  · exact SP.tr p0 (s_X3_failAt e9)
  have p1 : SP T T3 := SP.tr p0 (s_X3_failAt eT3)
  rw [← (osome3 h).2.2]
  exact p1
set_option maxHeartbeats 4000000 in
set_option maxRecDepth 100000 in
theorem s_X3_failAsTooMany_b25 {e1 : Nat} {r1 : Int32} {T1 : AT} : ∀ (T : AT) (s0 : Int32) (s1 : Nat), g_X3_failAsTooMany_b25 T s0 s1 = some (e1, r1, T1) → SP T T1 := by
  intro T s0 s1 h
  have p0 := SP.rf T
  unfold g_X3_failAsTooMany_b25 at h
  exact SP.tr p0 (s_X3_failAsTooMany_b26 _ _ _ _ h)
set_option maxHeartbeats 4000000 in
set_option maxRecDepth 100000 in
theorem s_X3_failAsTooMany {T : AT} {o : Nat} {a0 : Int32} {e1 : Nat} {r1 : Int32} {T1 : AT} (h : g_X3_failAsTooMany T o a0 = some (e1, r1, T1)) : SP T T1 := by
  have p0 := SP.rf T
  unfold g_X3_failAsTooMany at h
  obtain ⟨g2, h⟩ := oif_some h
  obtain ⟨v3, -, h⟩ := elet_some h
  obtain ⟨g4, h⟩ := oif_some h
  obtain ⟨r6, T5, eT5, h⟩ := obind2_some h
  have p1 : SP T T5 := SP.tr p0 (s_X3_kind eT5)
  rcases oif_or h with ⟨c7, h⟩ | ⟨c7, h⟩
  · have h := h
    obtain ⟨g8, h⟩ := oif_some h
    obtain ⟨r10, T9, eT9, h⟩ := obind2_some h
    have p2 : SP T T9 := SP.tr p1 (s_X3_value eT9)
    rcases oif_or h with ⟨c11, h⟩ | ⟨c11, h⟩
    · have h := h
      exact SP.tr p2 (s_X3_failAsTooMany_b25 _ _ _ h)
    · have h := h
      exact SP.tr p2 (s_X3_failAsTooMany_b26 _ _ _ _ h)
  · have h := h
    exact SP.tr p1 (s_X3_failAsTooMany_b25 _ _ _ h)
set_option maxHeartbeats 4000000 in
set_option maxRecDepth 100000 in
theorem x_X3_failAsTooMany_b26 {p : Program} {l : Launch} {e : Env} {s : State} {m : MethodId} {args : Array Value} {below : List Frame} {meth : Method} {c : Code} {Qc : Array Value → State → Outcome → State → Prop} {XC : String → State → State → Prop} {D : va_G} {A : Nat → Prop} {cI cJ cZ cMic cSrc cSt cAI cAJ : ClassId} {ad : Nat → Nat} {e1 : Nat} {r1 : Int32} {T1 : AT} (E : cE p c cX3_failAsTooMany s m args (Cond.code yX3_failAsTooMany cX3_failAsTooMany 2 none :: wsA) D RX3 (CT cI cJ cZ cMic cSrc cSt cAI cAJ)) (hA : ∀ q : Nat, s.heap.size ≤ q → A q) (hX : xT A s) (hN : nX s) (hml : c.maxLocals = 2) (hz9 : True) (hst : l.stackTraces = false) (htab : ∀ x ∈ c.exceptionTable.toList, False) (hlocks : meth.locks = false) (kx : ∀ (H : Heap) (locs : List Loc) (t : State), gC cI cJ cZ cMic cSrc cSt cAI cAJ D ad A s.heap H locs T1 → s.vm.Alike t.vm → H.size ≤ t.heap.size → (∀ q, q < H.size → t.heap[q]? = H[q]?) → XC (exn e1) s t) : ∀ (T : AT) (H : Heap) (locs : List Loc) (ls : Array Slot) (s0 : Int32) (s1 : Int32) (s2 : Nat), g_X3_failAsTooMany_b26 T s0 s1 s2 = some (e1 + 1, r1, T1) → gC cI cJ cZ cMic cSrc cSt cAI cAJ D ad A s.heap H locs T → lv_has ls 2 [] → W p l e { frames := 7, cells := 1, slots := 6, locals := 103 } s m args below meth c H locs 0 0 (vx_MQ below Qc XC args s 1 6 A) (F0 m 26 ls [.int s0, .int s1, .ref (ad s2)]) := by
  have hx := E.1
  have hb := E.2.1
  have hts := E.2.2.1
  have hown := E.2.2.2.1
  have hK := E.2.2.2.2
  intro T H locs ls s0 s1 s2 h G hl
  unfold g_X3_failAsTooMany_b26 at h
  obtain ⟨g2, h⟩ := oif_some h
  rcases othr_t h with ⟨r0, eT3⟩ | ⟨r5, T3, eT3, h⟩
  · refine q_xvv (As := [.int s1, .int s0]) (rest := []) E G hA hX hN hml (x_X3_failAt l hst D cI cJ cZ cMic cSrc cSt cAI cAJ ad T s2 s1 s0 eT3) (cwV 2 hts (gaV qA_293 qA_294 qA_295 qA_222 qA_296) rfl rfl rfl (by decide +kernel) ⟨Nat.le_of_ble_eq_true rfl, Nat.le_of_ble_eq_true rfl⟩) (oO_k g2).1 (cc_o3 (oO_k g2).2) rfl rfl hl.1 rfl (lv_room (Nat.le_of_ble_eq_true rfl)) dX3_failAsTooMany_26 ⟨Nat.le_of_ble_eq_true rfl, Nat.le_of_ble_eq_true rfl⟩ (fun E9 ce q9 T9 H locs hp G hce hcv hcl => ?_)
    obtain ⟨hE, hT⟩ := hp
    subst hE
    rw [hT] at G
    exact vx_out (fun x hx => (htab x hx).elim) hlocks hce hcv hcl (fun t ht hvm => kx _ _ _ G hvm (by rw [ht]; exact Nat.le_refl _) (fun q hq => by rw [ht])) G.2.2.2.2 (Nat.le_refl _) (Nat.le_refl _)
  refine q_cvv (As := [.int s1, .int s0]) (rest := []) E G hA hX hN hml (u_X3_failAt l hst D cI cJ cZ cMic cSrc cSt cAI cAJ ad T s2 s1 s0 eT3) (cwV 2 hts (gaV qA_293 qA_294 qA_295 qA_222 qA_296) rfl rfl rfl (by decide +kernel) ⟨Nat.le_of_ble_eq_true rfl, Nat.le_of_ble_eq_true rfl⟩) (oO_k g2).1 (cc_o3 (oO_k g2).2) rfl rfl hl.1 rfl (lv_room (Nat.le_of_ble_eq_true rfl)) dX3_failAsTooMany_26 ⟨Nat.zero_le _, Nat.zero_le _⟩ (fun T4 H locs hq G => ?_)
  rw [hq] at G
  clear hq eT3
  exact (Nat.succ_ne_zero _ (congrArg Prod.fst (Option.some.inj h)).symm).elim
set_option maxHeartbeats 4000000 in
set_option maxRecDepth 100000 in
theorem x_X3_failAsTooMany_b25 {p : Program} {l : Launch} {e : Env} {s : State} {m : MethodId} {args : Array Value} {below : List Frame} {meth : Method} {c : Code} {Qc : Array Value → State → Outcome → State → Prop} {XC : String → State → State → Prop} {D : va_G} {A : Nat → Prop} {cI cJ cZ cMic cSrc cSt cAI cAJ : ClassId} {ad : Nat → Nat} {e1 : Nat} {r1 : Int32} {T1 : AT} (E : cE p c cX3_failAsTooMany s m args (Cond.code yX3_failAsTooMany cX3_failAsTooMany 2 none :: wsA) D RX3 (CT cI cJ cZ cMic cSrc cSt cAI cAJ)) (hA : ∀ q : Nat, s.heap.size ≤ q → A q) (hX : xT A s) (hN : nX s) (hml : c.maxLocals = 2) (hz9 : True) (hst : l.stackTraces = false) (htab : ∀ x ∈ c.exceptionTable.toList, False) (hlocks : meth.locks = false) (kx : ∀ (H : Heap) (locs : List Loc) (t : State), gC cI cJ cZ cMic cSrc cSt cAI cAJ D ad A s.heap H locs T1 → s.vm.Alike t.vm → H.size ≤ t.heap.size → (∀ q, q < H.size → t.heap[q]? = H[q]?) → XC (exn e1) s t) : ∀ (T : AT) (H : Heap) (locs : List Loc) (ls : Array Slot) (s0 : Int32) (s1 : Nat), g_X3_failAsTooMany_b25 T s0 s1 = some (e1 + 1, r1, T1) → gC cI cJ cZ cMic cSrc cSt cAI cAJ D ad A s.heap H locs T → lv_has ls 2 [] → W p l e { frames := 7, cells := 1, slots := 6, locals := 103 } s m args below meth c H locs 0 0 (vx_MQ below Qc XC args s 1 6 A) (F0 m 25 ls [.int s0, .ref (ad s1)]) := by
  have hx := E.1
  have hb := E.2.1
  have hts := E.2.2.1
  have hown := E.2.2.2.1
  have hK := E.2.2.2.2
  intro T H locs ls s0 s1 h G hl
  unfold g_X3_failAsTooMany_b25 at h
  refine lv_iconst (v := 4) hx hb dX3_failAsTooMany_25 (by decide) ?_
  have hl := lv_sub hl [] rfl
  exact x_X3_failAsTooMany_b26 E hA hX hN hml trivial hst htab hlocks kx _ _ _ _ _ _ _ h G hl
set_option maxHeartbeats 4000000 in
set_option maxRecDepth 100000 in
theorem x_X3_failAsTooMany (l : Launch) (hst : l.stackTraces = false) (D : va_G) (cI cJ cZ cMic cSrc cSt cAI cAJ : ClassId) (ad : Nat → Nat) (T : AT) (o : Nat) (a0 : Int32) {e1 : Nat} {r1 : Int32} {T1 : AT} (h : g_X3_failAsTooMany T o a0 = some (e1 + 1, r1, T1)) : kXv l yX3_failAsTooMany (Cond.code yX3_failAsTooMany cX3_failAsTooMany 2 none :: wsA) 7 103 cI cJ cZ cMic cSrc cSt cAI cAJ D ad T [.ref (ad o), .int a0] e1 T1 := by
  intro sz
  refine vx_ofW (cc := cX3_failAsTooMany) (maxL := 2) (ret := none) (by decide) rfl ?_
  intro p e s m args below meth c s₁ B hml htab hv
  obtain ⟨rfl, hsz, hP, hK, hD0, hX, hN⟩ := hv
  have hx := B.exec
  have hb := B.bytes
  have hr := B.returns
  have hts := atoms_spec (ws := (Cond.code yX3_failAsTooMany cX3_failAsTooMany 2 none :: wsA)) B.pre
  have hown : s.vm.findClass RX3 = some m.cls := findClass_of_methodNamed B.named
  have hlocks := B.notSynchronized
  subst hsz
  have hD := hD0.self (sz := s.heap.size)
  generalize hAe : va_A (cW ad T.1 (cc cI cJ cZ cMic cSrc cSt cAI cAJ ad T)) s.heap.size = A at hD hX ⊢
  have hA : ∀ q : Nat, s.heap.size ≤ q → A q := fun q h => by rw [← hAe]; exact Or.inr h
  have G : gC cI cJ cZ cMic cSrc cSt cAI cAJ D ad A s.heap s.heap [] T := ⟨hP, hD, va_S.rf⟩
  have E : cE p c cX3_failAsTooMany s m ([.ref (ad o), .int a0] : List Value).toArray (Cond.code yX3_failAsTooMany cX3_failAsTooMany 2 none :: wsA) D RX3 (CT cI cJ cZ cMic cSrc cSt cAI cAJ) := ⟨hx, hb, hts, hown, hK⟩
  have htab : ∀ x ∈ c.exceptionTable.toList, False := fun x hx => htab x hx
  have hl := lv_entry ([.ref (ad o), .int a0]) (n := 2) (Nat.le_of_ble_eq_true rfl)
  rw [lg_entry_eq]
  generalize (lg_sl ([.ref (ad o), .int a0]) ++ List.replicate (2 - (lg_sl ([.ref (ad o), .int a0])).length) Slot.unset).toArray = ls at hl ⊢
  have hl : lv_has ls 2 [(0, .ref (ad o)), (1, .int a0)] := hl
  unfold g_X3_failAsTooMany at h
  refine lv_aload_n hx hb dX3_failAsTooMany_0 rfl (lv_at hl 0 rfl) ?_
  refine lv_aload_n hx hb dX3_failAsTooMany_1 rfl (lv_at hl 0 rfl) ?_
  obtain ⟨g2, h⟩ := oif_some h
  refine c_get E G o 1 (oO_k g2).1 (cc_o3 (oO_k g2).2) rfl (fun w h => .tail _ (iA_17 h)) (by decide) (.tail _ qA_176) rfl rfl dX3_failAsTooMany_2 ?_
  refine lv_topi (fun v3 ev3 => ?_)
  have h := elet_at ev3 h
  clear ev3
  refine lv_aload_n hx hb dX3_failAsTooMany_5 rfl (lv_at hl 0 rfl) ?_
  obtain ⟨g4, h⟩ := oif_some h
  obtain ⟨r7, T5, eT5, h⟩ := obind2_some h
  refine q_cvi (As := []) (rest := [.int v3, .ref (ad o)]) E G hA hX hN hml (u_X3_kind l hst D cI cJ cZ cMic cSrc cSt cAI cAJ ad T o eT5) (cwV 0 hts (gaV qA_239 qA_240 qA_241 qA_222 qA_242) rfl rfl rfl (by decide +kernel) ⟨Nat.le_of_ble_eq_true rfl, Nat.le_of_ble_eq_true rfl⟩) (oO_k g4).1 (cc_o3 (oO_k g4).2) rfl rfl hl.1 rfl (lv_room (Nat.le_of_ble_eq_true rfl)) dX3_failAsTooMany_6 ⟨Nat.zero_le _, Nat.zero_le _⟩ (fun q8 T6 H locs hq G => ?_)
  obtain ⟨hq1, hq2⟩ := hq
  rw [hq2] at G
  refine lv_to hq1 ?_
  clear hq1 hq2 eT5
  refine lv_iconst (v := 2) hx hb dX3_failAsTooMany_9 (by decide) ?_
  refine lv_icmp_ne (tgt := 25) hx hb dX3_failAsTooMany_10 (by decide) (fun c9 => ?_) (fun c9 => ?_)
  · have h := oif_neg c9 h
    have hl := lv_sub hl [] rfl
    exact x_X3_failAsTooMany_b25 E hA hX hN hml trivial hst htab hlocks (fun H locs t G hvm h1 h2 => ⟨T1, trivial, ⟨⟨rfl, rfl⟩, (c_thrown G hK hvm h1 h2).1⟩, (c_thrown G hK hvm h1 h2).2⟩) _ _ _ _ _ _ h G hl
  · have h := oif_pos c9 h
    refine lv_aload_n hx hb dX3_failAsTooMany_13 rfl (lv_at hl 0 rfl) ?_
    obtain ⟨g10, h⟩ := oif_some h
    obtain ⟨r13, T11, eT11, h⟩ := obind2_some h
    refine q_cvi (As := []) (rest := [.int v3, .ref (ad o)]) E G hA hX hN hml (u_X3_value l hst D cI cJ cZ cMic cSrc cSt cAI cAJ ad T5 o eT11) (cwV 0 hts (gaV qA_303 qA_304 qA_305 qA_222 qA_306) rfl rfl rfl (by decide +kernel) ⟨Nat.le_of_ble_eq_true rfl, Nat.le_of_ble_eq_true rfl⟩) (oO_k g10).1 (cc_o3 (oO_k g10).2) rfl rfl hl.1 rfl (lv_room (Nat.le_of_ble_eq_true rfl)) dX3_failAsTooMany_14 ⟨Nat.zero_le _, Nat.zero_le _⟩ (fun q14 T12 H locs hq G => ?_)
    obtain ⟨hq1, hq2⟩ := hq
    rw [hq2] at G
    refine lv_to hq1 ?_
    clear hq1 hq2 eT11
    refine lv_iload_n hx hb dX3_failAsTooMany_17 rfl (lv_at hl 1 rfl) ?_
    refine lv_icmp_le (tgt := 25) hx hb dX3_failAsTooMany_18 (by decide) (fun c15 => ?_) (fun c15 => ?_)
    · have h := oif_pos c15 h
      have hl := lv_sub hl [] rfl
      exact x_X3_failAsTooMany_b25 E hA hX hN hml trivial hst htab hlocks (fun H locs t G hvm h1 h2 => ⟨T1, trivial, ⟨⟨rfl, rfl⟩, (c_thrown G hK hvm h1 h2).1⟩, (c_thrown G hK hvm h1 h2).2⟩) _ _ _ _ _ _ h G hl
    · have h := oif_neg c15 h
      refine lv_iconst (v := 2) hx hb dX3_failAsTooMany_21 (by decide) ?_
      refine lv_goto (tgt := 26) hx hb dX3_failAsTooMany_22 (by decide) ?_
      have hl := lv_sub hl [] rfl
      exact x_X3_failAsTooMany_b26 E hA hX hN hml trivial hst htab hlocks (fun H locs t G hvm h1 h2 => ⟨T1, trivial, ⟨⟨rfl, rfl⟩, (c_thrown G hK hvm h1 h2).1⟩, (c_thrown G hK hvm h1 h2).2⟩) _ _ _ _ _ _ _ h G hl
def g_X3_parseShade_b73  (T : AT)  : Option (Nat × Int32 × AT) := some (0, 0, T)
set_option maxHeartbeats 4000000 in
set_option maxRecDepth 100000 in
theorem u_X3_parseShade_b73 {p : Program} {l : Launch} {e : Env} {s : State} {m : MethodId} {args : Array Value} {below : List Frame} {meth : Method} {c : Code} {Q : State → Prop} {D : va_G} {A : Nat → Prop} {cI cJ cZ cMic cSrc cSt cAI cAJ : ClassId} {ad : Nat → Nat} {r1 : Int32} {T1 : AT} (E : cE p c cX3_parseShade s m args (Cond.code yX3_parseShade cX3_parseShade 3 none :: wsA) D RX3 (CT cI cJ cZ cMic cSrc cSt cAI cAJ)) (hA : ∀ q : Nat, s.heap.size ≤ q → A q) (hX : xT A s) (hN : nX s) (hml : c.maxLocals = 3) (hst : l.stackTraces = false) (kr73 : ∀ (H : Heap) (locs : List Loc) (ls : Array Slot), gC cI cJ cZ cMic cSrc cSt cAI cAJ D ad A s.heap H locs T1 → W p l e { frames := 8, cells := 0, slots := 0, locals := 126 } s m args below meth c H locs 0 0 Q (F0 m 73 ls [])) : ∀ (T : AT) (H : Heap) (locs : List Loc) (ls : Array Slot), g_X3_parseShade_b73 T = some (0, r1, T1) → gC cI cJ cZ cMic cSrc cSt cAI cAJ D ad A s.heap H locs T → lv_has ls 3 [] → W p l e { frames := 8, cells := 0, slots := 0, locals := 126 } s m args below meth c H locs 0 0 Q (F0 m 73 ls []) := by
  have hx := E.1
  have hb := E.2.1
  have hts := E.2.2.1
  have hown := E.2.2.2.1
  have hK := E.2.2.2.2
  intro T H locs ls h G hl
  unfold g_X3_parseShade_b73 at h
  rw [(osome3 h).2.2] at G
  exact kr73 _ _ _ G
def g_X3_parseShade_b56 (k30 : AT → Nat → Nat → Int32 → Option (Nat × Int32 × AT)) (T : AT) (l0 : Nat) (l1 : Nat) (l2 : Int32) : Option (Nat × Int32 × AT) := oif (oO T l0 3 = true) <| othr (g_X3_number T l0 (0 : Int32) (9 : Int32)) 0 fun r5 T3 => oif (oO T3 l1 6 = true) <| obind (g_X6_addShade T3 l1 r5) fun T8 => elet (l2 + Int32.ofInt (1)) fun v10 => k30 T8 l0 l1 v10
set_option maxHeartbeats 4000000 in
set_option maxRecDepth 100000 in
theorem u_X3_parseShade_b56 {p : Program} {l : Launch} {e : Env} {s : State} {m : MethodId} {args : Array Value} {below : List Frame} {meth : Method} {c : Code} {Q : State → Prop} {D : va_G} {A : Nat → Prop} {cI cJ cZ cMic cSrc cSt cAI cAJ : ClassId} {ad : Nat → Nat} {r1 : Int32} {T1 : AT} (E : cE p c cX3_parseShade s m args (Cond.code yX3_parseShade cX3_parseShade 3 none :: wsA) D RX3 (CT cI cJ cZ cMic cSrc cSt cAI cAJ)) (hA : ∀ q : Nat, s.heap.size ≤ q → A q) (hX : xT A s) (hN : nX s) (hml : c.maxLocals = 3) (hst : l.stackTraces = false) (kr73 : ∀ (H : Heap) (locs : List Loc) (ls : Array Slot), gC cI cJ cZ cMic cSrc cSt cAI cAJ D ad A s.heap H locs T1 → W p l e { frames := 8, cells := 0, slots := 0, locals := 126 } s m args below meth c H locs 0 0 Q (F0 m 73 ls [])) {k30 : AT → Nat → Nat → Int32 → Option (Nat × Int32 × AT)} (hk30 : ∀ (T : AT) (H : Heap) (locs : List Loc) (ls : Array Slot) (l0 : Nat) (l1 : Nat) (l2 : Int32), k30 T l0 l1 l2 = some (0, r1, T1) → gC cI cJ cZ cMic cSrc cSt cAI cAJ D ad A s.heap H locs T → lv_has ls 3 [(0, .ref (ad l0)), (1, .ref (ad l1)), (2, .int l2)] → W p l e { frames := 8, cells := 0, slots := 0, locals := 126 } s m args below meth c H locs 0 0 Q (F0 m 30 ls [])) : ∀ (T : AT) (H : Heap) (locs : List Loc) (ls : Array Slot) (l0 : Nat) (l1 : Nat) (l2 : Int32), g_X3_parseShade_b56 k30 T l0 l1 l2 = some (0, r1, T1) → gC cI cJ cZ cMic cSrc cSt cAI cAJ D ad A s.heap H locs T → lv_has ls 3 [(0, .ref (ad l0)), (1, .ref (ad l1)), (2, .int l2)] → W p l e { frames := 8, cells := 0, slots := 0, locals := 126 } s m args below meth c H locs 0 0 Q (F0 m 56 ls []) := by
  have hx := E.1
  have hb := E.2.1
  have hts := E.2.2.1
  have hown := E.2.2.2.1
  have hK := E.2.2.2.2
  intro T H locs ls l0 l1 l2 h G hl
  unfold g_X3_parseShade_b56 at h
  refine lv_aload_n hx hb dX3_parseShade_56 rfl (lv_at hl 1 rfl) ?_
  refine lv_aload_n hx hb dX3_parseShade_57 rfl (lv_at hl 0 rfl) ?_
  refine lv_iconst (v := 0) hx hb dX3_parseShade_58 (by decide) ?_
  refine lv_bipush (v := 9) hx hb dX3_parseShade_59 (by decide) ?_
  obtain ⟨g2, h⟩ := oif_some h
  obtain ⟨r5, T3, eT3, h⟩ := othr_n h
  refine q_cvi (As := [.int 0, .int 9]) (rest := [.ref (ad l1)]) E G hA hX hN hml (u_X3_number l hst D cI cJ cZ cMic cSrc cSt cAI cAJ ad T l0 (0 : Int32) (9 : Int32) eT3) (cwV 2 hts (gaV qA_299 qA_300 qA_301 qA_222 qA_302) rfl rfl rfl (by decide +kernel) ⟨Nat.le_of_ble_eq_true rfl, Nat.le_of_ble_eq_true rfl⟩) (oO_k g2).1 (cc_o3 (oO_k g2).2) rfl rfl hl.1 rfl (lv_room (Nat.le_of_ble_eq_true rfl)) dX3_parseShade_61 ⟨Nat.zero_le _, Nat.zero_le _⟩ (fun q6 T4 H locs hq G => ?_)
  obtain ⟨hq1, hq2⟩ := hq
  rw [hq2] at G
  refine lv_to hq1 ?_
  clear hq1 hq2 eT3
  obtain ⟨g7, h⟩ := oif_some h
  obtain ⟨T8, eT8, h⟩ := obind_some h
  refine q_cvv (As := [.int r5]) (rest := []) E G hA hX hN hml (u_X6_addShade l hst D cI cJ cZ cMic cSrc cSt cAI cAJ ad T3 l1 r5 eT8) (cwV 1 hts (gaV qA_396 qA_397 qA_398 qA_207 qA_399) rfl rfl rfl (by decide +kernel) ⟨Nat.le_of_ble_eq_true rfl, Nat.le_of_ble_eq_true rfl⟩) (oO_k g7).1 (cc_o6 (oO_k g7).2) rfl rfl hl.1 rfl (lv_room (Nat.le_of_ble_eq_true rfl)) dX3_parseShade_64 ⟨Nat.zero_le _, Nat.zero_le _⟩ (fun T9 H locs hq G => ?_)
  rw [hq] at G
  clear hq eT8
  obtain ⟨v10, ev10, h⟩ := elet_some h
  refine lv_iinc (v := v10) (lv' := [(2, .int v10), (0, .ref (ad l0)), (1, .ref (ad l1))]) hx hb dX3_parseShade_67 hl (k := 2) rfl ev10.symm (by decide) rfl (fun ls hl => ?_)
  refine lv_goto (tgt := 30) hx hb dX3_parseShade_70 (by decide) ?_
  have hl := lv_sub hl [1, 2, 0] rfl
  exact hk30 _ _ _ _ _ _ _ h G hl
def g_X3_parseShade_b30  : Nat → AT → Nat → Nat → Int32 → Option (Nat × Int32 × AT)
  | 0, _, _, _, _ => none
  | n + 1, T, l0, l1, l2 => if 12 < l2 then (g_X3_parseShade_b73 T) else (oif (oO T l0 3 = true) <| obind2 (g_X3_kind T l0) fun r6 T4 => if r6 = 2 then (if l2 = 12 then (oif (oO T4 l0 3 = true) <| othr (g_X3_failAsTooMany T4 l0 (9 : Int32)) 0 fun r13 T11 => g_X3_parseShade_b56 (g_X3_parseShade_b30 n) T11 l0 l1 l2) else (g_X3_parseShade_b56 (g_X3_parseShade_b30 n) T4 l0 l1 l2)) else (g_X3_parseShade_b73 T4))
set_option maxHeartbeats 4000000 in
set_option maxRecDepth 100000 in
theorem u_X3_parseShade_b30 {p : Program} {l : Launch} {e : Env} {s : State} {m : MethodId} {args : Array Value} {below : List Frame} {meth : Method} {c : Code} {Q : State → Prop} {D : va_G} {A : Nat → Prop} {cI cJ cZ cMic cSrc cSt cAI cAJ : ClassId} {ad : Nat → Nat} {r1 : Int32} {T1 : AT} (E : cE p c cX3_parseShade s m args (Cond.code yX3_parseShade cX3_parseShade 3 none :: wsA) D RX3 (CT cI cJ cZ cMic cSrc cSt cAI cAJ)) (hA : ∀ q : Nat, s.heap.size ≤ q → A q) (hX : xT A s) (hN : nX s) (hml : c.maxLocals = 3) (hst : l.stackTraces = false) (kr73 : ∀ (H : Heap) (locs : List Loc) (ls : Array Slot), gC cI cJ cZ cMic cSrc cSt cAI cAJ D ad A s.heap H locs T1 → W p l e { frames := 8, cells := 0, slots := 0, locals := 126 } s m args below meth c H locs 0 0 Q (F0 m 73 ls [])) : ∀ n : Nat, ∀ (T : AT) (H : Heap) (locs : List Loc) (ls : Array Slot) (l0 : Nat) (l1 : Nat) (l2 : Int32), g_X3_parseShade_b30 n T l0 l1 l2 = some (0, r1, T1) → gC cI cJ cZ cMic cSrc cSt cAI cAJ D ad A s.heap H locs T → lv_has ls 3 [(0, .ref (ad l0)), (1, .ref (ad l1)), (2, .int l2)] → W p l e { frames := 8, cells := 0, slots := 0, locals := 126 } s m args below meth c H locs 0 0 Q (F0 m 30 ls []) := by
  have hx := E.1
  have hb := E.2.1
  have hts := E.2.2.1
  have hown := E.2.2.2.1
  have hK := E.2.2.2.2
  intro n
  induction n with
  | zero =>
    intro T H locs ls l0 l1 l2 h
    have h : (none : Option (Nat × Int32 × AT)) = some (0, r1, T1) := h
    cases h
  | succ n ih =>
    intro T H locs ls l0 l1 l2 h G hl
    unfold g_X3_parseShade_b30 at h
    refine lv_iload_n hx hb dX3_parseShade_30 rfl (lv_at hl 2 rfl) ?_
    refine lv_bipush (v := 12) hx hb dX3_parseShade_31 (by decide) ?_
    refine lv_icmp_gt (tgt := 73) hx hb dX3_parseShade_33 (by decide) (fun c2 => ?_) (fun c2 => ?_)
    · have h := oif_pos c2 h
      have hl := lv_sub hl [] rfl
      exact u_X3_parseShade_b73 E hA hX hN hml hst kr73 _ _ _ _ h G hl
    · have h := oif_neg c2 h
      refine lv_aload_n hx hb dX3_parseShade_36 rfl (lv_at hl 0 rfl) ?_
      obtain ⟨g3, h⟩ := oif_some h
      obtain ⟨r6, T4, eT4, h⟩ := obind2_some h
      refine q_cvi (As := []) (rest := []) E G hA hX hN hml (u_X3_kind l hst D cI cJ cZ cMic cSrc cSt cAI cAJ ad T l0 eT4) (cwV 0 hts (gaV qA_239 qA_240 qA_241 qA_222 qA_242) rfl rfl rfl (by decide +kernel) ⟨Nat.le_of_ble_eq_true rfl, Nat.le_of_ble_eq_true rfl⟩) (oO_k g3).1 (cc_o3 (oO_k g3).2) rfl rfl hl.1 rfl (lv_room (Nat.le_of_ble_eq_true rfl)) dX3_parseShade_37 ⟨Nat.zero_le _, Nat.zero_le _⟩ (fun q7 T5 H locs hq G => ?_)
      obtain ⟨hq1, hq2⟩ := hq
      rw [hq2] at G
      refine lv_to hq1 ?_
      clear hq1 hq2 eT4
      refine lv_iconst (v := 2) hx hb dX3_parseShade_40 (by decide) ?_
      refine lv_icmp_ne (tgt := 73) hx hb dX3_parseShade_41 (by decide) (fun c8 => ?_) (fun c8 => ?_)
      · have h := oif_neg c8 h
        have hl := lv_sub hl [] rfl
        exact u_X3_parseShade_b73 E hA hX hN hml hst kr73 _ _ _ _ h G hl
      · have h := oif_pos c8 h
        refine lv_iload_n hx hb dX3_parseShade_44 rfl (lv_at hl 2 rfl) ?_
        refine lv_bipush (v := 12) hx hb dX3_parseShade_45 (by decide) ?_
        refine lv_icmp_ne (tgt := 56) hx hb dX3_parseShade_47 (by decide) (fun c9 => ?_) (fun c9 => ?_)
        · have h := oif_neg c9 h
          have hl := lv_sub hl [0, 1, 2] rfl
          exact u_X3_parseShade_b56 E hA hX hN hml hst kr73 ih _ _ _ _ _ _ _ h G hl
        · have h := oif_pos c9 h
          refine lv_aload_n hx hb dX3_parseShade_50 rfl (lv_at hl 0 rfl) ?_
          refine lv_bipush (v := 9) hx hb dX3_parseShade_51 (by decide) ?_
          obtain ⟨g10, h⟩ := oif_some h
          obtain ⟨r13, T11, eT11, h⟩ := othr_n h
          refine q_cvv (As := [.int 9]) (rest := []) E G hA hX hN hml (u_X3_failAsTooMany l hst D cI cJ cZ cMic cSrc cSt cAI cAJ ad T4 l0 (9 : Int32) eT11) (cwV 1 hts (gaV qA_376 qA_377 qA_378 qA_222 qA_379) rfl rfl rfl (by decide +kernel) ⟨Nat.le_of_ble_eq_true rfl, Nat.le_of_ble_eq_true rfl⟩) (oO_k g10).1 (cc_o3 (oO_k g10).2) rfl rfl hl.1 rfl (lv_room (Nat.le_of_ble_eq_true rfl)) dX3_parseShade_53 ⟨Nat.zero_le _, Nat.zero_le _⟩ (fun T12 H locs hq G => ?_)
          rw [hq] at G
          clear hq eT11
          have hl := lv_sub hl [0, 1, 2] rfl
          exact u_X3_parseShade_b56 E hA hX hN hml hst kr73 ih _ _ _ _ _ _ _ h G hl
def g_X3_parseShade_b13  (T : AT) (s0 : Int32) (s1 : Nat) (l0 : Nat) (l1 : Nat) : Option (Nat × Int32 × AT) := oif (oO T s1 3 = true) <| othr (g_X3_startLine T s1 s0 (3 : Int32)) 0 fun r5 T3 => oif (oO T3 l0 3 = true) <| othr (g_X3_number T3 l0 (0 : Int32) (9 : Int32)) 0 fun r10 T8 => oif (oO T8 l1 6 = true) <| obind (g_X6_addShade T8 l1 r10) fun T13 => g_X3_parseShade_b30 16384 T13 l0 l1 1
set_option maxHeartbeats 4000000 in
set_option maxRecDepth 100000 in
theorem u_X3_parseShade_b13 {p : Program} {l : Launch} {e : Env} {s : State} {m : MethodId} {args : Array Value} {below : List Frame} {meth : Method} {c : Code} {Q : State → Prop} {D : va_G} {A : Nat → Prop} {cI cJ cZ cMic cSrc cSt cAI cAJ : ClassId} {ad : Nat → Nat} {r1 : Int32} {T1 : AT} (E : cE p c cX3_parseShade s m args (Cond.code yX3_parseShade cX3_parseShade 3 none :: wsA) D RX3 (CT cI cJ cZ cMic cSrc cSt cAI cAJ)) (hA : ∀ q : Nat, s.heap.size ≤ q → A q) (hX : xT A s) (hN : nX s) (hml : c.maxLocals = 3) (hst : l.stackTraces = false) (kr73 : ∀ (H : Heap) (locs : List Loc) (ls : Array Slot), gC cI cJ cZ cMic cSrc cSt cAI cAJ D ad A s.heap H locs T1 → W p l e { frames := 8, cells := 0, slots := 0, locals := 126 } s m args below meth c H locs 0 0 Q (F0 m 73 ls [])) : ∀ (T : AT) (H : Heap) (locs : List Loc) (ls : Array Slot) (s0 : Int32) (s1 : Nat) (l0 : Nat) (l1 : Nat), g_X3_parseShade_b13 T s0 s1 l0 l1 = some (0, r1, T1) → gC cI cJ cZ cMic cSrc cSt cAI cAJ D ad A s.heap H locs T → lv_has ls 3 [(0, .ref (ad l0)), (1, .ref (ad l1))] → W p l e { frames := 8, cells := 0, slots := 0, locals := 126 } s m args below meth c H locs 0 0 Q (F0 m 13 ls [.int s0, .ref (ad s1)]) := by
  have hx := E.1
  have hb := E.2.1
  have hts := E.2.2.1
  have hown := E.2.2.2.1
  have hK := E.2.2.2.2
  intro T H locs ls s0 s1 l0 l1 h G hl
  unfold g_X3_parseShade_b13 at h
  refine lv_iconst (v := 3) hx hb dX3_parseShade_13 (by decide) ?_
  obtain ⟨g2, h⟩ := oif_some h
  obtain ⟨r5, T3, eT3, h⟩ := othr_n h
  refine q_cvv (As := [.int s0, .int 3]) (rest := []) E G hA hX hN hml (u_X3_startLine l hst D cI cJ cZ cMic cSrc cSt cAI cAJ ad T s1 s0 (3 : Int32) eT3) (cwV 2 hts (gaV qA_321 qA_322 qA_323 qA_222 qA_324) rfl rfl rfl (by decide +kernel) ⟨Nat.le_of_ble_eq_true rfl, Nat.le_of_ble_eq_true rfl⟩) (oO_k g2).1 (cc_o3 (oO_k g2).2) rfl rfl hl.1 rfl (lv_room (Nat.le_of_ble_eq_true rfl)) dX3_parseShade_14 ⟨Nat.zero_le _, Nat.zero_le _⟩ (fun T4 H locs hq G => ?_)
  rw [hq] at G
  clear hq eT3
  refine lv_aload_n hx hb dX3_parseShade_17 rfl (lv_at hl 1 rfl) ?_
  refine lv_aload_n hx hb dX3_parseShade_18 rfl (lv_at hl 0 rfl) ?_
  refine lv_iconst (v := 0) hx hb dX3_parseShade_19 (by decide) ?_
  refine lv_bipush (v := 9) hx hb dX3_parseShade_20 (by decide) ?_
  obtain ⟨g7, h⟩ := oif_some h
  obtain ⟨r10, T8, eT8, h⟩ := othr_n h
  refine q_cvi (As := [.int 0, .int 9]) (rest := [.ref (ad l1)]) E G hA hX hN hml (u_X3_number l hst D cI cJ cZ cMic cSrc cSt cAI cAJ ad T3 l0 (0 : Int32) (9 : Int32) eT8) (cwV 2 hts (gaV qA_299 qA_300 qA_301 qA_222 qA_302) rfl rfl rfl (by decide +kernel) ⟨Nat.le_of_ble_eq_true rfl, Nat.le_of_ble_eq_true rfl⟩) (oO_k g7).1 (cc_o3 (oO_k g7).2) rfl rfl hl.1 rfl (lv_room (Nat.le_of_ble_eq_true rfl)) dX3_parseShade_22 ⟨Nat.zero_le _, Nat.zero_le _⟩ (fun q11 T9 H locs hq G => ?_)
  obtain ⟨hq1, hq2⟩ := hq
  rw [hq2] at G
  refine lv_to hq1 ?_
  clear hq1 hq2 eT8
  obtain ⟨g12, h⟩ := oif_some h
  obtain ⟨T13, eT13, h⟩ := obind_some h
  refine q_cvv (As := [.int r10]) (rest := []) E G hA hX hN hml (u_X6_addShade l hst D cI cJ cZ cMic cSrc cSt cAI cAJ ad T8 l1 r10 eT13) (cwV 1 hts (gaV qA_396 qA_397 qA_398 qA_207 qA_399) rfl rfl rfl (by decide +kernel) ⟨Nat.le_of_ble_eq_true rfl, Nat.le_of_ble_eq_true rfl⟩) (oO_k g12).1 (cc_o6 (oO_k g12).2) rfl rfl hl.1 rfl (lv_room (Nat.le_of_ble_eq_true rfl)) dX3_parseShade_25 ⟨Nat.zero_le _, Nat.zero_le _⟩ (fun T14 H locs hq G => ?_)
  rw [hq] at G
  clear hq eT13
  refine lv_iconst (v := 1) hx hb dX3_parseShade_28 (by decide) ?_
  refine lv_istore_n (lv' := [(2, .int 1), (0, .ref (ad l0)), (1, .ref (ad l1))]) hx hb dX3_parseShade_29 rfl hl (by decide) rfl (fun ls hl => ?_)
  have hl := lv_sub hl [1, 2, 0] rfl
  exact u_X3_parseShade_b30 E hA hX hN hml hst kr73 _ _ _ _ _ _ _ _ h G hl
def g_X3_parseShade (T : AT) (o : Nat) (a0 : Nat) : Option (Nat × Int32 × AT) := oif (oO T a0 6 = true) <| elet (T.2.2.1 a0 16) fun v3 => if v3 ≤ 0 then (g_X3_parseShade_b13 T 0 o o a0) else (g_X3_parseShade_b13 T 1 o o a0)
set_option maxHeartbeats 4000000 in
set_option maxRecDepth 100000 in
theorem u_X3_parseShade (l : Launch) (hst : l.stackTraces = false) (D : va_G) (cI cJ cZ cMic cSrc cSt cAI cAJ : ClassId) (ad : Nat → Nat) (T : AT) (o : Nat) (a0 : Nat) {r1 : Int32} {T1 : AT} (h : g_X3_parseShade T o a0 = some (0, r1, T1)) : kCv l yX3_parseShade (Cond.code yX3_parseShade cX3_parseShade 3 none :: wsA) 8 126 cI cJ cZ cMic cSrc cSt cAI cAJ D ad T [.ref (ad o), .ref (ad a0)] (fun T9 => T9 = T1) := by
  intro sz
  refine Met.ofW (cc := cX3_parseShade) (maxL := 3) (ret := none) (by decide) rfl ?_
  intro p e s m args below meth c s₁ B hml hv
  obtain ⟨rfl, hsz, hP, hK, hD0, hX, hN⟩ := hv
  have hx := B.exec
  have hb := B.bytes
  have hr := B.returns
  have hts := atoms_spec (ws := (Cond.code yX3_parseShade cX3_parseShade 3 none :: wsA)) B.pre
  have hown : s.vm.findClass RX3 = some m.cls := findClass_of_methodNamed B.named
  have hlocks := B.notSynchronized
  subst hsz
  have hD := hD0.self (sz := s.heap.size)
  generalize hAe : va_A (cW ad T.1 (cc cI cJ cZ cMic cSrc cSt cAI cAJ ad T)) s.heap.size = A at hD hX ⊢
  have hA : ∀ q : Nat, s.heap.size ≤ q → A q := fun q h => by rw [← hAe]; exact Or.inr h
  have G : gC cI cJ cZ cMic cSrc cSt cAI cAJ D ad A s.heap s.heap [] T := ⟨hP, hD, va_S.rf⟩
  have E : cE p c cX3_parseShade s m ([.ref (ad o), .ref (ad a0)] : List Value).toArray (Cond.code yX3_parseShade cX3_parseShade 3 none :: wsA) D RX3 (CT cI cJ cZ cMic cSrc cSt cAI cAJ) := ⟨hx, hb, hts, hown, hK⟩
  have hl := lv_entry ([.ref (ad o), .ref (ad a0)]) (n := 3) (Nat.le_of_ble_eq_true rfl)
  rw [lg_entry_eq]
  generalize (lg_sl ([.ref (ad o), .ref (ad a0)]) ++ List.replicate (3 - (lg_sl ([.ref (ad o), .ref (ad a0)])).length) Slot.unset).toArray = ls at hl ⊢
  have hl : lv_has ls 3 [(0, .ref (ad o)), (1, .ref (ad a0))] := hl
  unfold g_X3_parseShade at h
  refine lv_aload_n hx hb dX3_parseShade_0 rfl (lv_at hl 0 rfl) ?_
  refine lv_aload_n hx hb dX3_parseShade_1 rfl (lv_at hl 1 rfl) ?_
  obtain ⟨g2, h⟩ := oif_some h
  refine c_get E G a0 16 (oO_k g2).1 (cc_o6 (oO_k g2).2) rfl (fun w h => .tail _ (iA_14 h)) (by decide) (.tail _ qA_395) rfl rfl dX3_parseShade_2 ?_
  refine lv_topi (fun v3 ev3 => ?_)
  have h := elet_at ev3 h
  clear ev3
  refine lv_if_le (tgt := 12) hx hb dX3_parseShade_5 (by decide) (fun c4 => ?_) (fun c4 => ?_)
  · have h := oif_pos c4 h
    refine lv_iconst (v := 0) hx hb dX3_parseShade_12 (by decide) ?_
    have hl := lv_sub hl [0, 1] rfl
    exact u_X3_parseShade_b13 E hA hX hN hml hst (fun H locs ls G => W.vret hx hb hr (fun t ht hW => ⟨⟨T1, rfl, rfl, ⟨by rw [ht]; exact G.1, va_K.moved hW.alike hK, G.2.1⟩⟩, G.2.2.F ht⟩) G.2.2.2.2 dX3_parseShade_73) _ _ _ _ _ _ _ _ h G hl
  · have h := oif_neg c4 h
    refine lv_iconst (v := 1) hx hb dX3_parseShade_8 (by decide) ?_
    refine lv_goto (tgt := 13) hx hb dX3_parseShade_9 (by decide) ?_
    have hl := lv_sub hl [0, 1] rfl
    exact u_X3_parseShade_b13 E hA hX hN hml hst (fun H locs ls G => W.vret hx hb hr (fun t ht hW => ⟨⟨T1, rfl, rfl, ⟨by rw [ht]; exact G.1, va_K.moved hW.alike hK, G.2.1⟩⟩, G.2.2.F ht⟩) G.2.2.2.2 dX3_parseShade_73) _ _ _ _ _ _ _ _ h G hl
set_option maxHeartbeats 4000000 in
set_option maxRecDepth 100000 in
theorem s_X3_parseShade_b73 {e1 : Nat} {r1 : Int32} {T1 : AT} : ∀ (T : AT), g_X3_parseShade_b73 T = some (e1, r1, T1) → SP T T1 := by
  intro T h
  have p0 := SP.rf T
  unfold g_X3_parseShade_b73 at h
  rw [← (osome3 h).2.2]
  exact p0
set_option maxHeartbeats 4000000 in
set_option maxRecDepth 100000 in
theorem s_X3_parseShade_b56 {e1 : Nat} {r1 : Int32} {T1 : AT} {k30 : AT → Nat → Nat → Int32 → Option (Nat × Int32 × AT)} (hk30 : ∀ (T : AT) (l0 : Nat) (l1 : Nat) (l2 : Int32), k30 T l0 l1 l2 = some (e1, r1, T1) → SP T T1) : ∀ (T : AT) (l0 : Nat) (l1 : Nat) (l2 : Int32), g_X3_parseShade_b56 k30 T l0 l1 l2 = some (e1, r1, T1) → SP T T1 := by
  intro T l0 l1 l2 h
  have p0 := SP.rf T
  unfold g_X3_parseShade_b56 at h
  obtain ⟨g2, h⟩ := oif_some h
  rcases othr_s h with ⟨k9, r9, e9, -⟩ | ⟨r4, T3, eT3, h⟩
  · exact SP.tr p0 (s_X3_number e9)
  have p1 : SP T T3 := SP.tr p0 (s_X3_number eT3)
  obtain ⟨g5, h⟩ := oif_some h
  obtain ⟨T6, eT6, h⟩ := obind_some h
  have p2 : SP T T6 := SP.tr p1 (s_X6_addShade eT6)
  obtain ⟨v8, ev8, h⟩ := elet_some h
  exact SP.tr p2 (hk30 _ _ _ _ h)
set_option maxHeartbeats 4000000 in
set_option maxRecDepth 100000 in
theorem s_X3_parseShade_b30 {e1 : Nat} {r1 : Int32} {T1 : AT} : ∀ n : Nat, ∀ (T : AT) (l0 : Nat) (l1 : Nat) (l2 : Int32), g_X3_parseShade_b30 n T l0 l1 l2 = some (e1, r1, T1) → SP T T1 := by
  intro n
  induction n with
  | zero =>
    intro T l0 l1 l2 h
    have h : (none : Option (Nat × Int32 × AT)) = some (e1, r1, T1) := h
    cases h
  | succ n ih =>
    intro T l0 l1 l2 h
    have p0 := SP.rf T
    unfold g_X3_parseShade_b30 at h
    rcases oif_or h with ⟨c2, h⟩ | ⟨c2, h⟩
    · have h := h
      exact SP.tr p0 (s_X3_parseShade_b73 _ h)
    · have h := h
      obtain ⟨g3, h⟩ := oif_some h
      obtain ⟨r5, T4, eT4, h⟩ := obind2_some h
      have p1 : SP T T4 := SP.tr p0 (s_X3_kind eT4)
      rcases oif_or h with ⟨c6, h⟩ | ⟨c6, h⟩
      · have h := h
        rcases oif_or h with ⟨c7, h⟩ | ⟨c7, h⟩
        · have h := h
          obtain ⟨g8, h⟩ := oif_some h
          rcases othr_s h with ⟨k9, r9, e9, -⟩ | ⟨r10, T9, eT9, h⟩
          · exact SP.tr p1 (s_X3_failAsTooMany e9)
          have p2 : SP T T9 := SP.tr p1 (s_X3_failAsTooMany eT9)
          exact SP.tr p2 (s_X3_parseShade_b56 ih _ _ _ _ h)
        · have h := h
          exact SP.tr p1 (s_X3_parseShade_b56 ih _ _ _ _ h)
      · have h := h
        exact SP.tr p1 (s_X3_parseShade_b73 _ h)
set_option maxHeartbeats 4000000 in
set_option maxRecDepth 100000 in
theorem s_X3_parseShade_b13 {e1 : Nat} {r1 : Int32} {T1 : AT} : ∀ (T : AT) (s0 : Int32) (s1 : Nat) (l0 : Nat) (l1 : Nat), g_X3_parseShade_b13 T s0 s1 l0 l1 = some (e1, r1, T1) → SP T T1 := by
  intro T s0 s1 l0 l1 h
  have p0 := SP.rf T
  unfold g_X3_parseShade_b13 at h
  obtain ⟨g2, h⟩ := oif_some h
  rcases othr_s h with ⟨k9, r9, e9, -⟩ | ⟨r4, T3, eT3, h⟩
  · exact SP.tr p0 (s_X3_startLine e9)
  have p1 : SP T T3 := SP.tr p0 (s_X3_startLine eT3)
  obtain ⟨g5, h⟩ := oif_some h
  rcases othr_s h with ⟨k9, r9, e9, -⟩ | ⟨r7, T6, eT6, h⟩
  · exact SP.tr p1 (s_X3_number e9)
  have p2 : SP T T6 := SP.tr p1 (s_X3_number eT6)
  obtain ⟨g8, h⟩ := oif_some h
  obtain ⟨T9, eT9, h⟩ := obind_some h
  have p3 : SP T T9 := SP.tr p2 (s_X6_addShade eT9)
  exact SP.tr p3 (s_X3_parseShade_b30 _ _ _ _ _ h)
set_option maxHeartbeats 4000000 in
set_option maxRecDepth 100000 in
theorem s_X3_parseShade {T : AT} {o : Nat} {a0 : Nat} {e1 : Nat} {r1 : Int32} {T1 : AT} (h : g_X3_parseShade T o a0 = some (e1, r1, T1)) : SP T T1 := by
  have p0 := SP.rf T
  unfold g_X3_parseShade at h
  obtain ⟨g2, h⟩ := oif_some h
  obtain ⟨v3, -, h⟩ := elet_some h
  rcases oif_or h with ⟨c4, h⟩ | ⟨c4, h⟩
  · have h := h
    exact SP.tr p0 (s_X3_parseShade_b13 _ _ _ _ _ h)
  · have h := h
    exact SP.tr p0 (s_X3_parseShade_b13 _ _ _ _ _ h)
set_option maxHeartbeats 4000000 in
set_option maxRecDepth 100000 in
theorem x_X3_parseShade_b73 {p : Program} {l : Launch} {e : Env} {s : State} {m : MethodId} {args : Array Value} {below : List Frame} {meth : Method} {c : Code} {Qc : Array Value → State → Outcome → State → Prop} {XC : String → State → State → Prop} {D : va_G} {A : Nat → Prop} {cI cJ cZ cMic cSrc cSt cAI cAJ : ClassId} {ad : Nat → Nat} {e1 : Nat} {r1 : Int32} {T1 : AT} (E : cE p c cX3_parseShade s m args (Cond.code yX3_parseShade cX3_parseShade 3 none :: wsA) D RX3 (CT cI cJ cZ cMic cSrc cSt cAI cAJ)) (hA : ∀ q : Nat, s.heap.size ≤ q → A q) (hX : xT A s) (hN : nX s) (hml : c.maxLocals = 3) (hz9 : True) (hst : l.stackTraces = false) (htab : ∀ x ∈ c.exceptionTable.toList, False) (hlocks : meth.locks = false) (kx : ∀ (H : Heap) (locs : List Loc) (t : State), gC cI cJ cZ cMic cSrc cSt cAI cAJ D ad A s.heap H locs T1 → s.vm.Alike t.vm → H.size ≤ t.heap.size → (∀ q, q < H.size → t.heap[q]? = H[q]?) → XC (exn e1) s t) : ∀ (T : AT) (H : Heap) (locs : List Loc) (ls : Array Slot), g_X3_parseShade_b73 T = some (e1 + 1, r1, T1) → gC cI cJ cZ cMic cSrc cSt cAI cAJ D ad A s.heap H locs T → lv_has ls 3 [] → W p l e { frames := 8, cells := 1, slots := 6, locals := 126 } s m args below meth c H locs 0 0 (vx_MQ below Qc XC args s 1 6 A) (F0 m 73 ls []) := by
  have hx := E.1
  have hb := E.2.1
  have hts := E.2.2.1
  have hown := E.2.2.2.1
  have hK := E.2.2.2.2
  intro T H locs ls h G hl
  unfold g_X3_parseShade_b73 at h
  exact (Nat.succ_ne_zero _ (congrArg Prod.fst (Option.some.inj h)).symm).elim
set_option maxHeartbeats 4000000 in
set_option maxRecDepth 100000 in
theorem x_X3_parseShade_b56 {p : Program} {l : Launch} {e : Env} {s : State} {m : MethodId} {args : Array Value} {below : List Frame} {meth : Method} {c : Code} {Qc : Array Value → State → Outcome → State → Prop} {XC : String → State → State → Prop} {D : va_G} {A : Nat → Prop} {cI cJ cZ cMic cSrc cSt cAI cAJ : ClassId} {ad : Nat → Nat} {e1 : Nat} {r1 : Int32} {T1 : AT} (E : cE p c cX3_parseShade s m args (Cond.code yX3_parseShade cX3_parseShade 3 none :: wsA) D RX3 (CT cI cJ cZ cMic cSrc cSt cAI cAJ)) (hA : ∀ q : Nat, s.heap.size ≤ q → A q) (hX : xT A s) (hN : nX s) (hml : c.maxLocals = 3) (hz9 : True) (hst : l.stackTraces = false) (htab : ∀ x ∈ c.exceptionTable.toList, False) (hlocks : meth.locks = false) (kx : ∀ (H : Heap) (locs : List Loc) (t : State), gC cI cJ cZ cMic cSrc cSt cAI cAJ D ad A s.heap H locs T1 → s.vm.Alike t.vm → H.size ≤ t.heap.size → (∀ q, q < H.size → t.heap[q]? = H[q]?) → XC (exn e1) s t) {k30 : AT → Nat → Nat → Int32 → Option (Nat × Int32 × AT)} (hk30 : ∀ (T : AT) (H : Heap) (locs : List Loc) (ls : Array Slot) (l0 : Nat) (l1 : Nat) (l2 : Int32), k30 T l0 l1 l2 = some (e1 + 1, r1, T1) → gC cI cJ cZ cMic cSrc cSt cAI cAJ D ad A s.heap H locs T → lv_has ls 3 [(0, .ref (ad l0)), (1, .ref (ad l1)), (2, .int l2)] → W p l e { frames := 8, cells := 1, slots := 6, locals := 126 } s m args below meth c H locs 0 0 (vx_MQ below Qc XC args s 1 6 A) (F0 m 30 ls [])) : ∀ (T : AT) (H : Heap) (locs : List Loc) (ls : Array Slot) (l0 : Nat) (l1 : Nat) (l2 : Int32), g_X3_parseShade_b56 k30 T l0 l1 l2 = some (e1 + 1, r1, T1) → gC cI cJ cZ cMic cSrc cSt cAI cAJ D ad A s.heap H locs T → lv_has ls 3 [(0, .ref (ad l0)), (1, .ref (ad l1)), (2, .int l2)] → W p l e { frames := 8, cells := 1, slots := 6, locals := 126 } s m args below meth c H locs 0 0 (vx_MQ below Qc XC args s 1 6 A) (F0 m 56 ls []) := by
  have hx := E.1
  have hb := E.2.1
  have hts := E.2.2.1
  have hown := E.2.2.2.1
  have hK := E.2.2.2.2
  intro T H locs ls l0 l1 l2 h G hl
  unfold g_X3_parseShade_b56 at h
  refine lv_aload_n hx hb dX3_parseShade_56 rfl (lv_at hl 1 rfl) ?_
  refine lv_aload_n hx hb dX3_parseShade_57 rfl (lv_at hl 0 rfl) ?_
  refine lv_iconst (v := 0) hx hb dX3_parseShade_58 (by decide) ?_
  refine lv_bipush (v := 9) hx hb dX3_parseShade_59 (by decide) ?_
  obtain ⟨g2, h⟩ := oif_some h
  rcases othr_t h with ⟨r0, eT3⟩ | ⟨r5, T3, eT3, h⟩
  · refine q_xvi (As := [.int 0, .int 9]) (rest := [.ref (ad l1)]) E G hA hX hN hml (x_X3_number l hst D cI cJ cZ cMic cSrc cSt cAI cAJ ad T l0 (0 : Int32) (9 : Int32) eT3) (cwV 2 hts (gaV qA_299 qA_300 qA_301 qA_222 qA_302) rfl rfl rfl (by decide +kernel) ⟨Nat.le_of_ble_eq_true rfl, Nat.le_of_ble_eq_true rfl⟩) (oO_k g2).1 (cc_o3 (oO_k g2).2) rfl rfl hl.1 rfl (lv_room (Nat.le_of_ble_eq_true rfl)) dX3_parseShade_61 ⟨Nat.le_of_ble_eq_true rfl, Nat.le_of_ble_eq_true rfl⟩ (fun E9 ce q9 T9 H locs hp G hce hcv hcl => ?_)
    obtain ⟨hE, hT⟩ := hp
    subst hE
    rw [hT] at G
    exact vx_out (fun x hx => (htab x hx).elim) hlocks hce hcv hcl (fun t ht hvm => kx _ _ _ G hvm (by rw [ht]; exact Nat.le_refl _) (fun q hq => by rw [ht])) G.2.2.2.2 (Nat.le_refl _) (Nat.le_refl _)
  refine q_cvi (As := [.int 0, .int 9]) (rest := [.ref (ad l1)]) E G hA hX hN hml (u_X3_number l hst D cI cJ cZ cMic cSrc cSt cAI cAJ ad T l0 (0 : Int32) (9 : Int32) eT3) (cwV 2 hts (gaV qA_299 qA_300 qA_301 qA_222 qA_302) rfl rfl rfl (by decide +kernel) ⟨Nat.le_of_ble_eq_true rfl, Nat.le_of_ble_eq_true rfl⟩) (oO_k g2).1 (cc_o3 (oO_k g2).2) rfl rfl hl.1 rfl (lv_room (Nat.le_of_ble_eq_true rfl)) dX3_parseShade_61 ⟨Nat.zero_le _, Nat.zero_le _⟩ (fun q6 T4 H locs hq G => ?_)
  obtain ⟨hq1, hq2⟩ := hq
  rw [hq2] at G
  refine lv_to hq1 ?_
  clear hq1 hq2 eT3
  obtain ⟨g7, h⟩ := oif_some h
  obtain ⟨T8, eT8, h⟩ := obind_some h
  refine q_cvv (As := [.int r5]) (rest := []) E G hA hX hN hml (u_X6_addShade l hst D cI cJ cZ cMic cSrc cSt cAI cAJ ad T3 l1 r5 eT8) (cwV 1 hts (gaV qA_396 qA_397 qA_398 qA_207 qA_399) rfl rfl rfl (by decide +kernel) ⟨Nat.le_of_ble_eq_true rfl, Nat.le_of_ble_eq_true rfl⟩) (oO_k g7).1 (cc_o6 (oO_k g7).2) rfl rfl hl.1 rfl (lv_room (Nat.le_of_ble_eq_true rfl)) dX3_parseShade_64 ⟨Nat.zero_le _, Nat.zero_le _⟩ (fun T9 H locs hq G => ?_)
  rw [hq] at G
  clear hq eT8
  obtain ⟨v10, ev10, h⟩ := elet_some h
  refine lv_iinc (v := v10) (lv' := [(2, .int v10), (0, .ref (ad l0)), (1, .ref (ad l1))]) hx hb dX3_parseShade_67 hl (k := 2) rfl ev10.symm (by decide) rfl (fun ls hl => ?_)
  refine lv_goto (tgt := 30) hx hb dX3_parseShade_70 (by decide) ?_
  have hl := lv_sub hl [1, 2, 0] rfl
  exact hk30 _ _ _ _ _ _ _ h G hl
set_option maxHeartbeats 4000000 in
set_option maxRecDepth 100000 in
theorem x_X3_parseShade_b30 {p : Program} {l : Launch} {e : Env} {s : State} {m : MethodId} {args : Array Value} {below : List Frame} {meth : Method} {c : Code} {Qc : Array Value → State → Outcome → State → Prop} {XC : String → State → State → Prop} {D : va_G} {A : Nat → Prop} {cI cJ cZ cMic cSrc cSt cAI cAJ : ClassId} {ad : Nat → Nat} {e1 : Nat} {r1 : Int32} {T1 : AT} (E : cE p c cX3_parseShade s m args (Cond.code yX3_parseShade cX3_parseShade 3 none :: wsA) D RX3 (CT cI cJ cZ cMic cSrc cSt cAI cAJ)) (hA : ∀ q : Nat, s.heap.size ≤ q → A q) (hX : xT A s) (hN : nX s) (hml : c.maxLocals = 3) (hz9 : True) (hst : l.stackTraces = false) (htab : ∀ x ∈ c.exceptionTable.toList, False) (hlocks : meth.locks = false) (kx : ∀ (H : Heap) (locs : List Loc) (t : State), gC cI cJ cZ cMic cSrc cSt cAI cAJ D ad A s.heap H locs T1 → s.vm.Alike t.vm → H.size ≤ t.heap.size → (∀ q, q < H.size → t.heap[q]? = H[q]?) → XC (exn e1) s t) : ∀ n : Nat, ∀ (T : AT) (H : Heap) (locs : List Loc) (ls : Array Slot) (l0 : Nat) (l1 : Nat) (l2 : Int32), g_X3_parseShade_b30 n T l0 l1 l2 = some (e1 + 1, r1, T1) → gC cI cJ cZ cMic cSrc cSt cAI cAJ D ad A s.heap H locs T → lv_has ls 3 [(0, .ref (ad l0)), (1, .ref (ad l1)), (2, .int l2)] → W p l e { frames := 8, cells := 1, slots := 6, locals := 126 } s m args below meth c H locs 0 0 (vx_MQ below Qc XC args s 1 6 A) (F0 m 30 ls []) := by
  have hx := E.1
  have hb := E.2.1
  have hts := E.2.2.1
  have hown := E.2.2.2.1
  have hK := E.2.2.2.2
  intro n
  induction n with
  | zero =>
    intro T H locs ls l0 l1 l2 h
    have h : (none : Option (Nat × Int32 × AT)) = some (e1 + 1, r1, T1) := h
    cases h
  | succ n ih =>
    intro T H locs ls l0 l1 l2 h G hl
    unfold g_X3_parseShade_b30 at h
    refine lv_iload_n hx hb dX3_parseShade_30 rfl (lv_at hl 2 rfl) ?_
    refine lv_bipush (v := 12) hx hb dX3_parseShade_31 (by decide) ?_
    refine lv_icmp_gt (tgt := 73) hx hb dX3_parseShade_33 (by decide) (fun c2 => ?_) (fun c2 => ?_)
    · have h := oif_pos c2 h
      have hl := lv_sub hl [] rfl
      exact x_X3_parseShade_b73 E hA hX hN hml trivial hst htab hlocks kx _ _ _ _ h G hl
    · have h := oif_neg c2 h
      refine lv_aload_n hx hb dX3_parseShade_36 rfl (lv_at hl 0 rfl) ?_
      obtain ⟨g3, h⟩ := oif_some h
      obtain ⟨r6, T4, eT4, h⟩ := obind2_some h
      refine q_cvi (As := []) (rest := []) E G hA hX hN hml (u_X3_kind l hst D cI cJ cZ cMic cSrc cSt cAI cAJ ad T l0 eT4) (cwV 0 hts (gaV qA_239 qA_240 qA_241 qA_222 qA_242) rfl rfl rfl (by decide +kernel) ⟨Nat.le_of_ble_eq_true rfl, Nat.le_of_ble_eq_true rfl⟩) (oO_k g3).1 (cc_o3 (oO_k g3).2) rfl rfl hl.1 rfl (lv_room (Nat.le_of_ble_eq_true rfl)) dX3_parseShade_37 ⟨Nat.zero_le _, Nat.zero_le _⟩ (fun q7 T5 H locs hq G => ?_)
      obtain ⟨hq1, hq2⟩ := hq
      rw [hq2] at G
      refine lv_to hq1 ?_
      clear hq1 hq2 eT4
      refine lv_iconst (v := 2) hx hb dX3_parseShade_40 (by decide) ?_
      refine lv_icmp_ne (tgt := 73) hx hb dX3_parseShade_41 (by decide) (fun c8 => ?_) (fun c8 => ?_)
      · have h := oif_neg c8 h
        have hl := lv_sub hl [] rfl
        exact x_X3_parseShade_b73 E hA hX hN hml trivial hst htab hlocks kx _ _ _ _ h G hl
      · have h := oif_pos c8 h
        refine lv_iload_n hx hb dX3_parseShade_44 rfl (lv_at hl 2 rfl) ?_
        refine lv_bipush (v := 12) hx hb dX3_parseShade_45 (by decide) ?_
        refine lv_icmp_ne (tgt := 56) hx hb dX3_parseShade_47 (by decide) (fun c9 => ?_) (fun c9 => ?_)
        · have h := oif_neg c9 h
          have hl := lv_sub hl [0, 1, 2] rfl
          exact x_X3_parseShade_b56 E hA hX hN hml trivial hst htab hlocks kx ih _ _ _ _ _ _ _ h G hl
        · have h := oif_pos c9 h
          refine lv_aload_n hx hb dX3_parseShade_50 rfl (lv_at hl 0 rfl) ?_
          refine lv_bipush (v := 9) hx hb dX3_parseShade_51 (by decide) ?_
          obtain ⟨g10, h⟩ := oif_some h
          rcases othr_t h with ⟨r0, eT11⟩ | ⟨r13, T11, eT11, h⟩
          · refine q_xvv (As := [.int 9]) (rest := []) E G hA hX hN hml (x_X3_failAsTooMany l hst D cI cJ cZ cMic cSrc cSt cAI cAJ ad T4 l0 (9 : Int32) eT11) (cwV 1 hts (gaV qA_376 qA_377 qA_378 qA_222 qA_379) rfl rfl rfl (by decide +kernel) ⟨Nat.le_of_ble_eq_true rfl, Nat.le_of_ble_eq_true rfl⟩) (oO_k g10).1 (cc_o3 (oO_k g10).2) rfl rfl hl.1 rfl (lv_room (Nat.le_of_ble_eq_true rfl)) dX3_parseShade_53 ⟨Nat.le_of_ble_eq_true rfl, Nat.le_of_ble_eq_true rfl⟩ (fun E9 ce q9 T9 H locs hp G hce hcv hcl => ?_)
            obtain ⟨hE, hT⟩ := hp
            subst hE
            rw [hT] at G
            exact vx_out (fun x hx => (htab x hx).elim) hlocks hce hcv hcl (fun t ht hvm => kx _ _ _ G hvm (by rw [ht]; exact Nat.le_refl _) (fun q hq => by rw [ht])) G.2.2.2.2 (Nat.le_refl _) (Nat.le_refl _)
          refine q_cvv (As := [.int 9]) (rest := []) E G hA hX hN hml (u_X3_failAsTooMany l hst D cI cJ cZ cMic cSrc cSt cAI cAJ ad T4 l0 (9 : Int32) eT11) (cwV 1 hts (gaV qA_376 qA_377 qA_378 qA_222 qA_379) rfl rfl rfl (by decide +kernel) ⟨Nat.le_of_ble_eq_true rfl, Nat.le_of_ble_eq_true rfl⟩) (oO_k g10).1 (cc_o3 (oO_k g10).2) rfl rfl hl.1 rfl (lv_room (Nat.le_of_ble_eq_true rfl)) dX3_parseShade_53 ⟨Nat.zero_le _, Nat.zero_le _⟩ (fun T12 H locs hq G => ?_)
          rw [hq] at G
          clear hq eT11
          have hl := lv_sub hl [0, 1, 2] rfl
          exact x_X3_parseShade_b56 E hA hX hN hml trivial hst htab hlocks kx ih _ _ _ _ _ _ _ h G hl
set_option maxHeartbeats 4000000 in
set_option maxRecDepth 100000 in
theorem x_X3_parseShade_b13 {p : Program} {l : Launch} {e : Env} {s : State} {m : MethodId} {args : Array Value} {below : List Frame} {meth : Method} {c : Code} {Qc : Array Value → State → Outcome → State → Prop} {XC : String → State → State → Prop} {D : va_G} {A : Nat → Prop} {cI cJ cZ cMic cSrc cSt cAI cAJ : ClassId} {ad : Nat → Nat} {e1 : Nat} {r1 : Int32} {T1 : AT} (E : cE p c cX3_parseShade s m args (Cond.code yX3_parseShade cX3_parseShade 3 none :: wsA) D RX3 (CT cI cJ cZ cMic cSrc cSt cAI cAJ)) (hA : ∀ q : Nat, s.heap.size ≤ q → A q) (hX : xT A s) (hN : nX s) (hml : c.maxLocals = 3) (hz9 : True) (hst : l.stackTraces = false) (htab : ∀ x ∈ c.exceptionTable.toList, False) (hlocks : meth.locks = false) (kx : ∀ (H : Heap) (locs : List Loc) (t : State), gC cI cJ cZ cMic cSrc cSt cAI cAJ D ad A s.heap H locs T1 → s.vm.Alike t.vm → H.size ≤ t.heap.size → (∀ q, q < H.size → t.heap[q]? = H[q]?) → XC (exn e1) s t) : ∀ (T : AT) (H : Heap) (locs : List Loc) (ls : Array Slot) (s0 : Int32) (s1 : Nat) (l0 : Nat) (l1 : Nat), g_X3_parseShade_b13 T s0 s1 l0 l1 = some (e1 + 1, r1, T1) → gC cI cJ cZ cMic cSrc cSt cAI cAJ D ad A s.heap H locs T → lv_has ls 3 [(0, .ref (ad l0)), (1, .ref (ad l1))] → W p l e { frames := 8, cells := 1, slots := 6, locals := 126 } s m args below meth c H locs 0 0 (vx_MQ below Qc XC args s 1 6 A) (F0 m 13 ls [.int s0, .ref (ad s1)]) := by
  have hx := E.1
  have hb := E.2.1
  have hts := E.2.2.1
  have hown := E.2.2.2.1
  have hK := E.2.2.2.2
  intro T H locs ls s0 s1 l0 l1 h G hl
  unfold g_X3_parseShade_b13 at h
  refine lv_iconst (v := 3) hx hb dX3_parseShade_13 (by decide) ?_
  obtain ⟨g2, h⟩ := oif_some h
  rcases othr_t h with ⟨r0, eT3⟩ | ⟨r5, T3, eT3, h⟩
  · refine q_xvv (As := [.int s0, .int 3]) (rest := []) E G hA hX hN hml (x_X3_startLine l hst D cI cJ cZ cMic cSrc cSt cAI cAJ ad T s1 s0 (3 : Int32) eT3) (cwV 2 hts (gaV qA_321 qA_322 qA_323 qA_222 qA_324) rfl rfl rfl (by decide +kernel) ⟨Nat.le_of_ble_eq_true rfl, Nat.le_of_ble_eq_true rfl⟩) (oO_k g2).1 (cc_o3 (oO_k g2).2) rfl rfl hl.1 rfl (lv_room (Nat.le_of_ble_eq_true rfl)) dX3_parseShade_14 ⟨Nat.le_of_ble_eq_true rfl, Nat.le_of_ble_eq_true rfl⟩ (fun E9 ce q9 T9 H locs hp G hce hcv hcl => ?_)
    obtain ⟨hE, hT⟩ := hp
    subst hE
    rw [hT] at G
    exact vx_out (fun x hx => (htab x hx).elim) hlocks hce hcv hcl (fun t ht hvm => kx _ _ _ G hvm (by rw [ht]; exact Nat.le_refl _) (fun q hq => by rw [ht])) G.2.2.2.2 (Nat.le_refl _) (Nat.le_refl _)
  refine q_cvv (As := [.int s0, .int 3]) (rest := []) E G hA hX hN hml (u_X3_startLine l hst D cI cJ cZ cMic cSrc cSt cAI cAJ ad T s1 s0 (3 : Int32) eT3) (cwV 2 hts (gaV qA_321 qA_322 qA_323 qA_222 qA_324) rfl rfl rfl (by decide +kernel) ⟨Nat.le_of_ble_eq_true rfl, Nat.le_of_ble_eq_true rfl⟩) (oO_k g2).1 (cc_o3 (oO_k g2).2) rfl rfl hl.1 rfl (lv_room (Nat.le_of_ble_eq_true rfl)) dX3_parseShade_14 ⟨Nat.zero_le _, Nat.zero_le _⟩ (fun T4 H locs hq G => ?_)
  rw [hq] at G
  clear hq eT3
  refine lv_aload_n hx hb dX3_parseShade_17 rfl (lv_at hl 1 rfl) ?_
  refine lv_aload_n hx hb dX3_parseShade_18 rfl (lv_at hl 0 rfl) ?_
  refine lv_iconst (v := 0) hx hb dX3_parseShade_19 (by decide) ?_
  refine lv_bipush (v := 9) hx hb dX3_parseShade_20 (by decide) ?_
  obtain ⟨g7, h⟩ := oif_some h
  rcases othr_t h with ⟨r0, eT8⟩ | ⟨r10, T8, eT8, h⟩
  · refine q_xvi (As := [.int 0, .int 9]) (rest := [.ref (ad l1)]) E G hA hX hN hml (x_X3_number l hst D cI cJ cZ cMic cSrc cSt cAI cAJ ad T3 l0 (0 : Int32) (9 : Int32) eT8) (cwV 2 hts (gaV qA_299 qA_300 qA_301 qA_222 qA_302) rfl rfl rfl (by decide +kernel) ⟨Nat.le_of_ble_eq_true rfl, Nat.le_of_ble_eq_true rfl⟩) (oO_k g7).1 (cc_o3 (oO_k g7).2) rfl rfl hl.1 rfl (lv_room (Nat.le_of_ble_eq_true rfl)) dX3_parseShade_22 ⟨Nat.le_of_ble_eq_true rfl, Nat.le_of_ble_eq_true rfl⟩ (fun E9 ce q9 T9 H locs hp G hce hcv hcl => ?_)
    obtain ⟨hE, hT⟩ := hp
    subst hE
    rw [hT] at G
    exact vx_out (fun x hx => (htab x hx).elim) hlocks hce hcv hcl (fun t ht hvm => kx _ _ _ G hvm (by rw [ht]; exact Nat.le_refl _) (fun q hq => by rw [ht])) G.2.2.2.2 (Nat.le_refl _) (Nat.le_refl _)
  refine q_cvi (As := [.int 0, .int 9]) (rest := [.ref (ad l1)]) E G hA hX hN hml (u_X3_number l hst D cI cJ cZ cMic cSrc cSt cAI cAJ ad T3 l0 (0 : Int32) (9 : Int32) eT8) (cwV 2 hts (gaV qA_299 qA_300 qA_301 qA_222 qA_302) rfl rfl rfl (by decide +kernel) ⟨Nat.le_of_ble_eq_true rfl, Nat.le_of_ble_eq_true rfl⟩) (oO_k g7).1 (cc_o3 (oO_k g7).2) rfl rfl hl.1 rfl (lv_room (Nat.le_of_ble_eq_true rfl)) dX3_parseShade_22 ⟨Nat.zero_le _, Nat.zero_le _⟩ (fun q11 T9 H locs hq G => ?_)
  obtain ⟨hq1, hq2⟩ := hq
  rw [hq2] at G
  refine lv_to hq1 ?_
  clear hq1 hq2 eT8
  obtain ⟨g12, h⟩ := oif_some h
  obtain ⟨T13, eT13, h⟩ := obind_some h
  refine q_cvv (As := [.int r10]) (rest := []) E G hA hX hN hml (u_X6_addShade l hst D cI cJ cZ cMic cSrc cSt cAI cAJ ad T8 l1 r10 eT13) (cwV 1 hts (gaV qA_396 qA_397 qA_398 qA_207 qA_399) rfl rfl rfl (by decide +kernel) ⟨Nat.le_of_ble_eq_true rfl, Nat.le_of_ble_eq_true rfl⟩) (oO_k g12).1 (cc_o6 (oO_k g12).2) rfl rfl hl.1 rfl (lv_room (Nat.le_of_ble_eq_true rfl)) dX3_parseShade_25 ⟨Nat.zero_le _, Nat.zero_le _⟩ (fun T14 H locs hq G => ?_)
  rw [hq] at G
  clear hq eT13
  refine lv_iconst (v := 1) hx hb dX3_parseShade_28 (by decide) ?_
  refine lv_istore_n (lv' := [(2, .int 1), (0, .ref (ad l0)), (1, .ref (ad l1))]) hx hb dX3_parseShade_29 rfl hl (by decide) rfl (fun ls hl => ?_)
  have hl := lv_sub hl [1, 2, 0] rfl
  exact x_X3_parseShade_b30 E hA hX hN hml trivial hst htab hlocks kx _ _ _ _ _ _ _ _ h G hl
set_option maxHeartbeats 4000000 in
set_option maxRecDepth 100000 in
theorem x_X3_parseShade (l : Launch) (hst : l.stackTraces = false) (D : va_G) (cI cJ cZ cMic cSrc cSt cAI cAJ : ClassId) (ad : Nat → Nat) (T : AT) (o : Nat) (a0 : Nat) {e1 : Nat} {r1 : Int32} {T1 : AT} (h : g_X3_parseShade T o a0 = some (e1 + 1, r1, T1)) : kXv l yX3_parseShade (Cond.code yX3_parseShade cX3_parseShade 3 none :: wsA) 8 126 cI cJ cZ cMic cSrc cSt cAI cAJ D ad T [.ref (ad o), .ref (ad a0)] e1 T1 := by
  intro sz
  refine vx_ofW (cc := cX3_parseShade) (maxL := 3) (ret := none) (by decide) rfl ?_
  intro p e s m args below meth c s₁ B hml htab hv
  obtain ⟨rfl, hsz, hP, hK, hD0, hX, hN⟩ := hv
  have hx := B.exec
  have hb := B.bytes
  have hr := B.returns
  have hts := atoms_spec (ws := (Cond.code yX3_parseShade cX3_parseShade 3 none :: wsA)) B.pre
  have hown : s.vm.findClass RX3 = some m.cls := findClass_of_methodNamed B.named
  have hlocks := B.notSynchronized
  subst hsz
  have hD := hD0.self (sz := s.heap.size)
  generalize hAe : va_A (cW ad T.1 (cc cI cJ cZ cMic cSrc cSt cAI cAJ ad T)) s.heap.size = A at hD hX ⊢
  have hA : ∀ q : Nat, s.heap.size ≤ q → A q := fun q h => by rw [← hAe]; exact Or.inr h
  have G : gC cI cJ cZ cMic cSrc cSt cAI cAJ D ad A s.heap s.heap [] T := ⟨hP, hD, va_S.rf⟩
  have E : cE p c cX3_parseShade s m ([.ref (ad o), .ref (ad a0)] : List Value).toArray (Cond.code yX3_parseShade cX3_parseShade 3 none :: wsA) D RX3 (CT cI cJ cZ cMic cSrc cSt cAI cAJ) := ⟨hx, hb, hts, hown, hK⟩
  have htab : ∀ x ∈ c.exceptionTable.toList, False := fun x hx => htab x hx
  have hl := lv_entry ([.ref (ad o), .ref (ad a0)]) (n := 3) (Nat.le_of_ble_eq_true rfl)
  rw [lg_entry_eq]
  generalize (lg_sl ([.ref (ad o), .ref (ad a0)]) ++ List.replicate (3 - (lg_sl ([.ref (ad o), .ref (ad a0)])).length) Slot.unset).toArray = ls at hl ⊢
  have hl : lv_has ls 3 [(0, .ref (ad o)), (1, .ref (ad a0))] := hl
  unfold g_X3_parseShade at h
  refine lv_aload_n hx hb dX3_parseShade_0 rfl (lv_at hl 0 rfl) ?_
  refine lv_aload_n hx hb dX3_parseShade_1 rfl (lv_at hl 1 rfl) ?_
  obtain ⟨g2, h⟩ := oif_some h
  refine c_get E G a0 16 (oO_k g2).1 (cc_o6 (oO_k g2).2) rfl (fun w h => .tail _ (iA_14 h)) (by decide) (.tail _ qA_395) rfl rfl dX3_parseShade_2 ?_
  refine lv_topi (fun v3 ev3 => ?_)
  have h := elet_at ev3 h
  clear ev3
  refine lv_if_le (tgt := 12) hx hb dX3_parseShade_5 (by decide) (fun c4 => ?_) (fun c4 => ?_)
  · have h := oif_pos c4 h
    refine lv_iconst (v := 0) hx hb dX3_parseShade_12 (by decide) ?_
    have hl := lv_sub hl [0, 1] rfl
    exact x_X3_parseShade_b13 E hA hX hN hml trivial hst htab hlocks (fun H locs t G hvm h1 h2 => ⟨T1, trivial, ⟨⟨rfl, rfl⟩, (c_thrown G hK hvm h1 h2).1⟩, (c_thrown G hK hvm h1 h2).2⟩) _ _ _ _ _ _ _ _ h G hl
  · have h := oif_neg c4 h
    refine lv_iconst (v := 1) hx hb dX3_parseShade_8 (by decide) ?_
    refine lv_goto (tgt := 13) hx hb dX3_parseShade_9 (by decide) ?_
    have hl := lv_sub hl [0, 1] rfl
    exact x_X3_parseShade_b13 E hA hX hN hml trivial hst htab hlocks (fun H locs t G hvm h1 h2 => ⟨T1, trivial, ⟨⟨rfl, rfl⟩, (c_thrown G hK hvm h1 h2).1⟩, (c_thrown G hK hvm h1 h2).2⟩) _ _ _ _ _ _ _ _ h G hl
def g_X3_parseZone_b14  (T : AT) (s0 : Int32) (s1 : Nat) (l0 : Nat) (l1 : Nat) : Option (Nat × Int32 × AT) := oif (oO T s1 3 = true) <| othr (g_X3_startLine T s1 s0 (4 : Int32)) 0 fun r5 T3 => oif (oO T3 l1 1 = true) <| obind (T3.2.2.2.2 l1 6) fun n8 => oif (oO T3 l1 1 = true) <| elet (T3.2.2.1 l1 7) fun v10 => oif (aA T3 n8 106 = true) <| oif (inb v10 (T3.2.1 n8).2 = true) <| obind (T3.2.2.2.2 n8 v10.toNatClampNeg) fun n13 => oif (oO T3 l1 1 = true) <| elet (T3.2.2.1 l1 3) fun v15 => elet (v15 - 1) fun v16 => oif (oO T3 l0 3 = true) <| othr (g_X3_number T3 l0 (0 : Int32) v16) 0 fun r20 T18 => oif (aA T18 n13 100 = true) <| oif (inb 0 (T18.2.1 n13).2 = true) <| elet (uI T18 n13 (0 : Int32).toNatClampNeg r20) fun T24 => oif (oO T24 l1 1 = true) <| elet (T24.2.2.1 l1 4) fun v26 => elet (v26 - 1) fun v27 => oif (oO T24 l0 3 = true) <| othr (g_X3_number T24 l0 (0 : Int32) v27) 0 fun r31 T29 => oif (aA T29 n13 100 = true) <| oif (inb 1 (T29.2.1 n13).2 = true) <| elet (uI T29 n13 (1 : Int32).toNatClampNeg r31) fun T35 => oif (aA T35 n13 100 = true) <| oif (inb 0 (T35.2.1 n13).2 = true) <| elet (T35.2.2.1 n13 (0 : Int32).toNatClampNeg) fun v38 => oif (oO T35 l1 1 = true) <| elet (T35.2.2.1 l1 3) fun v40 => elet (v40 - 1) fun v41 => oif (oO T35 l0 3 = true) <| othr (g_X3_number T35 l0 v38 v41) 0 fun r45 T43 => oif (aA T43 n13 100 = true) <| oif (inb 2 (T43.2.1 n13).2 = true) <| elet (uI T43 n13 (2 : Int32).toNatClampNeg r45) fun T49 => oif (aA T49 n13 100 = true) <| oif (inb 1 (T49.2.1 n13).2 = true) <| elet (T49.2.2.1 n13 (1 : Int32).toNatClampNeg) fun v52 => oif (oO T49 l1 1 = true) <| elet (T49.2.2.1 l1 4) fun v54 => elet (v54 - 1) fun v55 => oif (oO T49 l0 3 = true) <| othr (g_X3_number T49 l0 v52 v55) 0 fun r59 T57 => oif (aA T57 n13 100 = true) <| oif (inb 3 (T57.2.1 n13).2 = true) <| elet (uI T57 n13 (3 : Int32).toNatClampNeg r59) fun T63 => oif (oO T63 l1 1 = true) <| elet (T63.2.2.1 l1 7) fun v65 => elet (v65 + 1) fun v66 => oif (oO T63 l1 1 = true) <| elet (uI T63 l1 7 v66) fun T68 => some (0, 0, T68)
set_option maxHeartbeats 4000000 in
set_option maxRecDepth 100000 in
theorem u_X3_parseZone_b14 {p : Program} {l : Launch} {e : Env} {s : State} {m : MethodId} {args : Array Value} {below : List Frame} {meth : Method} {c : Code} {Q : State → Prop} {D : va_G} {A : Nat → Prop} {cI cJ cZ cMic cSrc cSt cAI cAJ : ClassId} {ad : Nat → Nat} {r1 : Int32} {T1 : AT} (E : cE p c cX3_parseZone s m args (Cond.code yX3_parseZone cX3_parseZone 3 none :: wsA) D RX3 (CT cI cJ cZ cMic cSrc cSt cAI cAJ)) (hA : ∀ q : Nat, s.heap.size ≤ q → A q) (hX : xT A s) (hN : nX s) (hml : c.maxLocals = 3) (hst : l.stackTraces = false) (kr98 : ∀ (H : Heap) (locs : List Loc) (ls : Array Slot), gC cI cJ cZ cMic cSrc cSt cAI cAJ D ad A s.heap H locs T1 → W p l e { frames := 8, cells := 0, slots := 0, locals := 126 } s m args below meth c H locs 0 0 Q (F0 m 98 ls [])) : ∀ (T : AT) (H : Heap) (locs : List Loc) (ls : Array Slot) (s0 : Int32) (s1 : Nat) (l0 : Nat) (l1 : Nat), g_X3_parseZone_b14 T s0 s1 l0 l1 = some (0, r1, T1) → gC cI cJ cZ cMic cSrc cSt cAI cAJ D ad A s.heap H locs T → lv_has ls 3 [(0, .ref (ad l0)), (1, .ref (ad l1))] → W p l e { frames := 8, cells := 0, slots := 0, locals := 126 } s m args below meth c H locs 0 0 Q (F0 m 14 ls [.int s0, .ref (ad s1)]) := by
  have hx := E.1
  have hb := E.2.1
  have hts := E.2.2.1
  have hown := E.2.2.2.1
  have hK := E.2.2.2.2
  intro T H locs ls s0 s1 l0 l1 h G hl
  unfold g_X3_parseZone_b14 at h
  refine lv_iconst (v := 4) hx hb dX3_parseZone_14 (by decide) ?_
  obtain ⟨g2, h⟩ := oif_some h
  obtain ⟨r5, T3, eT3, h⟩ := othr_n h
  refine q_cvv (As := [.int s0, .int 4]) (rest := []) E G hA hX hN hml (u_X3_startLine l hst D cI cJ cZ cMic cSrc cSt cAI cAJ ad T s1 s0 (4 : Int32) eT3) (cwV 2 hts (gaV qA_321 qA_322 qA_323 qA_222 qA_324) rfl rfl rfl (by decide +kernel) ⟨Nat.le_of_ble_eq_true rfl, Nat.le_of_ble_eq_true rfl⟩) (oO_k g2).1 (cc_o3 (oO_k g2).2) rfl rfl hl.1 rfl (lv_room (Nat.le_of_ble_eq_true rfl)) dX3_parseZone_15 ⟨Nat.zero_le _, Nat.zero_le _⟩ (fun T4 H locs hq G => ?_)
  rw [hq] at G
  clear hq eT3
  refine lv_aload_n hx hb dX3_parseZone_18 rfl (lv_at hl 1 rfl) ?_
  obtain ⟨g7, h⟩ := oif_some h
  obtain ⟨n8, en8, h⟩ := obind_some h
  refine c_get E G l1 6 (v := .ref (ad n8)) (oO_k g7).1 (cc_o1 (oO_k g7).2) rfl (fun w h => .tail _ (iA_15 h)) (by decide) (.tail _ qA_389) rfl (by rw [en8]; rfl) dX3_parseZone_19 ?_
  clear en8
  refine lv_aload_n hx hb dX3_parseZone_22 rfl (lv_at hl 1 rfl) ?_
  obtain ⟨g9, h⟩ := oif_some h
  refine c_get E G l1 7 (oO_k g9).1 (cc_o1 (oO_k g9).2) rfl (fun w h => .tail _ (iA_15 h)) (by decide) (.tail _ qA_388) rfl rfl dX3_parseZone_23 ?_
  refine lv_topi (fun v10 ev10 => ?_)
  have h := elet_at ev10 h
  clear ev10
  obtain ⟨g11, h⟩ := oif_some h
  obtain ⟨g12, h⟩ := oif_some h
  obtain ⟨n13, en13, h⟩ := obind_some h
  refine c_alda E G n8 6 (k := v10.toNatClampNeg) (v := .ref (ad n13)) (aA_k g11).1 (cc_a106 (aA_k g11).2.1) rfl (inb_k g12).1 (inb_k g12).2 (aA_k g11).2.2 (by show va_rf ((T3.2.2.2.2 n8 v10.toNatClampNeg).map ad) = _; rw [en13]; rfl) dX3_parseZone_26 ?_
  clear en13
  refine lv_astore_n (lv' := [(2, .ref (ad n13)), (0, .ref (ad l0)), (1, .ref (ad l1))]) hx hb dX3_parseZone_27 rfl hl (by decide) rfl (fun ls hl => ?_)
  refine lv_aload_n hx hb dX3_parseZone_28 rfl (lv_at hl 0 rfl) ?_
  refine lv_iconst (v := 0) hx hb dX3_parseZone_29 (by decide) ?_
  refine lv_aload_n hx hb dX3_parseZone_30 rfl (lv_at hl 1 rfl) ?_
  refine lv_iconst (v := 0) hx hb dX3_parseZone_31 (by decide) ?_
  refine lv_aload_n hx hb dX3_parseZone_32 rfl (lv_at hl 2 rfl) ?_
  obtain ⟨g14, h⟩ := oif_some h
  refine c_get E G l1 3 (oO_k g14).1 (cc_o1 (oO_k g14).2) rfl (fun w h => .tail _ (iA_15 h)) (by decide) (.tail _ qA_180) rfl rfl dX3_parseZone_33 ?_
  refine lv_topi (fun v15 ev15 => ?_)
  have h := elet_at ev15 h
  clear ev15
  refine lv_iconst (v := 1) hx hb dX3_parseZone_36 (by decide) ?_
  refine lv_isub hx hb dX3_parseZone_37 ?_
  refine lv_topi (fun v16 ev16 => ?_)
  have h := elet_at ev16 h
  clear ev16
  obtain ⟨g17, h⟩ := oif_some h
  obtain ⟨r20, T18, eT18, h⟩ := othr_n h
  refine q_cvi (As := [.int 0, .int v16]) (rest := [.int 0, .ref (ad n13)]) E G hA hX hN hml (u_X3_number l hst D cI cJ cZ cMic cSrc cSt cAI cAJ ad T3 l0 (0 : Int32) v16 eT18) (cwV 2 hts (gaV qA_299 qA_300 qA_301 qA_222 qA_302) rfl rfl rfl (by decide +kernel) ⟨Nat.le_of_ble_eq_true rfl, Nat.le_of_ble_eq_true rfl⟩) (oO_k g17).1 (cc_o3 (oO_k g17).2) rfl rfl hl.1 rfl (lv_room (Nat.le_of_ble_eq_true rfl)) dX3_parseZone_38 ⟨Nat.zero_le _, Nat.zero_le _⟩ (fun q21 T19 H locs hq G => ?_)
  obtain ⟨hq1, hq2⟩ := hq
  rw [hq2] at G
  refine lv_to hq1 ?_
  clear hq1 hq2 eT18
  obtain ⟨g22, h⟩ := oif_some h
  obtain ⟨g23, h⟩ := oif_some h
  refine c_iast E G n13 0 (k := (0 : Int32).toNatClampNeg) (v := r20) (aA_k g22).1 (cc_a100 (aA_k g22).2.1) rfl (inb_k g23).1 (inb_k g23).2 (aA_k g22).2.2 dX3_parseZone_41 (fun H locs G => ?_)
  have G := gC_up_i (f := upd (T18.2.2.1 n13) (0 : Int32).toNatClampNeg r20) (ccv_100 (aA_k g22).2.1) G
  obtain ⟨T24, eT24, h⟩ := elet_some h
  have G : gC cI cJ cZ cMic cSrc cSt cAI cAJ D ad A s.heap H locs T24 := by rw [eT24]; exact G
  clear eT24
  refine lv_aload_n hx hb dX3_parseZone_42 rfl (lv_at hl 0 rfl) ?_
  refine lv_iconst (v := 1) hx hb dX3_parseZone_43 (by decide) ?_
  refine lv_aload_n hx hb dX3_parseZone_44 rfl (lv_at hl 1 rfl) ?_
  refine lv_iconst (v := 0) hx hb dX3_parseZone_45 (by decide) ?_
  refine lv_aload_n hx hb dX3_parseZone_46 rfl (lv_at hl 2 rfl) ?_
  obtain ⟨g25, h⟩ := oif_some h
  refine c_get E G l1 4 (oO_k g25).1 (cc_o1 (oO_k g25).2) rfl (fun w h => .tail _ (iA_15 h)) (by decide) (.tail _ qA_390) rfl rfl dX3_parseZone_47 ?_
  refine lv_topi (fun v26 ev26 => ?_)
  have h := elet_at ev26 h
  clear ev26
  refine lv_iconst (v := 1) hx hb dX3_parseZone_50 (by decide) ?_
  refine lv_isub hx hb dX3_parseZone_51 ?_
  refine lv_topi (fun v27 ev27 => ?_)
  have h := elet_at ev27 h
  clear ev27
  obtain ⟨g28, h⟩ := oif_some h
  obtain ⟨r31, T29, eT29, h⟩ := othr_n h
  refine q_cvi (As := [.int 0, .int v27]) (rest := [.int 1, .ref (ad n13)]) E G hA hX hN hml (u_X3_number l hst D cI cJ cZ cMic cSrc cSt cAI cAJ ad T24 l0 (0 : Int32) v27 eT29) (cwV 2 hts (gaV qA_299 qA_300 qA_301 qA_222 qA_302) rfl rfl rfl (by decide +kernel) ⟨Nat.le_of_ble_eq_true rfl, Nat.le_of_ble_eq_true rfl⟩) (oO_k g28).1 (cc_o3 (oO_k g28).2) rfl rfl hl.1 rfl (lv_room (Nat.le_of_ble_eq_true rfl)) dX3_parseZone_52 ⟨Nat.zero_le _, Nat.zero_le _⟩ (fun q32 T30 H locs hq G => ?_)
  obtain ⟨hq1, hq2⟩ := hq
  rw [hq2] at G
  refine lv_to hq1 ?_
  clear hq1 hq2 eT29
  obtain ⟨g33, h⟩ := oif_some h
  obtain ⟨g34, h⟩ := oif_some h
  refine c_iast E G n13 0 (k := (1 : Int32).toNatClampNeg) (v := r31) (aA_k g33).1 (cc_a100 (aA_k g33).2.1) rfl (inb_k g34).1 (inb_k g34).2 (aA_k g33).2.2 dX3_parseZone_55 (fun H locs G => ?_)
  have G := gC_up_i (f := upd (T29.2.2.1 n13) (1 : Int32).toNatClampNeg r31) (ccv_100 (aA_k g33).2.1) G
  obtain ⟨T35, eT35, h⟩ := elet_some h
  have G : gC cI cJ cZ cMic cSrc cSt cAI cAJ D ad A s.heap H locs T35 := by rw [eT35]; exact G
  clear eT35
  refine lv_aload_n hx hb dX3_parseZone_56 rfl (lv_at hl 0 rfl) ?_
  refine lv_iconst (v := 2) hx hb dX3_parseZone_57 (by decide) ?_
  refine lv_aload_n hx hb dX3_parseZone_58 rfl (lv_at hl 1 rfl) ?_
  refine lv_aload_n hx hb dX3_parseZone_59 rfl (lv_at hl 0 rfl) ?_
  refine lv_iconst (v := 0) hx hb dX3_parseZone_60 (by decide) ?_
  obtain ⟨g36, h⟩ := oif_some h
  obtain ⟨g37, h⟩ := oif_some h
  refine c_iald E G n13 0 (k := (0 : Int32).toNatClampNeg) (aA_k g36).1 (cc_a100 (aA_k g36).2.1) rfl (inb_k g37).1 (inb_k g37).2 (aA_k g36).2.2 dX3_parseZone_61 ?_
  refine lv_topi (fun v38 ev38 => ?_)
  have h := elet_at ev38 h
  clear ev38
  refine lv_aload_n hx hb dX3_parseZone_62 rfl (lv_at hl 2 rfl) ?_
  obtain ⟨g39, h⟩ := oif_some h
  refine c_get E G l1 3 (oO_k g39).1 (cc_o1 (oO_k g39).2) rfl (fun w h => .tail _ (iA_15 h)) (by decide) (.tail _ qA_180) rfl rfl dX3_parseZone_63 ?_
  refine lv_topi (fun v40 ev40 => ?_)
  have h := elet_at ev40 h
  clear ev40
  refine lv_iconst (v := 1) hx hb dX3_parseZone_66 (by decide) ?_
  refine lv_isub hx hb dX3_parseZone_67 ?_
  refine lv_topi (fun v41 ev41 => ?_)
  have h := elet_at ev41 h
  clear ev41
  obtain ⟨g42, h⟩ := oif_some h
  obtain ⟨r45, T43, eT43, h⟩ := othr_n h
  refine q_cvi (As := [.int v38, .int v41]) (rest := [.int 2, .ref (ad n13)]) E G hA hX hN hml (u_X3_number l hst D cI cJ cZ cMic cSrc cSt cAI cAJ ad T35 l0 v38 v41 eT43) (cwV 2 hts (gaV qA_299 qA_300 qA_301 qA_222 qA_302) rfl rfl rfl (by decide +kernel) ⟨Nat.le_of_ble_eq_true rfl, Nat.le_of_ble_eq_true rfl⟩) (oO_k g42).1 (cc_o3 (oO_k g42).2) rfl rfl hl.1 rfl (lv_room (Nat.le_of_ble_eq_true rfl)) dX3_parseZone_68 ⟨Nat.zero_le _, Nat.zero_le _⟩ (fun q46 T44 H locs hq G => ?_)
  obtain ⟨hq1, hq2⟩ := hq
  rw [hq2] at G
  refine lv_to hq1 ?_
  clear hq1 hq2 eT43
  obtain ⟨g47, h⟩ := oif_some h
  obtain ⟨g48, h⟩ := oif_some h
  refine c_iast E G n13 0 (k := (2 : Int32).toNatClampNeg) (v := r45) (aA_k g47).1 (cc_a100 (aA_k g47).2.1) rfl (inb_k g48).1 (inb_k g48).2 (aA_k g47).2.2 dX3_parseZone_71 (fun H locs G => ?_)
  have G := gC_up_i (f := upd (T43.2.2.1 n13) (2 : Int32).toNatClampNeg r45) (ccv_100 (aA_k g47).2.1) G
  obtain ⟨T49, eT49, h⟩ := elet_some h
  have G : gC cI cJ cZ cMic cSrc cSt cAI cAJ D ad A s.heap H locs T49 := by rw [eT49]; exact G
  clear eT49
  refine lv_aload_n hx hb dX3_parseZone_72 rfl (lv_at hl 0 rfl) ?_
  refine lv_iconst (v := 3) hx hb dX3_parseZone_73 (by decide) ?_
  refine lv_aload_n hx hb dX3_parseZone_74 rfl (lv_at hl 1 rfl) ?_
  refine lv_aload_n hx hb dX3_parseZone_75 rfl (lv_at hl 0 rfl) ?_
  refine lv_iconst (v := 1) hx hb dX3_parseZone_76 (by decide) ?_
  obtain ⟨g50, h⟩ := oif_some h
  obtain ⟨g51, h⟩ := oif_some h
  refine c_iald E G n13 0 (k := (1 : Int32).toNatClampNeg) (aA_k g50).1 (cc_a100 (aA_k g50).2.1) rfl (inb_k g51).1 (inb_k g51).2 (aA_k g50).2.2 dX3_parseZone_77 ?_
  refine lv_topi (fun v52 ev52 => ?_)
  have h := elet_at ev52 h
  clear ev52
  refine lv_aload_n hx hb dX3_parseZone_78 rfl (lv_at hl 2 rfl) ?_
  obtain ⟨g53, h⟩ := oif_some h
  refine c_get E G l1 4 (oO_k g53).1 (cc_o1 (oO_k g53).2) rfl (fun w h => .tail _ (iA_15 h)) (by decide) (.tail _ qA_390) rfl rfl dX3_parseZone_79 ?_
  refine lv_topi (fun v54 ev54 => ?_)
  have h := elet_at ev54 h
  clear ev54
  refine lv_iconst (v := 1) hx hb dX3_parseZone_82 (by decide) ?_
  refine lv_isub hx hb dX3_parseZone_83 ?_
  refine lv_topi (fun v55 ev55 => ?_)
  have h := elet_at ev55 h
  clear ev55
  obtain ⟨g56, h⟩ := oif_some h
  obtain ⟨r59, T57, eT57, h⟩ := othr_n h
  refine q_cvi (As := [.int v52, .int v55]) (rest := [.int 3, .ref (ad n13)]) E G hA hX hN hml (u_X3_number l hst D cI cJ cZ cMic cSrc cSt cAI cAJ ad T49 l0 v52 v55 eT57) (cwV 2 hts (gaV qA_299 qA_300 qA_301 qA_222 qA_302) rfl rfl rfl (by decide +kernel) ⟨Nat.le_of_ble_eq_true rfl, Nat.le_of_ble_eq_true rfl⟩) (oO_k g56).1 (cc_o3 (oO_k g56).2) rfl rfl hl.1 rfl (lv_room (Nat.le_of_ble_eq_true rfl)) dX3_parseZone_84 ⟨Nat.zero_le _, Nat.zero_le _⟩ (fun q60 T58 H locs hq G => ?_)
  obtain ⟨hq1, hq2⟩ := hq
  rw [hq2] at G
  refine lv_to hq1 ?_
  clear hq1 hq2 eT57
  obtain ⟨g61, h⟩ := oif_some h
  obtain ⟨g62, h⟩ := oif_some h
  refine c_iast E G n13 0 (k := (3 : Int32).toNatClampNeg) (v := r59) (aA_k g61).1 (cc_a100 (aA_k g61).2.1) rfl (inb_k g62).1 (inb_k g62).2 (aA_k g61).2.2 dX3_parseZone_87 (fun H locs G => ?_)
  have G := gC_up_i (f := upd (T57.2.2.1 n13) (3 : Int32).toNatClampNeg r59) (ccv_100 (aA_k g61).2.1) G
  obtain ⟨T63, eT63, h⟩ := elet_some h
  have G : gC cI cJ cZ cMic cSrc cSt cAI cAJ D ad A s.heap H locs T63 := by rw [eT63]; exact G
  clear eT63
  refine lv_aload_n hx hb dX3_parseZone_88 rfl (lv_at hl 2 rfl) ?_
  refine lv_dup hx hb dX3_parseZone_89 rfl ?_
  obtain ⟨g64, h⟩ := oif_some h
  refine c_get E G l1 7 (oO_k g64).1 (cc_o1 (oO_k g64).2) rfl (fun w h => .tail _ (iA_15 h)) (by decide) (.tail _ qA_388) rfl rfl dX3_parseZone_90 ?_
  refine lv_topi (fun v65 ev65 => ?_)
  have h := elet_at ev65 h
  clear ev65
  refine lv_iconst (v := 1) hx hb dX3_parseZone_93 (by decide) ?_
  refine lv_iadd hx hb dX3_parseZone_94 ?_
  refine lv_topi (fun v66 ev66 => ?_)
  have h := elet_at ev66 h
  clear ev66
  obtain ⟨g67, h⟩ := oif_some h
  refine c_put E G l1 7 (v := .int v66) (oO_k g67).1 (cc_o1 (oO_k g67).2) rfl (fun w h => .tail _ (iA_15 h)) tyX1 tyX1_ok nmX1 (by decide) (.tail _ qA_388) ⟨rfl, rfl, rfl⟩ rfl rfl (Nat.le_of_ble_eq_true rfl) dX3_parseZone_95 (fun H locs G => ?_)
  have G := gC_up_i (f := upd (T63.2.2.1 l1) 7 v66) (by rw [(oO_k g67).2]; rfl) G
  obtain ⟨T68, eT68, h⟩ := elet_some h
  have G : gC cI cJ cZ cMic cSrc cSt cAI cAJ D ad A s.heap H locs T68 := by rw [eT68]; exact G
  clear eT68
  rw [(osome3 h).2.2] at G
  exact kr98 _ _ _ G
def g_X3_parseZone (T : AT) (o : Nat) (a0 : Nat) : Option (Nat × Int32 × AT) := oif (oO T a0 1 = true) <| elet (T.2.2.1 a0 7) fun v3 => if v3 < 4 then (g_X3_parseZone_b14 T 0 o o a0) else (g_X3_parseZone_b14 T 1 o o a0)
set_option maxHeartbeats 4000000 in
set_option maxRecDepth 100000 in
theorem u_X3_parseZone (l : Launch) (hst : l.stackTraces = false) (D : va_G) (cI cJ cZ cMic cSrc cSt cAI cAJ : ClassId) (ad : Nat → Nat) (T : AT) (o : Nat) (a0 : Nat) {r1 : Int32} {T1 : AT} (h : g_X3_parseZone T o a0 = some (0, r1, T1)) : kCv l yX3_parseZone (Cond.code yX3_parseZone cX3_parseZone 3 none :: wsA) 8 126 cI cJ cZ cMic cSrc cSt cAI cAJ D ad T [.ref (ad o), .ref (ad a0)] (fun T9 => T9 = T1) := by
  intro sz
  refine Met.ofW (cc := cX3_parseZone) (maxL := 3) (ret := none) (by decide) rfl ?_
  intro p e s m args below meth c s₁ B hml hv
  obtain ⟨rfl, hsz, hP, hK, hD0, hX, hN⟩ := hv
  have hx := B.exec
  have hb := B.bytes
  have hr := B.returns
  have hts := atoms_spec (ws := (Cond.code yX3_parseZone cX3_parseZone 3 none :: wsA)) B.pre
  have hown : s.vm.findClass RX3 = some m.cls := findClass_of_methodNamed B.named
  have hlocks := B.notSynchronized
  subst hsz
  have hD := hD0.self (sz := s.heap.size)
  generalize hAe : va_A (cW ad T.1 (cc cI cJ cZ cMic cSrc cSt cAI cAJ ad T)) s.heap.size = A at hD hX ⊢
  have hA : ∀ q : Nat, s.heap.size ≤ q → A q := fun q h => by rw [← hAe]; exact Or.inr h
  have G : gC cI cJ cZ cMic cSrc cSt cAI cAJ D ad A s.heap s.heap [] T := ⟨hP, hD, va_S.rf⟩
  have E : cE p c cX3_parseZone s m ([.ref (ad o), .ref (ad a0)] : List Value).toArray (Cond.code yX3_parseZone cX3_parseZone 3 none :: wsA) D RX3 (CT cI cJ cZ cMic cSrc cSt cAI cAJ) := ⟨hx, hb, hts, hown, hK⟩
  have hl := lv_entry ([.ref (ad o), .ref (ad a0)]) (n := 3) (Nat.le_of_ble_eq_true rfl)
  rw [lg_entry_eq]
  generalize (lg_sl ([.ref (ad o), .ref (ad a0)]) ++ List.replicate (3 - (lg_sl ([.ref (ad o), .ref (ad a0)])).length) Slot.unset).toArray = ls at hl ⊢
  have hl : lv_has ls 3 [(0, .ref (ad o)), (1, .ref (ad a0))] := hl
  unfold g_X3_parseZone at h
  refine lv_aload_n hx hb dX3_parseZone_0 rfl (lv_at hl 0 rfl) ?_
  refine lv_aload_n hx hb dX3_parseZone_1 rfl (lv_at hl 1 rfl) ?_
  obtain ⟨g2, h⟩ := oif_some h
  refine c_get E G a0 7 (oO_k g2).1 (cc_o1 (oO_k g2).2) rfl (fun w h => .tail _ (iA_15 h)) (by decide) (.tail _ qA_388) rfl rfl dX3_parseZone_2 ?_
  refine lv_topi (fun v3 ev3 => ?_)
  have h := elet_at ev3 h
  clear ev3
  refine lv_iconst (v := 4) hx hb dX3_parseZone_5 (by decide) ?_
  refine lv_icmp_lt (tgt := 13) hx hb dX3_parseZone_6 (by decide) (fun c4 => ?_) (fun c4 => ?_)
  · have h := oif_pos c4 h
    refine lv_iconst (v := 0) hx hb dX3_parseZone_13 (by decide) ?_
    have hl := lv_sub hl [0, 1] rfl
    exact u_X3_parseZone_b14 E hA hX hN hml hst (fun H locs ls G => W.vret hx hb hr (fun t ht hW => ⟨⟨T1, rfl, rfl, ⟨by rw [ht]; exact G.1, va_K.moved hW.alike hK, G.2.1⟩⟩, G.2.2.F ht⟩) G.2.2.2.2 dX3_parseZone_98) _ _ _ _ _ _ _ _ h G hl
  · have h := oif_neg c4 h
    refine lv_iconst (v := 1) hx hb dX3_parseZone_9 (by decide) ?_
    refine lv_goto (tgt := 14) hx hb dX3_parseZone_10 (by decide) ?_
    have hl := lv_sub hl [0, 1] rfl
    exact u_X3_parseZone_b14 E hA hX hN hml hst (fun H locs ls G => W.vret hx hb hr (fun t ht hW => ⟨⟨T1, rfl, rfl, ⟨by rw [ht]; exact G.1, va_K.moved hW.alike hK, G.2.1⟩⟩, G.2.2.F ht⟩) G.2.2.2.2 dX3_parseZone_98) _ _ _ _ _ _ _ _ h G hl
set_option maxHeartbeats 4000000 in
set_option maxRecDepth 100000 in
theorem s_X3_parseZone_b14 {e1 : Nat} {r1 : Int32} {T1 : AT} : ∀ (T : AT) (s0 : Int32) (s1 : Nat) (l0 : Nat) (l1 : Nat), g_X3_parseZone_b14 T s0 s1 l0 l1 = some (e1, r1, T1) → SP T T1 := by
  intro T s0 s1 l0 l1 h
  have p0 := SP.rf T
  unfold g_X3_parseZone_b14 at h
  obtain ⟨g2, h⟩ := oif_some h
  rcases othr_s h with ⟨k9, r9, e9, -⟩ | ⟨r4, T3, eT3, h⟩
  · exact SP.tr p0 (s_X3_startLine e9)
  have p1 : SP T T3 := SP.tr p0 (s_X3_startLine eT3)
  obtain ⟨g5, h⟩ := oif_some h
  obtain ⟨n6, en6, h⟩ := obind_some h
  obtain ⟨g7, h⟩ := oif_some h
  obtain ⟨v8, -, h⟩ := elet_some h
  obtain ⟨g9, h⟩ := oif_some h
  obtain ⟨g10, h⟩ := oif_some h
  obtain ⟨n11, en11, h⟩ := obind_some h
  obtain ⟨g12, h⟩ := oif_some h
  obtain ⟨v13, -, h⟩ := elet_some h
  obtain ⟨v14, -, h⟩ := elet_some h
  obtain ⟨g15, h⟩ := oif_some h
  rcases othr_s h with ⟨k9, r9, e9, -⟩ | ⟨r17, T16, eT16, h⟩
  · exact SP.tr p1 (s_X3_number e9)
  have p2 : SP T T16 := SP.tr p1 (s_X3_number eT16)
  obtain ⟨g18, h⟩ := oif_some h
  obtain ⟨g19, h⟩ := oif_some h
  obtain ⟨T20, eT20, h⟩ := elet_some h
  have p3 : SP T T20 := SP.tr p2 (by rw [eT20]; exact sp_uI)
  obtain ⟨g21, h⟩ := oif_some h
  obtain ⟨v22, -, h⟩ := elet_some h
  obtain ⟨v23, -, h⟩ := elet_some h
  obtain ⟨g24, h⟩ := oif_some h
  rcases othr_s h with ⟨k9, r9, e9, -⟩ | ⟨r26, T25, eT25, h⟩
  · exact SP.tr p3 (s_X3_number e9)
  have p4 : SP T T25 := SP.tr p3 (s_X3_number eT25)
  obtain ⟨g27, h⟩ := oif_some h
  obtain ⟨g28, h⟩ := oif_some h
  obtain ⟨T29, eT29, h⟩ := elet_some h
  have p5 : SP T T29 := SP.tr p4 (by rw [eT29]; exact sp_uI)
  obtain ⟨g30, h⟩ := oif_some h
  obtain ⟨g31, h⟩ := oif_some h
  obtain ⟨v32, -, h⟩ := elet_some h
  obtain ⟨g33, h⟩ := oif_some h
  obtain ⟨v34, -, h⟩ := elet_some h
  obtain ⟨v35, -, h⟩ := elet_some h
  obtain ⟨g36, h⟩ := oif_some h
  rcases othr_s h with ⟨k9, r9, e9, -⟩ | ⟨r38, T37, eT37, h⟩
  · exact SP.tr p5 (s_X3_number e9)
  have p6 : SP T T37 := SP.tr p5 (s_X3_number eT37)
  obtain ⟨g39, h⟩ := oif_some h
  obtain ⟨g40, h⟩ := oif_some h
  obtain ⟨T41, eT41, h⟩ := elet_some h
  have p7 : SP T T41 := SP.tr p6 (by rw [eT41]; exact sp_uI)
  obtain ⟨g42, h⟩ := oif_some h
  obtain ⟨g43, h⟩ := oif_some h
  obtain ⟨v44, -, h⟩ := elet_some h
  obtain ⟨g45, h⟩ := oif_some h
  obtain ⟨v46, -, h⟩ := elet_some h
  obtain ⟨v47, -, h⟩ := elet_some h
  obtain ⟨g48, h⟩ := oif_some h
  rcases othr_s h with ⟨k9, r9, e9, -⟩ | ⟨r50, T49, eT49, h⟩
  · exact SP.tr p7 (s_X3_number e9)
  have p8 : SP T T49 := SP.tr p7 (s_X3_number eT49)
  obtain ⟨g51, h⟩ := oif_some h
  obtain ⟨g52, h⟩ := oif_some h
  obtain ⟨T53, eT53, h⟩ := elet_some h
  have p9 : SP T T53 := SP.tr p8 (by rw [eT53]; exact sp_uI)
  obtain ⟨g54, h⟩ := oif_some h
  obtain ⟨v55, -, h⟩ := elet_some h
  obtain ⟨v56, -, h⟩ := elet_some h
  obtain ⟨g57, h⟩ := oif_some h
  obtain ⟨T58, eT58, h⟩ := elet_some h
  have p10 : SP T T58 := SP.tr p9 (by rw [eT58]; exact sp_uI)
  rw [← (osome3 h).2.2]
  exact p10
set_option maxHeartbeats 4000000 in
set_option maxRecDepth 100000 in
theorem s_X3_parseZone {T : AT} {o : Nat} {a0 : Nat} {e1 : Nat} {r1 : Int32} {T1 : AT} (h : g_X3_parseZone T o a0 = some (e1, r1, T1)) : SP T T1 := by
  have p0 := SP.rf T
  unfold g_X3_parseZone at h
  obtain ⟨g2, h⟩ := oif_some h
  obtain ⟨v3, -, h⟩ := elet_some h
  rcases oif_or h with ⟨c4, h⟩ | ⟨c4, h⟩
  · have h := h
    exact SP.tr p0 (s_X3_parseZone_b14 _ _ _ _ _ h)
  · have h := h
    exact SP.tr p0 (s_X3_parseZone_b14 _ _ _ _ _ h)
set_option maxHeartbeats 4000000 in
set_option maxRecDepth 100000 in
theorem x_X3_parseZone_b14 {p : Program} {l : Launch} {e : Env} {s : State} {m : MethodId} {args : Array Value} {below : List Frame} {meth : Method} {c : Code} {Qc : Array Value → State → Outcome → State → Prop} {XC : String → State → State → Prop} {D : va_G} {A : Nat → Prop} {cI cJ cZ cMic cSrc cSt cAI cAJ : ClassId} {ad : Nat → Nat} {e1 : Nat} {r1 : Int32} {T1 : AT} (E : cE p c cX3_parseZone s m args (Cond.code yX3_parseZone cX3_parseZone 3 none :: wsA) D RX3 (CT cI cJ cZ cMic cSrc cSt cAI cAJ)) (hA : ∀ q : Nat, s.heap.size ≤ q → A q) (hX : xT A s) (hN : nX s) (hml : c.maxLocals = 3) (hz9 : True) (hst : l.stackTraces = false) (htab : ∀ x ∈ c.exceptionTable.toList, False) (hlocks : meth.locks = false) (kx : ∀ (H : Heap) (locs : List Loc) (t : State), gC cI cJ cZ cMic cSrc cSt cAI cAJ D ad A s.heap H locs T1 → s.vm.Alike t.vm → H.size ≤ t.heap.size → (∀ q, q < H.size → t.heap[q]? = H[q]?) → XC (exn e1) s t) : ∀ (T : AT) (H : Heap) (locs : List Loc) (ls : Array Slot) (s0 : Int32) (s1 : Nat) (l0 : Nat) (l1 : Nat), g_X3_parseZone_b14 T s0 s1 l0 l1 = some (e1 + 1, r1, T1) → gC cI cJ cZ cMic cSrc cSt cAI cAJ D ad A s.heap H locs T → lv_has ls 3 [(0, .ref (ad l0)), (1, .ref (ad l1))] → W p l e { frames := 8, cells := 1, slots := 6, locals := 126 } s m args below meth c H locs 0 0 (vx_MQ below Qc XC args s 1 6 A) (F0 m 14 ls [.int s0, .ref (ad s1)]) := by
  have hx := E.1
  have hb := E.2.1
  have hts := E.2.2.1
  have hown := E.2.2.2.1
  have hK := E.2.2.2.2
  intro T H locs ls s0 s1 l0 l1 h G hl
  unfold g_X3_parseZone_b14 at h
  refine lv_iconst (v := 4) hx hb dX3_parseZone_14 (by decide) ?_
  obtain ⟨g2, h⟩ := oif_some h
  rcases othr_t h with ⟨r0, eT3⟩ | ⟨r5, T3, eT3, h⟩
  · refine q_xvv (As := [.int s0, .int 4]) (rest := []) E G hA hX hN hml (x_X3_startLine l hst D cI cJ cZ cMic cSrc cSt cAI cAJ ad T s1 s0 (4 : Int32) eT3) (cwV 2 hts (gaV qA_321 qA_322 qA_323 qA_222 qA_324) rfl rfl rfl (by decide +kernel) ⟨Nat.le_of_ble_eq_true rfl, Nat.le_of_ble_eq_true rfl⟩) (oO_k g2).1 (cc_o3 (oO_k g2).2) rfl rfl hl.1 rfl (lv_room (Nat.le_of_ble_eq_true rfl)) dX3_parseZone_15 ⟨Nat.le_of_ble_eq_true rfl, Nat.le_of_ble_eq_true rfl⟩ (fun E9 ce q9 T9 H locs hp G hce hcv hcl => ?_)
    obtain ⟨hE, hT⟩ := hp
    subst hE
    rw [hT] at G
    exact vx_out (fun x hx => (htab x hx).elim) hlocks hce hcv hcl (fun t ht hvm => kx _ _ _ G hvm (by rw [ht]; exact Nat.le_refl _) (fun q hq => by rw [ht])) G.2.2.2.2 (Nat.le_refl _) (Nat.le_refl _)
  refine q_cvv (As := [.int s0, .int 4]) (rest := []) E G hA hX hN hml (u_X3_startLine l hst D cI cJ cZ cMic cSrc cSt cAI cAJ ad T s1 s0 (4 : Int32) eT3) (cwV 2 hts (gaV qA_321 qA_322 qA_323 qA_222 qA_324) rfl rfl rfl (by decide +kernel) ⟨Nat.le_of_ble_eq_true rfl, Nat.le_of_ble_eq_true rfl⟩) (oO_k g2).1 (cc_o3 (oO_k g2).2) rfl rfl hl.1 rfl (lv_room (Nat.le_of_ble_eq_true rfl)) dX3_parseZone_15 ⟨Nat.zero_le _, Nat.zero_le _⟩ (fun T4 H locs hq G => ?_)
  rw [hq] at G
  clear hq eT3
  refine lv_aload_n hx hb dX3_parseZone_18 rfl (lv_at hl 1 rfl) ?_
  obtain ⟨g7, h⟩ := oif_some h
  obtain ⟨n8, en8, h⟩ := obind_some h
  refine c_get E G l1 6 (v := .ref (ad n8)) (oO_k g7).1 (cc_o1 (oO_k g7).2) rfl (fun w h => .tail _ (iA_15 h)) (by decide) (.tail _ qA_389) rfl (by rw [en8]; rfl) dX3_parseZone_19 ?_
  clear en8
  refine lv_aload_n hx hb dX3_parseZone_22 rfl (lv_at hl 1 rfl) ?_
  obtain ⟨g9, h⟩ := oif_some h
  refine c_get E G l1 7 (oO_k g9).1 (cc_o1 (oO_k g9).2) rfl (fun w h => .tail _ (iA_15 h)) (by decide) (.tail _ qA_388) rfl rfl dX3_parseZone_23 ?_
  refine lv_topi (fun v10 ev10 => ?_)
  have h := elet_at ev10 h
  clear ev10
  obtain ⟨g11, h⟩ := oif_some h
  obtain ⟨g12, h⟩ := oif_some h
  obtain ⟨n13, en13, h⟩ := obind_some h
  refine c_alda E G n8 6 (k := v10.toNatClampNeg) (v := .ref (ad n13)) (aA_k g11).1 (cc_a106 (aA_k g11).2.1) rfl (inb_k g12).1 (inb_k g12).2 (aA_k g11).2.2 (by show va_rf ((T3.2.2.2.2 n8 v10.toNatClampNeg).map ad) = _; rw [en13]; rfl) dX3_parseZone_26 ?_
  clear en13
  refine lv_astore_n (lv' := [(2, .ref (ad n13)), (0, .ref (ad l0)), (1, .ref (ad l1))]) hx hb dX3_parseZone_27 rfl hl (by decide) rfl (fun ls hl => ?_)
  refine lv_aload_n hx hb dX3_parseZone_28 rfl (lv_at hl 0 rfl) ?_
  refine lv_iconst (v := 0) hx hb dX3_parseZone_29 (by decide) ?_
  refine lv_aload_n hx hb dX3_parseZone_30 rfl (lv_at hl 1 rfl) ?_
  refine lv_iconst (v := 0) hx hb dX3_parseZone_31 (by decide) ?_
  refine lv_aload_n hx hb dX3_parseZone_32 rfl (lv_at hl 2 rfl) ?_
  obtain ⟨g14, h⟩ := oif_some h
  refine c_get E G l1 3 (oO_k g14).1 (cc_o1 (oO_k g14).2) rfl (fun w h => .tail _ (iA_15 h)) (by decide) (.tail _ qA_180) rfl rfl dX3_parseZone_33 ?_
  refine lv_topi (fun v15 ev15 => ?_)
  have h := elet_at ev15 h
  clear ev15
  refine lv_iconst (v := 1) hx hb dX3_parseZone_36 (by decide) ?_
  refine lv_isub hx hb dX3_parseZone_37 ?_
  refine lv_topi (fun v16 ev16 => ?_)
  have h := elet_at ev16 h
  clear ev16
  obtain ⟨g17, h⟩ := oif_some h
  rcases othr_t h with ⟨r0, eT18⟩ | ⟨r20, T18, eT18, h⟩
  · refine q_xvi (As := [.int 0, .int v16]) (rest := [.int 0, .ref (ad n13)]) E G hA hX hN hml (x_X3_number l hst D cI cJ cZ cMic cSrc cSt cAI cAJ ad T3 l0 (0 : Int32) v16 eT18) (cwV 2 hts (gaV qA_299 qA_300 qA_301 qA_222 qA_302) rfl rfl rfl (by decide +kernel) ⟨Nat.le_of_ble_eq_true rfl, Nat.le_of_ble_eq_true rfl⟩) (oO_k g17).1 (cc_o3 (oO_k g17).2) rfl rfl hl.1 rfl (lv_room (Nat.le_of_ble_eq_true rfl)) dX3_parseZone_38 ⟨Nat.le_of_ble_eq_true rfl, Nat.le_of_ble_eq_true rfl⟩ (fun E9 ce q9 T9 H locs hp G hce hcv hcl => ?_)
    obtain ⟨hE, hT⟩ := hp
    subst hE
    rw [hT] at G
    exact vx_out (fun x hx => (htab x hx).elim) hlocks hce hcv hcl (fun t ht hvm => kx _ _ _ G hvm (by rw [ht]; exact Nat.le_refl _) (fun q hq => by rw [ht])) G.2.2.2.2 (Nat.le_refl _) (Nat.le_refl _)
  refine q_cvi (As := [.int 0, .int v16]) (rest := [.int 0, .ref (ad n13)]) E G hA hX hN hml (u_X3_number l hst D cI cJ cZ cMic cSrc cSt cAI cAJ ad T3 l0 (0 : Int32) v16 eT18) (cwV 2 hts (gaV qA_299 qA_300 qA_301 qA_222 qA_302) rfl rfl rfl (by decide +kernel) ⟨Nat.le_of_ble_eq_true rfl, Nat.le_of_ble_eq_true rfl⟩) (oO_k g17).1 (cc_o3 (oO_k g17).2) rfl rfl hl.1 rfl (lv_room (Nat.le_of_ble_eq_true rfl)) dX3_parseZone_38 ⟨Nat.zero_le _, Nat.zero_le _⟩ (fun q21 T19 H locs hq G => ?_)
  obtain ⟨hq1, hq2⟩ := hq
  rw [hq2] at G
  refine lv_to hq1 ?_
  clear hq1 hq2 eT18
  obtain ⟨g22, h⟩ := oif_some h
  obtain ⟨g23, h⟩ := oif_some h
  refine c_iast E G n13 0 (k := (0 : Int32).toNatClampNeg) (v := r20) (aA_k g22).1 (cc_a100 (aA_k g22).2.1) rfl (inb_k g23).1 (inb_k g23).2 (aA_k g22).2.2 dX3_parseZone_41 (fun H locs G => ?_)
  have G := gC_up_i (f := upd (T18.2.2.1 n13) (0 : Int32).toNatClampNeg r20) (ccv_100 (aA_k g22).2.1) G
  obtain ⟨T24, eT24, h⟩ := elet_some h
  have G : gC cI cJ cZ cMic cSrc cSt cAI cAJ D ad A s.heap H locs T24 := by rw [eT24]; exact G
  clear eT24
  refine lv_aload_n hx hb dX3_parseZone_42 rfl (lv_at hl 0 rfl) ?_
  refine lv_iconst (v := 1) hx hb dX3_parseZone_43 (by decide) ?_
  refine lv_aload_n hx hb dX3_parseZone_44 rfl (lv_at hl 1 rfl) ?_
  refine lv_iconst (v := 0) hx hb dX3_parseZone_45 (by decide) ?_
  refine lv_aload_n hx hb dX3_parseZone_46 rfl (lv_at hl 2 rfl) ?_
  obtain ⟨g25, h⟩ := oif_some h
  refine c_get E G l1 4 (oO_k g25).1 (cc_o1 (oO_k g25).2) rfl (fun w h => .tail _ (iA_15 h)) (by decide) (.tail _ qA_390) rfl rfl dX3_parseZone_47 ?_
  refine lv_topi (fun v26 ev26 => ?_)
  have h := elet_at ev26 h
  clear ev26
  refine lv_iconst (v := 1) hx hb dX3_parseZone_50 (by decide) ?_
  refine lv_isub hx hb dX3_parseZone_51 ?_
  refine lv_topi (fun v27 ev27 => ?_)
  have h := elet_at ev27 h
  clear ev27
  obtain ⟨g28, h⟩ := oif_some h
  rcases othr_t h with ⟨r0, eT29⟩ | ⟨r31, T29, eT29, h⟩
  · refine q_xvi (As := [.int 0, .int v27]) (rest := [.int 1, .ref (ad n13)]) E G hA hX hN hml (x_X3_number l hst D cI cJ cZ cMic cSrc cSt cAI cAJ ad T24 l0 (0 : Int32) v27 eT29) (cwV 2 hts (gaV qA_299 qA_300 qA_301 qA_222 qA_302) rfl rfl rfl (by decide +kernel) ⟨Nat.le_of_ble_eq_true rfl, Nat.le_of_ble_eq_true rfl⟩) (oO_k g28).1 (cc_o3 (oO_k g28).2) rfl rfl hl.1 rfl (lv_room (Nat.le_of_ble_eq_true rfl)) dX3_parseZone_52 ⟨Nat.le_of_ble_eq_true rfl, Nat.le_of_ble_eq_true rfl⟩ (fun E9 ce q9 T9 H locs hp G hce hcv hcl => ?_)
    obtain ⟨hE, hT⟩ := hp
    subst hE
    rw [hT] at G
    exact vx_out (fun x hx => (htab x hx).elim) hlocks hce hcv hcl (fun t ht hvm => kx _ _ _ G hvm (by rw [ht]; exact Nat.le_refl _) (fun q hq => by rw [ht])) G.2.2.2.2 (Nat.le_refl _) (Nat.le_refl _)
  refine q_cvi (As := [.int 0, .int v27]) (rest := [.int 1, .ref (ad n13)]) E G hA hX hN hml (u_X3_number l hst D cI cJ cZ cMic cSrc cSt cAI cAJ ad T24 l0 (0 : Int32) v27 eT29) (cwV 2 hts (gaV qA_299 qA_300 qA_301 qA_222 qA_302) rfl rfl rfl (by decide +kernel) ⟨Nat.le_of_ble_eq_true rfl, Nat.le_of_ble_eq_true rfl⟩) (oO_k g28).1 (cc_o3 (oO_k g28).2) rfl rfl hl.1 rfl (lv_room (Nat.le_of_ble_eq_true rfl)) dX3_parseZone_52 ⟨Nat.zero_le _, Nat.zero_le _⟩ (fun q32 T30 H locs hq G => ?_)
  obtain ⟨hq1, hq2⟩ := hq
  rw [hq2] at G
  refine lv_to hq1 ?_
  clear hq1 hq2 eT29
  obtain ⟨g33, h⟩ := oif_some h
  obtain ⟨g34, h⟩ := oif_some h
  refine c_iast E G n13 0 (k := (1 : Int32).toNatClampNeg) (v := r31) (aA_k g33).1 (cc_a100 (aA_k g33).2.1) rfl (inb_k g34).1 (inb_k g34).2 (aA_k g33).2.2 dX3_parseZone_55 (fun H locs G => ?_)
  have G := gC_up_i (f := upd (T29.2.2.1 n13) (1 : Int32).toNatClampNeg r31) (ccv_100 (aA_k g33).2.1) G
  obtain ⟨T35, eT35, h⟩ := elet_some h
  have G : gC cI cJ cZ cMic cSrc cSt cAI cAJ D ad A s.heap H locs T35 := by rw [eT35]; exact G
  clear eT35
  refine lv_aload_n hx hb dX3_parseZone_56 rfl (lv_at hl 0 rfl) ?_
  refine lv_iconst (v := 2) hx hb dX3_parseZone_57 (by decide) ?_
  refine lv_aload_n hx hb dX3_parseZone_58 rfl (lv_at hl 1 rfl) ?_
  refine lv_aload_n hx hb dX3_parseZone_59 rfl (lv_at hl 0 rfl) ?_
  refine lv_iconst (v := 0) hx hb dX3_parseZone_60 (by decide) ?_
  obtain ⟨g36, h⟩ := oif_some h
  obtain ⟨g37, h⟩ := oif_some h
  refine c_iald E G n13 0 (k := (0 : Int32).toNatClampNeg) (aA_k g36).1 (cc_a100 (aA_k g36).2.1) rfl (inb_k g37).1 (inb_k g37).2 (aA_k g36).2.2 dX3_parseZone_61 ?_
  refine lv_topi (fun v38 ev38 => ?_)
  have h := elet_at ev38 h
  clear ev38
  refine lv_aload_n hx hb dX3_parseZone_62 rfl (lv_at hl 2 rfl) ?_
  obtain ⟨g39, h⟩ := oif_some h
  refine c_get E G l1 3 (oO_k g39).1 (cc_o1 (oO_k g39).2) rfl (fun w h => .tail _ (iA_15 h)) (by decide) (.tail _ qA_180) rfl rfl dX3_parseZone_63 ?_
  refine lv_topi (fun v40 ev40 => ?_)
  have h := elet_at ev40 h
  clear ev40
  refine lv_iconst (v := 1) hx hb dX3_parseZone_66 (by decide) ?_
  refine lv_isub hx hb dX3_parseZone_67 ?_
  refine lv_topi (fun v41 ev41 => ?_)
  have h := elet_at ev41 h
  clear ev41
  obtain ⟨g42, h⟩ := oif_some h
  rcases othr_t h with ⟨r0, eT43⟩ | ⟨r45, T43, eT43, h⟩
  · refine q_xvi (As := [.int v38, .int v41]) (rest := [.int 2, .ref (ad n13)]) E G hA hX hN hml (x_X3_number l hst D cI cJ cZ cMic cSrc cSt cAI cAJ ad T35 l0 v38 v41 eT43) (cwV 2 hts (gaV qA_299 qA_300 qA_301 qA_222 qA_302) rfl rfl rfl (by decide +kernel) ⟨Nat.le_of_ble_eq_true rfl, Nat.le_of_ble_eq_true rfl⟩) (oO_k g42).1 (cc_o3 (oO_k g42).2) rfl rfl hl.1 rfl (lv_room (Nat.le_of_ble_eq_true rfl)) dX3_parseZone_68 ⟨Nat.le_of_ble_eq_true rfl, Nat.le_of_ble_eq_true rfl⟩ (fun E9 ce q9 T9 H locs hp G hce hcv hcl => ?_)
    obtain ⟨hE, hT⟩ := hp
    subst hE
    rw [hT] at G
    exact vx_out (fun x hx => (htab x hx).elim) hlocks hce hcv hcl (fun t ht hvm => kx _ _ _ G hvm (by rw [ht]; exact Nat.le_refl _) (fun q hq => by rw [ht])) G.2.2.2.2 (Nat.le_refl _) (Nat.le_refl _)
  refine q_cvi (As := [.int v38, .int v41]) (rest := [.int 2, .ref (ad n13)]) E G hA hX hN hml (u_X3_number l hst D cI cJ cZ cMic cSrc cSt cAI cAJ ad T35 l0 v38 v41 eT43) (cwV 2 hts (gaV qA_299 qA_300 qA_301 qA_222 qA_302) rfl rfl rfl (by decide +kernel) ⟨Nat.le_of_ble_eq_true rfl, Nat.le_of_ble_eq_true rfl⟩) (oO_k g42).1 (cc_o3 (oO_k g42).2) rfl rfl hl.1 rfl (lv_room (Nat.le_of_ble_eq_true rfl)) dX3_parseZone_68 ⟨Nat.zero_le _, Nat.zero_le _⟩ (fun q46 T44 H locs hq G => ?_)
  obtain ⟨hq1, hq2⟩ := hq
  rw [hq2] at G
  refine lv_to hq1 ?_
  clear hq1 hq2 eT43
  obtain ⟨g47, h⟩ := oif_some h
  obtain ⟨g48, h⟩ := oif_some h
  refine c_iast E G n13 0 (k := (2 : Int32).toNatClampNeg) (v := r45) (aA_k g47).1 (cc_a100 (aA_k g47).2.1) rfl (inb_k g48).1 (inb_k g48).2 (aA_k g47).2.2 dX3_parseZone_71 (fun H locs G => ?_)
  have G := gC_up_i (f := upd (T43.2.2.1 n13) (2 : Int32).toNatClampNeg r45) (ccv_100 (aA_k g47).2.1) G
  obtain ⟨T49, eT49, h⟩ := elet_some h
  have G : gC cI cJ cZ cMic cSrc cSt cAI cAJ D ad A s.heap H locs T49 := by rw [eT49]; exact G
  clear eT49
  refine lv_aload_n hx hb dX3_parseZone_72 rfl (lv_at hl 0 rfl) ?_
  refine lv_iconst (v := 3) hx hb dX3_parseZone_73 (by decide) ?_
  refine lv_aload_n hx hb dX3_parseZone_74 rfl (lv_at hl 1 rfl) ?_
  refine lv_aload_n hx hb dX3_parseZone_75 rfl (lv_at hl 0 rfl) ?_
  refine lv_iconst (v := 1) hx hb dX3_parseZone_76 (by decide) ?_
  obtain ⟨g50, h⟩ := oif_some h
  obtain ⟨g51, h⟩ := oif_some h
  refine c_iald E G n13 0 (k := (1 : Int32).toNatClampNeg) (aA_k g50).1 (cc_a100 (aA_k g50).2.1) rfl (inb_k g51).1 (inb_k g51).2 (aA_k g50).2.2 dX3_parseZone_77 ?_
  refine lv_topi (fun v52 ev52 => ?_)
  have h := elet_at ev52 h
  clear ev52
  refine lv_aload_n hx hb dX3_parseZone_78 rfl (lv_at hl 2 rfl) ?_
  obtain ⟨g53, h⟩ := oif_some h
  refine c_get E G l1 4 (oO_k g53).1 (cc_o1 (oO_k g53).2) rfl (fun w h => .tail _ (iA_15 h)) (by decide) (.tail _ qA_390) rfl rfl dX3_parseZone_79 ?_
  refine lv_topi (fun v54 ev54 => ?_)
  have h := elet_at ev54 h
  clear ev54
  refine lv_iconst (v := 1) hx hb dX3_parseZone_82 (by decide) ?_
  refine lv_isub hx hb dX3_parseZone_83 ?_
  refine lv_topi (fun v55 ev55 => ?_)
  have h := elet_at ev55 h
  clear ev55
  obtain ⟨g56, h⟩ := oif_some h
  rcases othr_t h with ⟨r0, eT57⟩ | ⟨r59, T57, eT57, h⟩
  · refine q_xvi (As := [.int v52, .int v55]) (rest := [.int 3, .ref (ad n13)]) E G hA hX hN hml (x_X3_number l hst D cI cJ cZ cMic cSrc cSt cAI cAJ ad T49 l0 v52 v55 eT57) (cwV 2 hts (gaV qA_299 qA_300 qA_301 qA_222 qA_302) rfl rfl rfl (by decide +kernel) ⟨Nat.le_of_ble_eq_true rfl, Nat.le_of_ble_eq_true rfl⟩) (oO_k g56).1 (cc_o3 (oO_k g56).2) rfl rfl hl.1 rfl (lv_room (Nat.le_of_ble_eq_true rfl)) dX3_parseZone_84 ⟨Nat.le_of_ble_eq_true rfl, Nat.le_of_ble_eq_true rfl⟩ (fun E9 ce q9 T9 H locs hp G hce hcv hcl => ?_)
    obtain ⟨hE, hT⟩ := hp
    subst hE
    rw [hT] at G
    exact vx_out (fun x hx => (htab x hx).elim) hlocks hce hcv hcl (fun t ht hvm => kx _ _ _ G hvm (by rw [ht]; exact Nat.le_refl _) (fun q hq => by rw [ht])) G.2.2.2.2 (Nat.le_refl _) (Nat.le_refl _)
  refine q_cvi (As := [.int v52, .int v55]) (rest := [.int 3, .ref (ad n13)]) E G hA hX hN hml (u_X3_number l hst D cI cJ cZ cMic cSrc cSt cAI cAJ ad T49 l0 v52 v55 eT57) (cwV 2 hts (gaV qA_299 qA_300 qA_301 qA_222 qA_302) rfl rfl rfl (by decide +kernel) ⟨Nat.le_of_ble_eq_true rfl, Nat.le_of_ble_eq_true rfl⟩) (oO_k g56).1 (cc_o3 (oO_k g56).2) rfl rfl hl.1 rfl (lv_room (Nat.le_of_ble_eq_true rfl)) dX3_parseZone_84 ⟨Nat.zero_le _, Nat.zero_le _⟩ (fun q60 T58 H locs hq G => ?_)
  obtain ⟨hq1, hq2⟩ := hq
  rw [hq2] at G
  refine lv_to hq1 ?_
  clear hq1 hq2 eT57
  obtain ⟨g61, h⟩ := oif_some h
  obtain ⟨g62, h⟩ := oif_some h
  refine c_iast E G n13 0 (k := (3 : Int32).toNatClampNeg) (v := r59) (aA_k g61).1 (cc_a100 (aA_k g61).2.1) rfl (inb_k g62).1 (inb_k g62).2 (aA_k g61).2.2 dX3_parseZone_87 (fun H locs G => ?_)
  have G := gC_up_i (f := upd (T57.2.2.1 n13) (3 : Int32).toNatClampNeg r59) (ccv_100 (aA_k g61).2.1) G
  obtain ⟨T63, eT63, h⟩ := elet_some h
  have G : gC cI cJ cZ cMic cSrc cSt cAI cAJ D ad A s.heap H locs T63 := by rw [eT63]; exact G
  clear eT63
  refine lv_aload_n hx hb dX3_parseZone_88 rfl (lv_at hl 2 rfl) ?_
  refine lv_dup hx hb dX3_parseZone_89 rfl ?_
  obtain ⟨g64, h⟩ := oif_some h
  refine c_get E G l1 7 (oO_k g64).1 (cc_o1 (oO_k g64).2) rfl (fun w h => .tail _ (iA_15 h)) (by decide) (.tail _ qA_388) rfl rfl dX3_parseZone_90 ?_
  refine lv_topi (fun v65 ev65 => ?_)
  have h := elet_at ev65 h
  clear ev65
  refine lv_iconst (v := 1) hx hb dX3_parseZone_93 (by decide) ?_
  refine lv_iadd hx hb dX3_parseZone_94 ?_
  refine lv_topi (fun v66 ev66 => ?_)
  have h := elet_at ev66 h
  clear ev66
  obtain ⟨g67, h⟩ := oif_some h
  refine c_put E G l1 7 (v := .int v66) (oO_k g67).1 (cc_o1 (oO_k g67).2) rfl (fun w h => .tail _ (iA_15 h)) tyX1 tyX1_ok nmX1 (by decide) (.tail _ qA_388) ⟨rfl, rfl, rfl⟩ rfl rfl (Nat.le_of_ble_eq_true rfl) dX3_parseZone_95 (fun H locs G => ?_)
  have G := gC_up_i (f := upd (T63.2.2.1 l1) 7 v66) (by rw [(oO_k g67).2]; rfl) G
  obtain ⟨T68, eT68, h⟩ := elet_some h
  have G : gC cI cJ cZ cMic cSrc cSt cAI cAJ D ad A s.heap H locs T68 := by rw [eT68]; exact G
  clear eT68
  exact (Nat.succ_ne_zero _ (congrArg Prod.fst (Option.some.inj h)).symm).elim
set_option maxHeartbeats 4000000 in
set_option maxRecDepth 100000 in
theorem x_X3_parseZone (l : Launch) (hst : l.stackTraces = false) (D : va_G) (cI cJ cZ cMic cSrc cSt cAI cAJ : ClassId) (ad : Nat → Nat) (T : AT) (o : Nat) (a0 : Nat) {e1 : Nat} {r1 : Int32} {T1 : AT} (h : g_X3_parseZone T o a0 = some (e1 + 1, r1, T1)) : kXv l yX3_parseZone (Cond.code yX3_parseZone cX3_parseZone 3 none :: wsA) 8 126 cI cJ cZ cMic cSrc cSt cAI cAJ D ad T [.ref (ad o), .ref (ad a0)] e1 T1 := by
  intro sz
  refine vx_ofW (cc := cX3_parseZone) (maxL := 3) (ret := none) (by decide) rfl ?_
  intro p e s m args below meth c s₁ B hml htab hv
  obtain ⟨rfl, hsz, hP, hK, hD0, hX, hN⟩ := hv
  have hx := B.exec
  have hb := B.bytes
  have hr := B.returns
  have hts := atoms_spec (ws := (Cond.code yX3_parseZone cX3_parseZone 3 none :: wsA)) B.pre
  have hown : s.vm.findClass RX3 = some m.cls := findClass_of_methodNamed B.named
  have hlocks := B.notSynchronized
  subst hsz
  have hD := hD0.self (sz := s.heap.size)
  generalize hAe : va_A (cW ad T.1 (cc cI cJ cZ cMic cSrc cSt cAI cAJ ad T)) s.heap.size = A at hD hX ⊢
  have hA : ∀ q : Nat, s.heap.size ≤ q → A q := fun q h => by rw [← hAe]; exact Or.inr h
  have G : gC cI cJ cZ cMic cSrc cSt cAI cAJ D ad A s.heap s.heap [] T := ⟨hP, hD, va_S.rf⟩
  have E : cE p c cX3_parseZone s m ([.ref (ad o), .ref (ad a0)] : List Value).toArray (Cond.code yX3_parseZone cX3_parseZone 3 none :: wsA) D RX3 (CT cI cJ cZ cMic cSrc cSt cAI cAJ) := ⟨hx, hb, hts, hown, hK⟩
  have htab : ∀ x ∈ c.exceptionTable.toList, False := fun x hx => htab x hx
  have hl := lv_entry ([.ref (ad o), .ref (ad a0)]) (n := 3) (Nat.le_of_ble_eq_true rfl)
  rw [lg_entry_eq]
  generalize (lg_sl ([.ref (ad o), .ref (ad a0)]) ++ List.replicate (3 - (lg_sl ([.ref (ad o), .ref (ad a0)])).length) Slot.unset).toArray = ls at hl ⊢
  have hl : lv_has ls 3 [(0, .ref (ad o)), (1, .ref (ad a0))] := hl
  unfold g_X3_parseZone at h
  refine lv_aload_n hx hb dX3_parseZone_0 rfl (lv_at hl 0 rfl) ?_
  refine lv_aload_n hx hb dX3_parseZone_1 rfl (lv_at hl 1 rfl) ?_
  obtain ⟨g2, h⟩ := oif_some h
  refine c_get E G a0 7 (oO_k g2).1 (cc_o1 (oO_k g2).2) rfl (fun w h => .tail _ (iA_15 h)) (by decide) (.tail _ qA_388) rfl rfl dX3_parseZone_2 ?_
  refine lv_topi (fun v3 ev3 => ?_)
  have h := elet_at ev3 h
  clear ev3
  refine lv_iconst (v := 4) hx hb dX3_parseZone_5 (by decide) ?_
  refine lv_icmp_lt (tgt := 13) hx hb dX3_parseZone_6 (by decide) (fun c4 => ?_) (fun c4 => ?_)
  · have h := oif_pos c4 h
    refine lv_iconst (v := 0) hx hb dX3_parseZone_13 (by decide) ?_
    have hl := lv_sub hl [0, 1] rfl
    exact x_X3_parseZone_b14 E hA hX hN hml trivial hst htab hlocks (fun H locs t G hvm h1 h2 => ⟨T1, trivial, ⟨⟨rfl, rfl⟩, (c_thrown G hK hvm h1 h2).1⟩, (c_thrown G hK hvm h1 h2).2⟩) _ _ _ _ _ _ _ _ h G hl
  · have h := oif_neg c4 h
    refine lv_iconst (v := 1) hx hb dX3_parseZone_9 (by decide) ?_
    refine lv_goto (tgt := 14) hx hb dX3_parseZone_10 (by decide) ?_
    have hl := lv_sub hl [0, 1] rfl
    exact x_X3_parseZone_b14 E hA hX hN hml trivial hst htab hlocks (fun H locs t G hvm h1 h2 => ⟨T1, trivial, ⟨⟨rfl, rfl⟩, (c_thrown G hK hvm h1 h2).1⟩, (c_thrown G hK hvm h1 h2).2⟩) _ _ _ _ _ _ _ _ h G hl
end
section
/-! 11kf.cd5.lean.txt -/
def g_X3_parseClock_b41  (T : AT) (l0 : Nat) (l1 : Nat) (l2 : Int32) : Option (Nat × Int32 × AT) := oif (oO T l1 6 = true) <| obind (T.2.2.2.2 l1 4) fun n3 => oif (aA T n3 103 = true) <| oif (inb l2 (T.2.1 n3).2 = true) <| obind (T.2.2.2.2 n3 l2.toNatClampNeg) fun n6 => oif (oO T l0 3 = true) <| othr (g_X3_number T l0 (1 : Int32) (31 : Int32)) 0 fun r10 T8 => oif (oO T8 n6 2 = true) <| elet (uI T8 n6 3 r10) fun T13 => some (0, 0, T13)
set_option maxHeartbeats 4000000 in
set_option maxRecDepth 100000 in
theorem u_X3_parseClock_b41 {p : Program} {l : Launch} {e : Env} {s : State} {m : MethodId} {args : Array Value} {below : List Frame} {meth : Method} {c : Code} {Q : State → Prop} {D : va_G} {A : Nat → Prop} {cI cJ cZ cMic cSrc cSt cAI cAJ : ClassId} {ad : Nat → Nat} {r1 : Int32} {T1 : AT} (E : cE p c cX3_parseClock s m args (Cond.code yX3_parseClock cX3_parseClock 3 none :: wsA) D RX3 (CT cI cJ cZ cMic cSrc cSt cAI cAJ)) (hA : ∀ q : Nat, s.heap.size ≤ q → A q) (hX : xT A s) (hN : nX s) (hml : c.maxLocals = 3) (hst : l.stackTraces = false) (kr57 : ∀ (H : Heap) (locs : List Loc) (ls : Array Slot), gC cI cJ cZ cMic cSrc cSt cAI cAJ D ad A s.heap H locs T1 → W p l e { frames := 8, cells := 0, slots := 0, locals := 126 } s m args below meth c H locs 0 0 Q (F0 m 57 ls [])) : ∀ (T : AT) (H : Heap) (locs : List Loc) (ls : Array Slot) (l0 : Nat) (l1 : Nat) (l2 : Int32), g_X3_parseClock_b41 T l0 l1 l2 = some (0, r1, T1) → gC cI cJ cZ cMic cSrc cSt cAI cAJ D ad A s.heap H locs T → lv_has ls 3 [(0, .ref (ad l0)), (1, .ref (ad l1)), (2, .int l2)] → W p l e { frames := 8, cells := 0, slots := 0, locals := 126 } s m args below meth c H locs 0 0 Q (F0 m 41 ls []) := by
  have hx := E.1
  have hb := E.2.1
  have hts := E.2.2.1
  have hown := E.2.2.2.1
  have hK := E.2.2.2.2
  intro T H locs ls l0 l1 l2 h G hl
  unfold g_X3_parseClock_b41 at h
  refine lv_aload_n hx hb dX3_parseClock_41 rfl (lv_at hl 1 rfl) ?_
  obtain ⟨g2, h⟩ := oif_some h
  obtain ⟨n3, en3, h⟩ := obind_some h
  refine c_get E G l1 4 (v := .ref (ad n3)) (oO_k g2).1 (cc_o6 (oO_k g2).2) rfl (fun w h => .tail _ (iA_14 h)) (by decide) (.tail _ qA_316) rfl (by rw [en3]; rfl) dX3_parseClock_42 ?_
  clear en3
  refine lv_iload_n hx hb dX3_parseClock_45 rfl (lv_at hl 2 rfl) ?_
  obtain ⟨g4, h⟩ := oif_some h
  obtain ⟨g5, h⟩ := oif_some h
  obtain ⟨n6, en6, h⟩ := obind_some h
  refine c_aldq E G n3 3 (k := l2.toNatClampNeg) (v := .ref (ad n6)) (aA_k g4).1 (cc_a103 (aA_k g4).2.1) rfl (inb_k g5).1 (inb_k g5).2 (aA_k g4).2.2 (by show va_rf ((T.2.2.2.2 n3 l2.toNatClampNeg).map ad) = _; rw [en6]; rfl) dX3_parseClock_46 ?_
  clear en6
  refine lv_aload_n hx hb dX3_parseClock_47 rfl (lv_at hl 0 rfl) ?_
  refine lv_iconst (v := 1) hx hb dX3_parseClock_48 (by decide) ?_
  refine lv_bipush (v := 31) hx hb dX3_parseClock_49 (by decide) ?_
  obtain ⟨g7, h⟩ := oif_some h
  obtain ⟨r10, T8, eT8, h⟩ := othr_n h
  refine q_cvi (As := [.int 1, .int 31]) (rest := [.ref (ad n6)]) E G hA hX hN hml (u_X3_number l hst D cI cJ cZ cMic cSrc cSt cAI cAJ ad T l0 (1 : Int32) (31 : Int32) eT8) (cwV 2 hts (gaV qA_299 qA_300 qA_301 qA_222 qA_302) rfl rfl rfl (by decide +kernel) ⟨Nat.le_of_ble_eq_true rfl, Nat.le_of_ble_eq_true rfl⟩) (oO_k g7).1 (cc_o3 (oO_k g7).2) rfl rfl hl.1 rfl (lv_room (Nat.le_of_ble_eq_true rfl)) dX3_parseClock_51 ⟨Nat.zero_le _, Nat.zero_le _⟩ (fun q11 T9 H locs hq G => ?_)
  obtain ⟨hq1, hq2⟩ := hq
  rw [hq2] at G
  refine lv_to hq1 ?_
  clear hq1 hq2 eT8
  obtain ⟨g12, h⟩ := oif_some h
  refine c_put E G n6 3 (v := .int r10) (oO_k g12).1 (cc_o2 (oO_k g12).2) rfl (fun w h => .tail _ (iA_19 h)) tyX2 tyX2_ok nmX2 (by decide) (.tail _ qA_320) ⟨rfl, rfl, rfl⟩ rfl rfl (Nat.le_of_ble_eq_true rfl) dX3_parseClock_54 (fun H locs G => ?_)
  have G := gC_up_i (f := upd (T8.2.2.1 n6) 3 r10) (by rw [(oO_k g12).2]; rfl) G
  obtain ⟨T13, eT13, h⟩ := elet_some h
  have G : gC cI cJ cZ cMic cSrc cSt cAI cAJ D ad A s.heap H locs T13 := by rw [eT13]; exact G
  clear eT13
  rw [(osome3 h).2.2] at G
  exact kr57 _ _ _ G
def g_X3_parseClock (T : AT) (o : Nat) (a0 : Nat) : Option (Nat × Int32 × AT) := oif (oO T o 3 = true) <| othr (g_X3_startLine T o (0 : Int32) (3 : Int32)) 0 fun r5 T3 => oif (oO T3 a0 6 = true) <| elet (T3.2.2.1 a0 5) fun v8 => elet (v8 - 1) fun v9 => oif (oO T3 o 3 = true) <| othr (g_X3_number T3 o (0 : Int32) v9) 0 fun r13 T11 => oif (oO T11 a0 6 = true) <| obind (T11.2.2.2.2 a0 4) fun n16 => oif (aA T11 n16 103 = true) <| oif (inb r13 (T11.2.1 n16).2 = true) <| obind (T11.2.2.2.2 n16 r13.toNatClampNeg) fun n19 => oif (oO T11 n19 2 = true) <| elet (T11.2.2.1 n19 3) fun v21 => if v21 ≤ 0 then (g_X3_parseClock_b41 T11 o a0 r13) else (oif (oO T11 o 3 = true) <| elet (T11.2.2.1 o 1) fun v24 => elet (v24 - 1) fun v25 => oif (oO T11 o 3 = true) <| othr (g_X3_failAt T11 o v25 (3 : Int32)) 0 fun r29 T27 => g_X3_parseClock_b41 T27 o a0 r13)
set_option maxHeartbeats 4000000 in
set_option maxRecDepth 100000 in
theorem u_X3_parseClock (l : Launch) (hst : l.stackTraces = false) (D : va_G) (cI cJ cZ cMic cSrc cSt cAI cAJ : ClassId) (ad : Nat → Nat) (T : AT) (o : Nat) (a0 : Nat) {r1 : Int32} {T1 : AT} (h : g_X3_parseClock T o a0 = some (0, r1, T1)) : kCv l yX3_parseClock (Cond.code yX3_parseClock cX3_parseClock 3 none :: wsA) 8 126 cI cJ cZ cMic cSrc cSt cAI cAJ D ad T [.ref (ad o), .ref (ad a0)] (fun T9 => T9 = T1) := by
  intro sz
  refine Met.ofW (cc := cX3_parseClock) (maxL := 3) (ret := none) (by decide) rfl ?_
  intro p e s m args below meth c s₁ B hml hv
  obtain ⟨rfl, hsz, hP, hK, hD0, hX, hN⟩ := hv
  have hx := B.exec
  have hb := B.bytes
  have hr := B.returns
  have hts := atoms_spec (ws := (Cond.code yX3_parseClock cX3_parseClock 3 none :: wsA)) B.pre
  have hown : s.vm.findClass RX3 = some m.cls := findClass_of_methodNamed B.named
  have hlocks := B.notSynchronized
  subst hsz
  have hD := hD0.self (sz := s.heap.size)
  generalize hAe : va_A (cW ad T.1 (cc cI cJ cZ cMic cSrc cSt cAI cAJ ad T)) s.heap.size = A at hD hX ⊢
  have hA : ∀ q : Nat, s.heap.size ≤ q → A q := fun q h => by rw [← hAe]; exact Or.inr h
  have G : gC cI cJ cZ cMic cSrc cSt cAI cAJ D ad A s.heap s.heap [] T := ⟨hP, hD, va_S.rf⟩
  have E : cE p c cX3_parseClock s m ([.ref (ad o), .ref (ad a0)] : List Value).toArray (Cond.code yX3_parseClock cX3_parseClock 3 none :: wsA) D RX3 (CT cI cJ cZ cMic cSrc cSt cAI cAJ) := ⟨hx, hb, hts, hown, hK⟩
  have hl := lv_entry ([.ref (ad o), .ref (ad a0)]) (n := 3) (Nat.le_of_ble_eq_true rfl)
  rw [lg_entry_eq]
  generalize (lg_sl ([.ref (ad o), .ref (ad a0)]) ++ List.replicate (3 - (lg_sl ([.ref (ad o), .ref (ad a0)])).length) Slot.unset).toArray = ls at hl ⊢
  have hl : lv_has ls 3 [(0, .ref (ad o)), (1, .ref (ad a0))] := hl
  unfold g_X3_parseClock at h
  refine lv_aload_n hx hb dX3_parseClock_0 rfl (lv_at hl 0 rfl) ?_
  refine lv_iconst (v := 0) hx hb dX3_parseClock_1 (by decide) ?_
  refine lv_iconst (v := 3) hx hb dX3_parseClock_2 (by decide) ?_
  obtain ⟨g2, h⟩ := oif_some h
  obtain ⟨r5, T3, eT3, h⟩ := othr_n h
  refine q_cvv (As := [.int 0, .int 3]) (rest := []) E G hA hX hN hml (u_X3_startLine l hst D cI cJ cZ cMic cSrc cSt cAI cAJ ad T o (0 : Int32) (3 : Int32) eT3) (cwV 2 hts (gaV qA_321 qA_322 qA_323 qA_222 qA_324) rfl rfl rfl (by decide +kernel) ⟨Nat.le_of_ble_eq_true rfl, Nat.le_of_ble_eq_true rfl⟩) (oO_k g2).1 (cc_o3 (oO_k g2).2) rfl rfl hl.1 rfl (lv_room (Nat.le_of_ble_eq_true rfl)) dX3_parseClock_3 ⟨Nat.zero_le _, Nat.zero_le _⟩ (fun T4 H locs hq G => ?_)
  rw [hq] at G
  clear hq eT3
  refine lv_aload_n hx hb dX3_parseClock_6 rfl (lv_at hl 0 rfl) ?_
  refine lv_iconst (v := 0) hx hb dX3_parseClock_7 (by decide) ?_
  refine lv_aload_n hx hb dX3_parseClock_8 rfl (lv_at hl 1 rfl) ?_
  obtain ⟨g7, h⟩ := oif_some h
  refine c_get E G a0 5 (oO_k g7).1 (cc_o6 (oO_k g7).2) rfl (fun w h => .tail _ (iA_14 h)) (by decide) (.tail _ qA_178) rfl rfl dX3_parseClock_9 ?_
  refine lv_topi (fun v8 ev8 => ?_)
  have h := elet_at ev8 h
  clear ev8
  refine lv_iconst (v := 1) hx hb dX3_parseClock_12 (by decide) ?_
  refine lv_isub hx hb dX3_parseClock_13 ?_
  refine lv_topi (fun v9 ev9 => ?_)
  have h := elet_at ev9 h
  clear ev9
  obtain ⟨g10, h⟩ := oif_some h
  obtain ⟨r13, T11, eT11, h⟩ := othr_n h
  refine q_cvi (As := [.int 0, .int v9]) (rest := []) E G hA hX hN hml (u_X3_number l hst D cI cJ cZ cMic cSrc cSt cAI cAJ ad T3 o (0 : Int32) v9 eT11) (cwV 2 hts (gaV qA_299 qA_300 qA_301 qA_222 qA_302) rfl rfl rfl (by decide +kernel) ⟨Nat.le_of_ble_eq_true rfl, Nat.le_of_ble_eq_true rfl⟩) (oO_k g10).1 (cc_o3 (oO_k g10).2) rfl rfl hl.1 rfl (lv_room (Nat.le_of_ble_eq_true rfl)) dX3_parseClock_14 ⟨Nat.zero_le _, Nat.zero_le _⟩ (fun q14 T12 H locs hq G => ?_)
  obtain ⟨hq1, hq2⟩ := hq
  rw [hq2] at G
  refine lv_to hq1 ?_
  clear hq1 hq2 eT11
  refine lv_istore_n (lv' := [(2, .int r13), (0, .ref (ad o)), (1, .ref (ad a0))]) hx hb dX3_parseClock_17 rfl hl (by decide) rfl (fun ls hl => ?_)
  refine lv_aload_n hx hb dX3_parseClock_18 rfl (lv_at hl 2 rfl) ?_
  obtain ⟨g15, h⟩ := oif_some h
  obtain ⟨n16, en16, h⟩ := obind_some h
  refine c_get E G a0 4 (v := .ref (ad n16)) (oO_k g15).1 (cc_o6 (oO_k g15).2) rfl (fun w h => .tail _ (iA_14 h)) (by decide) (.tail _ qA_316) rfl (by rw [en16]; rfl) dX3_parseClock_19 ?_
  clear en16
  refine lv_iload_n hx hb dX3_parseClock_22 rfl (lv_at hl 0 rfl) ?_
  obtain ⟨g17, h⟩ := oif_some h
  obtain ⟨g18, h⟩ := oif_some h
  obtain ⟨n19, en19, h⟩ := obind_some h
  refine c_aldq E G n16 3 (k := r13.toNatClampNeg) (v := .ref (ad n19)) (aA_k g17).1 (cc_a103 (aA_k g17).2.1) rfl (inb_k g18).1 (inb_k g18).2 (aA_k g17).2.2 (by show va_rf ((T11.2.2.2.2 n16 r13.toNatClampNeg).map ad) = _; rw [en19]; rfl) dX3_parseClock_23 ?_
  clear en19
  obtain ⟨g20, h⟩ := oif_some h
  refine c_get E G n19 3 (oO_k g20).1 (cc_o2 (oO_k g20).2) rfl (fun w h => .tail _ (iA_19 h)) (by decide) (.tail _ qA_320) rfl rfl dX3_parseClock_24 ?_
  refine lv_topi (fun v21 ev21 => ?_)
  have h := elet_at ev21 h
  clear ev21
  refine lv_if_le (tgt := 41) hx hb dX3_parseClock_27 (by decide) (fun c22 => ?_) (fun c22 => ?_)
  · have h := oif_pos c22 h
    have hl := lv_sub hl [1, 2, 0] rfl
    exact u_X3_parseClock_b41 E hA hX hN hml hst (fun H locs ls G => W.vret hx hb hr (fun t ht hW => ⟨⟨T1, rfl, rfl, ⟨by rw [ht]; exact G.1, va_K.moved hW.alike hK, G.2.1⟩⟩, G.2.2.F ht⟩) G.2.2.2.2 dX3_parseClock_57) _ _ _ _ _ _ _ h G hl
  · have h := oif_neg c22 h
    refine lv_aload_n hx hb dX3_parseClock_30 rfl (lv_at hl 1 rfl) ?_
    refine lv_aload_n hx hb dX3_parseClock_31 rfl (lv_at hl 1 rfl) ?_
    obtain ⟨g23, h⟩ := oif_some h
    refine c_get E G o 1 (oO_k g23).1 (cc_o3 (oO_k g23).2) rfl (fun w h => .tail _ (iA_17 h)) (by decide) (.tail _ qA_176) rfl rfl dX3_parseClock_32 ?_
    refine lv_topi (fun v24 ev24 => ?_)
    have h := elet_at ev24 h
    clear ev24
    refine lv_iconst (v := 1) hx hb dX3_parseClock_35 (by decide) ?_
    refine lv_isub hx hb dX3_parseClock_36 ?_
    refine lv_topi (fun v25 ev25 => ?_)
    have h := elet_at ev25 h
    clear ev25
    refine lv_iconst (v := 3) hx hb dX3_parseClock_37 (by decide) ?_
    obtain ⟨g26, h⟩ := oif_some h
    obtain ⟨r29, T27, eT27, h⟩ := othr_n h
    refine q_cvv (As := [.int v25, .int 3]) (rest := []) E G hA hX hN hml (u_X3_failAt l hst D cI cJ cZ cMic cSrc cSt cAI cAJ ad T11 o v25 (3 : Int32) eT27) (cwV 2 hts (gaV qA_293 qA_294 qA_295 qA_222 qA_296) rfl rfl rfl (by decide +kernel) ⟨Nat.le_of_ble_eq_true rfl, Nat.le_of_ble_eq_true rfl⟩) (oO_k g26).1 (cc_o3 (oO_k g26).2) rfl rfl hl.1 rfl (lv_room (Nat.le_of_ble_eq_true rfl)) dX3_parseClock_38 ⟨Nat.zero_le _, Nat.zero_le _⟩ (fun T28 H locs hq G => ?_)
    rw [hq] at G
    clear hq eT27
    have hl := lv_sub hl [1, 2, 0] rfl
    exact u_X3_parseClock_b41 E hA hX hN hml hst (fun H locs ls G => W.vret hx hb hr (fun t ht hW => ⟨⟨T1, rfl, rfl, ⟨by rw [ht]; exact G.1, va_K.moved hW.alike hK, G.2.1⟩⟩, G.2.2.F ht⟩) G.2.2.2.2 dX3_parseClock_57) _ _ _ _ _ _ _ h G hl
set_option maxHeartbeats 4000000 in
set_option maxRecDepth 100000 in
theorem s_X3_parseClock_b41 {e1 : Nat} {r1 : Int32} {T1 : AT} : ∀ (T : AT) (l0 : Nat) (l1 : Nat) (l2 : Int32), g_X3_parseClock_b41 T l0 l1 l2 = some (e1, r1, T1) → SP T T1 := by
  intro T l0 l1 l2 h
  have p0 := SP.rf T
  unfold g_X3_parseClock_b41 at h
  obtain ⟨g2, h⟩ := oif_some h
  obtain ⟨n3, en3, h⟩ := obind_some h
  obtain ⟨g4, h⟩ := oif_some h
  obtain ⟨g5, h⟩ := oif_some h
  obtain ⟨n6, en6, h⟩ := obind_some h
  obtain ⟨g7, h⟩ := oif_some h
  rcases othr_s h with ⟨k9, r9, e9, -⟩ | ⟨r9, T8, eT8, h⟩
  · exact SP.tr p0 (s_X3_number e9)
  have p1 : SP T T8 := SP.tr p0 (s_X3_number eT8)
  obtain ⟨g10, h⟩ := oif_some h
  obtain ⟨T11, eT11, h⟩ := elet_some h
  have p2 : SP T T11 := SP.tr p1 (by rw [eT11]; exact sp_uI)
  rw [← (osome3 h).2.2]
  exact p2
set_option maxHeartbeats 4000000 in
set_option maxRecDepth 100000 in
theorem s_X3_parseClock {T : AT} {o : Nat} {a0 : Nat} {e1 : Nat} {r1 : Int32} {T1 : AT} (h : g_X3_parseClock T o a0 = some (e1, r1, T1)) : SP T T1 := by
  have p0 := SP.rf T
  unfold g_X3_parseClock at h
  obtain ⟨g2, h⟩ := oif_some h
  rcases othr_s h with ⟨k9, r9, e9, -⟩ | ⟨r4, T3, eT3, h⟩
  · exact SP.tr p0 (s_X3_startLine e9)
  have p1 : SP T T3 := SP.tr p0 (s_X3_startLine eT3)
  obtain ⟨g5, h⟩ := oif_some h
  obtain ⟨v6, -, h⟩ := elet_some h
  obtain ⟨v7, -, h⟩ := elet_some h
  obtain ⟨g8, h⟩ := oif_some h
  rcases othr_s h with ⟨k9, r9, e9, -⟩ | ⟨r10, T9, eT9, h⟩
  · exact SP.tr p1 (s_X3_number e9)
  have p2 : SP T T9 := SP.tr p1 (s_X3_number eT9)
  obtain ⟨g11, h⟩ := oif_some h
  obtain ⟨n12, en12, h⟩ := obind_some h
  obtain ⟨g13, h⟩ := oif_some h
  obtain ⟨g14, h⟩ := oif_some h
  obtain ⟨n15, en15, h⟩ := obind_some h
  obtain ⟨g16, h⟩ := oif_some h
  obtain ⟨v17, -, h⟩ := elet_some h
  rcases oif_or h with ⟨c18, h⟩ | ⟨c18, h⟩
  · have h := h
    exact SP.tr p2 (s_X3_parseClock_b41 _ _ _ _ h)
  · have h := h
    obtain ⟨g19, h⟩ := oif_some h
    obtain ⟨v20, -, h⟩ := elet_some h
    obtain ⟨v21, -, h⟩ := elet_some h
    obtain ⟨g22, h⟩ := oif_some h
    rcases othr_s h with ⟨k9, r9, e9, -⟩ | ⟨r24, T23, eT23, h⟩
    · exact SP.tr p2 (s_X3_failAt e9)
    have p3 : SP T T23 := SP.tr p2 (s_X3_failAt eT23)
    exact SP.tr p3 (s_X3_parseClock_b41 _ _ _ _ h)
set_option maxHeartbeats 4000000 in
set_option maxRecDepth 100000 in
theorem x_X3_parseClock_b41 {p : Program} {l : Launch} {e : Env} {s : State} {m : MethodId} {args : Array Value} {below : List Frame} {meth : Method} {c : Code} {Qc : Array Value → State → Outcome → State → Prop} {XC : String → State → State → Prop} {D : va_G} {A : Nat → Prop} {cI cJ cZ cMic cSrc cSt cAI cAJ : ClassId} {ad : Nat → Nat} {e1 : Nat} {r1 : Int32} {T1 : AT} (E : cE p c cX3_parseClock s m args (Cond.code yX3_parseClock cX3_parseClock 3 none :: wsA) D RX3 (CT cI cJ cZ cMic cSrc cSt cAI cAJ)) (hA : ∀ q : Nat, s.heap.size ≤ q → A q) (hX : xT A s) (hN : nX s) (hml : c.maxLocals = 3) (hz9 : True) (hst : l.stackTraces = false) (htab : ∀ x ∈ c.exceptionTable.toList, False) (hlocks : meth.locks = false) (kx : ∀ (H : Heap) (locs : List Loc) (t : State), gC cI cJ cZ cMic cSrc cSt cAI cAJ D ad A s.heap H locs T1 → s.vm.Alike t.vm → H.size ≤ t.heap.size → (∀ q, q < H.size → t.heap[q]? = H[q]?) → XC (exn e1) s t) : ∀ (T : AT) (H : Heap) (locs : List Loc) (ls : Array Slot) (l0 : Nat) (l1 : Nat) (l2 : Int32), g_X3_parseClock_b41 T l0 l1 l2 = some (e1 + 1, r1, T1) → gC cI cJ cZ cMic cSrc cSt cAI cAJ D ad A s.heap H locs T → lv_has ls 3 [(0, .ref (ad l0)), (1, .ref (ad l1)), (2, .int l2)] → W p l e { frames := 8, cells := 1, slots := 6, locals := 126 } s m args below meth c H locs 0 0 (vx_MQ below Qc XC args s 1 6 A) (F0 m 41 ls []) := by
  have hx := E.1
  have hb := E.2.1
  have hts := E.2.2.1
  have hown := E.2.2.2.1
  have hK := E.2.2.2.2
  intro T H locs ls l0 l1 l2 h G hl
  unfold g_X3_parseClock_b41 at h
  refine lv_aload_n hx hb dX3_parseClock_41 rfl (lv_at hl 1 rfl) ?_
  obtain ⟨g2, h⟩ := oif_some h
  obtain ⟨n3, en3, h⟩ := obind_some h
  refine c_get E G l1 4 (v := .ref (ad n3)) (oO_k g2).1 (cc_o6 (oO_k g2).2) rfl (fun w h => .tail _ (iA_14 h)) (by decide) (.tail _ qA_316) rfl (by rw [en3]; rfl) dX3_parseClock_42 ?_
  clear en3
  refine lv_iload_n hx hb dX3_parseClock_45 rfl (lv_at hl 2 rfl) ?_
  obtain ⟨g4, h⟩ := oif_some h
  obtain ⟨g5, h⟩ := oif_some h
  obtain ⟨n6, en6, h⟩ := obind_some h
  refine c_aldq E G n3 3 (k := l2.toNatClampNeg) (v := .ref (ad n6)) (aA_k g4).1 (cc_a103 (aA_k g4).2.1) rfl (inb_k g5).1 (inb_k g5).2 (aA_k g4).2.2 (by show va_rf ((T.2.2.2.2 n3 l2.toNatClampNeg).map ad) = _; rw [en6]; rfl) dX3_parseClock_46 ?_
  clear en6
  refine lv_aload_n hx hb dX3_parseClock_47 rfl (lv_at hl 0 rfl) ?_
  refine lv_iconst (v := 1) hx hb dX3_parseClock_48 (by decide) ?_
  refine lv_bipush (v := 31) hx hb dX3_parseClock_49 (by decide) ?_
  obtain ⟨g7, h⟩ := oif_some h
  rcases othr_t h with ⟨r0, eT8⟩ | ⟨r10, T8, eT8, h⟩
  · refine q_xvi (As := [.int 1, .int 31]) (rest := [.ref (ad n6)]) E G hA hX hN hml (x_X3_number l hst D cI cJ cZ cMic cSrc cSt cAI cAJ ad T l0 (1 : Int32) (31 : Int32) eT8) (cwV 2 hts (gaV qA_299 qA_300 qA_301 qA_222 qA_302) rfl rfl rfl (by decide +kernel) ⟨Nat.le_of_ble_eq_true rfl, Nat.le_of_ble_eq_true rfl⟩) (oO_k g7).1 (cc_o3 (oO_k g7).2) rfl rfl hl.1 rfl (lv_room (Nat.le_of_ble_eq_true rfl)) dX3_parseClock_51 ⟨Nat.le_of_ble_eq_true rfl, Nat.le_of_ble_eq_true rfl⟩ (fun E9 ce q9 T9 H locs hp G hce hcv hcl => ?_)
    obtain ⟨hE, hT⟩ := hp
    subst hE
    rw [hT] at G
    exact vx_out (fun x hx => (htab x hx).elim) hlocks hce hcv hcl (fun t ht hvm => kx _ _ _ G hvm (by rw [ht]; exact Nat.le_refl _) (fun q hq => by rw [ht])) G.2.2.2.2 (Nat.le_refl _) (Nat.le_refl _)
  refine q_cvi (As := [.int 1, .int 31]) (rest := [.ref (ad n6)]) E G hA hX hN hml (u_X3_number l hst D cI cJ cZ cMic cSrc cSt cAI cAJ ad T l0 (1 : Int32) (31 : Int32) eT8) (cwV 2 hts (gaV qA_299 qA_300 qA_301 qA_222 qA_302) rfl rfl rfl (by decide +kernel) ⟨Nat.le_of_ble_eq_true rfl, Nat.le_of_ble_eq_true rfl⟩) (oO_k g7).1 (cc_o3 (oO_k g7).2) rfl rfl hl.1 rfl (lv_room (Nat.le_of_ble_eq_true rfl)) dX3_parseClock_51 ⟨Nat.zero_le _, Nat.zero_le _⟩ (fun q11 T9 H locs hq G => ?_)
  obtain ⟨hq1, hq2⟩ := hq
  rw [hq2] at G
  refine lv_to hq1 ?_
  clear hq1 hq2 eT8
  obtain ⟨g12, h⟩ := oif_some h
  refine c_put E G n6 3 (v := .int r10) (oO_k g12).1 (cc_o2 (oO_k g12).2) rfl (fun w h => .tail _ (iA_19 h)) tyX2 tyX2_ok nmX2 (by decide) (.tail _ qA_320) ⟨rfl, rfl, rfl⟩ rfl rfl (Nat.le_of_ble_eq_true rfl) dX3_parseClock_54 (fun H locs G => ?_)
  have G := gC_up_i (f := upd (T8.2.2.1 n6) 3 r10) (by rw [(oO_k g12).2]; rfl) G
  obtain ⟨T13, eT13, h⟩ := elet_some h
  have G : gC cI cJ cZ cMic cSrc cSt cAI cAJ D ad A s.heap H locs T13 := by rw [eT13]; exact G
  clear eT13
  exact (Nat.succ_ne_zero _ (congrArg Prod.fst (Option.some.inj h)).symm).elim
set_option maxHeartbeats 4000000 in
set_option maxRecDepth 100000 in
theorem x_X3_parseClock (l : Launch) (hst : l.stackTraces = false) (D : va_G) (cI cJ cZ cMic cSrc cSt cAI cAJ : ClassId) (ad : Nat → Nat) (T : AT) (o : Nat) (a0 : Nat) {e1 : Nat} {r1 : Int32} {T1 : AT} (h : g_X3_parseClock T o a0 = some (e1 + 1, r1, T1)) : kXv l yX3_parseClock (Cond.code yX3_parseClock cX3_parseClock 3 none :: wsA) 8 126 cI cJ cZ cMic cSrc cSt cAI cAJ D ad T [.ref (ad o), .ref (ad a0)] e1 T1 := by
  intro sz
  refine vx_ofW (cc := cX3_parseClock) (maxL := 3) (ret := none) (by decide) rfl ?_
  intro p e s m args below meth c s₁ B hml htab hv
  obtain ⟨rfl, hsz, hP, hK, hD0, hX, hN⟩ := hv
  have hx := B.exec
  have hb := B.bytes
  have hr := B.returns
  have hts := atoms_spec (ws := (Cond.code yX3_parseClock cX3_parseClock 3 none :: wsA)) B.pre
  have hown : s.vm.findClass RX3 = some m.cls := findClass_of_methodNamed B.named
  have hlocks := B.notSynchronized
  subst hsz
  have hD := hD0.self (sz := s.heap.size)
  generalize hAe : va_A (cW ad T.1 (cc cI cJ cZ cMic cSrc cSt cAI cAJ ad T)) s.heap.size = A at hD hX ⊢
  have hA : ∀ q : Nat, s.heap.size ≤ q → A q := fun q h => by rw [← hAe]; exact Or.inr h
  have G : gC cI cJ cZ cMic cSrc cSt cAI cAJ D ad A s.heap s.heap [] T := ⟨hP, hD, va_S.rf⟩
  have E : cE p c cX3_parseClock s m ([.ref (ad o), .ref (ad a0)] : List Value).toArray (Cond.code yX3_parseClock cX3_parseClock 3 none :: wsA) D RX3 (CT cI cJ cZ cMic cSrc cSt cAI cAJ) := ⟨hx, hb, hts, hown, hK⟩
  have htab : ∀ x ∈ c.exceptionTable.toList, False := fun x hx => htab x hx
  have hl := lv_entry ([.ref (ad o), .ref (ad a0)]) (n := 3) (Nat.le_of_ble_eq_true rfl)
  rw [lg_entry_eq]
  generalize (lg_sl ([.ref (ad o), .ref (ad a0)]) ++ List.replicate (3 - (lg_sl ([.ref (ad o), .ref (ad a0)])).length) Slot.unset).toArray = ls at hl ⊢
  have hl : lv_has ls 3 [(0, .ref (ad o)), (1, .ref (ad a0))] := hl
  unfold g_X3_parseClock at h
  refine lv_aload_n hx hb dX3_parseClock_0 rfl (lv_at hl 0 rfl) ?_
  refine lv_iconst (v := 0) hx hb dX3_parseClock_1 (by decide) ?_
  refine lv_iconst (v := 3) hx hb dX3_parseClock_2 (by decide) ?_
  obtain ⟨g2, h⟩ := oif_some h
  rcases othr_t h with ⟨r0, eT3⟩ | ⟨r5, T3, eT3, h⟩
  · refine q_xvv (As := [.int 0, .int 3]) (rest := []) E G hA hX hN hml (x_X3_startLine l hst D cI cJ cZ cMic cSrc cSt cAI cAJ ad T o (0 : Int32) (3 : Int32) eT3) (cwV 2 hts (gaV qA_321 qA_322 qA_323 qA_222 qA_324) rfl rfl rfl (by decide +kernel) ⟨Nat.le_of_ble_eq_true rfl, Nat.le_of_ble_eq_true rfl⟩) (oO_k g2).1 (cc_o3 (oO_k g2).2) rfl rfl hl.1 rfl (lv_room (Nat.le_of_ble_eq_true rfl)) dX3_parseClock_3 ⟨Nat.le_of_ble_eq_true rfl, Nat.le_of_ble_eq_true rfl⟩ (fun E9 ce q9 T9 H locs hp G hce hcv hcl => ?_)
    obtain ⟨hE, hT⟩ := hp
    subst hE
    rw [hT] at G
    exact vx_out (fun x hx => (htab x hx).elim) hlocks hce hcv hcl (fun t ht hvm => ⟨T1, trivial, ⟨⟨rfl, rfl⟩, by rw [ht]; exact G.1, va_K.moved hvm hK, G.2.1⟩, G.2.2.F ht⟩) G.2.2.2.2 (Nat.le_refl _) (Nat.le_refl _)
  refine q_cvv (As := [.int 0, .int 3]) (rest := []) E G hA hX hN hml (u_X3_startLine l hst D cI cJ cZ cMic cSrc cSt cAI cAJ ad T o (0 : Int32) (3 : Int32) eT3) (cwV 2 hts (gaV qA_321 qA_322 qA_323 qA_222 qA_324) rfl rfl rfl (by decide +kernel) ⟨Nat.le_of_ble_eq_true rfl, Nat.le_of_ble_eq_true rfl⟩) (oO_k g2).1 (cc_o3 (oO_k g2).2) rfl rfl hl.1 rfl (lv_room (Nat.le_of_ble_eq_true rfl)) dX3_parseClock_3 ⟨Nat.zero_le _, Nat.zero_le _⟩ (fun T4 H locs hq G => ?_)
  rw [hq] at G
  clear hq eT3
  refine lv_aload_n hx hb dX3_parseClock_6 rfl (lv_at hl 0 rfl) ?_
  refine lv_iconst (v := 0) hx hb dX3_parseClock_7 (by decide) ?_
  refine lv_aload_n hx hb dX3_parseClock_8 rfl (lv_at hl 1 rfl) ?_
  obtain ⟨g7, h⟩ := oif_some h
  refine c_get E G a0 5 (oO_k g7).1 (cc_o6 (oO_k g7).2) rfl (fun w h => .tail _ (iA_14 h)) (by decide) (.tail _ qA_178) rfl rfl dX3_parseClock_9 ?_
  refine lv_topi (fun v8 ev8 => ?_)
  have h := elet_at ev8 h
  clear ev8
  refine lv_iconst (v := 1) hx hb dX3_parseClock_12 (by decide) ?_
  refine lv_isub hx hb dX3_parseClock_13 ?_
  refine lv_topi (fun v9 ev9 => ?_)
  have h := elet_at ev9 h
  clear ev9
  obtain ⟨g10, h⟩ := oif_some h
  rcases othr_t h with ⟨r0, eT11⟩ | ⟨r13, T11, eT11, h⟩
  · refine q_xvi (As := [.int 0, .int v9]) (rest := []) E G hA hX hN hml (x_X3_number l hst D cI cJ cZ cMic cSrc cSt cAI cAJ ad T3 o (0 : Int32) v9 eT11) (cwV 2 hts (gaV qA_299 qA_300 qA_301 qA_222 qA_302) rfl rfl rfl (by decide +kernel) ⟨Nat.le_of_ble_eq_true rfl, Nat.le_of_ble_eq_true rfl⟩) (oO_k g10).1 (cc_o3 (oO_k g10).2) rfl rfl hl.1 rfl (lv_room (Nat.le_of_ble_eq_true rfl)) dX3_parseClock_14 ⟨Nat.le_of_ble_eq_true rfl, Nat.le_of_ble_eq_true rfl⟩ (fun E9 ce q9 T9 H locs hp G hce hcv hcl => ?_)
    obtain ⟨hE, hT⟩ := hp
    subst hE
    rw [hT] at G
    exact vx_out (fun x hx => (htab x hx).elim) hlocks hce hcv hcl (fun t ht hvm => ⟨T1, trivial, ⟨⟨rfl, rfl⟩, by rw [ht]; exact G.1, va_K.moved hvm hK, G.2.1⟩, G.2.2.F ht⟩) G.2.2.2.2 (Nat.le_refl _) (Nat.le_refl _)
  refine q_cvi (As := [.int 0, .int v9]) (rest := []) E G hA hX hN hml (u_X3_number l hst D cI cJ cZ cMic cSrc cSt cAI cAJ ad T3 o (0 : Int32) v9 eT11) (cwV 2 hts (gaV qA_299 qA_300 qA_301 qA_222 qA_302) rfl rfl rfl (by decide +kernel) ⟨Nat.le_of_ble_eq_true rfl, Nat.le_of_ble_eq_true rfl⟩) (oO_k g10).1 (cc_o3 (oO_k g10).2) rfl rfl hl.1 rfl (lv_room (Nat.le_of_ble_eq_true rfl)) dX3_parseClock_14 ⟨Nat.zero_le _, Nat.zero_le _⟩ (fun q14 T12 H locs hq G => ?_)
  obtain ⟨hq1, hq2⟩ := hq
  rw [hq2] at G
  refine lv_to hq1 ?_
  clear hq1 hq2 eT11
  refine lv_istore_n (lv' := [(2, .int r13), (0, .ref (ad o)), (1, .ref (ad a0))]) hx hb dX3_parseClock_17 rfl hl (by decide) rfl (fun ls hl => ?_)
  refine lv_aload_n hx hb dX3_parseClock_18 rfl (lv_at hl 2 rfl) ?_
  obtain ⟨g15, h⟩ := oif_some h
  obtain ⟨n16, en16, h⟩ := obind_some h
  refine c_get E G a0 4 (v := .ref (ad n16)) (oO_k g15).1 (cc_o6 (oO_k g15).2) rfl (fun w h => .tail _ (iA_14 h)) (by decide) (.tail _ qA_316) rfl (by rw [en16]; rfl) dX3_parseClock_19 ?_
  clear en16
  refine lv_iload_n hx hb dX3_parseClock_22 rfl (lv_at hl 0 rfl) ?_
  obtain ⟨g17, h⟩ := oif_some h
  obtain ⟨g18, h⟩ := oif_some h
  obtain ⟨n19, en19, h⟩ := obind_some h
  refine c_aldq E G n16 3 (k := r13.toNatClampNeg) (v := .ref (ad n19)) (aA_k g17).1 (cc_a103 (aA_k g17).2.1) rfl (inb_k g18).1 (inb_k g18).2 (aA_k g17).2.2 (by show va_rf ((T11.2.2.2.2 n16 r13.toNatClampNeg).map ad) = _; rw [en19]; rfl) dX3_parseClock_23 ?_
  clear en19
  obtain ⟨g20, h⟩ := oif_some h
  refine c_get E G n19 3 (oO_k g20).1 (cc_o2 (oO_k g20).2) rfl (fun w h => .tail _ (iA_19 h)) (by decide) (.tail _ qA_320) rfl rfl dX3_parseClock_24 ?_
  refine lv_topi (fun v21 ev21 => ?_)
  have h := elet_at ev21 h
  clear ev21
  refine lv_if_le (tgt := 41) hx hb dX3_parseClock_27 (by decide) (fun c22 => ?_) (fun c22 => ?_)
  · have h := oif_pos c22 h
    have hl := lv_sub hl [1, 2, 0] rfl
    exact x_X3_parseClock_b41 E hA hX hN hml trivial hst htab hlocks (fun H locs t G hvm h1 h2 => ⟨T1, trivial, ⟨⟨rfl, rfl⟩, (c_thrown G hK hvm h1 h2).1⟩, (c_thrown G hK hvm h1 h2).2⟩) _ _ _ _ _ _ _ h G hl
  · have h := oif_neg c22 h
    refine lv_aload_n hx hb dX3_parseClock_30 rfl (lv_at hl 1 rfl) ?_
    refine lv_aload_n hx hb dX3_parseClock_31 rfl (lv_at hl 1 rfl) ?_
    obtain ⟨g23, h⟩ := oif_some h
    refine c_get E G o 1 (oO_k g23).1 (cc_o3 (oO_k g23).2) rfl (fun w h => .tail _ (iA_17 h)) (by decide) (.tail _ qA_176) rfl rfl dX3_parseClock_32 ?_
    refine lv_topi (fun v24 ev24 => ?_)
    have h := elet_at ev24 h
    clear ev24
    refine lv_iconst (v := 1) hx hb dX3_parseClock_35 (by decide) ?_
    refine lv_isub hx hb dX3_parseClock_36 ?_
    refine lv_topi (fun v25 ev25 => ?_)
    have h := elet_at ev25 h
    clear ev25
    refine lv_iconst (v := 3) hx hb dX3_parseClock_37 (by decide) ?_
    obtain ⟨g26, h⟩ := oif_some h
    rcases othr_t h with ⟨r0, eT27⟩ | ⟨r29, T27, eT27, h⟩
    · refine q_xvv (As := [.int v25, .int 3]) (rest := []) E G hA hX hN hml (x_X3_failAt l hst D cI cJ cZ cMic cSrc cSt cAI cAJ ad T11 o v25 (3 : Int32) eT27) (cwV 2 hts (gaV qA_293 qA_294 qA_295 qA_222 qA_296) rfl rfl rfl (by decide +kernel) ⟨Nat.le_of_ble_eq_true rfl, Nat.le_of_ble_eq_true rfl⟩) (oO_k g26).1 (cc_o3 (oO_k g26).2) rfl rfl hl.1 rfl (lv_room (Nat.le_of_ble_eq_true rfl)) dX3_parseClock_38 ⟨Nat.le_of_ble_eq_true rfl, Nat.le_of_ble_eq_true rfl⟩ (fun E9 ce q9 T9 H locs hp G hce hcv hcl => ?_)
      obtain ⟨hE, hT⟩ := hp
      subst hE
      rw [hT] at G
      exact vx_out (fun x hx => (htab x hx).elim) hlocks hce hcv hcl (fun t ht hvm => ⟨T1, trivial, ⟨⟨rfl, rfl⟩, by rw [ht]; exact G.1, va_K.moved hvm hK, G.2.1⟩, G.2.2.F ht⟩) G.2.2.2.2 (Nat.le_refl _) (Nat.le_refl _)
    refine q_cvv (As := [.int v25, .int 3]) (rest := []) E G hA hX hN hml (u_X3_failAt l hst D cI cJ cZ cMic cSrc cSt cAI cAJ ad T11 o v25 (3 : Int32) eT27) (cwV 2 hts (gaV qA_293 qA_294 qA_295 qA_222 qA_296) rfl rfl rfl (by decide +kernel) ⟨Nat.le_of_ble_eq_true rfl, Nat.le_of_ble_eq_true rfl⟩) (oO_k g26).1 (cc_o3 (oO_k g26).2) rfl rfl hl.1 rfl (lv_room (Nat.le_of_ble_eq_true rfl)) dX3_parseClock_38 ⟨Nat.zero_le _, Nat.zero_le _⟩ (fun T28 H locs hq G => ?_)
    rw [hq] at G
    clear hq eT27
    have hl := lv_sub hl [1, 2, 0] rfl
    exact x_X3_parseClock_b41 E hA hX hN hml trivial hst htab hlocks (fun H locs t G hvm h1 h2 => ⟨T1, trivial, ⟨⟨rfl, rfl⟩, (c_thrown G hK hvm h1 h2).1⟩, (c_thrown G hK hvm h1 h2).2⟩) _ _ _ _ _ _ _ h G hl
def g_X3_signed (T : AT) (o : Nat) (a0 : Int32) (a1 : Int32) : Option (Nat × Int32 × AT) := oif (oO T o 3 = true) <| obind2 (g_X3_kind T o) fun r5 T3 => if r5 = 3 then (oif (oO T3 o 3 = true) <| elet (T3.2.2.1 o 1) fun v9 => elet (v9 + 1) fun v10 => oif (oO T3 o 3 = true) <| elet (uI T3 o 1 v10) fun T12 => elet (-a1) fun v13 => elet (-a0) fun v14 => oif (oO T12 o 3 = true) <| othr (g_X3_number T12 o v13 v14) 0 fun r18 T16 => elet (-r18) fun v20 => some (0, v20, T16)) else (oif (oO T3 o 3 = true) <| othr (g_X3_number T3 o a0 a1) 0 fun r24 T22 => some (0, r24, T22))
set_option maxHeartbeats 4000000 in
set_option maxRecDepth 100000 in
theorem u_X3_signed (l : Launch) (hst : l.stackTraces = false) (D : va_G) (cI cJ cZ cMic cSrc cSt cAI cAJ : ClassId) (ad : Nat → Nat) (T : AT) (o : Nat) (a0 : Int32) (a1 : Int32) {r1 : Int32} {T1 : AT} (h : g_X3_signed T o a0 a1 = some (0, r1, T1)) : kCi l yX3_signed (Cond.code yX3_signed cX3_signed 3 (some .int) :: wsA) 8 126 cI cJ cZ cMic cSrc cSt cAI cAJ D ad T [.ref (ad o), .int a0, .int a1] (fun r T9 => r = r1 ∧ T9 = T1) := by
  intro sz
  refine Met.ofW (cc := cX3_signed) (maxL := 3) (ret := (some .int)) (by decide) rfl ?_
  intro p e s m args below meth c s₁ B hml hv
  obtain ⟨rfl, hsz, hP, hK, hD0, hX, hN⟩ := hv
  have hx := B.exec
  have hb := B.bytes
  have hr := B.returns
  have hts := atoms_spec (ws := (Cond.code yX3_signed cX3_signed 3 (some .int) :: wsA)) B.pre
  have hown : s.vm.findClass RX3 = some m.cls := findClass_of_methodNamed B.named
  have hlocks := B.notSynchronized
  subst hsz
  have hD := hD0.self (sz := s.heap.size)
  generalize hAe : va_A (cW ad T.1 (cc cI cJ cZ cMic cSrc cSt cAI cAJ ad T)) s.heap.size = A at hD hX ⊢
  have hA : ∀ q : Nat, s.heap.size ≤ q → A q := fun q h => by rw [← hAe]; exact Or.inr h
  have G : gC cI cJ cZ cMic cSrc cSt cAI cAJ D ad A s.heap s.heap [] T := ⟨hP, hD, va_S.rf⟩
  have E : cE p c cX3_signed s m ([.ref (ad o), .int a0, .int a1] : List Value).toArray (Cond.code yX3_signed cX3_signed 3 (some .int) :: wsA) D RX3 (CT cI cJ cZ cMic cSrc cSt cAI cAJ) := ⟨hx, hb, hts, hown, hK⟩
  have hl := lv_entry ([.ref (ad o), .int a0, .int a1]) (n := 3) (Nat.le_of_ble_eq_true rfl)
  rw [lg_entry_eq]
  generalize (lg_sl ([.ref (ad o), .int a0, .int a1]) ++ List.replicate (3 - (lg_sl ([.ref (ad o), .int a0, .int a1])).length) Slot.unset).toArray = ls at hl ⊢
  have hl : lv_has ls 3 [(0, .ref (ad o)), (1, .int a0), (2, .int a1)] := hl
  unfold g_X3_signed at h
  refine lv_aload_n hx hb dX3_signed_0 rfl (lv_at hl 0 rfl) ?_
  obtain ⟨g2, h⟩ := oif_some h
  obtain ⟨r5, T3, eT3, h⟩ := obind2_some h
  refine q_cvi (As := []) (rest := []) E G hA hX hN hml (u_X3_kind l hst D cI cJ cZ cMic cSrc cSt cAI cAJ ad T o eT3) (cwV 0 hts (gaV qA_239 qA_240 qA_241 qA_222 qA_242) rfl rfl rfl (by decide +kernel) ⟨Nat.le_of_ble_eq_true rfl, Nat.le_of_ble_eq_true rfl⟩) (oO_k g2).1 (cc_o3 (oO_k g2).2) rfl rfl hl.1 rfl (lv_room (Nat.le_of_ble_eq_true rfl)) dX3_signed_1 ⟨Nat.zero_le _, Nat.zero_le _⟩ (fun q6 T4 H locs hq G => ?_)
  obtain ⟨hq1, hq2⟩ := hq
  rw [hq2] at G
  refine lv_to hq1 ?_
  clear hq1 hq2 eT3
  refine lv_iconst (v := 3) hx hb dX3_signed_4 (by decide) ?_
  refine lv_icmp_eq (tgt := 15) hx hb dX3_signed_5 (by decide) (fun c7 => ?_) (fun c7 => ?_)
  · have h := oif_pos c7 h
    refine lv_aload_n hx hb dX3_signed_15 rfl (lv_at hl 0 rfl) ?_
    refine lv_dup hx hb dX3_signed_16 rfl ?_
    obtain ⟨g8, h⟩ := oif_some h
    refine c_get E G o 1 (oO_k g8).1 (cc_o3 (oO_k g8).2) rfl (fun w h => .tail _ (iA_17 h)) (by decide) (.tail _ qA_176) rfl rfl dX3_signed_17 ?_
    refine lv_topi (fun v9 ev9 => ?_)
    have h := elet_at ev9 h
    clear ev9
    refine lv_iconst (v := 1) hx hb dX3_signed_20 (by decide) ?_
    refine lv_iadd hx hb dX3_signed_21 ?_
    refine lv_topi (fun v10 ev10 => ?_)
    have h := elet_at ev10 h
    clear ev10
    obtain ⟨g11, h⟩ := oif_some h
    refine c_put E G o 1 (v := .int v10) (oO_k g11).1 (cc_o3 (oO_k g11).2) rfl (fun w h => .tail _ (iA_17 h)) tyX3 tyX3_ok nmX3 (by decide) (.tail _ qA_176) ⟨rfl, rfl, rfl⟩ rfl rfl (Nat.le_of_ble_eq_true rfl) dX3_signed_22 (fun H locs G => ?_)
    have G := gC_up_i (f := upd (T3.2.2.1 o) 1 v10) (by rw [(oO_k g11).2]; rfl) G
    obtain ⟨T12, eT12, h⟩ := elet_some h
    have G : gC cI cJ cZ cMic cSrc cSt cAI cAJ D ad A s.heap H locs T12 := by rw [eT12]; exact G
    clear eT12
    refine lv_aload_n hx hb dX3_signed_25 rfl (lv_at hl 0 rfl) ?_
    refine lv_iload_n hx hb dX3_signed_26 rfl (lv_at hl 2 rfl) ?_
    refine lv_ineg hx hb dX3_signed_27 ?_
    refine lv_topi (fun v13 ev13 => ?_)
    have h := elet_at ev13 h
    clear ev13
    refine lv_iload_n hx hb dX3_signed_28 rfl (lv_at hl 1 rfl) ?_
    refine lv_ineg hx hb dX3_signed_29 ?_
    refine lv_topi (fun v14 ev14 => ?_)
    have h := elet_at ev14 h
    clear ev14
    obtain ⟨g15, h⟩ := oif_some h
    obtain ⟨r18, T16, eT16, h⟩ := othr_n h
    refine q_cvi (As := [.int v13, .int v14]) (rest := []) E G hA hX hN hml (u_X3_number l hst D cI cJ cZ cMic cSrc cSt cAI cAJ ad T12 o v13 v14 eT16) (cwV 2 hts (gaV qA_299 qA_300 qA_301 qA_222 qA_302) rfl rfl rfl (by decide +kernel) ⟨Nat.le_of_ble_eq_true rfl, Nat.le_of_ble_eq_true rfl⟩) (oO_k g15).1 (cc_o3 (oO_k g15).2) rfl rfl hl.1 rfl (lv_room (Nat.le_of_ble_eq_true rfl)) dX3_signed_30 ⟨Nat.zero_le _, Nat.zero_le _⟩ (fun q19 T17 H locs hq G => ?_)
    obtain ⟨hq1, hq2⟩ := hq
    rw [hq2] at G
    refine lv_to hq1 ?_
    clear hq1 hq2 eT16
    refine lv_ineg hx hb dX3_signed_33 ?_
    refine lv_topi (fun v20 ev20 => ?_)
    have h := elet_at ev20 h
    clear ev20
    exact W.iret (v := v20) hx hb hr (fun t ht hW => ⟨⟨v20, T16, rfl, (osome3 h).2, ⟨by rw [ht]; exact G.1, va_K.moved hW.alike hK, G.2.1⟩⟩, G.2.2.F ht⟩) G.2.2.2.2 dX3_signed_34
  · have h := oif_neg c7 h
    refine lv_aload_n hx hb dX3_signed_8 rfl (lv_at hl 0 rfl) ?_
    refine lv_iload_n hx hb dX3_signed_9 rfl (lv_at hl 1 rfl) ?_
    refine lv_iload_n hx hb dX3_signed_10 rfl (lv_at hl 2 rfl) ?_
    obtain ⟨g21, h⟩ := oif_some h
    obtain ⟨r24, T22, eT22, h⟩ := othr_n h
    refine q_cvi (As := [.int a0, .int a1]) (rest := []) E G hA hX hN hml (u_X3_number l hst D cI cJ cZ cMic cSrc cSt cAI cAJ ad T3 o a0 a1 eT22) (cwV 2 hts (gaV qA_299 qA_300 qA_301 qA_222 qA_302) rfl rfl rfl (by decide +kernel) ⟨Nat.le_of_ble_eq_true rfl, Nat.le_of_ble_eq_true rfl⟩) (oO_k g21).1 (cc_o3 (oO_k g21).2) rfl rfl hl.1 rfl (lv_room (Nat.le_of_ble_eq_true rfl)) dX3_signed_11 ⟨Nat.zero_le _, Nat.zero_le _⟩ (fun q25 T23 H locs hq G => ?_)
    obtain ⟨hq1, hq2⟩ := hq
    rw [hq2] at G
    refine lv_to hq1 ?_
    clear hq1 hq2 eT22
    exact W.iret (v := r24) hx hb hr (fun t ht hW => ⟨⟨r24, T22, rfl, (osome3 h).2, ⟨by rw [ht]; exact G.1, va_K.moved hW.alike hK, G.2.1⟩⟩, G.2.2.F ht⟩) G.2.2.2.2 dX3_signed_14
set_option maxHeartbeats 4000000 in
set_option maxRecDepth 100000 in
theorem s_X3_signed {T : AT} {o : Nat} {a0 : Int32} {a1 : Int32} {e1 : Nat} {r1 : Int32} {T1 : AT} (h : g_X3_signed T o a0 a1 = some (e1, r1, T1)) : SP T T1 := by
  have p0 := SP.rf T
  unfold g_X3_signed at h
  obtain ⟨g2, h⟩ := oif_some h
  obtain ⟨r4, T3, eT3, h⟩ := obind2_some h
  have p1 : SP T T3 := SP.tr p0 (s_X3_kind eT3)
  rcases oif_or h with ⟨c5, h⟩ | ⟨c5, h⟩
  · have h := h
    obtain ⟨g6, h⟩ := oif_some h
    obtain ⟨v7, -, h⟩ := elet_some h
    obtain ⟨v8, -, h⟩ := elet_some h
    obtain ⟨g9, h⟩ := oif_some h
    obtain ⟨T10, eT10, h⟩ := elet_some h
    have p2 : SP T T10 := SP.tr p1 (by rw [eT10]; exact sp_uI)
    obtain ⟨v11, -, h⟩ := elet_some h
    obtain ⟨v12, -, h⟩ := elet_some h
    obtain ⟨g13, h⟩ := oif_some h
    rcases othr_s h with ⟨k9, r9, e9, -⟩ | ⟨r15, T14, eT14, h⟩
    · exact SP.tr p2 (s_X3_number e9)
    have p3 : SP T T14 := SP.tr p2 (s_X3_number eT14)
    obtain ⟨v16, -, h⟩ := elet_some h
    rw [← (osome3 h).2.2]
    exact p3
  · have h := h
    obtain ⟨g17, h⟩ := oif_some h
    rcases othr_s h with ⟨k9, r9, e9, -⟩ | ⟨r19, T18, eT18, h⟩
    · exact SP.tr p1 (s_X3_number e9)
    have p2 : SP T T18 := SP.tr p1 (s_X3_number eT18)
    rw [← (osome3 h).2.2]
    exact p2
set_option maxHeartbeats 4000000 in
set_option maxRecDepth 100000 in
theorem x_X3_signed (l : Launch) (hst : l.stackTraces = false) (D : va_G) (cI cJ cZ cMic cSrc cSt cAI cAJ : ClassId) (ad : Nat → Nat) (T : AT) (o : Nat) (a0 : Int32) (a1 : Int32) {e1 : Nat} {r1 : Int32} {T1 : AT} (h : g_X3_signed T o a0 a1 = some (e1 + 1, r1, T1)) : kXi l yX3_signed (Cond.code yX3_signed cX3_signed 3 (some .int) :: wsA) 8 126 cI cJ cZ cMic cSrc cSt cAI cAJ D ad T [.ref (ad o), .int a0, .int a1] e1 T1 := by
  intro sz
  refine vx_ofW (cc := cX3_signed) (maxL := 3) (ret := (some .int)) (by decide) rfl ?_
  intro p e s m args below meth c s₁ B hml htab hv
  obtain ⟨rfl, hsz, hP, hK, hD0, hX, hN⟩ := hv
  have hx := B.exec
  have hb := B.bytes
  have hr := B.returns
  have hts := atoms_spec (ws := (Cond.code yX3_signed cX3_signed 3 (some .int) :: wsA)) B.pre
  have hown : s.vm.findClass RX3 = some m.cls := findClass_of_methodNamed B.named
  have hlocks := B.notSynchronized
  subst hsz
  have hD := hD0.self (sz := s.heap.size)
  generalize hAe : va_A (cW ad T.1 (cc cI cJ cZ cMic cSrc cSt cAI cAJ ad T)) s.heap.size = A at hD hX ⊢
  have hA : ∀ q : Nat, s.heap.size ≤ q → A q := fun q h => by rw [← hAe]; exact Or.inr h
  have G : gC cI cJ cZ cMic cSrc cSt cAI cAJ D ad A s.heap s.heap [] T := ⟨hP, hD, va_S.rf⟩
  have E : cE p c cX3_signed s m ([.ref (ad o), .int a0, .int a1] : List Value).toArray (Cond.code yX3_signed cX3_signed 3 (some .int) :: wsA) D RX3 (CT cI cJ cZ cMic cSrc cSt cAI cAJ) := ⟨hx, hb, hts, hown, hK⟩
  have htab : ∀ x ∈ c.exceptionTable.toList, False := fun x hx => htab x hx
  have hl := lv_entry ([.ref (ad o), .int a0, .int a1]) (n := 3) (Nat.le_of_ble_eq_true rfl)
  rw [lg_entry_eq]
  generalize (lg_sl ([.ref (ad o), .int a0, .int a1]) ++ List.replicate (3 - (lg_sl ([.ref (ad o), .int a0, .int a1])).length) Slot.unset).toArray = ls at hl ⊢
  have hl : lv_has ls 3 [(0, .ref (ad o)), (1, .int a0), (2, .int a1)] := hl
  unfold g_X3_signed at h
  refine lv_aload_n hx hb dX3_signed_0 rfl (lv_at hl 0 rfl) ?_
  obtain ⟨g2, h⟩ := oif_some h
  obtain ⟨r5, T3, eT3, h⟩ := obind2_some h
  refine q_cvi (As := []) (rest := []) E G hA hX hN hml (u_X3_kind l hst D cI cJ cZ cMic cSrc cSt cAI cAJ ad T o eT3) (cwV 0 hts (gaV qA_239 qA_240 qA_241 qA_222 qA_242) rfl rfl rfl (by decide +kernel) ⟨Nat.le_of_ble_eq_true rfl, Nat.le_of_ble_eq_true rfl⟩) (oO_k g2).1 (cc_o3 (oO_k g2).2) rfl rfl hl.1 rfl (lv_room (Nat.le_of_ble_eq_true rfl)) dX3_signed_1 ⟨Nat.zero_le _, Nat.zero_le _⟩ (fun q6 T4 H locs hq G => ?_)
  obtain ⟨hq1, hq2⟩ := hq
  rw [hq2] at G
  refine lv_to hq1 ?_
  clear hq1 hq2 eT3
  refine lv_iconst (v := 3) hx hb dX3_signed_4 (by decide) ?_
  refine lv_icmp_eq (tgt := 15) hx hb dX3_signed_5 (by decide) (fun c7 => ?_) (fun c7 => ?_)
  · have h := oif_pos c7 h
    refine lv_aload_n hx hb dX3_signed_15 rfl (lv_at hl 0 rfl) ?_
    refine lv_dup hx hb dX3_signed_16 rfl ?_
    obtain ⟨g8, h⟩ := oif_some h
    refine c_get E G o 1 (oO_k g8).1 (cc_o3 (oO_k g8).2) rfl (fun w h => .tail _ (iA_17 h)) (by decide) (.tail _ qA_176) rfl rfl dX3_signed_17 ?_
    refine lv_topi (fun v9 ev9 => ?_)
    have h := elet_at ev9 h
    clear ev9
    refine lv_iconst (v := 1) hx hb dX3_signed_20 (by decide) ?_
    refine lv_iadd hx hb dX3_signed_21 ?_
    refine lv_topi (fun v10 ev10 => ?_)
    have h := elet_at ev10 h
    clear ev10
    obtain ⟨g11, h⟩ := oif_some h
    refine c_put E G o 1 (v := .int v10) (oO_k g11).1 (cc_o3 (oO_k g11).2) rfl (fun w h => .tail _ (iA_17 h)) tyX3 tyX3_ok nmX3 (by decide) (.tail _ qA_176) ⟨rfl, rfl, rfl⟩ rfl rfl (Nat.le_of_ble_eq_true rfl) dX3_signed_22 (fun H locs G => ?_)
    have G := gC_up_i (f := upd (T3.2.2.1 o) 1 v10) (by rw [(oO_k g11).2]; rfl) G
    obtain ⟨T12, eT12, h⟩ := elet_some h
    have G : gC cI cJ cZ cMic cSrc cSt cAI cAJ D ad A s.heap H locs T12 := by rw [eT12]; exact G
    clear eT12
    refine lv_aload_n hx hb dX3_signed_25 rfl (lv_at hl 0 rfl) ?_
    refine lv_iload_n hx hb dX3_signed_26 rfl (lv_at hl 2 rfl) ?_
    refine lv_ineg hx hb dX3_signed_27 ?_
    refine lv_topi (fun v13 ev13 => ?_)
    have h := elet_at ev13 h
    clear ev13
    refine lv_iload_n hx hb dX3_signed_28 rfl (lv_at hl 1 rfl) ?_
    refine lv_ineg hx hb dX3_signed_29 ?_
    refine lv_topi (fun v14 ev14 => ?_)
    have h := elet_at ev14 h
    clear ev14
    obtain ⟨g15, h⟩ := oif_some h
    rcases othr_t h with ⟨r0, eT16⟩ | ⟨r18, T16, eT16, h⟩
    · refine q_xvi (As := [.int v13, .int v14]) (rest := []) E G hA hX hN hml (x_X3_number l hst D cI cJ cZ cMic cSrc cSt cAI cAJ ad T12 o v13 v14 eT16) (cwV 2 hts (gaV qA_299 qA_300 qA_301 qA_222 qA_302) rfl rfl rfl (by decide +kernel) ⟨Nat.le_of_ble_eq_true rfl, Nat.le_of_ble_eq_true rfl⟩) (oO_k g15).1 (cc_o3 (oO_k g15).2) rfl rfl hl.1 rfl (lv_room (Nat.le_of_ble_eq_true rfl)) dX3_signed_30 ⟨Nat.le_of_ble_eq_true rfl, Nat.le_of_ble_eq_true rfl⟩ (fun E9 ce q9 T9 H locs hp G hce hcv hcl => ?_)
      obtain ⟨hE, hT⟩ := hp
      subst hE
      rw [hT] at G
      exact vx_out (fun x hx => (htab x hx).elim) hlocks hce hcv hcl (fun t ht hvm => ⟨T1, trivial, ⟨⟨rfl, rfl⟩, by rw [ht]; exact G.1, va_K.moved hvm hK, G.2.1⟩, G.2.2.F ht⟩) G.2.2.2.2 (Nat.le_refl _) (Nat.le_refl _)
    refine q_cvi (As := [.int v13, .int v14]) (rest := []) E G hA hX hN hml (u_X3_number l hst D cI cJ cZ cMic cSrc cSt cAI cAJ ad T12 o v13 v14 eT16) (cwV 2 hts (gaV qA_299 qA_300 qA_301 qA_222 qA_302) rfl rfl rfl (by decide +kernel) ⟨Nat.le_of_ble_eq_true rfl, Nat.le_of_ble_eq_true rfl⟩) (oO_k g15).1 (cc_o3 (oO_k g15).2) rfl rfl hl.1 rfl (lv_room (Nat.le_of_ble_eq_true rfl)) dX3_signed_30 ⟨Nat.zero_le _, Nat.zero_le _⟩ (fun q19 T17 H locs hq G => ?_)
    obtain ⟨hq1, hq2⟩ := hq
    rw [hq2] at G
    refine lv_to hq1 ?_
    clear hq1 hq2 eT16
    refine lv_ineg hx hb dX3_signed_33 ?_
    refine lv_topi (fun v20 ev20 => ?_)
    have h := elet_at ev20 h
    clear ev20
    exact (Nat.succ_ne_zero _ (congrArg Prod.fst (Option.some.inj h)).symm).elim
  · have h := oif_neg c7 h
    refine lv_aload_n hx hb dX3_signed_8 rfl (lv_at hl 0 rfl) ?_
    refine lv_iload_n hx hb dX3_signed_9 rfl (lv_at hl 1 rfl) ?_
    refine lv_iload_n hx hb dX3_signed_10 rfl (lv_at hl 2 rfl) ?_
    obtain ⟨g21, h⟩ := oif_some h
    rcases othr_t h with ⟨r0, eT22⟩ | ⟨r24, T22, eT22, h⟩
    · refine q_xvi (As := [.int a0, .int a1]) (rest := []) E G hA hX hN hml (x_X3_number l hst D cI cJ cZ cMic cSrc cSt cAI cAJ ad T3 o a0 a1 eT22) (cwV 2 hts (gaV qA_299 qA_300 qA_301 qA_222 qA_302) rfl rfl rfl (by decide +kernel) ⟨Nat.le_of_ble_eq_true rfl, Nat.le_of_ble_eq_true rfl⟩) (oO_k g21).1 (cc_o3 (oO_k g21).2) rfl rfl hl.1 rfl (lv_room (Nat.le_of_ble_eq_true rfl)) dX3_signed_11 ⟨Nat.le_of_ble_eq_true rfl, Nat.le_of_ble_eq_true rfl⟩ (fun E9 ce q9 T9 H locs hp G hce hcv hcl => ?_)
      obtain ⟨hE, hT⟩ := hp
      subst hE
      rw [hT] at G
      exact vx_out (fun x hx => (htab x hx).elim) hlocks hce hcv hcl (fun t ht hvm => ⟨T1, trivial, ⟨⟨rfl, rfl⟩, by rw [ht]; exact G.1, va_K.moved hvm hK, G.2.1⟩, G.2.2.F ht⟩) G.2.2.2.2 (Nat.le_refl _) (Nat.le_refl _)
    refine q_cvi (As := [.int a0, .int a1]) (rest := []) E G hA hX hN hml (u_X3_number l hst D cI cJ cZ cMic cSrc cSt cAI cAJ ad T3 o a0 a1 eT22) (cwV 2 hts (gaV qA_299 qA_300 qA_301 qA_222 qA_302) rfl rfl rfl (by decide +kernel) ⟨Nat.le_of_ble_eq_true rfl, Nat.le_of_ble_eq_true rfl⟩) (oO_k g21).1 (cc_o3 (oO_k g21).2) rfl rfl hl.1 rfl (lv_room (Nat.le_of_ble_eq_true rfl)) dX3_signed_11 ⟨Nat.zero_le _, Nat.zero_le _⟩ (fun q25 T23 H locs hq G => ?_)
    obtain ⟨hq1, hq2⟩ := hq
    rw [hq2] at G
    refine lv_to hq1 ?_
    clear hq1 hq2 eT22
    exact (Nat.succ_ne_zero _ (congrArg Prod.fst (Option.some.inj h)).symm).elim
def g_X6_addTap_b28  (T : AT)  : Option (AT) := some T
set_option maxHeartbeats 4000000 in
set_option maxRecDepth 100000 in
theorem u_X6_addTap_b28 {p : Program} {l : Launch} {e : Env} {s : State} {m : MethodId} {args : Array Value} {below : List Frame} {meth : Method} {c : Code} {Q : State → Prop} {D : va_G} {A : Nat → Prop} {cI cJ cZ cMic cSrc cSt cAI cAJ : ClassId} {ad : Nat → Nat} {T1 : AT} (E : cE p c cX6_addTap s m args (Cond.code yX6_addTap cX6_addTap 2 none :: wsA) D RX6 (CT cI cJ cZ cMic cSrc cSt cAI cAJ)) (hA : ∀ q : Nat, s.heap.size ≤ q → A q) (hX : xT A s) (hN : nX s) (hml : c.maxLocals = 2) (hst : l.stackTraces = false) (kr28 : ∀ (H : Heap) (locs : List Loc) (ls : Array Slot), gC cI cJ cZ cMic cSrc cSt cAI cAJ D ad A s.heap H locs T1 → W p l e { frames := 1, cells := 0, slots := 0, locals := 0 } s m args below meth c H locs 0 0 Q (F0 m 28 ls [])) : ∀ (T : AT) (H : Heap) (locs : List Loc) (ls : Array Slot), g_X6_addTap_b28 T = some T1 → gC cI cJ cZ cMic cSrc cSt cAI cAJ D ad A s.heap H locs T → lv_has ls 2 [] → W p l e { frames := 1, cells := 0, slots := 0, locals := 0 } s m args below meth c H locs 0 0 Q (F0 m 28 ls []) := by
  have hx := E.1
  have hb := E.2.1
  have hts := E.2.2.1
  have hown := E.2.2.2.1
  have hK := E.2.2.2.2
  intro T H locs ls h G hl
  unfold g_X6_addTap_b28 at h
  rw [osome1 h] at G
  exact kr28 _ _ _ G
def g_X6_addTap (T : AT) (o : Nat) (a0 : Int32) : Option (AT) := oif (oO T o 6 = true) <| elet (T.2.2.1 o 14) fun v3 => if 5 ≤ v3 then (g_X6_addTap_b28 T) else (oif (oO T o 6 = true) <| obind (T.2.2.2.2 o 13) fun n6 => oif (oO T o 6 = true) <| elet (T.2.2.1 o 14) fun v8 => oif (aA T n6 100 = true) <| oif (inb v8 (T.2.1 n6).2 = true) <| elet (uI T n6 v8.toNatClampNeg a0) fun T11 => oif (oO T11 o 6 = true) <| elet (T11.2.2.1 o 14) fun v13 => elet (v13 + 1) fun v14 => oif (oO T11 o 6 = true) <| elet (uI T11 o 14 v14) fun T16 => g_X6_addTap_b28 T16)
set_option maxHeartbeats 4000000 in
set_option maxRecDepth 100000 in
theorem u_X6_addTap (l : Launch) (hst : l.stackTraces = false) (D : va_G) (cI cJ cZ cMic cSrc cSt cAI cAJ : ClassId) (ad : Nat → Nat) (T : AT) (o : Nat) (a0 : Int32) {T1 : AT} (h : g_X6_addTap T o a0 = some T1) : kCv l yX6_addTap (Cond.code yX6_addTap cX6_addTap 2 none :: wsA) 1 0 cI cJ cZ cMic cSrc cSt cAI cAJ D ad T [.ref (ad o), .int a0] (fun T9 => T9 = T1) := by
  intro sz
  refine Met.ofW (cc := cX6_addTap) (maxL := 2) (ret := none) (by decide) rfl ?_
  intro p e s m args below meth c s₁ B hml hv
  obtain ⟨rfl, hsz, hP, hK, hD0, hX, hN⟩ := hv
  have hx := B.exec
  have hb := B.bytes
  have hr := B.returns
  have hts := atoms_spec (ws := (Cond.code yX6_addTap cX6_addTap 2 none :: wsA)) B.pre
  have hown : s.vm.findClass RX6 = some m.cls := findClass_of_methodNamed B.named
  have hlocks := B.notSynchronized
  subst hsz
  have hD := hD0.self (sz := s.heap.size)
  generalize hAe : va_A (cW ad T.1 (cc cI cJ cZ cMic cSrc cSt cAI cAJ ad T)) s.heap.size = A at hD hX ⊢
  have hA : ∀ q : Nat, s.heap.size ≤ q → A q := fun q h => by rw [← hAe]; exact Or.inr h
  have G : gC cI cJ cZ cMic cSrc cSt cAI cAJ D ad A s.heap s.heap [] T := ⟨hP, hD, va_S.rf⟩
  have E : cE p c cX6_addTap s m ([.ref (ad o), .int a0] : List Value).toArray (Cond.code yX6_addTap cX6_addTap 2 none :: wsA) D RX6 (CT cI cJ cZ cMic cSrc cSt cAI cAJ) := ⟨hx, hb, hts, hown, hK⟩
  have hl := lv_entry ([.ref (ad o), .int a0]) (n := 2) (Nat.le_of_ble_eq_true rfl)
  rw [lg_entry_eq]
  generalize (lg_sl ([.ref (ad o), .int a0]) ++ List.replicate (2 - (lg_sl ([.ref (ad o), .int a0])).length) Slot.unset).toArray = ls at hl ⊢
  have hl : lv_has ls 2 [(0, .ref (ad o)), (1, .int a0)] := hl
  unfold g_X6_addTap at h
  refine lv_aload_n hx hb dX6_addTap_0 rfl (lv_at hl 0 rfl) ?_
  obtain ⟨g2, h⟩ := oif_some h
  refine c_get E G o 14 (oO_k g2).1 (cc_o6 (oO_k g2).2) rfl (fun w h => .tail _ (iA_14 h)) (by decide) (.tail _ qA_214) rfl rfl dX6_addTap_1 ?_
  refine lv_topi (fun v3 ev3 => ?_)
  have h := elet_at ev3 h
  clear ev3
  refine lv_iconst (v := 5) hx hb dX6_addTap_4 (by decide) ?_
  refine lv_icmp_ge (tgt := 28) hx hb dX6_addTap_5 (by decide) (fun c4 => ?_) (fun c4 => ?_)
  · have h := oif_pos c4 h
    have hl := lv_sub hl [] rfl
    exact u_X6_addTap_b28 E hA hX hN hml hst (fun H locs ls G => W.vret hx hb hr (fun t ht hW => ⟨⟨T1, rfl, rfl, ⟨by rw [ht]; exact G.1, va_K.moved hW.alike hK, G.2.1⟩⟩, G.2.2.F ht⟩) G.2.2.2.2 dX6_addTap_28) _ _ _ _ h G hl
  · have h := oif_neg c4 h
    refine lv_aload_n hx hb dX6_addTap_8 rfl (lv_at hl 0 rfl) ?_
    obtain ⟨g5, h⟩ := oif_some h
    obtain ⟨n6, en6, h⟩ := obind_some h
    refine c_get E G o 13 (v := .ref (ad n6)) (oO_k g5).1 (cc_o6 (oO_k g5).2) rfl (fun w h => .tail _ (iA_14 h)) (by decide) (.tail _ qA_375) rfl (by rw [en6]; rfl) dX6_addTap_9 ?_
    clear en6
    refine lv_aload_n hx hb dX6_addTap_12 rfl (lv_at hl 0 rfl) ?_
    obtain ⟨g7, h⟩ := oif_some h
    refine c_get E G o 14 (oO_k g7).1 (cc_o6 (oO_k g7).2) rfl (fun w h => .tail _ (iA_14 h)) (by decide) (.tail _ qA_214) rfl rfl dX6_addTap_13 ?_
    refine lv_topi (fun v8 ev8 => ?_)
    have h := elet_at ev8 h
    clear ev8
    refine lv_iload_n hx hb dX6_addTap_16 rfl (lv_at hl 1 rfl) ?_
    obtain ⟨g9, h⟩ := oif_some h
    obtain ⟨g10, h⟩ := oif_some h
    refine c_iast E G n6 0 (k := v8.toNatClampNeg) (v := a0) (aA_k g9).1 (cc_a100 (aA_k g9).2.1) rfl (inb_k g10).1 (inb_k g10).2 (aA_k g9).2.2 dX6_addTap_17 (fun H locs G => ?_)
    have G := gC_up_i (f := upd (T.2.2.1 n6) v8.toNatClampNeg a0) (ccv_100 (aA_k g9).2.1) G
    obtain ⟨T11, eT11, h⟩ := elet_some h
    have G : gC cI cJ cZ cMic cSrc cSt cAI cAJ D ad A s.heap H locs T11 := by rw [eT11]; exact G
    clear eT11
    refine lv_aload_n hx hb dX6_addTap_18 rfl (lv_at hl 0 rfl) ?_
    refine lv_dup hx hb dX6_addTap_19 rfl ?_
    obtain ⟨g12, h⟩ := oif_some h
    refine c_get E G o 14 (oO_k g12).1 (cc_o6 (oO_k g12).2) rfl (fun w h => .tail _ (iA_14 h)) (by decide) (.tail _ qA_214) rfl rfl dX6_addTap_20 ?_
    refine lv_topi (fun v13 ev13 => ?_)
    have h := elet_at ev13 h
    clear ev13
    refine lv_iconst (v := 1) hx hb dX6_addTap_23 (by decide) ?_
    refine lv_iadd hx hb dX6_addTap_24 ?_
    refine lv_topi (fun v14 ev14 => ?_)
    have h := elet_at ev14 h
    clear ev14
    obtain ⟨g15, h⟩ := oif_some h
    refine c_put E G o 14 (v := .int v14) (oO_k g15).1 (cc_o6 (oO_k g15).2) rfl (fun w h => .tail _ (iA_14 h)) tyX6 tyX6_ok nmX6 (by decide) (.tail _ qA_214) ⟨rfl, rfl, rfl⟩ rfl rfl (Nat.le_of_ble_eq_true rfl) dX6_addTap_25 (fun H locs G => ?_)
    have G := gC_up_i (f := upd (T11.2.2.1 o) 14 v14) (by rw [(oO_k g15).2]; rfl) G
    obtain ⟨T16, eT16, h⟩ := elet_some h
    have G : gC cI cJ cZ cMic cSrc cSt cAI cAJ D ad A s.heap H locs T16 := by rw [eT16]; exact G
    clear eT16
    have hl := lv_sub hl [] rfl
    exact u_X6_addTap_b28 E hA hX hN hml hst (fun H locs ls G => W.vret hx hb hr (fun t ht hW => ⟨⟨T1, rfl, rfl, ⟨by rw [ht]; exact G.1, va_K.moved hW.alike hK, G.2.1⟩⟩, G.2.2.F ht⟩) G.2.2.2.2 dX6_addTap_28) _ _ _ _ h G hl
set_option maxHeartbeats 4000000 in
set_option maxRecDepth 100000 in
theorem s_X6_addTap_b28 {T1 : AT} : ∀ (T : AT), g_X6_addTap_b28 T = some T1 → SP T T1 := by
  intro T h
  have p0 := SP.rf T
  unfold g_X6_addTap_b28 at h
  rw [← osome1 h]
  exact p0
set_option maxHeartbeats 4000000 in
set_option maxRecDepth 100000 in
theorem s_X6_addTap {T : AT} {o : Nat} {a0 : Int32} {T1 : AT} (h : g_X6_addTap T o a0 = some T1) : SP T T1 := by
  have p0 := SP.rf T
  unfold g_X6_addTap at h
  obtain ⟨g2, h⟩ := oif_some h
  obtain ⟨v3, -, h⟩ := elet_some h
  rcases oif_or h with ⟨c4, h⟩ | ⟨c4, h⟩
  · have h := h
    exact SP.tr p0 (s_X6_addTap_b28 _ h)
  · have h := h
    obtain ⟨g5, h⟩ := oif_some h
    obtain ⟨n6, en6, h⟩ := obind_some h
    obtain ⟨g7, h⟩ := oif_some h
    obtain ⟨v8, -, h⟩ := elet_some h
    obtain ⟨g9, h⟩ := oif_some h
    obtain ⟨g10, h⟩ := oif_some h
    obtain ⟨T11, eT11, h⟩ := elet_some h
    have p1 : SP T T11 := SP.tr p0 (by rw [eT11]; exact sp_uI)
    obtain ⟨g12, h⟩ := oif_some h
    obtain ⟨v13, -, h⟩ := elet_some h
    obtain ⟨v14, -, h⟩ := elet_some h
    obtain ⟨g15, h⟩ := oif_some h
    obtain ⟨T16, eT16, h⟩ := elet_some h
    have p2 : SP T T16 := SP.tr p1 (by rw [eT16]; exact sp_uI)
    exact SP.tr p2 (s_X6_addTap_b28 _ h)
def g_X3_parseFilter_b81  (T : AT)  : Option (Nat × Int32 × AT) := some (0, 0, T)
set_option maxHeartbeats 4000000 in
set_option maxRecDepth 100000 in
theorem u_X3_parseFilter_b81 {p : Program} {l : Launch} {e : Env} {s : State} {m : MethodId} {args : Array Value} {below : List Frame} {meth : Method} {c : Code} {Q : State → Prop} {D : va_G} {A : Nat → Prop} {cI cJ cZ cMic cSrc cSt cAI cAJ : ClassId} {ad : Nat → Nat} {r1 : Int32} {T1 : AT} (E : cE p c cX3_parseFilter s m args (Cond.code yX3_parseFilter cX3_parseFilter 3 none :: wsA) D RX3 (CT cI cJ cZ cMic cSrc cSt cAI cAJ)) (hA : ∀ q : Nat, s.heap.size ≤ q → A q) (hX : xT A s) (hN : nX s) (hml : c.maxLocals = 3) (hst : l.stackTraces = false) (kr81 : ∀ (H : Heap) (locs : List Loc) (ls : Array Slot), gC cI cJ cZ cMic cSrc cSt cAI cAJ D ad A s.heap H locs T1 → W p l e { frames := 9, cells := 0, slots := 0, locals := 148 } s m args below meth c H locs 0 0 Q (F0 m 81 ls [])) : ∀ (T : AT) (H : Heap) (locs : List Loc) (ls : Array Slot), g_X3_parseFilter_b81 T = some (0, r1, T1) → gC cI cJ cZ cMic cSrc cSt cAI cAJ D ad A s.heap H locs T → lv_has ls 3 [] → W p l e { frames := 9, cells := 0, slots := 0, locals := 148 } s m args below meth c H locs 0 0 Q (F0 m 81 ls []) := by
  have hx := E.1
  have hb := E.2.1
  have hts := E.2.2.1
  have hown := E.2.2.2.1
  have hK := E.2.2.2.2
  intro T H locs ls h G hl
  unfold g_X3_parseFilter_b81 at h
  rw [(osome3 h).2.2] at G
  exact kr81 _ _ _ G
def g_X3_parseFilter_b63 (k31 : AT → Nat → Nat → Int32 → Option (Nat × Int32 × AT)) (T : AT) (l0 : Nat) (l1 : Nat) (l2 : Int32) : Option (Nat × Int32 × AT) := oif (oO T l0 3 = true) <| othr (g_X3_signed T l0 ((-9) : Int32) (9 : Int32)) 0 fun r5 T3 => oif (oO T3 l1 6 = true) <| obind (g_X6_addTap T3 l1 r5) fun T8 => elet (l2 + Int32.ofInt (1)) fun v10 => k31 T8 l0 l1 v10
set_option maxHeartbeats 4000000 in
set_option maxRecDepth 100000 in
theorem u_X3_parseFilter_b63 {p : Program} {l : Launch} {e : Env} {s : State} {m : MethodId} {args : Array Value} {below : List Frame} {meth : Method} {c : Code} {Q : State → Prop} {D : va_G} {A : Nat → Prop} {cI cJ cZ cMic cSrc cSt cAI cAJ : ClassId} {ad : Nat → Nat} {r1 : Int32} {T1 : AT} (E : cE p c cX3_parseFilter s m args (Cond.code yX3_parseFilter cX3_parseFilter 3 none :: wsA) D RX3 (CT cI cJ cZ cMic cSrc cSt cAI cAJ)) (hA : ∀ q : Nat, s.heap.size ≤ q → A q) (hX : xT A s) (hN : nX s) (hml : c.maxLocals = 3) (hst : l.stackTraces = false) (kr81 : ∀ (H : Heap) (locs : List Loc) (ls : Array Slot), gC cI cJ cZ cMic cSrc cSt cAI cAJ D ad A s.heap H locs T1 → W p l e { frames := 9, cells := 0, slots := 0, locals := 148 } s m args below meth c H locs 0 0 Q (F0 m 81 ls [])) {k31 : AT → Nat → Nat → Int32 → Option (Nat × Int32 × AT)} (hk31 : ∀ (T : AT) (H : Heap) (locs : List Loc) (ls : Array Slot) (l0 : Nat) (l1 : Nat) (l2 : Int32), k31 T l0 l1 l2 = some (0, r1, T1) → gC cI cJ cZ cMic cSrc cSt cAI cAJ D ad A s.heap H locs T → lv_has ls 3 [(0, .ref (ad l0)), (1, .ref (ad l1)), (2, .int l2)] → W p l e { frames := 9, cells := 0, slots := 0, locals := 148 } s m args below meth c H locs 0 0 Q (F0 m 31 ls [])) : ∀ (T : AT) (H : Heap) (locs : List Loc) (ls : Array Slot) (l0 : Nat) (l1 : Nat) (l2 : Int32), g_X3_parseFilter_b63 k31 T l0 l1 l2 = some (0, r1, T1) → gC cI cJ cZ cMic cSrc cSt cAI cAJ D ad A s.heap H locs T → lv_has ls 3 [(0, .ref (ad l0)), (1, .ref (ad l1)), (2, .int l2)] → W p l e { frames := 9, cells := 0, slots := 0, locals := 148 } s m args below meth c H locs 0 0 Q (F0 m 63 ls []) := by
  have hx := E.1
  have hb := E.2.1
  have hts := E.2.2.1
  have hown := E.2.2.2.1
  have hK := E.2.2.2.2
  intro T H locs ls l0 l1 l2 h G hl
  unfold g_X3_parseFilter_b63 at h
  refine lv_aload_n hx hb dX3_parseFilter_63 rfl (lv_at hl 1 rfl) ?_
  refine lv_aload_n hx hb dX3_parseFilter_64 rfl (lv_at hl 0 rfl) ?_
  refine lv_bipush (v := (-9)) hx hb dX3_parseFilter_65 (by decide) ?_
  refine lv_bipush (v := 9) hx hb dX3_parseFilter_67 (by decide) ?_
  obtain ⟨g2, h⟩ := oif_some h
  obtain ⟨r5, T3, eT3, h⟩ := othr_n h
  refine q_cvi (As := [.int (-9), .int 9]) (rest := [.ref (ad l1)]) E G hA hX hN hml (u_X3_signed l hst D cI cJ cZ cMic cSrc cSt cAI cAJ ad T l0 ((-9) : Int32) (9 : Int32) eT3) (cwV 2 hts (gaV qA_325 qA_326 qA_327 qA_222 qA_328) rfl rfl rfl (by decide +kernel) ⟨Nat.le_of_ble_eq_true rfl, Nat.le_of_ble_eq_true rfl⟩) (oO_k g2).1 (cc_o3 (oO_k g2).2) rfl rfl hl.1 rfl (lv_room (Nat.le_of_ble_eq_true rfl)) dX3_parseFilter_69 ⟨Nat.zero_le _, Nat.zero_le _⟩ (fun q6 T4 H locs hq G => ?_)
  obtain ⟨hq1, hq2⟩ := hq
  rw [hq2] at G
  refine lv_to hq1 ?_
  clear hq1 hq2 eT3
  obtain ⟨g7, h⟩ := oif_some h
  obtain ⟨T8, eT8, h⟩ := obind_some h
  refine q_cvv (As := [.int r5]) (rest := []) E G hA hX hN hml (u_X6_addTap l hst D cI cJ cZ cMic cSrc cSt cAI cAJ ad T3 l1 r5 eT8) (cwV 1 hts (gaV qA_371 qA_372 qA_373 qA_207 qA_374) rfl rfl rfl (by decide +kernel) ⟨Nat.le_of_ble_eq_true rfl, Nat.le_of_ble_eq_true rfl⟩) (oO_k g7).1 (cc_o6 (oO_k g7).2) rfl rfl hl.1 rfl (lv_room (Nat.le_of_ble_eq_true rfl)) dX3_parseFilter_72 ⟨Nat.zero_le _, Nat.zero_le _⟩ (fun T9 H locs hq G => ?_)
  rw [hq] at G
  clear hq eT8
  obtain ⟨v10, ev10, h⟩ := elet_some h
  refine lv_iinc (v := v10) (lv' := [(2, .int v10), (0, .ref (ad l0)), (1, .ref (ad l1))]) hx hb dX3_parseFilter_75 hl (k := 2) rfl ev10.symm (by decide) rfl (fun ls hl => ?_)
  refine lv_goto (tgt := 31) hx hb dX3_parseFilter_78 (by decide) ?_
  have hl := lv_sub hl [1, 2, 0] rfl
  exact hk31 _ _ _ _ _ _ _ h G hl
def g_X3_parseFilter_b52 (k31 : AT → Nat → Nat → Int32 → Option (Nat × Int32 × AT)) (T : AT) (l0 : Nat) (l1 : Nat) (l2 : Int32) : Option (Nat × Int32 × AT) := if l2 = 5 then (oif (oO T l0 3 = true) <| othr (g_X3_failAsTooMany T l0 (9 : Int32)) 0 fun r6 T4 => g_X3_parseFilter_b63 k31 T4 l0 l1 l2) else (g_X3_parseFilter_b63 k31 T l0 l1 l2)
set_option maxHeartbeats 4000000 in
set_option maxRecDepth 100000 in
theorem u_X3_parseFilter_b52 {p : Program} {l : Launch} {e : Env} {s : State} {m : MethodId} {args : Array Value} {below : List Frame} {meth : Method} {c : Code} {Q : State → Prop} {D : va_G} {A : Nat → Prop} {cI cJ cZ cMic cSrc cSt cAI cAJ : ClassId} {ad : Nat → Nat} {r1 : Int32} {T1 : AT} (E : cE p c cX3_parseFilter s m args (Cond.code yX3_parseFilter cX3_parseFilter 3 none :: wsA) D RX3 (CT cI cJ cZ cMic cSrc cSt cAI cAJ)) (hA : ∀ q : Nat, s.heap.size ≤ q → A q) (hX : xT A s) (hN : nX s) (hml : c.maxLocals = 3) (hst : l.stackTraces = false) (kr81 : ∀ (H : Heap) (locs : List Loc) (ls : Array Slot), gC cI cJ cZ cMic cSrc cSt cAI cAJ D ad A s.heap H locs T1 → W p l e { frames := 9, cells := 0, slots := 0, locals := 148 } s m args below meth c H locs 0 0 Q (F0 m 81 ls [])) {k31 : AT → Nat → Nat → Int32 → Option (Nat × Int32 × AT)} (hk31 : ∀ (T : AT) (H : Heap) (locs : List Loc) (ls : Array Slot) (l0 : Nat) (l1 : Nat) (l2 : Int32), k31 T l0 l1 l2 = some (0, r1, T1) → gC cI cJ cZ cMic cSrc cSt cAI cAJ D ad A s.heap H locs T → lv_has ls 3 [(0, .ref (ad l0)), (1, .ref (ad l1)), (2, .int l2)] → W p l e { frames := 9, cells := 0, slots := 0, locals := 148 } s m args below meth c H locs 0 0 Q (F0 m 31 ls [])) : ∀ (T : AT) (H : Heap) (locs : List Loc) (ls : Array Slot) (l0 : Nat) (l1 : Nat) (l2 : Int32), g_X3_parseFilter_b52 k31 T l0 l1 l2 = some (0, r1, T1) → gC cI cJ cZ cMic cSrc cSt cAI cAJ D ad A s.heap H locs T → lv_has ls 3 [(0, .ref (ad l0)), (1, .ref (ad l1)), (2, .int l2)] → W p l e { frames := 9, cells := 0, slots := 0, locals := 148 } s m args below meth c H locs 0 0 Q (F0 m 52 ls []) := by
  have hx := E.1
  have hb := E.2.1
  have hts := E.2.2.1
  have hown := E.2.2.2.1
  have hK := E.2.2.2.2
  intro T H locs ls l0 l1 l2 h G hl
  unfold g_X3_parseFilter_b52 at h
  refine lv_iload_n hx hb dX3_parseFilter_52 rfl (lv_at hl 2 rfl) ?_
  refine lv_iconst (v := 5) hx hb dX3_parseFilter_53 (by decide) ?_
  refine lv_icmp_ne (tgt := 63) hx hb dX3_parseFilter_54 (by decide) (fun c2 => ?_) (fun c2 => ?_)
  · have h := oif_neg c2 h
    have hl := lv_sub hl [0, 1, 2] rfl
    exact u_X3_parseFilter_b63 E hA hX hN hml hst kr81 hk31 _ _ _ _ _ _ _ h G hl
  · have h := oif_pos c2 h
    refine lv_aload_n hx hb dX3_parseFilter_57 rfl (lv_at hl 0 rfl) ?_
    refine lv_bipush (v := 9) hx hb dX3_parseFilter_58 (by decide) ?_
    obtain ⟨g3, h⟩ := oif_some h
    obtain ⟨r6, T4, eT4, h⟩ := othr_n h
    refine q_cvv (As := [.int 9]) (rest := []) E G hA hX hN hml (u_X3_failAsTooMany l hst D cI cJ cZ cMic cSrc cSt cAI cAJ ad T l0 (9 : Int32) eT4) (cwV 1 hts (gaV qA_376 qA_377 qA_378 qA_222 qA_379) rfl rfl rfl (by decide +kernel) ⟨Nat.le_of_ble_eq_true rfl, Nat.le_of_ble_eq_true rfl⟩) (oO_k g3).1 (cc_o3 (oO_k g3).2) rfl rfl hl.1 rfl (lv_room (Nat.le_of_ble_eq_true rfl)) dX3_parseFilter_60 ⟨Nat.zero_le _, Nat.zero_le _⟩ (fun T5 H locs hq G => ?_)
    rw [hq] at G
    clear hq eT4
    have hl := lv_sub hl [0, 1, 2] rfl
    exact u_X3_parseFilter_b63 E hA hX hN hml hst kr81 hk31 _ _ _ _ _ _ _ h G hl
def g_X3_parseFilter_b31  : Nat → AT → Nat → Nat → Int32 → Option (Nat × Int32 × AT)
  | 0, _, _, _, _ => none
  | n + 1, T, l0, l1, l2 => if 5 < l2 then (g_X3_parseFilter_b81 T) else (oif (oO T l0 3 = true) <| obind2 (g_X3_kind T l0) fun r6 T4 => if r6 = 2 then (g_X3_parseFilter_b52 (g_X3_parseFilter_b31 n) T4 l0 l1 l2) else (oif (oO T4 l0 3 = true) <| obind2 (g_X3_kind T4 l0) fun r12 T10 => if r12 = 3 then (g_X3_parseFilter_b52 (g_X3_parseFilter_b31 n) T10 l0 l1 l2) else (g_X3_parseFilter_b81 T10)))
set_option maxHeartbeats 4000000 in
set_option maxRecDepth 100000 in
theorem u_X3_parseFilter_b31 {p : Program} {l : Launch} {e : Env} {s : State} {m : MethodId} {args : Array Value} {below : List Frame} {meth : Method} {c : Code} {Q : State → Prop} {D : va_G} {A : Nat → Prop} {cI cJ cZ cMic cSrc cSt cAI cAJ : ClassId} {ad : Nat → Nat} {r1 : Int32} {T1 : AT} (E : cE p c cX3_parseFilter s m args (Cond.code yX3_parseFilter cX3_parseFilter 3 none :: wsA) D RX3 (CT cI cJ cZ cMic cSrc cSt cAI cAJ)) (hA : ∀ q : Nat, s.heap.size ≤ q → A q) (hX : xT A s) (hN : nX s) (hml : c.maxLocals = 3) (hst : l.stackTraces = false) (kr81 : ∀ (H : Heap) (locs : List Loc) (ls : Array Slot), gC cI cJ cZ cMic cSrc cSt cAI cAJ D ad A s.heap H locs T1 → W p l e { frames := 9, cells := 0, slots := 0, locals := 148 } s m args below meth c H locs 0 0 Q (F0 m 81 ls [])) : ∀ n : Nat, ∀ (T : AT) (H : Heap) (locs : List Loc) (ls : Array Slot) (l0 : Nat) (l1 : Nat) (l2 : Int32), g_X3_parseFilter_b31 n T l0 l1 l2 = some (0, r1, T1) → gC cI cJ cZ cMic cSrc cSt cAI cAJ D ad A s.heap H locs T → lv_has ls 3 [(0, .ref (ad l0)), (1, .ref (ad l1)), (2, .int l2)] → W p l e { frames := 9, cells := 0, slots := 0, locals := 148 } s m args below meth c H locs 0 0 Q (F0 m 31 ls []) := by
  have hx := E.1
  have hb := E.2.1
  have hts := E.2.2.1
  have hown := E.2.2.2.1
  have hK := E.2.2.2.2
  intro n
  induction n with
  | zero =>
    intro T H locs ls l0 l1 l2 h
    have h : (none : Option (Nat × Int32 × AT)) = some (0, r1, T1) := h
    cases h
  | succ n ih =>
    intro T H locs ls l0 l1 l2 h G hl
    unfold g_X3_parseFilter_b31 at h
    refine lv_iload_n hx hb dX3_parseFilter_31 rfl (lv_at hl 2 rfl) ?_
    refine lv_iconst (v := 5) hx hb dX3_parseFilter_32 (by decide) ?_
    refine lv_icmp_gt (tgt := 81) hx hb dX3_parseFilter_33 (by decide) (fun c2 => ?_) (fun c2 => ?_)
    · have h := oif_pos c2 h
      have hl := lv_sub hl [] rfl
      exact u_X3_parseFilter_b81 E hA hX hN hml hst kr81 _ _ _ _ h G hl
    · have h := oif_neg c2 h
      refine lv_aload_n hx hb dX3_parseFilter_36 rfl (lv_at hl 0 rfl) ?_
      obtain ⟨g3, h⟩ := oif_some h
      obtain ⟨r6, T4, eT4, h⟩ := obind2_some h
      refine q_cvi (As := []) (rest := []) E G hA hX hN hml (u_X3_kind l hst D cI cJ cZ cMic cSrc cSt cAI cAJ ad T l0 eT4) (cwV 0 hts (gaV qA_239 qA_240 qA_241 qA_222 qA_242) rfl rfl rfl (by decide +kernel) ⟨Nat.le_of_ble_eq_true rfl, Nat.le_of_ble_eq_true rfl⟩) (oO_k g3).1 (cc_o3 (oO_k g3).2) rfl rfl hl.1 rfl (lv_room (Nat.le_of_ble_eq_true rfl)) dX3_parseFilter_37 ⟨Nat.zero_le _, Nat.zero_le _⟩ (fun q7 T5 H locs hq G => ?_)
      obtain ⟨hq1, hq2⟩ := hq
      rw [hq2] at G
      refine lv_to hq1 ?_
      clear hq1 hq2 eT4
      refine lv_iconst (v := 2) hx hb dX3_parseFilter_40 (by decide) ?_
      refine lv_icmp_eq (tgt := 52) hx hb dX3_parseFilter_41 (by decide) (fun c8 => ?_) (fun c8 => ?_)
      · have h := oif_pos c8 h
        have hl := lv_sub hl [0, 1, 2] rfl
        exact u_X3_parseFilter_b52 E hA hX hN hml hst kr81 ih _ _ _ _ _ _ _ h G hl
      · have h := oif_neg c8 h
        refine lv_aload_n hx hb dX3_parseFilter_44 rfl (lv_at hl 0 rfl) ?_
        obtain ⟨g9, h⟩ := oif_some h
        obtain ⟨r12, T10, eT10, h⟩ := obind2_some h
        refine q_cvi (As := []) (rest := []) E G hA hX hN hml (u_X3_kind l hst D cI cJ cZ cMic cSrc cSt cAI cAJ ad T4 l0 eT10) (cwV 0 hts (gaV qA_239 qA_240 qA_241 qA_222 qA_242) rfl rfl rfl (by decide +kernel) ⟨Nat.le_of_ble_eq_true rfl, Nat.le_of_ble_eq_true rfl⟩) (oO_k g9).1 (cc_o3 (oO_k g9).2) rfl rfl hl.1 rfl (lv_room (Nat.le_of_ble_eq_true rfl)) dX3_parseFilter_45 ⟨Nat.zero_le _, Nat.zero_le _⟩ (fun q13 T11 H locs hq G => ?_)
        obtain ⟨hq1, hq2⟩ := hq
        rw [hq2] at G
        refine lv_to hq1 ?_
        clear hq1 hq2 eT10
        refine lv_iconst (v := 3) hx hb dX3_parseFilter_48 (by decide) ?_
        refine lv_icmp_ne (tgt := 81) hx hb dX3_parseFilter_49 (by decide) (fun c14 => ?_) (fun c14 => ?_)
        · have h := oif_neg c14 h
          have hl := lv_sub hl [] rfl
          exact u_X3_parseFilter_b81 E hA hX hN hml hst kr81 _ _ _ _ h G hl
        · have h := oif_pos c14 h
          have hl := lv_sub hl [0, 1, 2] rfl
          exact u_X3_parseFilter_b52 E hA hX hN hml hst kr81 ih _ _ _ _ _ _ _ h G hl
def g_X3_parseFilter_b13  (T : AT) (s0 : Int32) (s1 : Nat) (l0 : Nat) (l1 : Nat) : Option (Nat × Int32 × AT) := oif (oO T s1 3 = true) <| othr (g_X3_startLine T s1 s0 (3 : Int32)) 0 fun r5 T3 => oif (oO T3 l0 3 = true) <| othr (g_X3_signed T3 l0 ((-9) : Int32) (9 : Int32)) 0 fun r10 T8 => oif (oO T8 l1 6 = true) <| obind (g_X6_addTap T8 l1 r10) fun T13 => g_X3_parseFilter_b31 16384 T13 l0 l1 1
set_option maxHeartbeats 4000000 in
set_option maxRecDepth 100000 in
theorem u_X3_parseFilter_b13 {p : Program} {l : Launch} {e : Env} {s : State} {m : MethodId} {args : Array Value} {below : List Frame} {meth : Method} {c : Code} {Q : State → Prop} {D : va_G} {A : Nat → Prop} {cI cJ cZ cMic cSrc cSt cAI cAJ : ClassId} {ad : Nat → Nat} {r1 : Int32} {T1 : AT} (E : cE p c cX3_parseFilter s m args (Cond.code yX3_parseFilter cX3_parseFilter 3 none :: wsA) D RX3 (CT cI cJ cZ cMic cSrc cSt cAI cAJ)) (hA : ∀ q : Nat, s.heap.size ≤ q → A q) (hX : xT A s) (hN : nX s) (hml : c.maxLocals = 3) (hst : l.stackTraces = false) (kr81 : ∀ (H : Heap) (locs : List Loc) (ls : Array Slot), gC cI cJ cZ cMic cSrc cSt cAI cAJ D ad A s.heap H locs T1 → W p l e { frames := 9, cells := 0, slots := 0, locals := 148 } s m args below meth c H locs 0 0 Q (F0 m 81 ls [])) : ∀ (T : AT) (H : Heap) (locs : List Loc) (ls : Array Slot) (s0 : Int32) (s1 : Nat) (l0 : Nat) (l1 : Nat), g_X3_parseFilter_b13 T s0 s1 l0 l1 = some (0, r1, T1) → gC cI cJ cZ cMic cSrc cSt cAI cAJ D ad A s.heap H locs T → lv_has ls 3 [(0, .ref (ad l0)), (1, .ref (ad l1))] → W p l e { frames := 9, cells := 0, slots := 0, locals := 148 } s m args below meth c H locs 0 0 Q (F0 m 13 ls [.int s0, .ref (ad s1)]) := by
  have hx := E.1
  have hb := E.2.1
  have hts := E.2.2.1
  have hown := E.2.2.2.1
  have hK := E.2.2.2.2
  intro T H locs ls s0 s1 l0 l1 h G hl
  unfold g_X3_parseFilter_b13 at h
  refine lv_iconst (v := 3) hx hb dX3_parseFilter_13 (by decide) ?_
  obtain ⟨g2, h⟩ := oif_some h
  obtain ⟨r5, T3, eT3, h⟩ := othr_n h
  refine q_cvv (As := [.int s0, .int 3]) (rest := []) E G hA hX hN hml (u_X3_startLine l hst D cI cJ cZ cMic cSrc cSt cAI cAJ ad T s1 s0 (3 : Int32) eT3) (cwV 2 hts (gaV qA_321 qA_322 qA_323 qA_222 qA_324) rfl rfl rfl (by decide +kernel) ⟨Nat.le_of_ble_eq_true rfl, Nat.le_of_ble_eq_true rfl⟩) (oO_k g2).1 (cc_o3 (oO_k g2).2) rfl rfl hl.1 rfl (lv_room (Nat.le_of_ble_eq_true rfl)) dX3_parseFilter_14 ⟨Nat.zero_le _, Nat.zero_le _⟩ (fun T4 H locs hq G => ?_)
  rw [hq] at G
  clear hq eT3
  refine lv_aload_n hx hb dX3_parseFilter_17 rfl (lv_at hl 1 rfl) ?_
  refine lv_aload_n hx hb dX3_parseFilter_18 rfl (lv_at hl 0 rfl) ?_
  refine lv_bipush (v := (-9)) hx hb dX3_parseFilter_19 (by decide) ?_
  refine lv_bipush (v := 9) hx hb dX3_parseFilter_21 (by decide) ?_
  obtain ⟨g7, h⟩ := oif_some h
  obtain ⟨r10, T8, eT8, h⟩ := othr_n h
  refine q_cvi (As := [.int (-9), .int 9]) (rest := [.ref (ad l1)]) E G hA hX hN hml (u_X3_signed l hst D cI cJ cZ cMic cSrc cSt cAI cAJ ad T3 l0 ((-9) : Int32) (9 : Int32) eT8) (cwV 2 hts (gaV qA_325 qA_326 qA_327 qA_222 qA_328) rfl rfl rfl (by decide +kernel) ⟨Nat.le_of_ble_eq_true rfl, Nat.le_of_ble_eq_true rfl⟩) (oO_k g7).1 (cc_o3 (oO_k g7).2) rfl rfl hl.1 rfl (lv_room (Nat.le_of_ble_eq_true rfl)) dX3_parseFilter_23 ⟨Nat.zero_le _, Nat.zero_le _⟩ (fun q11 T9 H locs hq G => ?_)
  obtain ⟨hq1, hq2⟩ := hq
  rw [hq2] at G
  refine lv_to hq1 ?_
  clear hq1 hq2 eT8
  obtain ⟨g12, h⟩ := oif_some h
  obtain ⟨T13, eT13, h⟩ := obind_some h
  refine q_cvv (As := [.int r10]) (rest := []) E G hA hX hN hml (u_X6_addTap l hst D cI cJ cZ cMic cSrc cSt cAI cAJ ad T8 l1 r10 eT13) (cwV 1 hts (gaV qA_371 qA_372 qA_373 qA_207 qA_374) rfl rfl rfl (by decide +kernel) ⟨Nat.le_of_ble_eq_true rfl, Nat.le_of_ble_eq_true rfl⟩) (oO_k g12).1 (cc_o6 (oO_k g12).2) rfl rfl hl.1 rfl (lv_room (Nat.le_of_ble_eq_true rfl)) dX3_parseFilter_26 ⟨Nat.zero_le _, Nat.zero_le _⟩ (fun T14 H locs hq G => ?_)
  rw [hq] at G
  clear hq eT13
  refine lv_iconst (v := 1) hx hb dX3_parseFilter_29 (by decide) ?_
  refine lv_istore_n (lv' := [(2, .int 1), (0, .ref (ad l0)), (1, .ref (ad l1))]) hx hb dX3_parseFilter_30 rfl hl (by decide) rfl (fun ls hl => ?_)
  have hl := lv_sub hl [1, 2, 0] rfl
  exact u_X3_parseFilter_b31 E hA hX hN hml hst kr81 _ _ _ _ _ _ _ _ h G hl
def g_X3_parseFilter (T : AT) (o : Nat) (a0 : Nat) : Option (Nat × Int32 × AT) := oif (oO T a0 6 = true) <| elet (T.2.2.1 a0 14) fun v3 => if v3 ≤ 0 then (g_X3_parseFilter_b13 T 0 o o a0) else (g_X3_parseFilter_b13 T 1 o o a0)
set_option maxHeartbeats 4000000 in
set_option maxRecDepth 100000 in
theorem u_X3_parseFilter (l : Launch) (hst : l.stackTraces = false) (D : va_G) (cI cJ cZ cMic cSrc cSt cAI cAJ : ClassId) (ad : Nat → Nat) (T : AT) (o : Nat) (a0 : Nat) {r1 : Int32} {T1 : AT} (h : g_X3_parseFilter T o a0 = some (0, r1, T1)) : kCv l yX3_parseFilter (Cond.code yX3_parseFilter cX3_parseFilter 3 none :: wsA) 9 148 cI cJ cZ cMic cSrc cSt cAI cAJ D ad T [.ref (ad o), .ref (ad a0)] (fun T9 => T9 = T1) := by
  intro sz
  refine Met.ofW (cc := cX3_parseFilter) (maxL := 3) (ret := none) (by decide) rfl ?_
  intro p e s m args below meth c s₁ B hml hv
  obtain ⟨rfl, hsz, hP, hK, hD0, hX, hN⟩ := hv
  have hx := B.exec
  have hb := B.bytes
  have hr := B.returns
  have hts := atoms_spec (ws := (Cond.code yX3_parseFilter cX3_parseFilter 3 none :: wsA)) B.pre
  have hown : s.vm.findClass RX3 = some m.cls := findClass_of_methodNamed B.named
  have hlocks := B.notSynchronized
  subst hsz
  have hD := hD0.self (sz := s.heap.size)
  generalize hAe : va_A (cW ad T.1 (cc cI cJ cZ cMic cSrc cSt cAI cAJ ad T)) s.heap.size = A at hD hX ⊢
  have hA : ∀ q : Nat, s.heap.size ≤ q → A q := fun q h => by rw [← hAe]; exact Or.inr h
  have G : gC cI cJ cZ cMic cSrc cSt cAI cAJ D ad A s.heap s.heap [] T := ⟨hP, hD, va_S.rf⟩
  have E : cE p c cX3_parseFilter s m ([.ref (ad o), .ref (ad a0)] : List Value).toArray (Cond.code yX3_parseFilter cX3_parseFilter 3 none :: wsA) D RX3 (CT cI cJ cZ cMic cSrc cSt cAI cAJ) := ⟨hx, hb, hts, hown, hK⟩
  have hl := lv_entry ([.ref (ad o), .ref (ad a0)]) (n := 3) (Nat.le_of_ble_eq_true rfl)
  rw [lg_entry_eq]
  generalize (lg_sl ([.ref (ad o), .ref (ad a0)]) ++ List.replicate (3 - (lg_sl ([.ref (ad o), .ref (ad a0)])).length) Slot.unset).toArray = ls at hl ⊢
  have hl : lv_has ls 3 [(0, .ref (ad o)), (1, .ref (ad a0))] := hl
  unfold g_X3_parseFilter at h
  refine lv_aload_n hx hb dX3_parseFilter_0 rfl (lv_at hl 0 rfl) ?_
  refine lv_aload_n hx hb dX3_parseFilter_1 rfl (lv_at hl 1 rfl) ?_
  obtain ⟨g2, h⟩ := oif_some h
  refine c_get E G a0 14 (oO_k g2).1 (cc_o6 (oO_k g2).2) rfl (fun w h => .tail _ (iA_14 h)) (by decide) (.tail _ qA_370) rfl rfl dX3_parseFilter_2 ?_
  refine lv_topi (fun v3 ev3 => ?_)
  have h := elet_at ev3 h
  clear ev3
  refine lv_if_le (tgt := 12) hx hb dX3_parseFilter_5 (by decide) (fun c4 => ?_) (fun c4 => ?_)
  · have h := oif_pos c4 h
    refine lv_iconst (v := 0) hx hb dX3_parseFilter_12 (by decide) ?_
    have hl := lv_sub hl [0, 1] rfl
    exact u_X3_parseFilter_b13 E hA hX hN hml hst (fun H locs ls G => W.vret hx hb hr (fun t ht hW => ⟨⟨T1, rfl, rfl, ⟨by rw [ht]; exact G.1, va_K.moved hW.alike hK, G.2.1⟩⟩, G.2.2.F ht⟩) G.2.2.2.2 dX3_parseFilter_81) _ _ _ _ _ _ _ _ h G hl
  · have h := oif_neg c4 h
    refine lv_iconst (v := 1) hx hb dX3_parseFilter_8 (by decide) ?_
    refine lv_goto (tgt := 13) hx hb dX3_parseFilter_9 (by decide) ?_
    have hl := lv_sub hl [0, 1] rfl
    exact u_X3_parseFilter_b13 E hA hX hN hml hst (fun H locs ls G => W.vret hx hb hr (fun t ht hW => ⟨⟨T1, rfl, rfl, ⟨by rw [ht]; exact G.1, va_K.moved hW.alike hK, G.2.1⟩⟩, G.2.2.F ht⟩) G.2.2.2.2 dX3_parseFilter_81) _ _ _ _ _ _ _ _ h G hl
set_option maxHeartbeats 4000000 in
set_option maxRecDepth 100000 in
theorem s_X3_parseFilter_b81 {e1 : Nat} {r1 : Int32} {T1 : AT} : ∀ (T : AT), g_X3_parseFilter_b81 T = some (e1, r1, T1) → SP T T1 := by
  intro T h
  have p0 := SP.rf T
  unfold g_X3_parseFilter_b81 at h
  rw [← (osome3 h).2.2]
  exact p0
set_option maxHeartbeats 4000000 in
set_option maxRecDepth 100000 in
theorem s_X3_parseFilter_b63 {e1 : Nat} {r1 : Int32} {T1 : AT} {k31 : AT → Nat → Nat → Int32 → Option (Nat × Int32 × AT)} (hk31 : ∀ (T : AT) (l0 : Nat) (l1 : Nat) (l2 : Int32), k31 T l0 l1 l2 = some (e1, r1, T1) → SP T T1) : ∀ (T : AT) (l0 : Nat) (l1 : Nat) (l2 : Int32), g_X3_parseFilter_b63 k31 T l0 l1 l2 = some (e1, r1, T1) → SP T T1 := by
  intro T l0 l1 l2 h
  have p0 := SP.rf T
  unfold g_X3_parseFilter_b63 at h
  obtain ⟨g2, h⟩ := oif_some h
  rcases othr_s h with ⟨k9, r9, e9, -⟩ | ⟨r4, T3, eT3, h⟩
  · exact SP.tr p0 (s_X3_signed e9)
  have p1 : SP T T3 := SP.tr p0 (s_X3_signed eT3)
  obtain ⟨g5, h⟩ := oif_some h
  obtain ⟨T6, eT6, h⟩ := obind_some h
  have p2 : SP T T6 := SP.tr p1 (s_X6_addTap eT6)
  obtain ⟨v8, ev8, h⟩ := elet_some h
  exact SP.tr p2 (hk31 _ _ _ _ h)
set_option maxHeartbeats 4000000 in
set_option maxRecDepth 100000 in
theorem s_X3_parseFilter_b52 {e1 : Nat} {r1 : Int32} {T1 : AT} {k31 : AT → Nat → Nat → Int32 → Option (Nat × Int32 × AT)} (hk31 : ∀ (T : AT) (l0 : Nat) (l1 : Nat) (l2 : Int32), k31 T l0 l1 l2 = some (e1, r1, T1) → SP T T1) : ∀ (T : AT) (l0 : Nat) (l1 : Nat) (l2 : Int32), g_X3_parseFilter_b52 k31 T l0 l1 l2 = some (e1, r1, T1) → SP T T1 := by
  intro T l0 l1 l2 h
  have p0 := SP.rf T
  unfold g_X3_parseFilter_b52 at h
  rcases oif_or h with ⟨c2, h⟩ | ⟨c2, h⟩
  · have h := h
    obtain ⟨g3, h⟩ := oif_some h
    rcases othr_s h with ⟨k9, r9, e9, -⟩ | ⟨r5, T4, eT4, h⟩
    · exact SP.tr p0 (s_X3_failAsTooMany e9)
    have p1 : SP T T4 := SP.tr p0 (s_X3_failAsTooMany eT4)
    exact SP.tr p1 (s_X3_parseFilter_b63 hk31 _ _ _ _ h)
  · have h := h
    exact SP.tr p0 (s_X3_parseFilter_b63 hk31 _ _ _ _ h)
set_option maxHeartbeats 4000000 in
set_option maxRecDepth 100000 in
theorem s_X3_parseFilter_b31 {e1 : Nat} {r1 : Int32} {T1 : AT} : ∀ n : Nat, ∀ (T : AT) (l0 : Nat) (l1 : Nat) (l2 : Int32), g_X3_parseFilter_b31 n T l0 l1 l2 = some (e1, r1, T1) → SP T T1 := by
  intro n
  induction n with
  | zero =>
    intro T l0 l1 l2 h
    have h : (none : Option (Nat × Int32 × AT)) = some (e1, r1, T1) := h
    cases h
  | succ n ih =>
    intro T l0 l1 l2 h
    have p0 := SP.rf T
    unfold g_X3_parseFilter_b31 at h
    rcases oif_or h with ⟨c2, h⟩ | ⟨c2, h⟩
    · have h := h
      exact SP.tr p0 (s_X3_parseFilter_b81 _ h)
    · have h := h
      obtain ⟨g3, h⟩ := oif_some h
      obtain ⟨r5, T4, eT4, h⟩ := obind2_some h
      have p1 : SP T T4 := SP.tr p0 (s_X3_kind eT4)
      rcases oif_or h with ⟨c6, h⟩ | ⟨c6, h⟩
      · have h := h
        exact SP.tr p1 (s_X3_parseFilter_b52 ih _ _ _ _ h)
      · have h := h
        obtain ⟨g7, h⟩ := oif_some h
        obtain ⟨r9, T8, eT8, h⟩ := obind2_some h
        have p2 : SP T T8 := SP.tr p1 (s_X3_kind eT8)
        rcases oif_or h with ⟨c10, h⟩ | ⟨c10, h⟩
        · have h := h
          exact SP.tr p2 (s_X3_parseFilter_b52 ih _ _ _ _ h)
        · have h := h
          exact SP.tr p2 (s_X3_parseFilter_b81 _ h)
set_option maxHeartbeats 4000000 in
set_option maxRecDepth 100000 in
theorem s_X3_parseFilter_b13 {e1 : Nat} {r1 : Int32} {T1 : AT} : ∀ (T : AT) (s0 : Int32) (s1 : Nat) (l0 : Nat) (l1 : Nat), g_X3_parseFilter_b13 T s0 s1 l0 l1 = some (e1, r1, T1) → SP T T1 := by
  intro T s0 s1 l0 l1 h
  have p0 := SP.rf T
  unfold g_X3_parseFilter_b13 at h
  obtain ⟨g2, h⟩ := oif_some h
  rcases othr_s h with ⟨k9, r9, e9, -⟩ | ⟨r4, T3, eT3, h⟩
  · exact SP.tr p0 (s_X3_startLine e9)
  have p1 : SP T T3 := SP.tr p0 (s_X3_startLine eT3)
  obtain ⟨g5, h⟩ := oif_some h
  rcases othr_s h with ⟨k9, r9, e9, -⟩ | ⟨r7, T6, eT6, h⟩
  · exact SP.tr p1 (s_X3_signed e9)
  have p2 : SP T T6 := SP.tr p1 (s_X3_signed eT6)
  obtain ⟨g8, h⟩ := oif_some h
  obtain ⟨T9, eT9, h⟩ := obind_some h
  have p3 : SP T T9 := SP.tr p2 (s_X6_addTap eT9)
  exact SP.tr p3 (s_X3_parseFilter_b31 _ _ _ _ _ h)
set_option maxHeartbeats 4000000 in
set_option maxRecDepth 100000 in
theorem s_X3_parseFilter {T : AT} {o : Nat} {a0 : Nat} {e1 : Nat} {r1 : Int32} {T1 : AT} (h : g_X3_parseFilter T o a0 = some (e1, r1, T1)) : SP T T1 := by
  have p0 := SP.rf T
  unfold g_X3_parseFilter at h
  obtain ⟨g2, h⟩ := oif_some h
  obtain ⟨v3, -, h⟩ := elet_some h
  rcases oif_or h with ⟨c4, h⟩ | ⟨c4, h⟩
  · have h := h
    exact SP.tr p0 (s_X3_parseFilter_b13 _ _ _ _ _ h)
  · have h := h
    exact SP.tr p0 (s_X3_parseFilter_b13 _ _ _ _ _ h)
set_option maxHeartbeats 4000000 in
set_option maxRecDepth 100000 in
theorem x_X3_parseFilter_b81 {p : Program} {l : Launch} {e : Env} {s : State} {m : MethodId} {args : Array Value} {below : List Frame} {meth : Method} {c : Code} {Qc : Array Value → State → Outcome → State → Prop} {XC : String → State → State → Prop} {D : va_G} {A : Nat → Prop} {cI cJ cZ cMic cSrc cSt cAI cAJ : ClassId} {ad : Nat → Nat} {e1 : Nat} {r1 : Int32} {T1 : AT} (E : cE p c cX3_parseFilter s m args (Cond.code yX3_parseFilter cX3_parseFilter 3 none :: wsA) D RX3 (CT cI cJ cZ cMic cSrc cSt cAI cAJ)) (hA : ∀ q : Nat, s.heap.size ≤ q → A q) (hX : xT A s) (hN : nX s) (hml : c.maxLocals = 3) (hz9 : True) (hst : l.stackTraces = false) (htab : ∀ x ∈ c.exceptionTable.toList, False) (hlocks : meth.locks = false) (kx : ∀ (H : Heap) (locs : List Loc) (t : State), gC cI cJ cZ cMic cSrc cSt cAI cAJ D ad A s.heap H locs T1 → s.vm.Alike t.vm → H.size ≤ t.heap.size → (∀ q, q < H.size → t.heap[q]? = H[q]?) → XC (exn e1) s t) : ∀ (T : AT) (H : Heap) (locs : List Loc) (ls : Array Slot), g_X3_parseFilter_b81 T = some (e1 + 1, r1, T1) → gC cI cJ cZ cMic cSrc cSt cAI cAJ D ad A s.heap H locs T → lv_has ls 3 [] → W p l e { frames := 9, cells := 1, slots := 6, locals := 148 } s m args below meth c H locs 0 0 (vx_MQ below Qc XC args s 1 6 A) (F0 m 81 ls []) := by
  have hx := E.1
  have hb := E.2.1
  have hts := E.2.2.1
  have hown := E.2.2.2.1
  have hK := E.2.2.2.2
  intro T H locs ls h G hl
  unfold g_X3_parseFilter_b81 at h
  exact (Nat.succ_ne_zero _ (congrArg Prod.fst (Option.some.inj h)).symm).elim
set_option maxHeartbeats 4000000 in
set_option maxRecDepth 100000 in
theorem x_X3_parseFilter_b63 {p : Program} {l : Launch} {e : Env} {s : State} {m : MethodId} {args : Array Value} {below : List Frame} {meth : Method} {c : Code} {Qc : Array Value → State → Outcome → State → Prop} {XC : String → State → State → Prop} {D : va_G} {A : Nat → Prop} {cI cJ cZ cMic cSrc cSt cAI cAJ : ClassId} {ad : Nat → Nat} {e1 : Nat} {r1 : Int32} {T1 : AT} (E : cE p c cX3_parseFilter s m args (Cond.code yX3_parseFilter cX3_parseFilter 3 none :: wsA) D RX3 (CT cI cJ cZ cMic cSrc cSt cAI cAJ)) (hA : ∀ q : Nat, s.heap.size ≤ q → A q) (hX : xT A s) (hN : nX s) (hml : c.maxLocals = 3) (hz9 : True) (hst : l.stackTraces = false) (htab : ∀ x ∈ c.exceptionTable.toList, False) (hlocks : meth.locks = false) (kx : ∀ (H : Heap) (locs : List Loc) (t : State), gC cI cJ cZ cMic cSrc cSt cAI cAJ D ad A s.heap H locs T1 → s.vm.Alike t.vm → H.size ≤ t.heap.size → (∀ q, q < H.size → t.heap[q]? = H[q]?) → XC (exn e1) s t) {k31 : AT → Nat → Nat → Int32 → Option (Nat × Int32 × AT)} (hk31 : ∀ (T : AT) (H : Heap) (locs : List Loc) (ls : Array Slot) (l0 : Nat) (l1 : Nat) (l2 : Int32), k31 T l0 l1 l2 = some (e1 + 1, r1, T1) → gC cI cJ cZ cMic cSrc cSt cAI cAJ D ad A s.heap H locs T → lv_has ls 3 [(0, .ref (ad l0)), (1, .ref (ad l1)), (2, .int l2)] → W p l e { frames := 9, cells := 1, slots := 6, locals := 148 } s m args below meth c H locs 0 0 (vx_MQ below Qc XC args s 1 6 A) (F0 m 31 ls [])) : ∀ (T : AT) (H : Heap) (locs : List Loc) (ls : Array Slot) (l0 : Nat) (l1 : Nat) (l2 : Int32), g_X3_parseFilter_b63 k31 T l0 l1 l2 = some (e1 + 1, r1, T1) → gC cI cJ cZ cMic cSrc cSt cAI cAJ D ad A s.heap H locs T → lv_has ls 3 [(0, .ref (ad l0)), (1, .ref (ad l1)), (2, .int l2)] → W p l e { frames := 9, cells := 1, slots := 6, locals := 148 } s m args below meth c H locs 0 0 (vx_MQ below Qc XC args s 1 6 A) (F0 m 63 ls []) := by
  have hx := E.1
  have hb := E.2.1
  have hts := E.2.2.1
  have hown := E.2.2.2.1
  have hK := E.2.2.2.2
  intro T H locs ls l0 l1 l2 h G hl
  unfold g_X3_parseFilter_b63 at h
  refine lv_aload_n hx hb dX3_parseFilter_63 rfl (lv_at hl 1 rfl) ?_
  refine lv_aload_n hx hb dX3_parseFilter_64 rfl (lv_at hl 0 rfl) ?_
  refine lv_bipush (v := (-9)) hx hb dX3_parseFilter_65 (by decide) ?_
  refine lv_bipush (v := 9) hx hb dX3_parseFilter_67 (by decide) ?_
  obtain ⟨g2, h⟩ := oif_some h
  rcases othr_t h with ⟨r0, eT3⟩ | ⟨r5, T3, eT3, h⟩
  · refine q_xvi (As := [.int (-9), .int 9]) (rest := [.ref (ad l1)]) E G hA hX hN hml (x_X3_signed l hst D cI cJ cZ cMic cSrc cSt cAI cAJ ad T l0 ((-9) : Int32) (9 : Int32) eT3) (cwV 2 hts (gaV qA_325 qA_326 qA_327 qA_222 qA_328) rfl rfl rfl (by decide +kernel) ⟨Nat.le_of_ble_eq_true rfl, Nat.le_of_ble_eq_true rfl⟩) (oO_k g2).1 (cc_o3 (oO_k g2).2) rfl rfl hl.1 rfl (lv_room (Nat.le_of_ble_eq_true rfl)) dX3_parseFilter_69 ⟨Nat.le_of_ble_eq_true rfl, Nat.le_of_ble_eq_true rfl⟩ (fun E9 ce q9 T9 H locs hp G hce hcv hcl => ?_)
    obtain ⟨hE, hT⟩ := hp
    subst hE
    rw [hT] at G
    exact vx_out (fun x hx => (htab x hx).elim) hlocks hce hcv hcl (fun t ht hvm => kx _ _ _ G hvm (by rw [ht]; exact Nat.le_refl _) (fun q hq => by rw [ht])) G.2.2.2.2 (Nat.le_refl _) (Nat.le_refl _)
  refine q_cvi (As := [.int (-9), .int 9]) (rest := [.ref (ad l1)]) E G hA hX hN hml (u_X3_signed l hst D cI cJ cZ cMic cSrc cSt cAI cAJ ad T l0 ((-9) : Int32) (9 : Int32) eT3) (cwV 2 hts (gaV qA_325 qA_326 qA_327 qA_222 qA_328) rfl rfl rfl (by decide +kernel) ⟨Nat.le_of_ble_eq_true rfl, Nat.le_of_ble_eq_true rfl⟩) (oO_k g2).1 (cc_o3 (oO_k g2).2) rfl rfl hl.1 rfl (lv_room (Nat.le_of_ble_eq_true rfl)) dX3_parseFilter_69 ⟨Nat.zero_le _, Nat.zero_le _⟩ (fun q6 T4 H locs hq G => ?_)
  obtain ⟨hq1, hq2⟩ := hq
  rw [hq2] at G
  refine lv_to hq1 ?_
  clear hq1 hq2 eT3
  obtain ⟨g7, h⟩ := oif_some h
  obtain ⟨T8, eT8, h⟩ := obind_some h
  refine q_cvv (As := [.int r5]) (rest := []) E G hA hX hN hml (u_X6_addTap l hst D cI cJ cZ cMic cSrc cSt cAI cAJ ad T3 l1 r5 eT8) (cwV 1 hts (gaV qA_371 qA_372 qA_373 qA_207 qA_374) rfl rfl rfl (by decide +kernel) ⟨Nat.le_of_ble_eq_true rfl, Nat.le_of_ble_eq_true rfl⟩) (oO_k g7).1 (cc_o6 (oO_k g7).2) rfl rfl hl.1 rfl (lv_room (Nat.le_of_ble_eq_true rfl)) dX3_parseFilter_72 ⟨Nat.zero_le _, Nat.zero_le _⟩ (fun T9 H locs hq G => ?_)
  rw [hq] at G
  clear hq eT8
  obtain ⟨v10, ev10, h⟩ := elet_some h
  refine lv_iinc (v := v10) (lv' := [(2, .int v10), (0, .ref (ad l0)), (1, .ref (ad l1))]) hx hb dX3_parseFilter_75 hl (k := 2) rfl ev10.symm (by decide) rfl (fun ls hl => ?_)
  refine lv_goto (tgt := 31) hx hb dX3_parseFilter_78 (by decide) ?_
  have hl := lv_sub hl [1, 2, 0] rfl
  exact hk31 _ _ _ _ _ _ _ h G hl
set_option maxHeartbeats 4000000 in
set_option maxRecDepth 100000 in
theorem x_X3_parseFilter_b52 {p : Program} {l : Launch} {e : Env} {s : State} {m : MethodId} {args : Array Value} {below : List Frame} {meth : Method} {c : Code} {Qc : Array Value → State → Outcome → State → Prop} {XC : String → State → State → Prop} {D : va_G} {A : Nat → Prop} {cI cJ cZ cMic cSrc cSt cAI cAJ : ClassId} {ad : Nat → Nat} {e1 : Nat} {r1 : Int32} {T1 : AT} (E : cE p c cX3_parseFilter s m args (Cond.code yX3_parseFilter cX3_parseFilter 3 none :: wsA) D RX3 (CT cI cJ cZ cMic cSrc cSt cAI cAJ)) (hA : ∀ q : Nat, s.heap.size ≤ q → A q) (hX : xT A s) (hN : nX s) (hml : c.maxLocals = 3) (hz9 : True) (hst : l.stackTraces = false) (htab : ∀ x ∈ c.exceptionTable.toList, False) (hlocks : meth.locks = false) (kx : ∀ (H : Heap) (locs : List Loc) (t : State), gC cI cJ cZ cMic cSrc cSt cAI cAJ D ad A s.heap H locs T1 → s.vm.Alike t.vm → H.size ≤ t.heap.size → (∀ q, q < H.size → t.heap[q]? = H[q]?) → XC (exn e1) s t) {k31 : AT → Nat → Nat → Int32 → Option (Nat × Int32 × AT)} (hk31 : ∀ (T : AT) (H : Heap) (locs : List Loc) (ls : Array Slot) (l0 : Nat) (l1 : Nat) (l2 : Int32), k31 T l0 l1 l2 = some (e1 + 1, r1, T1) → gC cI cJ cZ cMic cSrc cSt cAI cAJ D ad A s.heap H locs T → lv_has ls 3 [(0, .ref (ad l0)), (1, .ref (ad l1)), (2, .int l2)] → W p l e { frames := 9, cells := 1, slots := 6, locals := 148 } s m args below meth c H locs 0 0 (vx_MQ below Qc XC args s 1 6 A) (F0 m 31 ls [])) : ∀ (T : AT) (H : Heap) (locs : List Loc) (ls : Array Slot) (l0 : Nat) (l1 : Nat) (l2 : Int32), g_X3_parseFilter_b52 k31 T l0 l1 l2 = some (e1 + 1, r1, T1) → gC cI cJ cZ cMic cSrc cSt cAI cAJ D ad A s.heap H locs T → lv_has ls 3 [(0, .ref (ad l0)), (1, .ref (ad l1)), (2, .int l2)] → W p l e { frames := 9, cells := 1, slots := 6, locals := 148 } s m args below meth c H locs 0 0 (vx_MQ below Qc XC args s 1 6 A) (F0 m 52 ls []) := by
  have hx := E.1
  have hb := E.2.1
  have hts := E.2.2.1
  have hown := E.2.2.2.1
  have hK := E.2.2.2.2
  intro T H locs ls l0 l1 l2 h G hl
  unfold g_X3_parseFilter_b52 at h
  refine lv_iload_n hx hb dX3_parseFilter_52 rfl (lv_at hl 2 rfl) ?_
  refine lv_iconst (v := 5) hx hb dX3_parseFilter_53 (by decide) ?_
  refine lv_icmp_ne (tgt := 63) hx hb dX3_parseFilter_54 (by decide) (fun c2 => ?_) (fun c2 => ?_)
  · have h := oif_neg c2 h
    have hl := lv_sub hl [0, 1, 2] rfl
    exact x_X3_parseFilter_b63 E hA hX hN hml trivial hst htab hlocks kx hk31 _ _ _ _ _ _ _ h G hl
  · have h := oif_pos c2 h
    refine lv_aload_n hx hb dX3_parseFilter_57 rfl (lv_at hl 0 rfl) ?_
    refine lv_bipush (v := 9) hx hb dX3_parseFilter_58 (by decide) ?_
    obtain ⟨g3, h⟩ := oif_some h
    rcases othr_t h with ⟨r0, eT4⟩ | ⟨r6, T4, eT4, h⟩
    · refine q_xvv (As := [.int 9]) (rest := []) E G hA hX hN hml (x_X3_failAsTooMany l hst D cI cJ cZ cMic cSrc cSt cAI cAJ ad T l0 (9 : Int32) eT4) (cwV 1 hts (gaV qA_376 qA_377 qA_378 qA_222 qA_379) rfl rfl rfl (by decide +kernel) ⟨Nat.le_of_ble_eq_true rfl, Nat.le_of_ble_eq_true rfl⟩) (oO_k g3).1 (cc_o3 (oO_k g3).2) rfl rfl hl.1 rfl (lv_room (Nat.le_of_ble_eq_true rfl)) dX3_parseFilter_60 ⟨Nat.le_of_ble_eq_true rfl, Nat.le_of_ble_eq_true rfl⟩ (fun E9 ce q9 T9 H locs hp G hce hcv hcl => ?_)
      obtain ⟨hE, hT⟩ := hp
      subst hE
      rw [hT] at G
      exact vx_out (fun x hx => (htab x hx).elim) hlocks hce hcv hcl (fun t ht hvm => kx _ _ _ G hvm (by rw [ht]; exact Nat.le_refl _) (fun q hq => by rw [ht])) G.2.2.2.2 (Nat.le_refl _) (Nat.le_refl _)
    refine q_cvv (As := [.int 9]) (rest := []) E G hA hX hN hml (u_X3_failAsTooMany l hst D cI cJ cZ cMic cSrc cSt cAI cAJ ad T l0 (9 : Int32) eT4) (cwV 1 hts (gaV qA_376 qA_377 qA_378 qA_222 qA_379) rfl rfl rfl (by decide +kernel) ⟨Nat.le_of_ble_eq_true rfl, Nat.le_of_ble_eq_true rfl⟩) (oO_k g3).1 (cc_o3 (oO_k g3).2) rfl rfl hl.1 rfl (lv_room (Nat.le_of_ble_eq_true rfl)) dX3_parseFilter_60 ⟨Nat.zero_le _, Nat.zero_le _⟩ (fun T5 H locs hq G => ?_)
    rw [hq] at G
    clear hq eT4
    have hl := lv_sub hl [0, 1, 2] rfl
    exact x_X3_parseFilter_b63 E hA hX hN hml trivial hst htab hlocks kx hk31 _ _ _ _ _ _ _ h G hl
set_option maxHeartbeats 4000000 in
set_option maxRecDepth 100000 in
theorem x_X3_parseFilter_b31 {p : Program} {l : Launch} {e : Env} {s : State} {m : MethodId} {args : Array Value} {below : List Frame} {meth : Method} {c : Code} {Qc : Array Value → State → Outcome → State → Prop} {XC : String → State → State → Prop} {D : va_G} {A : Nat → Prop} {cI cJ cZ cMic cSrc cSt cAI cAJ : ClassId} {ad : Nat → Nat} {e1 : Nat} {r1 : Int32} {T1 : AT} (E : cE p c cX3_parseFilter s m args (Cond.code yX3_parseFilter cX3_parseFilter 3 none :: wsA) D RX3 (CT cI cJ cZ cMic cSrc cSt cAI cAJ)) (hA : ∀ q : Nat, s.heap.size ≤ q → A q) (hX : xT A s) (hN : nX s) (hml : c.maxLocals = 3) (hz9 : True) (hst : l.stackTraces = false) (htab : ∀ x ∈ c.exceptionTable.toList, False) (hlocks : meth.locks = false) (kx : ∀ (H : Heap) (locs : List Loc) (t : State), gC cI cJ cZ cMic cSrc cSt cAI cAJ D ad A s.heap H locs T1 → s.vm.Alike t.vm → H.size ≤ t.heap.size → (∀ q, q < H.size → t.heap[q]? = H[q]?) → XC (exn e1) s t) : ∀ n : Nat, ∀ (T : AT) (H : Heap) (locs : List Loc) (ls : Array Slot) (l0 : Nat) (l1 : Nat) (l2 : Int32), g_X3_parseFilter_b31 n T l0 l1 l2 = some (e1 + 1, r1, T1) → gC cI cJ cZ cMic cSrc cSt cAI cAJ D ad A s.heap H locs T → lv_has ls 3 [(0, .ref (ad l0)), (1, .ref (ad l1)), (2, .int l2)] → W p l e { frames := 9, cells := 1, slots := 6, locals := 148 } s m args below meth c H locs 0 0 (vx_MQ below Qc XC args s 1 6 A) (F0 m 31 ls []) := by
  have hx := E.1
  have hb := E.2.1
  have hts := E.2.2.1
  have hown := E.2.2.2.1
  have hK := E.2.2.2.2
  intro n
  induction n with
  | zero =>
    intro T H locs ls l0 l1 l2 h
    have h : (none : Option (Nat × Int32 × AT)) = some (e1 + 1, r1, T1) := h
    cases h
  | succ n ih =>
    intro T H locs ls l0 l1 l2 h G hl
    unfold g_X3_parseFilter_b31 at h
    refine lv_iload_n hx hb dX3_parseFilter_31 rfl (lv_at hl 2 rfl) ?_
    refine lv_iconst (v := 5) hx hb dX3_parseFilter_32 (by decide) ?_
    refine lv_icmp_gt (tgt := 81) hx hb dX3_parseFilter_33 (by decide) (fun c2 => ?_) (fun c2 => ?_)
    · have h := oif_pos c2 h
      have hl := lv_sub hl [] rfl
      exact x_X3_parseFilter_b81 E hA hX hN hml trivial hst htab hlocks kx _ _ _ _ h G hl
    · have h := oif_neg c2 h
      refine lv_aload_n hx hb dX3_parseFilter_36 rfl (lv_at hl 0 rfl) ?_
      obtain ⟨g3, h⟩ := oif_some h
      obtain ⟨r6, T4, eT4, h⟩ := obind2_some h
      refine q_cvi (As := []) (rest := []) E G hA hX hN hml (u_X3_kind l hst D cI cJ cZ cMic cSrc cSt cAI cAJ ad T l0 eT4) (cwV 0 hts (gaV qA_239 qA_240 qA_241 qA_222 qA_242) rfl rfl rfl (by decide +kernel) ⟨Nat.le_of_ble_eq_true rfl, Nat.le_of_ble_eq_true rfl⟩) (oO_k g3).1 (cc_o3 (oO_k g3).2) rfl rfl hl.1 rfl (lv_room (Nat.le_of_ble_eq_true rfl)) dX3_parseFilter_37 ⟨Nat.zero_le _, Nat.zero_le _⟩ (fun q7 T5 H locs hq G => ?_)
      obtain ⟨hq1, hq2⟩ := hq
      rw [hq2] at G
      refine lv_to hq1 ?_
      clear hq1 hq2 eT4
      refine lv_iconst (v := 2) hx hb dX3_parseFilter_40 (by decide) ?_
      refine lv_icmp_eq (tgt := 52) hx hb dX3_parseFilter_41 (by decide) (fun c8 => ?_) (fun c8 => ?_)
      · have h := oif_pos c8 h
        have hl := lv_sub hl [0, 1, 2] rfl
        exact x_X3_parseFilter_b52 E hA hX hN hml trivial hst htab hlocks kx ih _ _ _ _ _ _ _ h G hl
      · have h := oif_neg c8 h
        refine lv_aload_n hx hb dX3_parseFilter_44 rfl (lv_at hl 0 rfl) ?_
        obtain ⟨g9, h⟩ := oif_some h
        obtain ⟨r12, T10, eT10, h⟩ := obind2_some h
        refine q_cvi (As := []) (rest := []) E G hA hX hN hml (u_X3_kind l hst D cI cJ cZ cMic cSrc cSt cAI cAJ ad T4 l0 eT10) (cwV 0 hts (gaV qA_239 qA_240 qA_241 qA_222 qA_242) rfl rfl rfl (by decide +kernel) ⟨Nat.le_of_ble_eq_true rfl, Nat.le_of_ble_eq_true rfl⟩) (oO_k g9).1 (cc_o3 (oO_k g9).2) rfl rfl hl.1 rfl (lv_room (Nat.le_of_ble_eq_true rfl)) dX3_parseFilter_45 ⟨Nat.zero_le _, Nat.zero_le _⟩ (fun q13 T11 H locs hq G => ?_)
        obtain ⟨hq1, hq2⟩ := hq
        rw [hq2] at G
        refine lv_to hq1 ?_
        clear hq1 hq2 eT10
        refine lv_iconst (v := 3) hx hb dX3_parseFilter_48 (by decide) ?_
        refine lv_icmp_ne (tgt := 81) hx hb dX3_parseFilter_49 (by decide) (fun c14 => ?_) (fun c14 => ?_)
        · have h := oif_neg c14 h
          have hl := lv_sub hl [] rfl
          exact x_X3_parseFilter_b81 E hA hX hN hml trivial hst htab hlocks kx _ _ _ _ h G hl
        · have h := oif_pos c14 h
          have hl := lv_sub hl [0, 1, 2] rfl
          exact x_X3_parseFilter_b52 E hA hX hN hml trivial hst htab hlocks kx ih _ _ _ _ _ _ _ h G hl
set_option maxHeartbeats 4000000 in
set_option maxRecDepth 100000 in
theorem x_X3_parseFilter_b13 {p : Program} {l : Launch} {e : Env} {s : State} {m : MethodId} {args : Array Value} {below : List Frame} {meth : Method} {c : Code} {Qc : Array Value → State → Outcome → State → Prop} {XC : String → State → State → Prop} {D : va_G} {A : Nat → Prop} {cI cJ cZ cMic cSrc cSt cAI cAJ : ClassId} {ad : Nat → Nat} {e1 : Nat} {r1 : Int32} {T1 : AT} (E : cE p c cX3_parseFilter s m args (Cond.code yX3_parseFilter cX3_parseFilter 3 none :: wsA) D RX3 (CT cI cJ cZ cMic cSrc cSt cAI cAJ)) (hA : ∀ q : Nat, s.heap.size ≤ q → A q) (hX : xT A s) (hN : nX s) (hml : c.maxLocals = 3) (hz9 : True) (hst : l.stackTraces = false) (htab : ∀ x ∈ c.exceptionTable.toList, False) (hlocks : meth.locks = false) (kx : ∀ (H : Heap) (locs : List Loc) (t : State), gC cI cJ cZ cMic cSrc cSt cAI cAJ D ad A s.heap H locs T1 → s.vm.Alike t.vm → H.size ≤ t.heap.size → (∀ q, q < H.size → t.heap[q]? = H[q]?) → XC (exn e1) s t) : ∀ (T : AT) (H : Heap) (locs : List Loc) (ls : Array Slot) (s0 : Int32) (s1 : Nat) (l0 : Nat) (l1 : Nat), g_X3_parseFilter_b13 T s0 s1 l0 l1 = some (e1 + 1, r1, T1) → gC cI cJ cZ cMic cSrc cSt cAI cAJ D ad A s.heap H locs T → lv_has ls 3 [(0, .ref (ad l0)), (1, .ref (ad l1))] → W p l e { frames := 9, cells := 1, slots := 6, locals := 148 } s m args below meth c H locs 0 0 (vx_MQ below Qc XC args s 1 6 A) (F0 m 13 ls [.int s0, .ref (ad s1)]) := by
  have hx := E.1
  have hb := E.2.1
  have hts := E.2.2.1
  have hown := E.2.2.2.1
  have hK := E.2.2.2.2
  intro T H locs ls s0 s1 l0 l1 h G hl
  unfold g_X3_parseFilter_b13 at h
  refine lv_iconst (v := 3) hx hb dX3_parseFilter_13 (by decide) ?_
  obtain ⟨g2, h⟩ := oif_some h
  rcases othr_t h with ⟨r0, eT3⟩ | ⟨r5, T3, eT3, h⟩
  · refine q_xvv (As := [.int s0, .int 3]) (rest := []) E G hA hX hN hml (x_X3_startLine l hst D cI cJ cZ cMic cSrc cSt cAI cAJ ad T s1 s0 (3 : Int32) eT3) (cwV 2 hts (gaV qA_321 qA_322 qA_323 qA_222 qA_324) rfl rfl rfl (by decide +kernel) ⟨Nat.le_of_ble_eq_true rfl, Nat.le_of_ble_eq_true rfl⟩) (oO_k g2).1 (cc_o3 (oO_k g2).2) rfl rfl hl.1 rfl (lv_room (Nat.le_of_ble_eq_true rfl)) dX3_parseFilter_14 ⟨Nat.le_of_ble_eq_true rfl, Nat.le_of_ble_eq_true rfl⟩ (fun E9 ce q9 T9 H locs hp G hce hcv hcl => ?_)
    obtain ⟨hE, hT⟩ := hp
    subst hE
    rw [hT] at G
    exact vx_out (fun x hx => (htab x hx).elim) hlocks hce hcv hcl (fun t ht hvm => kx _ _ _ G hvm (by rw [ht]; exact Nat.le_refl _) (fun q hq => by rw [ht])) G.2.2.2.2 (Nat.le_refl _) (Nat.le_refl _)
  refine q_cvv (As := [.int s0, .int 3]) (rest := []) E G hA hX hN hml (u_X3_startLine l hst D cI cJ cZ cMic cSrc cSt cAI cAJ ad T s1 s0 (3 : Int32) eT3) (cwV 2 hts (gaV qA_321 qA_322 qA_323 qA_222 qA_324) rfl rfl rfl (by decide +kernel) ⟨Nat.le_of_ble_eq_true rfl, Nat.le_of_ble_eq_true rfl⟩) (oO_k g2).1 (cc_o3 (oO_k g2).2) rfl rfl hl.1 rfl (lv_room (Nat.le_of_ble_eq_true rfl)) dX3_parseFilter_14 ⟨Nat.zero_le _, Nat.zero_le _⟩ (fun T4 H locs hq G => ?_)
  rw [hq] at G
  clear hq eT3
  refine lv_aload_n hx hb dX3_parseFilter_17 rfl (lv_at hl 1 rfl) ?_
  refine lv_aload_n hx hb dX3_parseFilter_18 rfl (lv_at hl 0 rfl) ?_
  refine lv_bipush (v := (-9)) hx hb dX3_parseFilter_19 (by decide) ?_
  refine lv_bipush (v := 9) hx hb dX3_parseFilter_21 (by decide) ?_
  obtain ⟨g7, h⟩ := oif_some h
  rcases othr_t h with ⟨r0, eT8⟩ | ⟨r10, T8, eT8, h⟩
  · refine q_xvi (As := [.int (-9), .int 9]) (rest := [.ref (ad l1)]) E G hA hX hN hml (x_X3_signed l hst D cI cJ cZ cMic cSrc cSt cAI cAJ ad T3 l0 ((-9) : Int32) (9 : Int32) eT8) (cwV 2 hts (gaV qA_325 qA_326 qA_327 qA_222 qA_328) rfl rfl rfl (by decide +kernel) ⟨Nat.le_of_ble_eq_true rfl, Nat.le_of_ble_eq_true rfl⟩) (oO_k g7).1 (cc_o3 (oO_k g7).2) rfl rfl hl.1 rfl (lv_room (Nat.le_of_ble_eq_true rfl)) dX3_parseFilter_23 ⟨Nat.le_of_ble_eq_true rfl, Nat.le_of_ble_eq_true rfl⟩ (fun E9 ce q9 T9 H locs hp G hce hcv hcl => ?_)
    obtain ⟨hE, hT⟩ := hp
    subst hE
    rw [hT] at G
    exact vx_out (fun x hx => (htab x hx).elim) hlocks hce hcv hcl (fun t ht hvm => kx _ _ _ G hvm (by rw [ht]; exact Nat.le_refl _) (fun q hq => by rw [ht])) G.2.2.2.2 (Nat.le_refl _) (Nat.le_refl _)
  refine q_cvi (As := [.int (-9), .int 9]) (rest := [.ref (ad l1)]) E G hA hX hN hml (u_X3_signed l hst D cI cJ cZ cMic cSrc cSt cAI cAJ ad T3 l0 ((-9) : Int32) (9 : Int32) eT8) (cwV 2 hts (gaV qA_325 qA_326 qA_327 qA_222 qA_328) rfl rfl rfl (by decide +kernel) ⟨Nat.le_of_ble_eq_true rfl, Nat.le_of_ble_eq_true rfl⟩) (oO_k g7).1 (cc_o3 (oO_k g7).2) rfl rfl hl.1 rfl (lv_room (Nat.le_of_ble_eq_true rfl)) dX3_parseFilter_23 ⟨Nat.zero_le _, Nat.zero_le _⟩ (fun q11 T9 H locs hq G => ?_)
  obtain ⟨hq1, hq2⟩ := hq
  rw [hq2] at G
  refine lv_to hq1 ?_
  clear hq1 hq2 eT8
  obtain ⟨g12, h⟩ := oif_some h
  obtain ⟨T13, eT13, h⟩ := obind_some h
  refine q_cvv (As := [.int r10]) (rest := []) E G hA hX hN hml (u_X6_addTap l hst D cI cJ cZ cMic cSrc cSt cAI cAJ ad T8 l1 r10 eT13) (cwV 1 hts (gaV qA_371 qA_372 qA_373 qA_207 qA_374) rfl rfl rfl (by decide +kernel) ⟨Nat.le_of_ble_eq_true rfl, Nat.le_of_ble_eq_true rfl⟩) (oO_k g12).1 (cc_o6 (oO_k g12).2) rfl rfl hl.1 rfl (lv_room (Nat.le_of_ble_eq_true rfl)) dX3_parseFilter_26 ⟨Nat.zero_le _, Nat.zero_le _⟩ (fun T14 H locs hq G => ?_)
  rw [hq] at G
  clear hq eT13
  refine lv_iconst (v := 1) hx hb dX3_parseFilter_29 (by decide) ?_
  refine lv_istore_n (lv' := [(2, .int 1), (0, .ref (ad l0)), (1, .ref (ad l1))]) hx hb dX3_parseFilter_30 rfl hl (by decide) rfl (fun ls hl => ?_)
  have hl := lv_sub hl [1, 2, 0] rfl
  exact x_X3_parseFilter_b31 E hA hX hN hml trivial hst htab hlocks kx _ _ _ _ _ _ _ _ h G hl
set_option maxHeartbeats 4000000 in
set_option maxRecDepth 100000 in
theorem x_X3_parseFilter (l : Launch) (hst : l.stackTraces = false) (D : va_G) (cI cJ cZ cMic cSrc cSt cAI cAJ : ClassId) (ad : Nat → Nat) (T : AT) (o : Nat) (a0 : Nat) {e1 : Nat} {r1 : Int32} {T1 : AT} (h : g_X3_parseFilter T o a0 = some (e1 + 1, r1, T1)) : kXv l yX3_parseFilter (Cond.code yX3_parseFilter cX3_parseFilter 3 none :: wsA) 9 148 cI cJ cZ cMic cSrc cSt cAI cAJ D ad T [.ref (ad o), .ref (ad a0)] e1 T1 := by
  intro sz
  refine vx_ofW (cc := cX3_parseFilter) (maxL := 3) (ret := none) (by decide) rfl ?_
  intro p e s m args below meth c s₁ B hml htab hv
  obtain ⟨rfl, hsz, hP, hK, hD0, hX, hN⟩ := hv
  have hx := B.exec
  have hb := B.bytes
  have hr := B.returns
  have hts := atoms_spec (ws := (Cond.code yX3_parseFilter cX3_parseFilter 3 none :: wsA)) B.pre
  have hown : s.vm.findClass RX3 = some m.cls := findClass_of_methodNamed B.named
  have hlocks := B.notSynchronized
  subst hsz
  have hD := hD0.self (sz := s.heap.size)
  generalize hAe : va_A (cW ad T.1 (cc cI cJ cZ cMic cSrc cSt cAI cAJ ad T)) s.heap.size = A at hD hX ⊢
  have hA : ∀ q : Nat, s.heap.size ≤ q → A q := fun q h => by rw [← hAe]; exact Or.inr h
  have G : gC cI cJ cZ cMic cSrc cSt cAI cAJ D ad A s.heap s.heap [] T := ⟨hP, hD, va_S.rf⟩
  have E : cE p c cX3_parseFilter s m ([.ref (ad o), .ref (ad a0)] : List Value).toArray (Cond.code yX3_parseFilter cX3_parseFilter 3 none :: wsA) D RX3 (CT cI cJ cZ cMic cSrc cSt cAI cAJ) := ⟨hx, hb, hts, hown, hK⟩
  have htab : ∀ x ∈ c.exceptionTable.toList, False := fun x hx => htab x hx
  have hl := lv_entry ([.ref (ad o), .ref (ad a0)]) (n := 3) (Nat.le_of_ble_eq_true rfl)
  rw [lg_entry_eq]
  generalize (lg_sl ([.ref (ad o), .ref (ad a0)]) ++ List.replicate (3 - (lg_sl ([.ref (ad o), .ref (ad a0)])).length) Slot.unset).toArray = ls at hl ⊢
  have hl : lv_has ls 3 [(0, .ref (ad o)), (1, .ref (ad a0))] := hl
  unfold g_X3_parseFilter at h
  refine lv_aload_n hx hb dX3_parseFilter_0 rfl (lv_at hl 0 rfl) ?_
  refine lv_aload_n hx hb dX3_parseFilter_1 rfl (lv_at hl 1 rfl) ?_
  obtain ⟨g2, h⟩ := oif_some h
  refine c_get E G a0 14 (oO_k g2).1 (cc_o6 (oO_k g2).2) rfl (fun w h => .tail _ (iA_14 h)) (by decide) (.tail _ qA_370) rfl rfl dX3_parseFilter_2 ?_
  refine lv_topi (fun v3 ev3 => ?_)
  have h := elet_at ev3 h
  clear ev3
  refine lv_if_le (tgt := 12) hx hb dX3_parseFilter_5 (by decide) (fun c4 => ?_) (fun c4 => ?_)
  · have h := oif_pos c4 h
    refine lv_iconst (v := 0) hx hb dX3_parseFilter_12 (by decide) ?_
    have hl := lv_sub hl [0, 1] rfl
    exact x_X3_parseFilter_b13 E hA hX hN hml trivial hst htab hlocks (fun H locs t G hvm h1 h2 => ⟨T1, trivial, ⟨⟨rfl, rfl⟩, (c_thrown G hK hvm h1 h2).1⟩, (c_thrown G hK hvm h1 h2).2⟩) _ _ _ _ _ _ _ _ h G hl
  · have h := oif_neg c4 h
    refine lv_iconst (v := 1) hx hb dX3_parseFilter_8 (by decide) ?_
    refine lv_goto (tgt := 13) hx hb dX3_parseFilter_9 (by decide) ?_
    have hl := lv_sub hl [0, 1] rfl
    exact x_X3_parseFilter_b13 E hA hX hN hml trivial hst htab hlocks (fun H locs t G hvm h1 h2 => ⟨T1, trivial, ⟨⟨rfl, rfl⟩, (c_thrown G hK hvm h1 h2).1⟩, (c_thrown G hK hvm h1 h2).2⟩) _ _ _ _ _ _ _ _ h G hl
def g_X3_parseWall_b14  (T : AT) (s0 : Int32) (s1 : Nat) (l0 : Nat) (l1 : Nat) : Option (Nat × Int32 × AT) := oif (oO T s1 3 = true) <| othr (g_X3_startLine T s1 s0 (4 : Int32)) 0 fun r5 T3 => oif (oO T3 l1 6 = true) <| obind (T3.2.2.2.2 l1 9) fun n8 => oif (oO T3 l1 6 = true) <| elet (T3.2.2.1 l1 11) fun v10 => oif (oO T3 l0 3 = true) <| othr (g_X3_signed T3 l0 ((-2000) : Int32) (2000 : Int32)) 0 fun r14 T12 => oif (aA T12 n8 100 = true) <| oif (inb v10 (T12.2.1 n8).2 = true) <| elet (uI T12 n8 v10.toNatClampNeg r14) fun T18 => oif (oO T18 l1 6 = true) <| obind (T18.2.2.2.2 l1 10) fun n20 => oif (oO T18 l1 6 = true) <| elet (T18.2.2.1 l1 11) fun v22 => oif (oO T18 l0 3 = true) <| othr (g_X3_number T18 l0 (1 : Int32) (100 : Int32)) 0 fun r26 T24 => oif (aA T24 n20 100 = true) <| oif (inb v22 (T24.2.1 n20).2 = true) <| elet (uI T24 n20 v22.toNatClampNeg r26) fun T30 => oif (oO T30 l1 6 = true) <| elet (T30.2.2.1 l1 11) fun v32 => elet (v32 + 1) fun v33 => oif (oO T30 l1 6 = true) <| elet (uI T30 l1 11 v33) fun T35 => some (0, 0, T35)
set_option maxHeartbeats 4000000 in
set_option maxRecDepth 100000 in
theorem u_X3_parseWall_b14 {p : Program} {l : Launch} {e : Env} {s : State} {m : MethodId} {args : Array Value} {below : List Frame} {meth : Method} {c : Code} {Q : State → Prop} {D : va_G} {A : Nat → Prop} {cI cJ cZ cMic cSrc cSt cAI cAJ : ClassId} {ad : Nat → Nat} {r1 : Int32} {T1 : AT} (E : cE p c cX3_parseWall s m args (Cond.code yX3_parseWall cX3_parseWall 2 none :: wsA) D RX3 (CT cI cJ cZ cMic cSrc cSt cAI cAJ)) (hA : ∀ q : Nat, s.heap.size ≤ q → A q) (hX : xT A s) (hN : nX s) (hml : c.maxLocals = 2) (hst : l.stackTraces = false) (kr63 : ∀ (H : Heap) (locs : List Loc) (ls : Array Slot), gC cI cJ cZ cMic cSrc cSt cAI cAJ D ad A s.heap H locs T1 → W p l e { frames := 9, cells := 0, slots := 0, locals := 148 } s m args below meth c H locs 0 0 Q (F0 m 63 ls [])) : ∀ (T : AT) (H : Heap) (locs : List Loc) (ls : Array Slot) (s0 : Int32) (s1 : Nat) (l0 : Nat) (l1 : Nat), g_X3_parseWall_b14 T s0 s1 l0 l1 = some (0, r1, T1) → gC cI cJ cZ cMic cSrc cSt cAI cAJ D ad A s.heap H locs T → lv_has ls 2 [(0, .ref (ad l0)), (1, .ref (ad l1))] → W p l e { frames := 9, cells := 0, slots := 0, locals := 148 } s m args below meth c H locs 0 0 Q (F0 m 14 ls [.int s0, .ref (ad s1)]) := by
  have hx := E.1
  have hb := E.2.1
  have hts := E.2.2.1
  have hown := E.2.2.2.1
  have hK := E.2.2.2.2
  intro T H locs ls s0 s1 l0 l1 h G hl
  unfold g_X3_parseWall_b14 at h
  refine lv_iconst (v := 4) hx hb dX3_parseWall_14 (by decide) ?_
  obtain ⟨g2, h⟩ := oif_some h
  obtain ⟨r5, T3, eT3, h⟩ := othr_n h
  refine q_cvv (As := [.int s0, .int 4]) (rest := []) E G hA hX hN hml (u_X3_startLine l hst D cI cJ cZ cMic cSrc cSt cAI cAJ ad T s1 s0 (4 : Int32) eT3) (cwV 2 hts (gaV qA_321 qA_322 qA_323 qA_222 qA_324) rfl rfl rfl (by decide +kernel) ⟨Nat.le_of_ble_eq_true rfl, Nat.le_of_ble_eq_true rfl⟩) (oO_k g2).1 (cc_o3 (oO_k g2).2) rfl rfl hl.1 rfl (lv_room (Nat.le_of_ble_eq_true rfl)) dX3_parseWall_15 ⟨Nat.zero_le _, Nat.zero_le _⟩ (fun T4 H locs hq G => ?_)
  rw [hq] at G
  clear hq eT3
  refine lv_aload_n hx hb dX3_parseWall_18 rfl (lv_at hl 1 rfl) ?_
  obtain ⟨g7, h⟩ := oif_some h
  obtain ⟨n8, en8, h⟩ := obind_some h
  refine c_get E G l1 9 (v := .ref (ad n8)) (oO_k g7).1 (cc_o6 (oO_k g7).2) rfl (fun w h => .tail _ (iA_14 h)) (by decide) (.tail _ qA_364) rfl (by rw [en8]; rfl) dX3_parseWall_19 ?_
  clear en8
  refine lv_aload_n hx hb dX3_parseWall_22 rfl (lv_at hl 1 rfl) ?_
  obtain ⟨g9, h⟩ := oif_some h
  refine c_get E G l1 11 (oO_k g9).1 (cc_o6 (oO_k g9).2) rfl (fun w h => .tail _ (iA_14 h)) (by decide) (.tail _ qA_363) rfl rfl dX3_parseWall_23 ?_
  refine lv_topi (fun v10 ev10 => ?_)
  have h := elet_at ev10 h
  clear ev10
  refine lv_aload_n hx hb dX3_parseWall_26 rfl (lv_at hl 0 rfl) ?_
  refine lv_sipush (v := (-2000)) hx hb dX3_parseWall_27 (by decide) ?_
  refine lv_sipush (v := 2000) hx hb dX3_parseWall_30 (by decide) ?_
  obtain ⟨g11, h⟩ := oif_some h
  obtain ⟨r14, T12, eT12, h⟩ := othr_n h
  refine q_cvi (As := [.int (-2000), .int 2000]) (rest := [.int v10, .ref (ad n8)]) E G hA hX hN hml (u_X3_signed l hst D cI cJ cZ cMic cSrc cSt cAI cAJ ad T3 l0 ((-2000) : Int32) (2000 : Int32) eT12) (cwV 2 hts (gaV qA_325 qA_326 qA_327 qA_222 qA_328) rfl rfl rfl (by decide +kernel) ⟨Nat.le_of_ble_eq_true rfl, Nat.le_of_ble_eq_true rfl⟩) (oO_k g11).1 (cc_o3 (oO_k g11).2) rfl rfl hl.1 rfl (lv_room (Nat.le_of_ble_eq_true rfl)) dX3_parseWall_33 ⟨Nat.zero_le _, Nat.zero_le _⟩ (fun q15 T13 H locs hq G => ?_)
  obtain ⟨hq1, hq2⟩ := hq
  rw [hq2] at G
  refine lv_to hq1 ?_
  clear hq1 hq2 eT12
  obtain ⟨g16, h⟩ := oif_some h
  obtain ⟨g17, h⟩ := oif_some h
  refine c_iast E G n8 0 (k := v10.toNatClampNeg) (v := r14) (aA_k g16).1 (cc_a100 (aA_k g16).2.1) rfl (inb_k g17).1 (inb_k g17).2 (aA_k g16).2.2 dX3_parseWall_36 (fun H locs G => ?_)
  have G := gC_up_i (f := upd (T12.2.2.1 n8) v10.toNatClampNeg r14) (ccv_100 (aA_k g16).2.1) G
  obtain ⟨T18, eT18, h⟩ := elet_some h
  have G : gC cI cJ cZ cMic cSrc cSt cAI cAJ D ad A s.heap H locs T18 := by rw [eT18]; exact G
  clear eT18
  refine lv_aload_n hx hb dX3_parseWall_37 rfl (lv_at hl 1 rfl) ?_
  obtain ⟨g19, h⟩ := oif_some h
  obtain ⟨n20, en20, h⟩ := obind_some h
  refine c_get E G l1 10 (v := .ref (ad n20)) (oO_k g19).1 (cc_o6 (oO_k g19).2) rfl (fun w h => .tail _ (iA_14 h)) (by decide) (.tail _ qA_365) rfl (by rw [en20]; rfl) dX3_parseWall_38 ?_
  clear en20
  refine lv_aload_n hx hb dX3_parseWall_41 rfl (lv_at hl 1 rfl) ?_
  obtain ⟨g21, h⟩ := oif_some h
  refine c_get E G l1 11 (oO_k g21).1 (cc_o6 (oO_k g21).2) rfl (fun w h => .tail _ (iA_14 h)) (by decide) (.tail _ qA_363) rfl rfl dX3_parseWall_42 ?_
  refine lv_topi (fun v22 ev22 => ?_)
  have h := elet_at ev22 h
  clear ev22
  refine lv_aload_n hx hb dX3_parseWall_45 rfl (lv_at hl 0 rfl) ?_
  refine lv_iconst (v := 1) hx hb dX3_parseWall_46 (by decide) ?_
  refine lv_bipush (v := 100) hx hb dX3_parseWall_47 (by decide) ?_
  obtain ⟨g23, h⟩ := oif_some h
  obtain ⟨r26, T24, eT24, h⟩ := othr_n h
  refine q_cvi (As := [.int 1, .int 100]) (rest := [.int v22, .ref (ad n20)]) E G hA hX hN hml (u_X3_number l hst D cI cJ cZ cMic cSrc cSt cAI cAJ ad T18 l0 (1 : Int32) (100 : Int32) eT24) (cwV 2 hts (gaV qA_299 qA_300 qA_301 qA_222 qA_302) rfl rfl rfl (by decide +kernel) ⟨Nat.le_of_ble_eq_true rfl, Nat.le_of_ble_eq_true rfl⟩) (oO_k g23).1 (cc_o3 (oO_k g23).2) rfl rfl hl.1 rfl (lv_room (Nat.le_of_ble_eq_true rfl)) dX3_parseWall_49 ⟨Nat.zero_le _, Nat.zero_le _⟩ (fun q27 T25 H locs hq G => ?_)
  obtain ⟨hq1, hq2⟩ := hq
  rw [hq2] at G
  refine lv_to hq1 ?_
  clear hq1 hq2 eT24
  obtain ⟨g28, h⟩ := oif_some h
  obtain ⟨g29, h⟩ := oif_some h
  refine c_iast E G n20 0 (k := v22.toNatClampNeg) (v := r26) (aA_k g28).1 (cc_a100 (aA_k g28).2.1) rfl (inb_k g29).1 (inb_k g29).2 (aA_k g28).2.2 dX3_parseWall_52 (fun H locs G => ?_)
  have G := gC_up_i (f := upd (T24.2.2.1 n20) v22.toNatClampNeg r26) (ccv_100 (aA_k g28).2.1) G
  obtain ⟨T30, eT30, h⟩ := elet_some h
  have G : gC cI cJ cZ cMic cSrc cSt cAI cAJ D ad A s.heap H locs T30 := by rw [eT30]; exact G
  clear eT30
  refine lv_aload_n hx hb dX3_parseWall_53 rfl (lv_at hl 1 rfl) ?_
  refine lv_dup hx hb dX3_parseWall_54 rfl ?_
  obtain ⟨g31, h⟩ := oif_some h
  refine c_get E G l1 11 (oO_k g31).1 (cc_o6 (oO_k g31).2) rfl (fun w h => .tail _ (iA_14 h)) (by decide) (.tail _ qA_363) rfl rfl dX3_parseWall_55 ?_
  refine lv_topi (fun v32 ev32 => ?_)
  have h := elet_at ev32 h
  clear ev32
  refine lv_iconst (v := 1) hx hb dX3_parseWall_58 (by decide) ?_
  refine lv_iadd hx hb dX3_parseWall_59 ?_
  refine lv_topi (fun v33 ev33 => ?_)
  have h := elet_at ev33 h
  clear ev33
  obtain ⟨g34, h⟩ := oif_some h
  refine c_put E G l1 11 (v := .int v33) (oO_k g34).1 (cc_o6 (oO_k g34).2) rfl (fun w h => .tail _ (iA_14 h)) tyX6 tyX6_ok nmX6 (by decide) (.tail _ qA_363) ⟨rfl, rfl, rfl⟩ rfl rfl (Nat.le_of_ble_eq_true rfl) dX3_parseWall_60 (fun H locs G => ?_)
  have G := gC_up_i (f := upd (T30.2.2.1 l1) 11 v33) (by rw [(oO_k g34).2]; rfl) G
  obtain ⟨T35, eT35, h⟩ := elet_some h
  have G : gC cI cJ cZ cMic cSrc cSt cAI cAJ D ad A s.heap H locs T35 := by rw [eT35]; exact G
  clear eT35
  rw [(osome3 h).2.2] at G
  exact kr63 _ _ _ G
def g_X3_parseWall (T : AT) (o : Nat) (a0 : Nat) : Option (Nat × Int32 × AT) := oif (oO T a0 6 = true) <| elet (T.2.2.1 a0 11) fun v3 => if v3 < 2 then (g_X3_parseWall_b14 T 0 o o a0) else (g_X3_parseWall_b14 T 1 o o a0)
set_option maxHeartbeats 4000000 in
set_option maxRecDepth 100000 in
theorem u_X3_parseWall (l : Launch) (hst : l.stackTraces = false) (D : va_G) (cI cJ cZ cMic cSrc cSt cAI cAJ : ClassId) (ad : Nat → Nat) (T : AT) (o : Nat) (a0 : Nat) {r1 : Int32} {T1 : AT} (h : g_X3_parseWall T o a0 = some (0, r1, T1)) : kCv l yX3_parseWall (Cond.code yX3_parseWall cX3_parseWall 2 none :: wsA) 9 148 cI cJ cZ cMic cSrc cSt cAI cAJ D ad T [.ref (ad o), .ref (ad a0)] (fun T9 => T9 = T1) := by
  intro sz
  refine Met.ofW (cc := cX3_parseWall) (maxL := 2) (ret := none) (by decide) rfl ?_
  intro p e s m args below meth c s₁ B hml hv
  obtain ⟨rfl, hsz, hP, hK, hD0, hX, hN⟩ := hv
  have hx := B.exec
  have hb := B.bytes
  have hr := B.returns
  have hts := atoms_spec (ws := (Cond.code yX3_parseWall cX3_parseWall 2 none :: wsA)) B.pre
  have hown : s.vm.findClass RX3 = some m.cls := findClass_of_methodNamed B.named
  have hlocks := B.notSynchronized
  subst hsz
  have hD := hD0.self (sz := s.heap.size)
  generalize hAe : va_A (cW ad T.1 (cc cI cJ cZ cMic cSrc cSt cAI cAJ ad T)) s.heap.size = A at hD hX ⊢
  have hA : ∀ q : Nat, s.heap.size ≤ q → A q := fun q h => by rw [← hAe]; exact Or.inr h
  have G : gC cI cJ cZ cMic cSrc cSt cAI cAJ D ad A s.heap s.heap [] T := ⟨hP, hD, va_S.rf⟩
  have E : cE p c cX3_parseWall s m ([.ref (ad o), .ref (ad a0)] : List Value).toArray (Cond.code yX3_parseWall cX3_parseWall 2 none :: wsA) D RX3 (CT cI cJ cZ cMic cSrc cSt cAI cAJ) := ⟨hx, hb, hts, hown, hK⟩
  have hl := lv_entry ([.ref (ad o), .ref (ad a0)]) (n := 2) (Nat.le_of_ble_eq_true rfl)
  rw [lg_entry_eq]
  generalize (lg_sl ([.ref (ad o), .ref (ad a0)]) ++ List.replicate (2 - (lg_sl ([.ref (ad o), .ref (ad a0)])).length) Slot.unset).toArray = ls at hl ⊢
  have hl : lv_has ls 2 [(0, .ref (ad o)), (1, .ref (ad a0))] := hl
  unfold g_X3_parseWall at h
  refine lv_aload_n hx hb dX3_parseWall_0 rfl (lv_at hl 0 rfl) ?_
  refine lv_aload_n hx hb dX3_parseWall_1 rfl (lv_at hl 1 rfl) ?_
  obtain ⟨g2, h⟩ := oif_some h
  refine c_get E G a0 11 (oO_k g2).1 (cc_o6 (oO_k g2).2) rfl (fun w h => .tail _ (iA_14 h)) (by decide) (.tail _ qA_363) rfl rfl dX3_parseWall_2 ?_
  refine lv_topi (fun v3 ev3 => ?_)
  have h := elet_at ev3 h
  clear ev3
  refine lv_iconst (v := 2) hx hb dX3_parseWall_5 (by decide) ?_
  refine lv_icmp_lt (tgt := 13) hx hb dX3_parseWall_6 (by decide) (fun c4 => ?_) (fun c4 => ?_)
  · have h := oif_pos c4 h
    refine lv_iconst (v := 0) hx hb dX3_parseWall_13 (by decide) ?_
    have hl := lv_sub hl [0, 1] rfl
    exact u_X3_parseWall_b14 E hA hX hN hml hst (fun H locs ls G => W.vret hx hb hr (fun t ht hW => ⟨⟨T1, rfl, rfl, ⟨by rw [ht]; exact G.1, va_K.moved hW.alike hK, G.2.1⟩⟩, G.2.2.F ht⟩) G.2.2.2.2 dX3_parseWall_63) _ _ _ _ _ _ _ _ h G hl
  · have h := oif_neg c4 h
    refine lv_iconst (v := 1) hx hb dX3_parseWall_9 (by decide) ?_
    refine lv_goto (tgt := 14) hx hb dX3_parseWall_10 (by decide) ?_
    have hl := lv_sub hl [0, 1] rfl
    exact u_X3_parseWall_b14 E hA hX hN hml hst (fun H locs ls G => W.vret hx hb hr (fun t ht hW => ⟨⟨T1, rfl, rfl, ⟨by rw [ht]; exact G.1, va_K.moved hW.alike hK, G.2.1⟩⟩, G.2.2.F ht⟩) G.2.2.2.2 dX3_parseWall_63) _ _ _ _ _ _ _ _ h G hl
set_option maxHeartbeats 4000000 in
set_option maxRecDepth 100000 in
theorem s_X3_parseWall_b14 {e1 : Nat} {r1 : Int32} {T1 : AT} : ∀ (T : AT) (s0 : Int32) (s1 : Nat) (l0 : Nat) (l1 : Nat), g_X3_parseWall_b14 T s0 s1 l0 l1 = some (e1, r1, T1) → SP T T1 := by
  intro T s0 s1 l0 l1 h
  have p0 := SP.rf T
  unfold g_X3_parseWall_b14 at h
  obtain ⟨g2, h⟩ := oif_some h
  rcases othr_s h with ⟨k9, r9, e9, -⟩ | ⟨r4, T3, eT3, h⟩
  · exact SP.tr p0 (s_X3_startLine e9)
  have p1 : SP T T3 := SP.tr p0 (s_X3_startLine eT3)
  obtain ⟨g5, h⟩ := oif_some h
  obtain ⟨n6, en6, h⟩ := obind_some h
  obtain ⟨g7, h⟩ := oif_some h
  obtain ⟨v8, -, h⟩ := elet_some h
  obtain ⟨g9, h⟩ := oif_some h
  rcases othr_s h with ⟨k9, r9, e9, -⟩ | ⟨r11, T10, eT10, h⟩
  · exact SP.tr p1 (s_X3_signed e9)
  have p2 : SP T T10 := SP.tr p1 (s_X3_signed eT10)
  obtain ⟨g12, h⟩ := oif_some h
  obtain ⟨g13, h⟩ := oif_some h
  obtain ⟨T14, eT14, h⟩ := elet_some h
  have p3 : SP T T14 := SP.tr p2 (by rw [eT14]; exact sp_uI)
  obtain ⟨g15, h⟩ := oif_some h
  obtain ⟨n16, en16, h⟩ := obind_some h
  obtain ⟨g17, h⟩ := oif_some h
  obtain ⟨v18, -, h⟩ := elet_some h
  obtain ⟨g19, h⟩ := oif_some h
  rcases othr_s h with ⟨k9, r9, e9, -⟩ | ⟨r21, T20, eT20, h⟩
  · exact SP.tr p3 (s_X3_number e9)
  have p4 : SP T T20 := SP.tr p3 (s_X3_number eT20)
  obtain ⟨g22, h⟩ := oif_some h
  obtain ⟨g23, h⟩ := oif_some h
  obtain ⟨T24, eT24, h⟩ := elet_some h
  have p5 : SP T T24 := SP.tr p4 (by rw [eT24]; exact sp_uI)
  obtain ⟨g25, h⟩ := oif_some h
  obtain ⟨v26, -, h⟩ := elet_some h
  obtain ⟨v27, -, h⟩ := elet_some h
  obtain ⟨g28, h⟩ := oif_some h
  obtain ⟨T29, eT29, h⟩ := elet_some h
  have p6 : SP T T29 := SP.tr p5 (by rw [eT29]; exact sp_uI)
  rw [← (osome3 h).2.2]
  exact p6
set_option maxHeartbeats 4000000 in
set_option maxRecDepth 100000 in
theorem s_X3_parseWall {T : AT} {o : Nat} {a0 : Nat} {e1 : Nat} {r1 : Int32} {T1 : AT} (h : g_X3_parseWall T o a0 = some (e1, r1, T1)) : SP T T1 := by
  have p0 := SP.rf T
  unfold g_X3_parseWall at h
  obtain ⟨g2, h⟩ := oif_some h
  obtain ⟨v3, -, h⟩ := elet_some h
  rcases oif_or h with ⟨c4, h⟩ | ⟨c4, h⟩
  · have h := h
    exact SP.tr p0 (s_X3_parseWall_b14 _ _ _ _ _ h)
  · have h := h
    exact SP.tr p0 (s_X3_parseWall_b14 _ _ _ _ _ h)
set_option maxHeartbeats 4000000 in
set_option maxRecDepth 100000 in
theorem x_X3_parseWall_b14 {p : Program} {l : Launch} {e : Env} {s : State} {m : MethodId} {args : Array Value} {below : List Frame} {meth : Method} {c : Code} {Qc : Array Value → State → Outcome → State → Prop} {XC : String → State → State → Prop} {D : va_G} {A : Nat → Prop} {cI cJ cZ cMic cSrc cSt cAI cAJ : ClassId} {ad : Nat → Nat} {e1 : Nat} {r1 : Int32} {T1 : AT} (E : cE p c cX3_parseWall s m args (Cond.code yX3_parseWall cX3_parseWall 2 none :: wsA) D RX3 (CT cI cJ cZ cMic cSrc cSt cAI cAJ)) (hA : ∀ q : Nat, s.heap.size ≤ q → A q) (hX : xT A s) (hN : nX s) (hml : c.maxLocals = 2) (hz9 : True) (hst : l.stackTraces = false) (htab : ∀ x ∈ c.exceptionTable.toList, False) (hlocks : meth.locks = false) (kx : ∀ (H : Heap) (locs : List Loc) (t : State), gC cI cJ cZ cMic cSrc cSt cAI cAJ D ad A s.heap H locs T1 → s.vm.Alike t.vm → H.size ≤ t.heap.size → (∀ q, q < H.size → t.heap[q]? = H[q]?) → XC (exn e1) s t) : ∀ (T : AT) (H : Heap) (locs : List Loc) (ls : Array Slot) (s0 : Int32) (s1 : Nat) (l0 : Nat) (l1 : Nat), g_X3_parseWall_b14 T s0 s1 l0 l1 = some (e1 + 1, r1, T1) → gC cI cJ cZ cMic cSrc cSt cAI cAJ D ad A s.heap H locs T → lv_has ls 2 [(0, .ref (ad l0)), (1, .ref (ad l1))] → W p l e { frames := 9, cells := 1, slots := 6, locals := 148 } s m args below meth c H locs 0 0 (vx_MQ below Qc XC args s 1 6 A) (F0 m 14 ls [.int s0, .ref (ad s1)]) := by
  have hx := E.1
  have hb := E.2.1
  have hts := E.2.2.1
  have hown := E.2.2.2.1
  have hK := E.2.2.2.2
  intro T H locs ls s0 s1 l0 l1 h G hl
  unfold g_X3_parseWall_b14 at h
  refine lv_iconst (v := 4) hx hb dX3_parseWall_14 (by decide) ?_
  obtain ⟨g2, h⟩ := oif_some h
  rcases othr_t h with ⟨r0, eT3⟩ | ⟨r5, T3, eT3, h⟩
  · refine q_xvv (As := [.int s0, .int 4]) (rest := []) E G hA hX hN hml (x_X3_startLine l hst D cI cJ cZ cMic cSrc cSt cAI cAJ ad T s1 s0 (4 : Int32) eT3) (cwV 2 hts (gaV qA_321 qA_322 qA_323 qA_222 qA_324) rfl rfl rfl (by decide +kernel) ⟨Nat.le_of_ble_eq_true rfl, Nat.le_of_ble_eq_true rfl⟩) (oO_k g2).1 (cc_o3 (oO_k g2).2) rfl rfl hl.1 rfl (lv_room (Nat.le_of_ble_eq_true rfl)) dX3_parseWall_15 ⟨Nat.le_of_ble_eq_true rfl, Nat.le_of_ble_eq_true rfl⟩ (fun E9 ce q9 T9 H locs hp G hce hcv hcl => ?_)
    obtain ⟨hE, hT⟩ := hp
    subst hE
    rw [hT] at G
    exact vx_out (fun x hx => (htab x hx).elim) hlocks hce hcv hcl (fun t ht hvm => kx _ _ _ G hvm (by rw [ht]; exact Nat.le_refl _) (fun q hq => by rw [ht])) G.2.2.2.2 (Nat.le_refl _) (Nat.le_refl _)
  refine q_cvv (As := [.int s0, .int 4]) (rest := []) E G hA hX hN hml (u_X3_startLine l hst D cI cJ cZ cMic cSrc cSt cAI cAJ ad T s1 s0 (4 : Int32) eT3) (cwV 2 hts (gaV qA_321 qA_322 qA_323 qA_222 qA_324) rfl rfl rfl (by decide +kernel) ⟨Nat.le_of_ble_eq_true rfl, Nat.le_of_ble_eq_true rfl⟩) (oO_k g2).1 (cc_o3 (oO_k g2).2) rfl rfl hl.1 rfl (lv_room (Nat.le_of_ble_eq_true rfl)) dX3_parseWall_15 ⟨Nat.zero_le _, Nat.zero_le _⟩ (fun T4 H locs hq G => ?_)
  rw [hq] at G
  clear hq eT3
  refine lv_aload_n hx hb dX3_parseWall_18 rfl (lv_at hl 1 rfl) ?_
  obtain ⟨g7, h⟩ := oif_some h
  obtain ⟨n8, en8, h⟩ := obind_some h
  refine c_get E G l1 9 (v := .ref (ad n8)) (oO_k g7).1 (cc_o6 (oO_k g7).2) rfl (fun w h => .tail _ (iA_14 h)) (by decide) (.tail _ qA_364) rfl (by rw [en8]; rfl) dX3_parseWall_19 ?_
  clear en8
  refine lv_aload_n hx hb dX3_parseWall_22 rfl (lv_at hl 1 rfl) ?_
  obtain ⟨g9, h⟩ := oif_some h
  refine c_get E G l1 11 (oO_k g9).1 (cc_o6 (oO_k g9).2) rfl (fun w h => .tail _ (iA_14 h)) (by decide) (.tail _ qA_363) rfl rfl dX3_parseWall_23 ?_
  refine lv_topi (fun v10 ev10 => ?_)
  have h := elet_at ev10 h
  clear ev10
  refine lv_aload_n hx hb dX3_parseWall_26 rfl (lv_at hl 0 rfl) ?_
  refine lv_sipush (v := (-2000)) hx hb dX3_parseWall_27 (by decide) ?_
  refine lv_sipush (v := 2000) hx hb dX3_parseWall_30 (by decide) ?_
  obtain ⟨g11, h⟩ := oif_some h
  rcases othr_t h with ⟨r0, eT12⟩ | ⟨r14, T12, eT12, h⟩
  · refine q_xvi (As := [.int (-2000), .int 2000]) (rest := [.int v10, .ref (ad n8)]) E G hA hX hN hml (x_X3_signed l hst D cI cJ cZ cMic cSrc cSt cAI cAJ ad T3 l0 ((-2000) : Int32) (2000 : Int32) eT12) (cwV 2 hts (gaV qA_325 qA_326 qA_327 qA_222 qA_328) rfl rfl rfl (by decide +kernel) ⟨Nat.le_of_ble_eq_true rfl, Nat.le_of_ble_eq_true rfl⟩) (oO_k g11).1 (cc_o3 (oO_k g11).2) rfl rfl hl.1 rfl (lv_room (Nat.le_of_ble_eq_true rfl)) dX3_parseWall_33 ⟨Nat.le_of_ble_eq_true rfl, Nat.le_of_ble_eq_true rfl⟩ (fun E9 ce q9 T9 H locs hp G hce hcv hcl => ?_)
    obtain ⟨hE, hT⟩ := hp
    subst hE
    rw [hT] at G
    exact vx_out (fun x hx => (htab x hx).elim) hlocks hce hcv hcl (fun t ht hvm => kx _ _ _ G hvm (by rw [ht]; exact Nat.le_refl _) (fun q hq => by rw [ht])) G.2.2.2.2 (Nat.le_refl _) (Nat.le_refl _)
  refine q_cvi (As := [.int (-2000), .int 2000]) (rest := [.int v10, .ref (ad n8)]) E G hA hX hN hml (u_X3_signed l hst D cI cJ cZ cMic cSrc cSt cAI cAJ ad T3 l0 ((-2000) : Int32) (2000 : Int32) eT12) (cwV 2 hts (gaV qA_325 qA_326 qA_327 qA_222 qA_328) rfl rfl rfl (by decide +kernel) ⟨Nat.le_of_ble_eq_true rfl, Nat.le_of_ble_eq_true rfl⟩) (oO_k g11).1 (cc_o3 (oO_k g11).2) rfl rfl hl.1 rfl (lv_room (Nat.le_of_ble_eq_true rfl)) dX3_parseWall_33 ⟨Nat.zero_le _, Nat.zero_le _⟩ (fun q15 T13 H locs hq G => ?_)
  obtain ⟨hq1, hq2⟩ := hq
  rw [hq2] at G
  refine lv_to hq1 ?_
  clear hq1 hq2 eT12
  obtain ⟨g16, h⟩ := oif_some h
  obtain ⟨g17, h⟩ := oif_some h
  refine c_iast E G n8 0 (k := v10.toNatClampNeg) (v := r14) (aA_k g16).1 (cc_a100 (aA_k g16).2.1) rfl (inb_k g17).1 (inb_k g17).2 (aA_k g16).2.2 dX3_parseWall_36 (fun H locs G => ?_)
  have G := gC_up_i (f := upd (T12.2.2.1 n8) v10.toNatClampNeg r14) (ccv_100 (aA_k g16).2.1) G
  obtain ⟨T18, eT18, h⟩ := elet_some h
  have G : gC cI cJ cZ cMic cSrc cSt cAI cAJ D ad A s.heap H locs T18 := by rw [eT18]; exact G
  clear eT18
  refine lv_aload_n hx hb dX3_parseWall_37 rfl (lv_at hl 1 rfl) ?_
  obtain ⟨g19, h⟩ := oif_some h
  obtain ⟨n20, en20, h⟩ := obind_some h
  refine c_get E G l1 10 (v := .ref (ad n20)) (oO_k g19).1 (cc_o6 (oO_k g19).2) rfl (fun w h => .tail _ (iA_14 h)) (by decide) (.tail _ qA_365) rfl (by rw [en20]; rfl) dX3_parseWall_38 ?_
  clear en20
  refine lv_aload_n hx hb dX3_parseWall_41 rfl (lv_at hl 1 rfl) ?_
  obtain ⟨g21, h⟩ := oif_some h
  refine c_get E G l1 11 (oO_k g21).1 (cc_o6 (oO_k g21).2) rfl (fun w h => .tail _ (iA_14 h)) (by decide) (.tail _ qA_363) rfl rfl dX3_parseWall_42 ?_
  refine lv_topi (fun v22 ev22 => ?_)
  have h := elet_at ev22 h
  clear ev22
  refine lv_aload_n hx hb dX3_parseWall_45 rfl (lv_at hl 0 rfl) ?_
  refine lv_iconst (v := 1) hx hb dX3_parseWall_46 (by decide) ?_
  refine lv_bipush (v := 100) hx hb dX3_parseWall_47 (by decide) ?_
  obtain ⟨g23, h⟩ := oif_some h
  rcases othr_t h with ⟨r0, eT24⟩ | ⟨r26, T24, eT24, h⟩
  · refine q_xvi (As := [.int 1, .int 100]) (rest := [.int v22, .ref (ad n20)]) E G hA hX hN hml (x_X3_number l hst D cI cJ cZ cMic cSrc cSt cAI cAJ ad T18 l0 (1 : Int32) (100 : Int32) eT24) (cwV 2 hts (gaV qA_299 qA_300 qA_301 qA_222 qA_302) rfl rfl rfl (by decide +kernel) ⟨Nat.le_of_ble_eq_true rfl, Nat.le_of_ble_eq_true rfl⟩) (oO_k g23).1 (cc_o3 (oO_k g23).2) rfl rfl hl.1 rfl (lv_room (Nat.le_of_ble_eq_true rfl)) dX3_parseWall_49 ⟨Nat.le_of_ble_eq_true rfl, Nat.le_of_ble_eq_true rfl⟩ (fun E9 ce q9 T9 H locs hp G hce hcv hcl => ?_)
    obtain ⟨hE, hT⟩ := hp
    subst hE
    rw [hT] at G
    exact vx_out (fun x hx => (htab x hx).elim) hlocks hce hcv hcl (fun t ht hvm => kx _ _ _ G hvm (by rw [ht]; exact Nat.le_refl _) (fun q hq => by rw [ht])) G.2.2.2.2 (Nat.le_refl _) (Nat.le_refl _)
  refine q_cvi (As := [.int 1, .int 100]) (rest := [.int v22, .ref (ad n20)]) E G hA hX hN hml (u_X3_number l hst D cI cJ cZ cMic cSrc cSt cAI cAJ ad T18 l0 (1 : Int32) (100 : Int32) eT24) (cwV 2 hts (gaV qA_299 qA_300 qA_301 qA_222 qA_302) rfl rfl rfl (by decide +kernel) ⟨Nat.le_of_ble_eq_true rfl, Nat.le_of_ble_eq_true rfl⟩) (oO_k g23).1 (cc_o3 (oO_k g23).2) rfl rfl hl.1 rfl (lv_room (Nat.le_of_ble_eq_true rfl)) dX3_parseWall_49 ⟨Nat.zero_le _, Nat.zero_le _⟩ (fun q27 T25 H locs hq G => ?_)
  obtain ⟨hq1, hq2⟩ := hq
  rw [hq2] at G
  refine lv_to hq1 ?_
  clear hq1 hq2 eT24
  obtain ⟨g28, h⟩ := oif_some h
  obtain ⟨g29, h⟩ := oif_some h
  refine c_iast E G n20 0 (k := v22.toNatClampNeg) (v := r26) (aA_k g28).1 (cc_a100 (aA_k g28).2.1) rfl (inb_k g29).1 (inb_k g29).2 (aA_k g28).2.2 dX3_parseWall_52 (fun H locs G => ?_)
  have G := gC_up_i (f := upd (T24.2.2.1 n20) v22.toNatClampNeg r26) (ccv_100 (aA_k g28).2.1) G
  obtain ⟨T30, eT30, h⟩ := elet_some h
  have G : gC cI cJ cZ cMic cSrc cSt cAI cAJ D ad A s.heap H locs T30 := by rw [eT30]; exact G
  clear eT30
  refine lv_aload_n hx hb dX3_parseWall_53 rfl (lv_at hl 1 rfl) ?_
  refine lv_dup hx hb dX3_parseWall_54 rfl ?_
  obtain ⟨g31, h⟩ := oif_some h
  refine c_get E G l1 11 (oO_k g31).1 (cc_o6 (oO_k g31).2) rfl (fun w h => .tail _ (iA_14 h)) (by decide) (.tail _ qA_363) rfl rfl dX3_parseWall_55 ?_
  refine lv_topi (fun v32 ev32 => ?_)
  have h := elet_at ev32 h
  clear ev32
  refine lv_iconst (v := 1) hx hb dX3_parseWall_58 (by decide) ?_
  refine lv_iadd hx hb dX3_parseWall_59 ?_
  refine lv_topi (fun v33 ev33 => ?_)
  have h := elet_at ev33 h
  clear ev33
  obtain ⟨g34, h⟩ := oif_some h
  refine c_put E G l1 11 (v := .int v33) (oO_k g34).1 (cc_o6 (oO_k g34).2) rfl (fun w h => .tail _ (iA_14 h)) tyX6 tyX6_ok nmX6 (by decide) (.tail _ qA_363) ⟨rfl, rfl, rfl⟩ rfl rfl (Nat.le_of_ble_eq_true rfl) dX3_parseWall_60 (fun H locs G => ?_)
  have G := gC_up_i (f := upd (T30.2.2.1 l1) 11 v33) (by rw [(oO_k g34).2]; rfl) G
  obtain ⟨T35, eT35, h⟩ := elet_some h
  have G : gC cI cJ cZ cMic cSrc cSt cAI cAJ D ad A s.heap H locs T35 := by rw [eT35]; exact G
  clear eT35
  exact (Nat.succ_ne_zero _ (congrArg Prod.fst (Option.some.inj h)).symm).elim
set_option maxHeartbeats 4000000 in
set_option maxRecDepth 100000 in
theorem x_X3_parseWall (l : Launch) (hst : l.stackTraces = false) (D : va_G) (cI cJ cZ cMic cSrc cSt cAI cAJ : ClassId) (ad : Nat → Nat) (T : AT) (o : Nat) (a0 : Nat) {e1 : Nat} {r1 : Int32} {T1 : AT} (h : g_X3_parseWall T o a0 = some (e1 + 1, r1, T1)) : kXv l yX3_parseWall (Cond.code yX3_parseWall cX3_parseWall 2 none :: wsA) 9 148 cI cJ cZ cMic cSrc cSt cAI cAJ D ad T [.ref (ad o), .ref (ad a0)] e1 T1 := by
  intro sz
  refine vx_ofW (cc := cX3_parseWall) (maxL := 2) (ret := none) (by decide) rfl ?_
  intro p e s m args below meth c s₁ B hml htab hv
  obtain ⟨rfl, hsz, hP, hK, hD0, hX, hN⟩ := hv
  have hx := B.exec
  have hb := B.bytes
  have hr := B.returns
  have hts := atoms_spec (ws := (Cond.code yX3_parseWall cX3_parseWall 2 none :: wsA)) B.pre
  have hown : s.vm.findClass RX3 = some m.cls := findClass_of_methodNamed B.named
  have hlocks := B.notSynchronized
  subst hsz
  have hD := hD0.self (sz := s.heap.size)
  generalize hAe : va_A (cW ad T.1 (cc cI cJ cZ cMic cSrc cSt cAI cAJ ad T)) s.heap.size = A at hD hX ⊢
  have hA : ∀ q : Nat, s.heap.size ≤ q → A q := fun q h => by rw [← hAe]; exact Or.inr h
  have G : gC cI cJ cZ cMic cSrc cSt cAI cAJ D ad A s.heap s.heap [] T := ⟨hP, hD, va_S.rf⟩
  have E : cE p c cX3_parseWall s m ([.ref (ad o), .ref (ad a0)] : List Value).toArray (Cond.code yX3_parseWall cX3_parseWall 2 none :: wsA) D RX3 (CT cI cJ cZ cMic cSrc cSt cAI cAJ) := ⟨hx, hb, hts, hown, hK⟩
  have htab : ∀ x ∈ c.exceptionTable.toList, False := fun x hx => htab x hx
  have hl := lv_entry ([.ref (ad o), .ref (ad a0)]) (n := 2) (Nat.le_of_ble_eq_true rfl)
  rw [lg_entry_eq]
  generalize (lg_sl ([.ref (ad o), .ref (ad a0)]) ++ List.replicate (2 - (lg_sl ([.ref (ad o), .ref (ad a0)])).length) Slot.unset).toArray = ls at hl ⊢
  have hl : lv_has ls 2 [(0, .ref (ad o)), (1, .ref (ad a0))] := hl
  unfold g_X3_parseWall at h
  refine lv_aload_n hx hb dX3_parseWall_0 rfl (lv_at hl 0 rfl) ?_
  refine lv_aload_n hx hb dX3_parseWall_1 rfl (lv_at hl 1 rfl) ?_
  obtain ⟨g2, h⟩ := oif_some h
  refine c_get E G a0 11 (oO_k g2).1 (cc_o6 (oO_k g2).2) rfl (fun w h => .tail _ (iA_14 h)) (by decide) (.tail _ qA_363) rfl rfl dX3_parseWall_2 ?_
  refine lv_topi (fun v3 ev3 => ?_)
  have h := elet_at ev3 h
  clear ev3
  refine lv_iconst (v := 2) hx hb dX3_parseWall_5 (by decide) ?_
  refine lv_icmp_lt (tgt := 13) hx hb dX3_parseWall_6 (by decide) (fun c4 => ?_) (fun c4 => ?_)
  · have h := oif_pos c4 h
    refine lv_iconst (v := 0) hx hb dX3_parseWall_13 (by decide) ?_
    have hl := lv_sub hl [0, 1] rfl
    exact x_X3_parseWall_b14 E hA hX hN hml trivial hst htab hlocks (fun H locs t G hvm h1 h2 => ⟨T1, trivial, ⟨⟨rfl, rfl⟩, (c_thrown G hK hvm h1 h2).1⟩, (c_thrown G hK hvm h1 h2).2⟩) _ _ _ _ _ _ _ _ h G hl
  · have h := oif_neg c4 h
    refine lv_iconst (v := 1) hx hb dX3_parseWall_9 (by decide) ?_
    refine lv_goto (tgt := 14) hx hb dX3_parseWall_10 (by decide) ?_
    have hl := lv_sub hl [0, 1] rfl
    exact x_X3_parseWall_b14 E hA hX hN hml trivial hst htab hlocks (fun H locs t G hvm h1 h2 => ⟨T1, trivial, ⟨⟨rfl, rfl⟩, (c_thrown G hK hvm h1 h2).1⟩, (c_thrown G hK hvm h1 h2).2⟩) _ _ _ _ _ _ _ _ h G hl
def g_X3_shape_b62  (T : AT) (l0 : Nat) (l1 : Int32) : Option (Nat × Int32 × AT) := oif (oO T l0 3 = true) <| elet (T.2.2.1 l0 1) fun v3 => elet (v3 + 1) fun v4 => oif (oO T l0 3 = true) <| elet (uI T l0 1 v4) fun T6 => some (0, l1, T6)
set_option maxHeartbeats 4000000 in
set_option maxRecDepth 100000 in
theorem u_X3_shape_b62 {p : Program} {l : Launch} {e : Env} {s : State} {m : MethodId} {args : Array Value} {below : List Frame} {meth : Method} {c : Code} {Q : State → Prop} {D : va_G} {A : Nat → Prop} {cI cJ cZ cMic cSrc cSt cAI cAJ : ClassId} {ad : Nat → Nat} {r1 : Int32} {T1 : AT} (E : cE p c cX3_shape s m args (Cond.code yX3_shape cX3_shape 2 (some .int) :: wsA) D RX3 (CT cI cJ cZ cMic cSrc cSt cAI cAJ)) (hA : ∀ q : Nat, s.heap.size ≤ q → A q) (hX : xT A s) (hN : nX s) (hml : c.maxLocals = 2) (hst : l.stackTraces = false) {h0 : Nat} (hA0 : ∀ a : Nat, A a → h0 ≤ a) (hT : sAll h0 s) (kr73 : ∀ (H : Heap) (locs : List Loc) (ls : Array Slot), gC cI cJ cZ cMic cSrc cSt cAI cAJ D ad A s.heap H locs T1 → W p l e { frames := 7, cells := 0, slots := 0, locals := 111 } s m args below meth c H locs 0 0 Q (F0 m 73 ls [.int r1])) : ∀ (T : AT) (H : Heap) (locs : List Loc) (ls : Array Slot) (l0 : Nat) (l1 : Int32), g_X3_shape_b62 T l0 l1 = some (0, r1, T1) → gC cI cJ cZ cMic cSrc cSt cAI cAJ D ad A s.heap H locs T → lv_has ls 2 [(0, .ref (ad l0)), (1, .int l1)] → W p l e { frames := 7, cells := 0, slots := 0, locals := 111 } s m args below meth c H locs 0 0 Q (F0 m 62 ls []) := by
  have hx := E.1
  have hb := E.2.1
  have hts := E.2.2.1
  have hown := E.2.2.2.1
  have hK := E.2.2.2.2
  intro T H locs ls l0 l1 h G hl
  unfold g_X3_shape_b62 at h
  refine lv_aload_n hx hb dX3_shape_62 rfl (lv_at hl 0 rfl) ?_
  refine lv_dup hx hb dX3_shape_63 rfl ?_
  obtain ⟨g2, h⟩ := oif_some h
  refine c_get E G l0 1 (oO_k g2).1 (cc_o3 (oO_k g2).2) rfl (fun w h => .tail _ (iA_17 h)) (by decide) (.tail _ qA_176) rfl rfl dX3_shape_64 ?_
  refine lv_topi (fun v3 ev3 => ?_)
  have h := elet_at ev3 h
  clear ev3
  refine lv_iconst (v := 1) hx hb dX3_shape_67 (by decide) ?_
  refine lv_iadd hx hb dX3_shape_68 ?_
  refine lv_topi (fun v4 ev4 => ?_)
  have h := elet_at ev4 h
  clear ev4
  obtain ⟨g5, h⟩ := oif_some h
  refine c_put E G l0 1 (v := .int v4) (oO_k g5).1 (cc_o3 (oO_k g5).2) rfl (fun w h => .tail _ (iA_17 h)) tyX3 tyX3_ok nmX3 (by decide) (.tail _ qA_176) ⟨rfl, rfl, rfl⟩ rfl rfl (Nat.le_of_ble_eq_true rfl) dX3_shape_69 (fun H locs G => ?_)
  have G := gC_up_i (f := upd (T.2.2.1 l0) 1 v4) (by rw [(oO_k g5).2]; rfl) G
  obtain ⟨T6, eT6, h⟩ := elet_some h
  have G : gC cI cJ cZ cMic cSrc cSt cAI cAJ D ad A s.heap H locs T6 := by rw [eT6]; exact G
  clear eT6
  refine lv_iload_n hx hb dX3_shape_72 rfl (lv_at hl 1 rfl) ?_
  rw [(osome3 h).2.2] at G
  refine lv_to (osome3 h).2.1 ?_
  exact kr73 _ _ _ G
def g_X3_shape (T : AT) (o : Nat) : Option (Nat × Int32 × AT) := oif (oO T o 3 = true) <| obind2 (g_X3_isWord T (sTx "triangle") o) fun r6 T4 => if r6 = 0 then (oif (oO T4 o 3 = true) <| obind2 (g_X3_isWord T4 (sTx "pulse") o) fun r13 T11 => if r13 = 0 then (oif (oO T11 o 3 = true) <| obind2 (g_X3_isWord T11 (sTx "noise") o) fun r20 T18 => if r20 = 0 then (oif (oO T18 o 3 = true) <| obind2 (g_X3_isWord T18 (sTx "square") o) fun r27 T25 => if r27 = 0 then (oif (oO T25 o 3 = true) <| elet (T25.2.2.1 o 1) fun v31 => oif (oO T25 o 3 = true) <| othr (g_X3_failAt T25 o v31 (1 : Int32)) 0 fun r35 T33 => g_X3_shape_b62 T33 o 0) else (g_X3_shape_b62 T25 o 0)) else (g_X3_shape_b62 T18 o 3)) else (g_X3_shape_b62 T11 o 2)) else (g_X3_shape_b62 T4 o 1)
set_option maxHeartbeats 4000000 in
set_option maxRecDepth 100000 in
theorem u_X3_shape (l : Launch) (hst : l.stackTraces = false) (D : va_G) (cI cJ cZ cMic cSrc cSt cAI cAJ : ClassId) (ad : Nat → Nat) (T : AT) (h0 : Nat) (o : Nat) {r1 : Int32} {T1 : AT} (h : g_X3_shape T o = some (0, r1, T1)) : kCiX l yX3_shape (Cond.code yX3_shape cX3_shape 2 (some .int) :: wsA) 7 111 cI cJ cZ cMic cSrc cSt cAI cAJ D ad T [.ref (ad o)] (yT0 cI cJ cZ cMic cSrc cSt cAI cAJ h0 ad T) (fun r T9 => r = r1 ∧ T9 = T1) := by
  intro sz
  refine Met.ofW (cc := cX3_shape) (maxL := 2) (ret := (some .int)) (by decide) rfl ?_
  intro p e s m args below meth c s₁ B hml hv
  obtain ⟨rfl, ⟨hsz, hP, hK, hD0, hX, hN⟩, hA1, hT⟩ := hv
  have hx := B.exec
  have hb := B.bytes
  have hr := B.returns
  have hts := atoms_spec (ws := (Cond.code yX3_shape cX3_shape 2 (some .int) :: wsA)) B.pre
  have hown : s.vm.findClass RX3 = some m.cls := findClass_of_methodNamed B.named
  have hlocks := B.notSynchronized
  subst hsz
  have hD := hD0.self (sz := s.heap.size)
  generalize hAe : va_A (cW ad T.1 (cc cI cJ cZ cMic cSrc cSt cAI cAJ ad T)) s.heap.size = A at hD hX hA1 ⊢
  have hA : ∀ q : Nat, s.heap.size ≤ q → A q := fun q h => by rw [← hAe]; exact Or.inr h
  have G : gC cI cJ cZ cMic cSrc cSt cAI cAJ D ad A s.heap s.heap [] T := ⟨hP, hD, va_S.rf⟩
  have E : cE p c cX3_shape s m ([.ref (ad o)] : List Value).toArray (Cond.code yX3_shape cX3_shape 2 (some .int) :: wsA) D RX3 (CT cI cJ cZ cMic cSrc cSt cAI cAJ) := ⟨hx, hb, hts, hown, hK⟩
  have hA0 : ∀ a : Nat, A a → h0 ≤ a := hA1
  have hl := lv_entry ([.ref (ad o)]) (n := 2) (Nat.le_of_ble_eq_true rfl)
  rw [lg_entry_eq]
  generalize (lg_sl ([.ref (ad o)]) ++ List.replicate (2 - (lg_sl ([.ref (ad o)])).length) Slot.unset).toArray = ls at hl ⊢
  have hl : lv_has ls 2 [(0, .ref (ad o))] := hl
  unfold g_X3_shape at h
  refine lv_iconst (v := 0) hx hb dX3_shape_0 (by decide) ?_
  refine lv_istore_n (lv' := [(1, .int 0), (0, .ref (ad o))]) hx hb dX3_shape_1 rfl hl (by decide) rfl (fun ls hl => ?_)
  refine lv_aload_n hx hb dX3_shape_2 rfl (lv_at hl 1 rfl) ?_
  obtain ⟨w2, hw2, ow2⟩ := hT.1 ("AcousticCamera$Parser", 217, "triangle") (List.mem_of_getElem? (i := 8) rfl)
  refine va_ldcS hx hb hown hw2 dX3_shape_3 ?_
  obtain ⟨g3, h⟩ := oif_some h
  obtain ⟨r6, T4, eT4, h⟩ := obind2_some h
  refine q_cviX (As := [.ref w2]) (rest := []) E G hA hX hN hml (u_X3_isWord l hst D cI cJ cZ cMic cSrc cSt cAI cAJ ad T h0 (q := w2) (sTx_ok (by decide +kernel)) o eT4) (cwV 1 hts (gaV qA_232 qA_233 qA_234 qA_222 qA_235) rfl rfl rfl (by decide +kernel) ⟨Nat.le_of_ble_eq_true rfl, Nat.le_of_ble_eq_true rfl⟩) (oO_k g3).1 (cc_o3 (oO_k g3).2) rfl rfl hl.1 rfl (lv_room (Nat.le_of_ble_eq_true rfl)) dX3_shape_5 ⟨Nat.zero_le _, Nat.zero_le _⟩ (yT1.blind) (yT1.go hT hA0 hA G ow2) (fun q7 T5 H locs hq G => ?_)
  obtain ⟨hq1, hq2⟩ := hq
  rw [hq2] at G
  refine lv_to hq1 ?_
  clear hq1 hq2 eT4
  refine lv_if_eq (tgt := 16) hx hb dX3_shape_8 (by decide) (fun c8 => ?_) (fun c8 => ?_)
  · have h := oif_pos c8 h
    refine lv_aload_n hx hb dX3_shape_16 rfl (lv_at hl 1 rfl) ?_
    obtain ⟨w9, hw9, ow9⟩ := hT.1 ("AcousticCamera$Parser", 219, "pulse") (List.mem_of_getElem? (i := 9) rfl)
    refine va_ldcS hx hb hown hw9 dX3_shape_17 ?_
    obtain ⟨g10, h⟩ := oif_some h
    obtain ⟨r13, T11, eT11, h⟩ := obind2_some h
    refine q_cviX (As := [.ref w9]) (rest := []) E G hA hX hN hml (u_X3_isWord l hst D cI cJ cZ cMic cSrc cSt cAI cAJ ad T4 h0 (q := w9) (sTx_ok (by decide +kernel)) o eT11) (cwV 1 hts (gaV qA_232 qA_233 qA_234 qA_222 qA_235) rfl rfl rfl (by decide +kernel) ⟨Nat.le_of_ble_eq_true rfl, Nat.le_of_ble_eq_true rfl⟩) (oO_k g10).1 (cc_o3 (oO_k g10).2) rfl rfl hl.1 rfl (lv_room (Nat.le_of_ble_eq_true rfl)) dX3_shape_19 ⟨Nat.zero_le _, Nat.zero_le _⟩ (yT1.blind) (yT1.go hT hA0 hA G ow9) (fun q14 T12 H locs hq G => ?_)
    obtain ⟨hq1, hq2⟩ := hq
    rw [hq2] at G
    refine lv_to hq1 ?_
    clear hq1 hq2 eT11
    refine lv_if_eq (tgt := 30) hx hb dX3_shape_22 (by decide) (fun c15 => ?_) (fun c15 => ?_)
    · have h := oif_pos c15 h
      refine lv_aload_n hx hb dX3_shape_30 rfl (lv_at hl 1 rfl) ?_
      obtain ⟨w16, hw16, ow16⟩ := hT.1 ("AcousticCamera$Parser", 221, "noise") (List.mem_of_getElem? (i := 10) rfl)
      refine va_ldcS hx hb hown hw16 dX3_shape_31 ?_
      obtain ⟨g17, h⟩ := oif_some h
      obtain ⟨r20, T18, eT18, h⟩ := obind2_some h
      refine q_cviX (As := [.ref w16]) (rest := []) E G hA hX hN hml (u_X3_isWord l hst D cI cJ cZ cMic cSrc cSt cAI cAJ ad T11 h0 (q := w16) (sTx_ok (by decide +kernel)) o eT18) (cwV 1 hts (gaV qA_232 qA_233 qA_234 qA_222 qA_235) rfl rfl rfl (by decide +kernel) ⟨Nat.le_of_ble_eq_true rfl, Nat.le_of_ble_eq_true rfl⟩) (oO_k g17).1 (cc_o3 (oO_k g17).2) rfl rfl hl.1 rfl (lv_room (Nat.le_of_ble_eq_true rfl)) dX3_shape_33 ⟨Nat.zero_le _, Nat.zero_le _⟩ (yT1.blind) (yT1.go hT hA0 hA G ow16) (fun q21 T19 H locs hq G => ?_)
      obtain ⟨hq1, hq2⟩ := hq
      rw [hq2] at G
      refine lv_to hq1 ?_
      clear hq1 hq2 eT18
      refine lv_if_eq (tgt := 44) hx hb dX3_shape_36 (by decide) (fun c22 => ?_) (fun c22 => ?_)
      · have h := oif_pos c22 h
        refine lv_aload_n hx hb dX3_shape_44 rfl (lv_at hl 1 rfl) ?_
        obtain ⟨w23, hw23, ow23⟩ := hT.1 ("AcousticCamera$Parser", 223, "square") (List.mem_of_getElem? (i := 11) rfl)
        refine va_ldcS hx hb hown hw23 dX3_shape_45 ?_
        obtain ⟨g24, h⟩ := oif_some h
        obtain ⟨r27, T25, eT25, h⟩ := obind2_some h
        refine q_cviX (As := [.ref w23]) (rest := []) E G hA hX hN hml (u_X3_isWord l hst D cI cJ cZ cMic cSrc cSt cAI cAJ ad T18 h0 (q := w23) (sTx_ok (by decide +kernel)) o eT25) (cwV 1 hts (gaV qA_232 qA_233 qA_234 qA_222 qA_235) rfl rfl rfl (by decide +kernel) ⟨Nat.le_of_ble_eq_true rfl, Nat.le_of_ble_eq_true rfl⟩) (oO_k g24).1 (cc_o3 (oO_k g24).2) rfl rfl hl.1 rfl (lv_room (Nat.le_of_ble_eq_true rfl)) dX3_shape_47 ⟨Nat.zero_le _, Nat.zero_le _⟩ (yT1.blind) (yT1.go hT hA0 hA G ow23) (fun q28 T26 H locs hq G => ?_)
        obtain ⟨hq1, hq2⟩ := hq
        rw [hq2] at G
        refine lv_to hq1 ?_
        clear hq1 hq2 eT25
        refine lv_if_ne (tgt := 62) hx hb dX3_shape_50 (by decide) (fun c29 => ?_) (fun c29 => ?_)
        · have h := oif_neg c29 h
          have hl := lv_sub hl [1, 0] rfl
          exact u_X3_shape_b62 E hA hX hN hml hst hA0 hT (fun H locs ls G => W.iret (v := r1) hx hb hr (fun t ht hW => ⟨⟨r1, T1, rfl, ⟨rfl, rfl⟩, ⟨by rw [ht]; exact G.1, va_K.moved hW.alike hK, G.2.1⟩⟩, G.2.2.F ht⟩) G.2.2.2.2 dX3_shape_73) _ _ _ _ _ _ h G hl
        · have h := oif_pos c29 h
          refine lv_aload_n hx hb dX3_shape_53 rfl (lv_at hl 1 rfl) ?_
          refine lv_aload_n hx hb dX3_shape_54 rfl (lv_at hl 1 rfl) ?_
          obtain ⟨g30, h⟩ := oif_some h
          refine c_get E G o 1 (oO_k g30).1 (cc_o3 (oO_k g30).2) rfl (fun w h => .tail _ (iA_17 h)) (by decide) (.tail _ qA_176) rfl rfl dX3_shape_55 ?_
          refine lv_topi (fun v31 ev31 => ?_)
          have h := elet_at ev31 h
          clear ev31
          refine lv_iconst (v := 1) hx hb dX3_shape_58 (by decide) ?_
          obtain ⟨g32, h⟩ := oif_some h
          obtain ⟨r35, T33, eT33, h⟩ := othr_n h
          refine q_cvv (As := [.int v31, .int 1]) (rest := []) E G hA hX hN hml (u_X3_failAt l hst D cI cJ cZ cMic cSrc cSt cAI cAJ ad T25 o v31 (1 : Int32) eT33) (cwV 2 hts (gaV qA_293 qA_294 qA_295 qA_222 qA_296) rfl rfl rfl (by decide +kernel) ⟨Nat.le_of_ble_eq_true rfl, Nat.le_of_ble_eq_true rfl⟩) (oO_k g32).1 (cc_o3 (oO_k g32).2) rfl rfl hl.1 rfl (lv_room (Nat.le_of_ble_eq_true rfl)) dX3_shape_59 ⟨Nat.zero_le _, Nat.zero_le _⟩ (fun T34 H locs hq G => ?_)
          rw [hq] at G
          clear hq eT33
          have hl := lv_sub hl [1, 0] rfl
          exact u_X3_shape_b62 E hA hX hN hml hst hA0 hT (fun H locs ls G => W.iret (v := r1) hx hb hr (fun t ht hW => ⟨⟨r1, T1, rfl, ⟨rfl, rfl⟩, ⟨by rw [ht]; exact G.1, va_K.moved hW.alike hK, G.2.1⟩⟩, G.2.2.F ht⟩) G.2.2.2.2 dX3_shape_73) _ _ _ _ _ _ h G hl
      · have h := oif_neg c22 h
        refine lv_iconst (v := 3) hx hb dX3_shape_39 (by decide) ?_
        refine lv_istore_n (lv' := [(1, .int 3), (0, .ref (ad o))]) hx hb dX3_shape_40 rfl hl (by decide) rfl (fun ls hl => ?_)
        refine lv_goto (tgt := 62) hx hb dX3_shape_41 (by decide) ?_
        have hl := lv_sub hl [1, 0] rfl
        exact u_X3_shape_b62 E hA hX hN hml hst hA0 hT (fun H locs ls G => W.iret (v := r1) hx hb hr (fun t ht hW => ⟨⟨r1, T1, rfl, ⟨rfl, rfl⟩, ⟨by rw [ht]; exact G.1, va_K.moved hW.alike hK, G.2.1⟩⟩, G.2.2.F ht⟩) G.2.2.2.2 dX3_shape_73) _ _ _ _ _ _ h G hl
    · have h := oif_neg c15 h
      refine lv_iconst (v := 2) hx hb dX3_shape_25 (by decide) ?_
      refine lv_istore_n (lv' := [(1, .int 2), (0, .ref (ad o))]) hx hb dX3_shape_26 rfl hl (by decide) rfl (fun ls hl => ?_)
      refine lv_goto (tgt := 62) hx hb dX3_shape_27 (by decide) ?_
      have hl := lv_sub hl [1, 0] rfl
      exact u_X3_shape_b62 E hA hX hN hml hst hA0 hT (fun H locs ls G => W.iret (v := r1) hx hb hr (fun t ht hW => ⟨⟨r1, T1, rfl, ⟨rfl, rfl⟩, ⟨by rw [ht]; exact G.1, va_K.moved hW.alike hK, G.2.1⟩⟩, G.2.2.F ht⟩) G.2.2.2.2 dX3_shape_73) _ _ _ _ _ _ h G hl
  · have h := oif_neg c8 h
    refine lv_iconst (v := 1) hx hb dX3_shape_11 (by decide) ?_
    refine lv_istore_n (lv' := [(1, .int 1), (0, .ref (ad o))]) hx hb dX3_shape_12 rfl hl (by decide) rfl (fun ls hl => ?_)
    refine lv_goto (tgt := 62) hx hb dX3_shape_13 (by decide) ?_
    have hl := lv_sub hl [1, 0] rfl
    exact u_X3_shape_b62 E hA hX hN hml hst hA0 hT (fun H locs ls G => W.iret (v := r1) hx hb hr (fun t ht hW => ⟨⟨r1, T1, rfl, ⟨rfl, rfl⟩, ⟨by rw [ht]; exact G.1, va_K.moved hW.alike hK, G.2.1⟩⟩, G.2.2.F ht⟩) G.2.2.2.2 dX3_shape_73) _ _ _ _ _ _ h G hl
set_option maxHeartbeats 4000000 in
set_option maxRecDepth 100000 in
theorem s_X3_shape_b62 {e1 : Nat} {r1 : Int32} {T1 : AT} : ∀ (T : AT) (l0 : Nat) (l1 : Int32), g_X3_shape_b62 T l0 l1 = some (e1, r1, T1) → SP T T1 := by
  intro T l0 l1 h
  have p0 := SP.rf T
  unfold g_X3_shape_b62 at h
  obtain ⟨g2, h⟩ := oif_some h
  obtain ⟨v3, -, h⟩ := elet_some h
  obtain ⟨v4, -, h⟩ := elet_some h
  obtain ⟨g5, h⟩ := oif_some h
  obtain ⟨T6, eT6, h⟩ := elet_some h
  have p1 : SP T T6 := SP.tr p0 (by rw [eT6]; exact sp_uI)
  rw [← (osome3 h).2.2]
  exact p1
set_option maxHeartbeats 4000000 in
set_option maxRecDepth 100000 in
theorem s_X3_shape {T : AT} {o : Nat} {e1 : Nat} {r1 : Int32} {T1 : AT} (h : g_X3_shape T o = some (e1, r1, T1)) : SP T T1 := by
  have p0 := SP.rf T
  unfold g_X3_shape at h
  obtain ⟨g3, h⟩ := oif_some h
  obtain ⟨r5, T4, eT4, h⟩ := obind2_some h
  have p1 : SP T T4 := SP.tr p0 (s_X3_isWord eT4)
  rcases oif_or h with ⟨c6, h⟩ | ⟨c6, h⟩
  · have h := h
    obtain ⟨g8, h⟩ := oif_some h
    obtain ⟨r10, T9, eT9, h⟩ := obind2_some h
    have p2 : SP T T9 := SP.tr p1 (s_X3_isWord eT9)
    rcases oif_or h with ⟨c11, h⟩ | ⟨c11, h⟩
    · have h := h
      obtain ⟨g13, h⟩ := oif_some h
      obtain ⟨r15, T14, eT14, h⟩ := obind2_some h
      have p3 : SP T T14 := SP.tr p2 (s_X3_isWord eT14)
      rcases oif_or h with ⟨c16, h⟩ | ⟨c16, h⟩
      · have h := h
        obtain ⟨g18, h⟩ := oif_some h
        obtain ⟨r20, T19, eT19, h⟩ := obind2_some h
        have p4 : SP T T19 := SP.tr p3 (s_X3_isWord eT19)
        rcases oif_or h with ⟨c21, h⟩ | ⟨c21, h⟩
        · have h := h
          obtain ⟨g22, h⟩ := oif_some h
          obtain ⟨v23, -, h⟩ := elet_some h
          obtain ⟨g24, h⟩ := oif_some h
          rcases othr_s h with ⟨k9, r9, e9, -⟩ | ⟨r26, T25, eT25, h⟩
          · exact SP.tr p4 (s_X3_failAt e9)
          have p5 : SP T T25 := SP.tr p4 (s_X3_failAt eT25)
          exact SP.tr p5 (s_X3_shape_b62 _ _ _ h)
        · have h := h
          exact SP.tr p4 (s_X3_shape_b62 _ _ _ h)
      · have h := h
        exact SP.tr p3 (s_X3_shape_b62 _ _ _ h)
    · have h := h
      exact SP.tr p2 (s_X3_shape_b62 _ _ _ h)
  · have h := h
    exact SP.tr p1 (s_X3_shape_b62 _ _ _ h)
set_option maxHeartbeats 4000000 in
set_option maxRecDepth 100000 in
theorem x_X3_shape_b62 {p : Program} {l : Launch} {e : Env} {s : State} {m : MethodId} {args : Array Value} {below : List Frame} {meth : Method} {c : Code} {Qc : Array Value → State → Outcome → State → Prop} {XC : String → State → State → Prop} {D : va_G} {A : Nat → Prop} {cI cJ cZ cMic cSrc cSt cAI cAJ : ClassId} {ad : Nat → Nat} {e1 : Nat} {r1 : Int32} {T1 : AT} (E : cE p c cX3_shape s m args (Cond.code yX3_shape cX3_shape 2 (some .int) :: wsA) D RX3 (CT cI cJ cZ cMic cSrc cSt cAI cAJ)) (hA : ∀ q : Nat, s.heap.size ≤ q → A q) (hX : xT A s) (hN : nX s) (hml : c.maxLocals = 2) {h0 : Nat} (hA0 : ∀ a : Nat, A a → h0 ≤ a) (hT : sAll h0 s) (hz9 : True) (hst : l.stackTraces = false) (htab : ∀ x ∈ c.exceptionTable.toList, False) (hlocks : meth.locks = false) (kx : ∀ (H : Heap) (locs : List Loc) (t : State), gC cI cJ cZ cMic cSrc cSt cAI cAJ D ad A s.heap H locs T1 → s.vm.Alike t.vm → H.size ≤ t.heap.size → (∀ q, q < H.size → t.heap[q]? = H[q]?) → XC (exn e1) s t) : ∀ (T : AT) (H : Heap) (locs : List Loc) (ls : Array Slot) (l0 : Nat) (l1 : Int32), g_X3_shape_b62 T l0 l1 = some (e1 + 1, r1, T1) → gC cI cJ cZ cMic cSrc cSt cAI cAJ D ad A s.heap H locs T → lv_has ls 2 [(0, .ref (ad l0)), (1, .int l1)] → W p l e { frames := 7, cells := 1, slots := 6, locals := 111 } s m args below meth c H locs 0 0 (vx_MQ below Qc XC args s 1 6 A) (F0 m 62 ls []) := by
  have hx := E.1
  have hb := E.2.1
  have hts := E.2.2.1
  have hown := E.2.2.2.1
  have hK := E.2.2.2.2
  intro T H locs ls l0 l1 h G hl
  unfold g_X3_shape_b62 at h
  refine lv_aload_n hx hb dX3_shape_62 rfl (lv_at hl 0 rfl) ?_
  refine lv_dup hx hb dX3_shape_63 rfl ?_
  obtain ⟨g2, h⟩ := oif_some h
  refine c_get E G l0 1 (oO_k g2).1 (cc_o3 (oO_k g2).2) rfl (fun w h => .tail _ (iA_17 h)) (by decide) (.tail _ qA_176) rfl rfl dX3_shape_64 ?_
  refine lv_topi (fun v3 ev3 => ?_)
  have h := elet_at ev3 h
  clear ev3
  refine lv_iconst (v := 1) hx hb dX3_shape_67 (by decide) ?_
  refine lv_iadd hx hb dX3_shape_68 ?_
  refine lv_topi (fun v4 ev4 => ?_)
  have h := elet_at ev4 h
  clear ev4
  obtain ⟨g5, h⟩ := oif_some h
  refine c_put E G l0 1 (v := .int v4) (oO_k g5).1 (cc_o3 (oO_k g5).2) rfl (fun w h => .tail _ (iA_17 h)) tyX3 tyX3_ok nmX3 (by decide) (.tail _ qA_176) ⟨rfl, rfl, rfl⟩ rfl rfl (Nat.le_of_ble_eq_true rfl) dX3_shape_69 (fun H locs G => ?_)
  have G := gC_up_i (f := upd (T.2.2.1 l0) 1 v4) (by rw [(oO_k g5).2]; rfl) G
  obtain ⟨T6, eT6, h⟩ := elet_some h
  have G : gC cI cJ cZ cMic cSrc cSt cAI cAJ D ad A s.heap H locs T6 := by rw [eT6]; exact G
  clear eT6
  refine lv_iload_n hx hb dX3_shape_72 rfl (lv_at hl 1 rfl) ?_
  exact (Nat.succ_ne_zero _ (congrArg Prod.fst (Option.some.inj h)).symm).elim
set_option maxHeartbeats 4000000 in
set_option maxRecDepth 100000 in
theorem x_X3_shape (l : Launch) (hst : l.stackTraces = false) (D : va_G) (cI cJ cZ cMic cSrc cSt cAI cAJ : ClassId) (ad : Nat → Nat) (T : AT) (h0 : Nat) (o : Nat) {e1 : Nat} {r1 : Int32} {T1 : AT} (h : g_X3_shape T o = some (e1 + 1, r1, T1)) : kXiX l yX3_shape (Cond.code yX3_shape cX3_shape 2 (some .int) :: wsA) 7 111 cI cJ cZ cMic cSrc cSt cAI cAJ D ad T [.ref (ad o)] (yT0 cI cJ cZ cMic cSrc cSt cAI cAJ h0 ad T) e1 T1 := by
  intro sz
  refine vx_ofW (cc := cX3_shape) (maxL := 2) (ret := (some .int)) (by decide) rfl ?_
  intro p e s m args below meth c s₁ B hml htab hv
  obtain ⟨rfl, ⟨hsz, hP, hK, hD0, hX, hN⟩, hA1, hT⟩ := hv
  have hx := B.exec
  have hb := B.bytes
  have hr := B.returns
  have hts := atoms_spec (ws := (Cond.code yX3_shape cX3_shape 2 (some .int) :: wsA)) B.pre
  have hown : s.vm.findClass RX3 = some m.cls := findClass_of_methodNamed B.named
  have hlocks := B.notSynchronized
  subst hsz
  have hD := hD0.self (sz := s.heap.size)
  generalize hAe : va_A (cW ad T.1 (cc cI cJ cZ cMic cSrc cSt cAI cAJ ad T)) s.heap.size = A at hD hX hA1 ⊢
  have hA : ∀ q : Nat, s.heap.size ≤ q → A q := fun q h => by rw [← hAe]; exact Or.inr h
  have G : gC cI cJ cZ cMic cSrc cSt cAI cAJ D ad A s.heap s.heap [] T := ⟨hP, hD, va_S.rf⟩
  have E : cE p c cX3_shape s m ([.ref (ad o)] : List Value).toArray (Cond.code yX3_shape cX3_shape 2 (some .int) :: wsA) D RX3 (CT cI cJ cZ cMic cSrc cSt cAI cAJ) := ⟨hx, hb, hts, hown, hK⟩
  have htab : ∀ x ∈ c.exceptionTable.toList, False := fun x hx => htab x hx
  have hA0 : ∀ a : Nat, A a → h0 ≤ a := hA1
  have hl := lv_entry ([.ref (ad o)]) (n := 2) (Nat.le_of_ble_eq_true rfl)
  rw [lg_entry_eq]
  generalize (lg_sl ([.ref (ad o)]) ++ List.replicate (2 - (lg_sl ([.ref (ad o)])).length) Slot.unset).toArray = ls at hl ⊢
  have hl : lv_has ls 2 [(0, .ref (ad o))] := hl
  unfold g_X3_shape at h
  refine lv_iconst (v := 0) hx hb dX3_shape_0 (by decide) ?_
  refine lv_istore_n (lv' := [(1, .int 0), (0, .ref (ad o))]) hx hb dX3_shape_1 rfl hl (by decide) rfl (fun ls hl => ?_)
  refine lv_aload_n hx hb dX3_shape_2 rfl (lv_at hl 1 rfl) ?_
  obtain ⟨w2, hw2, ow2⟩ := hT.1 ("AcousticCamera$Parser", 217, "triangle") (List.mem_of_getElem? (i := 8) rfl)
  refine va_ldcS hx hb hown hw2 dX3_shape_3 ?_
  obtain ⟨g3, h⟩ := oif_some h
  obtain ⟨r6, T4, eT4, h⟩ := obind2_some h
  refine q_cviX (As := [.ref w2]) (rest := []) E G hA hX hN hml (u_X3_isWord l hst D cI cJ cZ cMic cSrc cSt cAI cAJ ad T h0 (q := w2) (sTx_ok (by decide +kernel)) o eT4) (cwV 1 hts (gaV qA_232 qA_233 qA_234 qA_222 qA_235) rfl rfl rfl (by decide +kernel) ⟨Nat.le_of_ble_eq_true rfl, Nat.le_of_ble_eq_true rfl⟩) (oO_k g3).1 (cc_o3 (oO_k g3).2) rfl rfl hl.1 rfl (lv_room (Nat.le_of_ble_eq_true rfl)) dX3_shape_5 ⟨Nat.zero_le _, Nat.zero_le _⟩ (yT1.blind) (yT1.go hT hA0 hA G ow2) (fun q7 T5 H locs hq G => ?_)
  obtain ⟨hq1, hq2⟩ := hq
  rw [hq2] at G
  refine lv_to hq1 ?_
  clear hq1 hq2 eT4
  refine lv_if_eq (tgt := 16) hx hb dX3_shape_8 (by decide) (fun c8 => ?_) (fun c8 => ?_)
  · have h := oif_pos c8 h
    refine lv_aload_n hx hb dX3_shape_16 rfl (lv_at hl 1 rfl) ?_
    obtain ⟨w9, hw9, ow9⟩ := hT.1 ("AcousticCamera$Parser", 219, "pulse") (List.mem_of_getElem? (i := 9) rfl)
    refine va_ldcS hx hb hown hw9 dX3_shape_17 ?_
    obtain ⟨g10, h⟩ := oif_some h
    obtain ⟨r13, T11, eT11, h⟩ := obind2_some h
    refine q_cviX (As := [.ref w9]) (rest := []) E G hA hX hN hml (u_X3_isWord l hst D cI cJ cZ cMic cSrc cSt cAI cAJ ad T4 h0 (q := w9) (sTx_ok (by decide +kernel)) o eT11) (cwV 1 hts (gaV qA_232 qA_233 qA_234 qA_222 qA_235) rfl rfl rfl (by decide +kernel) ⟨Nat.le_of_ble_eq_true rfl, Nat.le_of_ble_eq_true rfl⟩) (oO_k g10).1 (cc_o3 (oO_k g10).2) rfl rfl hl.1 rfl (lv_room (Nat.le_of_ble_eq_true rfl)) dX3_shape_19 ⟨Nat.zero_le _, Nat.zero_le _⟩ (yT1.blind) (yT1.go hT hA0 hA G ow9) (fun q14 T12 H locs hq G => ?_)
    obtain ⟨hq1, hq2⟩ := hq
    rw [hq2] at G
    refine lv_to hq1 ?_
    clear hq1 hq2 eT11
    refine lv_if_eq (tgt := 30) hx hb dX3_shape_22 (by decide) (fun c15 => ?_) (fun c15 => ?_)
    · have h := oif_pos c15 h
      refine lv_aload_n hx hb dX3_shape_30 rfl (lv_at hl 1 rfl) ?_
      obtain ⟨w16, hw16, ow16⟩ := hT.1 ("AcousticCamera$Parser", 221, "noise") (List.mem_of_getElem? (i := 10) rfl)
      refine va_ldcS hx hb hown hw16 dX3_shape_31 ?_
      obtain ⟨g17, h⟩ := oif_some h
      obtain ⟨r20, T18, eT18, h⟩ := obind2_some h
      refine q_cviX (As := [.ref w16]) (rest := []) E G hA hX hN hml (u_X3_isWord l hst D cI cJ cZ cMic cSrc cSt cAI cAJ ad T11 h0 (q := w16) (sTx_ok (by decide +kernel)) o eT18) (cwV 1 hts (gaV qA_232 qA_233 qA_234 qA_222 qA_235) rfl rfl rfl (by decide +kernel) ⟨Nat.le_of_ble_eq_true rfl, Nat.le_of_ble_eq_true rfl⟩) (oO_k g17).1 (cc_o3 (oO_k g17).2) rfl rfl hl.1 rfl (lv_room (Nat.le_of_ble_eq_true rfl)) dX3_shape_33 ⟨Nat.zero_le _, Nat.zero_le _⟩ (yT1.blind) (yT1.go hT hA0 hA G ow16) (fun q21 T19 H locs hq G => ?_)
      obtain ⟨hq1, hq2⟩ := hq
      rw [hq2] at G
      refine lv_to hq1 ?_
      clear hq1 hq2 eT18
      refine lv_if_eq (tgt := 44) hx hb dX3_shape_36 (by decide) (fun c22 => ?_) (fun c22 => ?_)
      · have h := oif_pos c22 h
        refine lv_aload_n hx hb dX3_shape_44 rfl (lv_at hl 1 rfl) ?_
        obtain ⟨w23, hw23, ow23⟩ := hT.1 ("AcousticCamera$Parser", 223, "square") (List.mem_of_getElem? (i := 11) rfl)
        refine va_ldcS hx hb hown hw23 dX3_shape_45 ?_
        obtain ⟨g24, h⟩ := oif_some h
        obtain ⟨r27, T25, eT25, h⟩ := obind2_some h
        refine q_cviX (As := [.ref w23]) (rest := []) E G hA hX hN hml (u_X3_isWord l hst D cI cJ cZ cMic cSrc cSt cAI cAJ ad T18 h0 (q := w23) (sTx_ok (by decide +kernel)) o eT25) (cwV 1 hts (gaV qA_232 qA_233 qA_234 qA_222 qA_235) rfl rfl rfl (by decide +kernel) ⟨Nat.le_of_ble_eq_true rfl, Nat.le_of_ble_eq_true rfl⟩) (oO_k g24).1 (cc_o3 (oO_k g24).2) rfl rfl hl.1 rfl (lv_room (Nat.le_of_ble_eq_true rfl)) dX3_shape_47 ⟨Nat.zero_le _, Nat.zero_le _⟩ (yT1.blind) (yT1.go hT hA0 hA G ow23) (fun q28 T26 H locs hq G => ?_)
        obtain ⟨hq1, hq2⟩ := hq
        rw [hq2] at G
        refine lv_to hq1 ?_
        clear hq1 hq2 eT25
        refine lv_if_ne (tgt := 62) hx hb dX3_shape_50 (by decide) (fun c29 => ?_) (fun c29 => ?_)
        · have h := oif_neg c29 h
          have hl := lv_sub hl [1, 0] rfl
          exact x_X3_shape_b62 E hA hX hN hml hA0 hT trivial hst htab hlocks (fun H locs t G hvm h1 h2 => ⟨T1, trivial, ⟨⟨rfl, rfl⟩, (c_thrown G hK hvm h1 h2).1⟩, (c_thrown G hK hvm h1 h2).2⟩) _ _ _ _ _ _ h G hl
        · have h := oif_pos c29 h
          refine lv_aload_n hx hb dX3_shape_53 rfl (lv_at hl 1 rfl) ?_
          refine lv_aload_n hx hb dX3_shape_54 rfl (lv_at hl 1 rfl) ?_
          obtain ⟨g30, h⟩ := oif_some h
          refine c_get E G o 1 (oO_k g30).1 (cc_o3 (oO_k g30).2) rfl (fun w h => .tail _ (iA_17 h)) (by decide) (.tail _ qA_176) rfl rfl dX3_shape_55 ?_
          refine lv_topi (fun v31 ev31 => ?_)
          have h := elet_at ev31 h
          clear ev31
          refine lv_iconst (v := 1) hx hb dX3_shape_58 (by decide) ?_
          obtain ⟨g32, h⟩ := oif_some h
          rcases othr_t h with ⟨r0, eT33⟩ | ⟨r35, T33, eT33, h⟩
          · refine q_xvv (As := [.int v31, .int 1]) (rest := []) E G hA hX hN hml (x_X3_failAt l hst D cI cJ cZ cMic cSrc cSt cAI cAJ ad T25 o v31 (1 : Int32) eT33) (cwV 2 hts (gaV qA_293 qA_294 qA_295 qA_222 qA_296) rfl rfl rfl (by decide +kernel) ⟨Nat.le_of_ble_eq_true rfl, Nat.le_of_ble_eq_true rfl⟩) (oO_k g32).1 (cc_o3 (oO_k g32).2) rfl rfl hl.1 rfl (lv_room (Nat.le_of_ble_eq_true rfl)) dX3_shape_59 ⟨Nat.le_of_ble_eq_true rfl, Nat.le_of_ble_eq_true rfl⟩ (fun E9 ce q9 T9 H locs hp G hce hcv hcl => ?_)
            obtain ⟨hE, hT⟩ := hp
            subst hE
            rw [hT] at G
            exact vx_out (fun x hx => (htab x hx).elim) hlocks hce hcv hcl (fun t ht hvm => ⟨T1, trivial, ⟨⟨rfl, rfl⟩, by rw [ht]; exact G.1, va_K.moved hvm hK, G.2.1⟩, G.2.2.F ht⟩) G.2.2.2.2 (Nat.le_refl _) (Nat.le_refl _)
          refine q_cvv (As := [.int v31, .int 1]) (rest := []) E G hA hX hN hml (u_X3_failAt l hst D cI cJ cZ cMic cSrc cSt cAI cAJ ad T25 o v31 (1 : Int32) eT33) (cwV 2 hts (gaV qA_293 qA_294 qA_295 qA_222 qA_296) rfl rfl rfl (by decide +kernel) ⟨Nat.le_of_ble_eq_true rfl, Nat.le_of_ble_eq_true rfl⟩) (oO_k g32).1 (cc_o3 (oO_k g32).2) rfl rfl hl.1 rfl (lv_room (Nat.le_of_ble_eq_true rfl)) dX3_shape_59 ⟨Nat.zero_le _, Nat.zero_le _⟩ (fun T34 H locs hq G => ?_)
          rw [hq] at G
          clear hq eT33
          have hl := lv_sub hl [1, 0] rfl
          exact x_X3_shape_b62 E hA hX hN hml hA0 hT trivial hst htab hlocks (fun H locs t G hvm h1 h2 => ⟨T1, trivial, ⟨⟨rfl, rfl⟩, (c_thrown G hK hvm h1 h2).1⟩, (c_thrown G hK hvm h1 h2).2⟩) _ _ _ _ _ _ h G hl
      · have h := oif_neg c22 h
        refine lv_iconst (v := 3) hx hb dX3_shape_39 (by decide) ?_
        refine lv_istore_n (lv' := [(1, .int 3), (0, .ref (ad o))]) hx hb dX3_shape_40 rfl hl (by decide) rfl (fun ls hl => ?_)
        refine lv_goto (tgt := 62) hx hb dX3_shape_41 (by decide) ?_
        have hl := lv_sub hl [1, 0] rfl
        exact x_X3_shape_b62 E hA hX hN hml hA0 hT trivial hst htab hlocks (fun H locs t G hvm h1 h2 => ⟨T1, trivial, ⟨⟨rfl, rfl⟩, (c_thrown G hK hvm h1 h2).1⟩, (c_thrown G hK hvm h1 h2).2⟩) _ _ _ _ _ _ h G hl
    · have h := oif_neg c15 h
      refine lv_iconst (v := 2) hx hb dX3_shape_25 (by decide) ?_
      refine lv_istore_n (lv' := [(1, .int 2), (0, .ref (ad o))]) hx hb dX3_shape_26 rfl hl (by decide) rfl (fun ls hl => ?_)
      refine lv_goto (tgt := 62) hx hb dX3_shape_27 (by decide) ?_
      have hl := lv_sub hl [1, 0] rfl
      exact x_X3_shape_b62 E hA hX hN hml hA0 hT trivial hst htab hlocks (fun H locs t G hvm h1 h2 => ⟨T1, trivial, ⟨⟨rfl, rfl⟩, (c_thrown G hK hvm h1 h2).1⟩, (c_thrown G hK hvm h1 h2).2⟩) _ _ _ _ _ _ h G hl
  · have h := oif_neg c8 h
    refine lv_iconst (v := 1) hx hb dX3_shape_11 (by decide) ?_
    refine lv_istore_n (lv' := [(1, .int 1), (0, .ref (ad o))]) hx hb dX3_shape_12 rfl hl (by decide) rfl (fun ls hl => ?_)
    refine lv_goto (tgt := 62) hx hb dX3_shape_13 (by decide) ?_
    have hl := lv_sub hl [1, 0] rfl
    exact x_X3_shape_b62 E hA hX hN hml hA0 hT trivial hst htab hlocks (fun H locs t G hvm h1 h2 => ⟨T1, trivial, ⟨⟨rfl, rfl⟩, (c_thrown G hK hvm h1 h2).1⟩, (c_thrown G hK hvm h1 h2).2⟩) _ _ _ _ _ _ h G hl
def g_X3_parseSource_b168  (T : AT) (l1 : Nat) : Option (Nat × Int32 × AT) := oif (oO T l1 6 = true) <| elet (T.2.2.1 l1 8) fun v3 => elet (v3 + 1) fun v4 => oif (oO T l1 6 = true) <| elet (uI T l1 8 v4) fun T6 => some (0, 0, T6)
set_option maxHeartbeats 4000000 in
set_option maxRecDepth 100000 in
theorem u_X3_parseSource_b168 {p : Program} {l : Launch} {e : Env} {s : State} {m : MethodId} {args : Array Value} {below : List Frame} {meth : Method} {c : Code} {Q : State → Prop} {D : va_G} {A : Nat → Prop} {cI cJ cZ cMic cSrc cSt cAI cAJ : ClassId} {ad : Nat → Nat} {r1 : Int32} {T1 : AT} (E : cE p c cX3_parseSource s m args (Cond.code yX3_parseSource cX3_parseSource 3 none :: wsA) D RX3 (CT cI cJ cZ cMic cSrc cSt cAI cAJ)) (hA : ∀ q : Nat, s.heap.size ≤ q → A q) (hX : xT A s) (hN : nX s) (hml : c.maxLocals = 3) (hst : l.stackTraces = false) {h0 : Nat} (hA0 : ∀ a : Nat, A a → h0 ≤ a) (hT : sAll h0 s) (kr178 : ∀ (H : Heap) (locs : List Loc) (ls : Array Slot), gC cI cJ cZ cMic cSrc cSt cAI cAJ D ad A s.heap H locs T1 → W p l e { frames := 9, cells := 0, slots := 0, locals := 148 } s m args below meth c H locs 0 0 Q (F0 m 178 ls [])) : ∀ (T : AT) (H : Heap) (locs : List Loc) (ls : Array Slot) (l1 : Nat), g_X3_parseSource_b168 T l1 = some (0, r1, T1) → gC cI cJ cZ cMic cSrc cSt cAI cAJ D ad A s.heap H locs T → lv_has ls 3 [(1, .ref (ad l1))] → W p l e { frames := 9, cells := 0, slots := 0, locals := 148 } s m args below meth c H locs 0 0 Q (F0 m 168 ls []) := by
  have hx := E.1
  have hb := E.2.1
  have hts := E.2.2.1
  have hown := E.2.2.2.1
  have hK := E.2.2.2.2
  intro T H locs ls l1 h G hl
  unfold g_X3_parseSource_b168 at h
  refine lv_aload_n hx hb dX3_parseSource_168 rfl (lv_at hl 0 rfl) ?_
  refine lv_dup hx hb dX3_parseSource_169 rfl ?_
  obtain ⟨g2, h⟩ := oif_some h
  refine c_get E G l1 8 (oO_k g2).1 (cc_o6 (oO_k g2).2) rfl (fun w h => .tail _ (iA_14 h)) (by decide) (.tail _ qA_343) rfl rfl dX3_parseSource_170 ?_
  refine lv_topi (fun v3 ev3 => ?_)
  have h := elet_at ev3 h
  clear ev3
  refine lv_iconst (v := 1) hx hb dX3_parseSource_173 (by decide) ?_
  refine lv_iadd hx hb dX3_parseSource_174 ?_
  refine lv_topi (fun v4 ev4 => ?_)
  have h := elet_at ev4 h
  clear ev4
  obtain ⟨g5, h⟩ := oif_some h
  refine c_put E G l1 8 (v := .int v4) (oO_k g5).1 (cc_o6 (oO_k g5).2) rfl (fun w h => .tail _ (iA_14 h)) tyX6 tyX6_ok nmX6 (by decide) (.tail _ qA_343) ⟨rfl, rfl, rfl⟩ rfl rfl (Nat.le_of_ble_eq_true rfl) dX3_parseSource_175 (fun H locs G => ?_)
  have G := gC_up_i (f := upd (T.2.2.1 l1) 8 v4) (by rw [(oO_k g5).2]; rfl) G
  obtain ⟨T6, eT6, h⟩ := elet_some h
  have G : gC cI cJ cZ cMic cSrc cSt cAI cAJ D ad A s.heap H locs T6 := by rw [eT6]; exact G
  clear eT6
  rw [(osome3 h).2.2] at G
  exact kr178 _ _ _ G
def g_X3_parseSource_b15  (T : AT) (s0 : Int32) (s1 : Nat) (l0 : Nat) (l1 : Nat) : Option (Nat × Int32 × AT) := oif (oO T s1 3 = true) <| othr (g_X3_startLine T s1 s0 (4 : Int32)) 0 fun r5 T3 => oif (oO T3 l1 6 = true) <| obind (T3.2.2.2.2 l1 7) fun n8 => oif (oO T3 l1 6 = true) <| elet (T3.2.2.1 l1 8) fun v10 => oif (aA T3 n8 104 = true) <| oif (inb v10 (T3.2.1 n8).2 = true) <| obind (T3.2.2.2.2 n8 v10.toNatClampNeg) fun n13 => oif (oO T3 l0 3 = true) <| othr (g_X3_shape T3 l0) 0 fun r17 T15 => oif (oO T15 n13 7 = true) <| elet (uI T15 n13 0 r17) fun T20 => oif (oO T20 l0 3 = true) <| othr (g_X3_signed T20 l0 ((-2000) : Int32) (2000 : Int32)) 0 fun r24 T22 => oif (oO T22 n13 7 = true) <| elet (uI T22 n13 1 r24) fun T27 => oif (oO T27 l0 3 = true) <| othr (g_X3_signed T27 l0 ((-2000) : Int32) (2000 : Int32)) 0 fun r31 T29 => oif (oO T29 n13 7 = true) <| elet (uI T29 n13 2 r31) fun T34 => oif (oO T34 l0 3 = true) <| othr (g_X3_signed T34 l0 ((-999) : Int32) (999 : Int32)) 0 fun r38 T36 => oif (oO T36 n13 7 = true) <| elet (uI T36 n13 3 r38) fun T41 => oif (oO T41 l0 3 = true) <| othr (g_X3_signed T41 l0 ((-999) : Int32) (999 : Int32)) 0 fun r45 T43 => oif (oO T43 n13 7 = true) <| elet (uI T43 n13 4 r45) fun T48 => oif (oO T48 l0 3 = true) <| othr (g_X3_number T48 l0 (1 : Int32) (999 : Int32)) 0 fun r52 T50 => oif (oO T50 n13 7 = true) <| elet (uI T50 n13 5 r52) fun T55 => oif (oO T55 l0 3 = true) <| othr (g_X3_number T55 l0 (2 : Int32) (99 : Int32)) 0 fun r59 T57 => oif (oO T57 n13 7 = true) <| elet (uI T57 n13 6 r59) fun T62 => oif (oO T62 l0 3 = true) <| othr (g_X3_number T62 l0 (0 : Int32) (99 : Int32)) 0 fun r66 T64 => oif (oO T64 n13 7 = true) <| elet (uI T64 n13 7 r66) fun T69 => oif (oO T69 n13 7 = true) <| elet (uI T69 n13 8 0) fun T71 => oif (oO T71 n13 7 = true) <| elet (uI T71 n13 9 0) fun T73 => oif (oO T73 l0 3 = true) <| obind2 (g_X3_isWord T73 (sTx "from") l0) fun r78 T76 => if r78 = 0 then (g_X3_parseSource_b168 T76 l1) else (oif (oO T76 l0 3 = true) <| elet (T76.2.2.1 l0 1) fun v82 => elet (v82 + 1) fun v83 => oif (oO T76 l0 3 = true) <| elet (uI T76 l0 1 v83) fun T85 => oif (oO T85 l0 3 = true) <| othr (g_X3_number T85 l0 (0 : Int32) (199 : Int32)) 0 fun r89 T87 => oif (oO T87 n13 7 = true) <| elet (uI T87 n13 8 r89) fun T92 => g_X3_parseSource_b168 T92 l1)
set_option maxHeartbeats 4000000 in
set_option maxRecDepth 100000 in
theorem u_X3_parseSource_b15 {p : Program} {l : Launch} {e : Env} {s : State} {m : MethodId} {args : Array Value} {below : List Frame} {meth : Method} {c : Code} {Q : State → Prop} {D : va_G} {A : Nat → Prop} {cI cJ cZ cMic cSrc cSt cAI cAJ : ClassId} {ad : Nat → Nat} {r1 : Int32} {T1 : AT} (E : cE p c cX3_parseSource s m args (Cond.code yX3_parseSource cX3_parseSource 3 none :: wsA) D RX3 (CT cI cJ cZ cMic cSrc cSt cAI cAJ)) (hA : ∀ q : Nat, s.heap.size ≤ q → A q) (hX : xT A s) (hN : nX s) (hml : c.maxLocals = 3) (hst : l.stackTraces = false) {h0 : Nat} (hA0 : ∀ a : Nat, A a → h0 ≤ a) (hT : sAll h0 s) (kr178 : ∀ (H : Heap) (locs : List Loc) (ls : Array Slot), gC cI cJ cZ cMic cSrc cSt cAI cAJ D ad A s.heap H locs T1 → W p l e { frames := 9, cells := 0, slots := 0, locals := 148 } s m args below meth c H locs 0 0 Q (F0 m 178 ls [])) : ∀ (T : AT) (H : Heap) (locs : List Loc) (ls : Array Slot) (s0 : Int32) (s1 : Nat) (l0 : Nat) (l1 : Nat), g_X3_parseSource_b15 T s0 s1 l0 l1 = some (0, r1, T1) → gC cI cJ cZ cMic cSrc cSt cAI cAJ D ad A s.heap H locs T → lv_has ls 3 [(0, .ref (ad l0)), (1, .ref (ad l1))] → W p l e { frames := 9, cells := 0, slots := 0, locals := 148 } s m args below meth c H locs 0 0 Q (F0 m 15 ls [.int s0, .ref (ad s1)]) := by
  have hx := E.1
  have hb := E.2.1
  have hts := E.2.2.1
  have hown := E.2.2.2.1
  have hK := E.2.2.2.2
  intro T H locs ls s0 s1 l0 l1 h G hl
  unfold g_X3_parseSource_b15 at h
  refine lv_iconst (v := 4) hx hb dX3_parseSource_15 (by decide) ?_
  obtain ⟨g2, h⟩ := oif_some h
  obtain ⟨r5, T3, eT3, h⟩ := othr_n h
  refine q_cvv (As := [.int s0, .int 4]) (rest := []) E G hA hX hN hml (u_X3_startLine l hst D cI cJ cZ cMic cSrc cSt cAI cAJ ad T s1 s0 (4 : Int32) eT3) (cwV 2 hts (gaV qA_321 qA_322 qA_323 qA_222 qA_324) rfl rfl rfl (by decide +kernel) ⟨Nat.le_of_ble_eq_true rfl, Nat.le_of_ble_eq_true rfl⟩) (oO_k g2).1 (cc_o3 (oO_k g2).2) rfl rfl hl.1 rfl (lv_room (Nat.le_of_ble_eq_true rfl)) dX3_parseSource_16 ⟨Nat.zero_le _, Nat.zero_le _⟩ (fun T4 H locs hq G => ?_)
  rw [hq] at G
  clear hq eT3
  refine lv_aload_n hx hb dX3_parseSource_19 rfl (lv_at hl 1 rfl) ?_
  obtain ⟨g7, h⟩ := oif_some h
  obtain ⟨n8, en8, h⟩ := obind_some h
  refine c_get E G l1 7 (v := .ref (ad n8)) (oO_k g7).1 (cc_o6 (oO_k g7).2) rfl (fun w h => .tail _ (iA_14 h)) (by decide) (.tail _ qA_344) rfl (by rw [en8]; rfl) dX3_parseSource_20 ?_
  clear en8
  refine lv_aload_n hx hb dX3_parseSource_23 rfl (lv_at hl 1 rfl) ?_
  obtain ⟨g9, h⟩ := oif_some h
  refine c_get E G l1 8 (oO_k g9).1 (cc_o6 (oO_k g9).2) rfl (fun w h => .tail _ (iA_14 h)) (by decide) (.tail _ qA_343) rfl rfl dX3_parseSource_24 ?_
  refine lv_topi (fun v10 ev10 => ?_)
  have h := elet_at ev10 h
  clear ev10
  obtain ⟨g11, h⟩ := oif_some h
  obtain ⟨g12, h⟩ := oif_some h
  obtain ⟨n13, en13, h⟩ := obind_some h
  refine c_aldq E G n8 4 (k := v10.toNatClampNeg) (v := .ref (ad n13)) (aA_k g11).1 (cc_a104 (aA_k g11).2.1) rfl (inb_k g12).1 (inb_k g12).2 (aA_k g11).2.2 (by show va_rf ((T3.2.2.2.2 n8 v10.toNatClampNeg).map ad) = _; rw [en13]; rfl) dX3_parseSource_27 ?_
  clear en13
  refine lv_astore_n (lv' := [(2, .ref (ad n13)), (0, .ref (ad l0)), (1, .ref (ad l1))]) hx hb dX3_parseSource_28 rfl hl (by decide) rfl (fun ls hl => ?_)
  refine lv_aload_n hx hb dX3_parseSource_29 rfl (lv_at hl 0 rfl) ?_
  refine lv_aload_n hx hb dX3_parseSource_30 rfl (lv_at hl 1 rfl) ?_
  obtain ⟨g14, h⟩ := oif_some h
  obtain ⟨r17, T15, eT15, h⟩ := othr_n h
  refine q_cviX (As := []) (rest := [.ref (ad n13)]) E G hA hX hN hml (u_X3_shape l hst D cI cJ cZ cMic cSrc cSt cAI cAJ ad T3 h0 l0 eT15) (cwV 0 hts (gaV qA_355 qA_356 qA_357 qA_222 qA_358) rfl rfl rfl (by decide +kernel) ⟨Nat.le_of_ble_eq_true rfl, Nat.le_of_ble_eq_true rfl⟩) (oO_k g14).1 (cc_o3 (oO_k g14).2) rfl rfl hl.1 rfl (lv_room (Nat.le_of_ble_eq_true rfl)) dX3_parseSource_31 ⟨Nat.zero_le _, Nat.zero_le _⟩ (yT0.blind) (yT0.go hT hA0 hA G) (fun q18 T16 H locs hq G => ?_)
  obtain ⟨hq1, hq2⟩ := hq
  rw [hq2] at G
  refine lv_to hq1 ?_
  clear hq1 hq2 eT15
  obtain ⟨g19, h⟩ := oif_some h
  refine c_put E G n13 0 (v := .int r17) (oO_k g19).1 (cc_o7 (oO_k g19).2) rfl (fun w h => .tail _ (iA_20 h)) tyX7 tyX7_ok nmX7 (by decide) (.tail _ qA_345) ⟨rfl, rfl, rfl⟩ rfl rfl (Nat.le_of_ble_eq_true rfl) dX3_parseSource_34 (fun H locs G => ?_)
  have G := gC_up_i (f := upd (T15.2.2.1 n13) 0 r17) (by rw [(oO_k g19).2]; rfl) G
  obtain ⟨T20, eT20, h⟩ := elet_some h
  have G : gC cI cJ cZ cMic cSrc cSt cAI cAJ D ad A s.heap H locs T20 := by rw [eT20]; exact G
  clear eT20
  refine lv_aload_n hx hb dX3_parseSource_37 rfl (lv_at hl 0 rfl) ?_
  refine lv_aload_n hx hb dX3_parseSource_38 rfl (lv_at hl 1 rfl) ?_
  refine lv_sipush (v := (-2000)) hx hb dX3_parseSource_39 (by decide) ?_
  refine lv_sipush (v := 2000) hx hb dX3_parseSource_42 (by decide) ?_
  obtain ⟨g21, h⟩ := oif_some h
  obtain ⟨r24, T22, eT22, h⟩ := othr_n h
  refine q_cvi (As := [.int (-2000), .int 2000]) (rest := [.ref (ad n13)]) E G hA hX hN hml (u_X3_signed l hst D cI cJ cZ cMic cSrc cSt cAI cAJ ad T20 l0 ((-2000) : Int32) (2000 : Int32) eT22) (cwV 2 hts (gaV qA_325 qA_326 qA_327 qA_222 qA_328) rfl rfl rfl (by decide +kernel) ⟨Nat.le_of_ble_eq_true rfl, Nat.le_of_ble_eq_true rfl⟩) (oO_k g21).1 (cc_o3 (oO_k g21).2) rfl rfl hl.1 rfl (lv_room (Nat.le_of_ble_eq_true rfl)) dX3_parseSource_45 ⟨Nat.zero_le _, Nat.zero_le _⟩ (fun q25 T23 H locs hq G => ?_)
  obtain ⟨hq1, hq2⟩ := hq
  rw [hq2] at G
  refine lv_to hq1 ?_
  clear hq1 hq2 eT22
  obtain ⟨g26, h⟩ := oif_some h
  refine c_put E G n13 1 (v := .int r24) (oO_k g26).1 (cc_o7 (oO_k g26).2) rfl (fun w h => .tail _ (iA_20 h)) tyX7 tyX7_ok nmX7 (by decide) (.tail _ qA_346) ⟨rfl, rfl, rfl⟩ rfl rfl (Nat.le_of_ble_eq_true rfl) dX3_parseSource_48 (fun H locs G => ?_)
  have G := gC_up_i (f := upd (T22.2.2.1 n13) 1 r24) (by rw [(oO_k g26).2]; rfl) G
  obtain ⟨T27, eT27, h⟩ := elet_some h
  have G : gC cI cJ cZ cMic cSrc cSt cAI cAJ D ad A s.heap H locs T27 := by rw [eT27]; exact G
  clear eT27
  refine lv_aload_n hx hb dX3_parseSource_51 rfl (lv_at hl 0 rfl) ?_
  refine lv_aload_n hx hb dX3_parseSource_52 rfl (lv_at hl 1 rfl) ?_
  refine lv_sipush (v := (-2000)) hx hb dX3_parseSource_53 (by decide) ?_
  refine lv_sipush (v := 2000) hx hb dX3_parseSource_56 (by decide) ?_
  obtain ⟨g28, h⟩ := oif_some h
  obtain ⟨r31, T29, eT29, h⟩ := othr_n h
  refine q_cvi (As := [.int (-2000), .int 2000]) (rest := [.ref (ad n13)]) E G hA hX hN hml (u_X3_signed l hst D cI cJ cZ cMic cSrc cSt cAI cAJ ad T27 l0 ((-2000) : Int32) (2000 : Int32) eT29) (cwV 2 hts (gaV qA_325 qA_326 qA_327 qA_222 qA_328) rfl rfl rfl (by decide +kernel) ⟨Nat.le_of_ble_eq_true rfl, Nat.le_of_ble_eq_true rfl⟩) (oO_k g28).1 (cc_o3 (oO_k g28).2) rfl rfl hl.1 rfl (lv_room (Nat.le_of_ble_eq_true rfl)) dX3_parseSource_59 ⟨Nat.zero_le _, Nat.zero_le _⟩ (fun q32 T30 H locs hq G => ?_)
  obtain ⟨hq1, hq2⟩ := hq
  rw [hq2] at G
  refine lv_to hq1 ?_
  clear hq1 hq2 eT29
  obtain ⟨g33, h⟩ := oif_some h
  refine c_put E G n13 2 (v := .int r31) (oO_k g33).1 (cc_o7 (oO_k g33).2) rfl (fun w h => .tail _ (iA_20 h)) tyX7 tyX7_ok nmX7 (by decide) (.tail _ qA_347) ⟨rfl, rfl, rfl⟩ rfl rfl (Nat.le_of_ble_eq_true rfl) dX3_parseSource_62 (fun H locs G => ?_)
  have G := gC_up_i (f := upd (T29.2.2.1 n13) 2 r31) (by rw [(oO_k g33).2]; rfl) G
  obtain ⟨T34, eT34, h⟩ := elet_some h
  have G : gC cI cJ cZ cMic cSrc cSt cAI cAJ D ad A s.heap H locs T34 := by rw [eT34]; exact G
  clear eT34
  refine lv_aload_n hx hb dX3_parseSource_65 rfl (lv_at hl 0 rfl) ?_
  refine lv_aload_n hx hb dX3_parseSource_66 rfl (lv_at hl 1 rfl) ?_
  refine lv_sipush (v := (-999)) hx hb dX3_parseSource_67 (by decide) ?_
  refine lv_sipush (v := 999) hx hb dX3_parseSource_70 (by decide) ?_
  obtain ⟨g35, h⟩ := oif_some h
  obtain ⟨r38, T36, eT36, h⟩ := othr_n h
  refine q_cvi (As := [.int (-999), .int 999]) (rest := [.ref (ad n13)]) E G hA hX hN hml (u_X3_signed l hst D cI cJ cZ cMic cSrc cSt cAI cAJ ad T34 l0 ((-999) : Int32) (999 : Int32) eT36) (cwV 2 hts (gaV qA_325 qA_326 qA_327 qA_222 qA_328) rfl rfl rfl (by decide +kernel) ⟨Nat.le_of_ble_eq_true rfl, Nat.le_of_ble_eq_true rfl⟩) (oO_k g35).1 (cc_o3 (oO_k g35).2) rfl rfl hl.1 rfl (lv_room (Nat.le_of_ble_eq_true rfl)) dX3_parseSource_73 ⟨Nat.zero_le _, Nat.zero_le _⟩ (fun q39 T37 H locs hq G => ?_)
  obtain ⟨hq1, hq2⟩ := hq
  rw [hq2] at G
  refine lv_to hq1 ?_
  clear hq1 hq2 eT36
  obtain ⟨g40, h⟩ := oif_some h
  refine c_put E G n13 3 (v := .int r38) (oO_k g40).1 (cc_o7 (oO_k g40).2) rfl (fun w h => .tail _ (iA_20 h)) tyX7 tyX7_ok nmX7 (by decide) (.tail _ qA_348) ⟨rfl, rfl, rfl⟩ rfl rfl (Nat.le_of_ble_eq_true rfl) dX3_parseSource_76 (fun H locs G => ?_)
  have G := gC_up_i (f := upd (T36.2.2.1 n13) 3 r38) (by rw [(oO_k g40).2]; rfl) G
  obtain ⟨T41, eT41, h⟩ := elet_some h
  have G : gC cI cJ cZ cMic cSrc cSt cAI cAJ D ad A s.heap H locs T41 := by rw [eT41]; exact G
  clear eT41
  refine lv_aload_n hx hb dX3_parseSource_79 rfl (lv_at hl 0 rfl) ?_
  refine lv_aload_n hx hb dX3_parseSource_80 rfl (lv_at hl 1 rfl) ?_
  refine lv_sipush (v := (-999)) hx hb dX3_parseSource_81 (by decide) ?_
  refine lv_sipush (v := 999) hx hb dX3_parseSource_84 (by decide) ?_
  obtain ⟨g42, h⟩ := oif_some h
  obtain ⟨r45, T43, eT43, h⟩ := othr_n h
  refine q_cvi (As := [.int (-999), .int 999]) (rest := [.ref (ad n13)]) E G hA hX hN hml (u_X3_signed l hst D cI cJ cZ cMic cSrc cSt cAI cAJ ad T41 l0 ((-999) : Int32) (999 : Int32) eT43) (cwV 2 hts (gaV qA_325 qA_326 qA_327 qA_222 qA_328) rfl rfl rfl (by decide +kernel) ⟨Nat.le_of_ble_eq_true rfl, Nat.le_of_ble_eq_true rfl⟩) (oO_k g42).1 (cc_o3 (oO_k g42).2) rfl rfl hl.1 rfl (lv_room (Nat.le_of_ble_eq_true rfl)) dX3_parseSource_87 ⟨Nat.zero_le _, Nat.zero_le _⟩ (fun q46 T44 H locs hq G => ?_)
  obtain ⟨hq1, hq2⟩ := hq
  rw [hq2] at G
  refine lv_to hq1 ?_
  clear hq1 hq2 eT43
  obtain ⟨g47, h⟩ := oif_some h
  refine c_put E G n13 4 (v := .int r45) (oO_k g47).1 (cc_o7 (oO_k g47).2) rfl (fun w h => .tail _ (iA_20 h)) tyX7 tyX7_ok nmX7 (by decide) (.tail _ qA_349) ⟨rfl, rfl, rfl⟩ rfl rfl (Nat.le_of_ble_eq_true rfl) dX3_parseSource_90 (fun H locs G => ?_)
  have G := gC_up_i (f := upd (T43.2.2.1 n13) 4 r45) (by rw [(oO_k g47).2]; rfl) G
  obtain ⟨T48, eT48, h⟩ := elet_some h
  have G : gC cI cJ cZ cMic cSrc cSt cAI cAJ D ad A s.heap H locs T48 := by rw [eT48]; exact G
  clear eT48
  refine lv_aload_n hx hb dX3_parseSource_93 rfl (lv_at hl 0 rfl) ?_
  refine lv_aload_n hx hb dX3_parseSource_94 rfl (lv_at hl 1 rfl) ?_
  refine lv_iconst (v := 1) hx hb dX3_parseSource_95 (by decide) ?_
  refine lv_sipush (v := 999) hx hb dX3_parseSource_96 (by decide) ?_
  obtain ⟨g49, h⟩ := oif_some h
  obtain ⟨r52, T50, eT50, h⟩ := othr_n h
  refine q_cvi (As := [.int 1, .int 999]) (rest := [.ref (ad n13)]) E G hA hX hN hml (u_X3_number l hst D cI cJ cZ cMic cSrc cSt cAI cAJ ad T48 l0 (1 : Int32) (999 : Int32) eT50) (cwV 2 hts (gaV qA_299 qA_300 qA_301 qA_222 qA_302) rfl rfl rfl (by decide +kernel) ⟨Nat.le_of_ble_eq_true rfl, Nat.le_of_ble_eq_true rfl⟩) (oO_k g49).1 (cc_o3 (oO_k g49).2) rfl rfl hl.1 rfl (lv_room (Nat.le_of_ble_eq_true rfl)) dX3_parseSource_99 ⟨Nat.zero_le _, Nat.zero_le _⟩ (fun q53 T51 H locs hq G => ?_)
  obtain ⟨hq1, hq2⟩ := hq
  rw [hq2] at G
  refine lv_to hq1 ?_
  clear hq1 hq2 eT50
  obtain ⟨g54, h⟩ := oif_some h
  refine c_put E G n13 5 (v := .int r52) (oO_k g54).1 (cc_o7 (oO_k g54).2) rfl (fun w h => .tail _ (iA_20 h)) tyX7 tyX7_ok nmX7 (by decide) (.tail _ qA_350) ⟨rfl, rfl, rfl⟩ rfl rfl (Nat.le_of_ble_eq_true rfl) dX3_parseSource_102 (fun H locs G => ?_)
  have G := gC_up_i (f := upd (T50.2.2.1 n13) 5 r52) (by rw [(oO_k g54).2]; rfl) G
  obtain ⟨T55, eT55, h⟩ := elet_some h
  have G : gC cI cJ cZ cMic cSrc cSt cAI cAJ D ad A s.heap H locs T55 := by rw [eT55]; exact G
  clear eT55
  refine lv_aload_n hx hb dX3_parseSource_105 rfl (lv_at hl 0 rfl) ?_
  refine lv_aload_n hx hb dX3_parseSource_106 rfl (lv_at hl 1 rfl) ?_
  refine lv_iconst (v := 2) hx hb dX3_parseSource_107 (by decide) ?_
  refine lv_bipush (v := 99) hx hb dX3_parseSource_108 (by decide) ?_
  obtain ⟨g56, h⟩ := oif_some h
  obtain ⟨r59, T57, eT57, h⟩ := othr_n h
  refine q_cvi (As := [.int 2, .int 99]) (rest := [.ref (ad n13)]) E G hA hX hN hml (u_X3_number l hst D cI cJ cZ cMic cSrc cSt cAI cAJ ad T55 l0 (2 : Int32) (99 : Int32) eT57) (cwV 2 hts (gaV qA_299 qA_300 qA_301 qA_222 qA_302) rfl rfl rfl (by decide +kernel) ⟨Nat.le_of_ble_eq_true rfl, Nat.le_of_ble_eq_true rfl⟩) (oO_k g56).1 (cc_o3 (oO_k g56).2) rfl rfl hl.1 rfl (lv_room (Nat.le_of_ble_eq_true rfl)) dX3_parseSource_110 ⟨Nat.zero_le _, Nat.zero_le _⟩ (fun q60 T58 H locs hq G => ?_)
  obtain ⟨hq1, hq2⟩ := hq
  rw [hq2] at G
  refine lv_to hq1 ?_
  clear hq1 hq2 eT57
  obtain ⟨g61, h⟩ := oif_some h
  refine c_put E G n13 6 (v := .int r59) (oO_k g61).1 (cc_o7 (oO_k g61).2) rfl (fun w h => .tail _ (iA_20 h)) tyX7 tyX7_ok nmX7 (by decide) (.tail _ qA_351) ⟨rfl, rfl, rfl⟩ rfl rfl (Nat.le_of_ble_eq_true rfl) dX3_parseSource_113 (fun H locs G => ?_)
  have G := gC_up_i (f := upd (T57.2.2.1 n13) 6 r59) (by rw [(oO_k g61).2]; rfl) G
  obtain ⟨T62, eT62, h⟩ := elet_some h
  have G : gC cI cJ cZ cMic cSrc cSt cAI cAJ D ad A s.heap H locs T62 := by rw [eT62]; exact G
  clear eT62
  refine lv_aload_n hx hb dX3_parseSource_116 rfl (lv_at hl 0 rfl) ?_
  refine lv_aload_n hx hb dX3_parseSource_117 rfl (lv_at hl 1 rfl) ?_
  refine lv_iconst (v := 0) hx hb dX3_parseSource_118 (by decide) ?_
  refine lv_bipush (v := 99) hx hb dX3_parseSource_119 (by decide) ?_
  obtain ⟨g63, h⟩ := oif_some h
  obtain ⟨r66, T64, eT64, h⟩ := othr_n h
  refine q_cvi (As := [.int 0, .int 99]) (rest := [.ref (ad n13)]) E G hA hX hN hml (u_X3_number l hst D cI cJ cZ cMic cSrc cSt cAI cAJ ad T62 l0 (0 : Int32) (99 : Int32) eT64) (cwV 2 hts (gaV qA_299 qA_300 qA_301 qA_222 qA_302) rfl rfl rfl (by decide +kernel) ⟨Nat.le_of_ble_eq_true rfl, Nat.le_of_ble_eq_true rfl⟩) (oO_k g63).1 (cc_o3 (oO_k g63).2) rfl rfl hl.1 rfl (lv_room (Nat.le_of_ble_eq_true rfl)) dX3_parseSource_121 ⟨Nat.zero_le _, Nat.zero_le _⟩ (fun q67 T65 H locs hq G => ?_)
  obtain ⟨hq1, hq2⟩ := hq
  rw [hq2] at G
  refine lv_to hq1 ?_
  clear hq1 hq2 eT64
  obtain ⟨g68, h⟩ := oif_some h
  refine c_put E G n13 7 (v := .int r66) (oO_k g68).1 (cc_o7 (oO_k g68).2) rfl (fun w h => .tail _ (iA_20 h)) tyX7 tyX7_ok nmX7 (by decide) (.tail _ qA_352) ⟨rfl, rfl, rfl⟩ rfl rfl (Nat.le_of_ble_eq_true rfl) dX3_parseSource_124 (fun H locs G => ?_)
  have G := gC_up_i (f := upd (T64.2.2.1 n13) 7 r66) (by rw [(oO_k g68).2]; rfl) G
  obtain ⟨T69, eT69, h⟩ := elet_some h
  have G : gC cI cJ cZ cMic cSrc cSt cAI cAJ D ad A s.heap H locs T69 := by rw [eT69]; exact G
  clear eT69
  refine lv_aload_n hx hb dX3_parseSource_127 rfl (lv_at hl 0 rfl) ?_
  refine lv_iconst (v := 0) hx hb dX3_parseSource_128 (by decide) ?_
  obtain ⟨g70, h⟩ := oif_some h
  refine c_put E G n13 8 (v := .int 0) (oO_k g70).1 (cc_o7 (oO_k g70).2) rfl (fun w h => .tail _ (iA_20 h)) tyX7 tyX7_ok nmX7 (by decide) (.tail _ qA_353) ⟨rfl, rfl, rfl⟩ rfl rfl (Nat.le_of_ble_eq_true rfl) dX3_parseSource_129 (fun H locs G => ?_)
  have G := gC_up_i (f := upd (T69.2.2.1 n13) 8 0) (by rw [(oO_k g70).2]; rfl) G
  obtain ⟨T71, eT71, h⟩ := elet_some h
  have G : gC cI cJ cZ cMic cSrc cSt cAI cAJ D ad A s.heap H locs T71 := by rw [eT71]; exact G
  clear eT71
  refine lv_aload_n hx hb dX3_parseSource_132 rfl (lv_at hl 0 rfl) ?_
  refine lv_iconst (v := 0) hx hb dX3_parseSource_133 (by decide) ?_
  obtain ⟨g72, h⟩ := oif_some h
  refine c_put E G n13 9 (v := .int 0) (oO_k g72).1 (cc_o7 (oO_k g72).2) rfl (fun w h => .tail _ (iA_20 h)) tyX7 tyX7_ok nmX7 (by decide) (.tail _ qA_354) ⟨rfl, rfl, rfl⟩ rfl rfl (Nat.le_of_ble_eq_true rfl) dX3_parseSource_134 (fun H locs G => ?_)
  have G := gC_up_i (f := upd (T71.2.2.1 n13) 9 0) (by rw [(oO_k g72).2]; rfl) G
  obtain ⟨T73, eT73, h⟩ := elet_some h
  have G : gC cI cJ cZ cMic cSrc cSt cAI cAJ D ad A s.heap H locs T73 := by rw [eT73]; exact G
  clear eT73
  refine lv_aload_n hx hb dX3_parseSource_137 rfl (lv_at hl 1 rfl) ?_
  obtain ⟨w74, hw74, ow74⟩ := hT.1 ("AcousticCamera$Parser", 216, "from") (List.mem_of_getElem? (i := 12) rfl)
  refine va_ldcS hx hb hown hw74 dX3_parseSource_138 ?_
  obtain ⟨g75, h⟩ := oif_some h
  obtain ⟨r78, T76, eT76, h⟩ := obind2_some h
  refine q_cviX (As := [.ref w74]) (rest := []) E G hA hX hN hml (u_X3_isWord l hst D cI cJ cZ cMic cSrc cSt cAI cAJ ad T73 h0 (q := w74) (sTx_ok (by decide +kernel)) l0 eT76) (cwV 1 hts (gaV qA_232 qA_233 qA_234 qA_222 qA_235) rfl rfl rfl (by decide +kernel) ⟨Nat.le_of_ble_eq_true rfl, Nat.le_of_ble_eq_true rfl⟩) (oO_k g75).1 (cc_o3 (oO_k g75).2) rfl rfl hl.1 rfl (lv_room (Nat.le_of_ble_eq_true rfl)) dX3_parseSource_140 ⟨Nat.zero_le _, Nat.zero_le _⟩ (yT1.blind) (yT1.go hT hA0 hA G ow74) (fun q79 T77 H locs hq G => ?_)
  obtain ⟨hq1, hq2⟩ := hq
  rw [hq2] at G
  refine lv_to hq1 ?_
  clear hq1 hq2 eT76
  refine lv_if_eq (tgt := 168) hx hb dX3_parseSource_143 (by decide) (fun c80 => ?_) (fun c80 => ?_)
  · have h := oif_pos c80 h
    have hl := lv_sub hl [2] rfl
    exact u_X3_parseSource_b168 E hA hX hN hml hst hA0 hT kr178 _ _ _ _ _ h G hl
  · have h := oif_neg c80 h
    refine lv_aload_n hx hb dX3_parseSource_146 rfl (lv_at hl 1 rfl) ?_
    refine lv_dup hx hb dX3_parseSource_147 rfl ?_
    obtain ⟨g81, h⟩ := oif_some h
    refine c_get E G l0 1 (oO_k g81).1 (cc_o3 (oO_k g81).2) rfl (fun w h => .tail _ (iA_17 h)) (by decide) (.tail _ qA_176) rfl rfl dX3_parseSource_148 ?_
    refine lv_topi (fun v82 ev82 => ?_)
    have h := elet_at ev82 h
    clear ev82
    refine lv_iconst (v := 1) hx hb dX3_parseSource_151 (by decide) ?_
    refine lv_iadd hx hb dX3_parseSource_152 ?_
    refine lv_topi (fun v83 ev83 => ?_)
    have h := elet_at ev83 h
    clear ev83
    obtain ⟨g84, h⟩ := oif_some h
    refine c_put E G l0 1 (v := .int v83) (oO_k g84).1 (cc_o3 (oO_k g84).2) rfl (fun w h => .tail _ (iA_17 h)) tyX3 tyX3_ok nmX3 (by decide) (.tail _ qA_176) ⟨rfl, rfl, rfl⟩ rfl rfl (Nat.le_of_ble_eq_true rfl) dX3_parseSource_153 (fun H locs G => ?_)
    have G := gC_up_i (f := upd (T76.2.2.1 l0) 1 v83) (by rw [(oO_k g84).2]; rfl) G
    obtain ⟨T85, eT85, h⟩ := elet_some h
    have G : gC cI cJ cZ cMic cSrc cSt cAI cAJ D ad A s.heap H locs T85 := by rw [eT85]; exact G
    clear eT85
    refine lv_aload_n hx hb dX3_parseSource_156 rfl (lv_at hl 0 rfl) ?_
    refine lv_aload_n hx hb dX3_parseSource_157 rfl (lv_at hl 1 rfl) ?_
    refine lv_iconst (v := 0) hx hb dX3_parseSource_158 (by decide) ?_
    refine lv_sipush (v := 199) hx hb dX3_parseSource_159 (by decide) ?_
    obtain ⟨g86, h⟩ := oif_some h
    obtain ⟨r89, T87, eT87, h⟩ := othr_n h
    refine q_cvi (As := [.int 0, .int 199]) (rest := [.ref (ad n13)]) E G hA hX hN hml (u_X3_number l hst D cI cJ cZ cMic cSrc cSt cAI cAJ ad T85 l0 (0 : Int32) (199 : Int32) eT87) (cwV 2 hts (gaV qA_299 qA_300 qA_301 qA_222 qA_302) rfl rfl rfl (by decide +kernel) ⟨Nat.le_of_ble_eq_true rfl, Nat.le_of_ble_eq_true rfl⟩) (oO_k g86).1 (cc_o3 (oO_k g86).2) rfl rfl hl.1 rfl (lv_room (Nat.le_of_ble_eq_true rfl)) dX3_parseSource_162 ⟨Nat.zero_le _, Nat.zero_le _⟩ (fun q90 T88 H locs hq G => ?_)
    obtain ⟨hq1, hq2⟩ := hq
    rw [hq2] at G
    refine lv_to hq1 ?_
    clear hq1 hq2 eT87
    obtain ⟨g91, h⟩ := oif_some h
    refine c_put E G n13 8 (v := .int r89) (oO_k g91).1 (cc_o7 (oO_k g91).2) rfl (fun w h => .tail _ (iA_20 h)) tyX7 tyX7_ok nmX7 (by decide) (.tail _ qA_353) ⟨rfl, rfl, rfl⟩ rfl rfl (Nat.le_of_ble_eq_true rfl) dX3_parseSource_165 (fun H locs G => ?_)
    have G := gC_up_i (f := upd (T87.2.2.1 n13) 8 r89) (by rw [(oO_k g91).2]; rfl) G
    obtain ⟨T92, eT92, h⟩ := elet_some h
    have G : gC cI cJ cZ cMic cSrc cSt cAI cAJ D ad A s.heap H locs T92 := by rw [eT92]; exact G
    clear eT92
    have hl := lv_sub hl [2] rfl
    exact u_X3_parseSource_b168 E hA hX hN hml hst hA0 hT kr178 _ _ _ _ _ h G hl
def g_X3_parseSource (T : AT) (o : Nat) (a0 : Nat) : Option (Nat × Int32 × AT) := oif (oO T a0 6 = true) <| elet (T.2.2.1 a0 8) fun v3 => if v3 < 6 then (g_X3_parseSource_b15 T 0 o o a0) else (g_X3_parseSource_b15 T 1 o o a0)
set_option maxHeartbeats 4000000 in
set_option maxRecDepth 100000 in
theorem u_X3_parseSource (l : Launch) (hst : l.stackTraces = false) (D : va_G) (cI cJ cZ cMic cSrc cSt cAI cAJ : ClassId) (ad : Nat → Nat) (T : AT) (h0 : Nat) (o : Nat) (a0 : Nat) {r1 : Int32} {T1 : AT} (h : g_X3_parseSource T o a0 = some (0, r1, T1)) : kCvX l yX3_parseSource (Cond.code yX3_parseSource cX3_parseSource 3 none :: wsA) 9 148 cI cJ cZ cMic cSrc cSt cAI cAJ D ad T [.ref (ad o), .ref (ad a0)] (yT0 cI cJ cZ cMic cSrc cSt cAI cAJ h0 ad T) (fun T9 => T9 = T1) := by
  intro sz
  refine Met.ofW (cc := cX3_parseSource) (maxL := 3) (ret := none) (by decide) rfl ?_
  intro p e s m args below meth c s₁ B hml hv
  obtain ⟨rfl, ⟨hsz, hP, hK, hD0, hX, hN⟩, hA1, hT⟩ := hv
  have hx := B.exec
  have hb := B.bytes
  have hr := B.returns
  have hts := atoms_spec (ws := (Cond.code yX3_parseSource cX3_parseSource 3 none :: wsA)) B.pre
  have hown : s.vm.findClass RX3 = some m.cls := findClass_of_methodNamed B.named
  have hlocks := B.notSynchronized
  subst hsz
  have hD := hD0.self (sz := s.heap.size)
  generalize hAe : va_A (cW ad T.1 (cc cI cJ cZ cMic cSrc cSt cAI cAJ ad T)) s.heap.size = A at hD hX hA1 ⊢
  have hA : ∀ q : Nat, s.heap.size ≤ q → A q := fun q h => by rw [← hAe]; exact Or.inr h
  have G : gC cI cJ cZ cMic cSrc cSt cAI cAJ D ad A s.heap s.heap [] T := ⟨hP, hD, va_S.rf⟩
  have E : cE p c cX3_parseSource s m ([.ref (ad o), .ref (ad a0)] : List Value).toArray (Cond.code yX3_parseSource cX3_parseSource 3 none :: wsA) D RX3 (CT cI cJ cZ cMic cSrc cSt cAI cAJ) := ⟨hx, hb, hts, hown, hK⟩
  have hA0 : ∀ a : Nat, A a → h0 ≤ a := hA1
  have hl := lv_entry ([.ref (ad o), .ref (ad a0)]) (n := 3) (Nat.le_of_ble_eq_true rfl)
  rw [lg_entry_eq]
  generalize (lg_sl ([.ref (ad o), .ref (ad a0)]) ++ List.replicate (3 - (lg_sl ([.ref (ad o), .ref (ad a0)])).length) Slot.unset).toArray = ls at hl ⊢
  have hl : lv_has ls 3 [(0, .ref (ad o)), (1, .ref (ad a0))] := hl
  unfold g_X3_parseSource at h
  refine lv_aload_n hx hb dX3_parseSource_0 rfl (lv_at hl 0 rfl) ?_
  refine lv_aload_n hx hb dX3_parseSource_1 rfl (lv_at hl 1 rfl) ?_
  obtain ⟨g2, h⟩ := oif_some h
  refine c_get E G a0 8 (oO_k g2).1 (cc_o6 (oO_k g2).2) rfl (fun w h => .tail _ (iA_14 h)) (by decide) (.tail _ qA_343) rfl rfl dX3_parseSource_2 ?_
  refine lv_topi (fun v3 ev3 => ?_)
  have h := elet_at ev3 h
  clear ev3
  refine lv_bipush (v := 6) hx hb dX3_parseSource_5 (by decide) ?_
  refine lv_icmp_lt (tgt := 14) hx hb dX3_parseSource_7 (by decide) (fun c4 => ?_) (fun c4 => ?_)
  · have h := oif_pos c4 h
    refine lv_iconst (v := 0) hx hb dX3_parseSource_14 (by decide) ?_
    have hl := lv_sub hl [0, 1] rfl
    exact u_X3_parseSource_b15 E hA hX hN hml hst hA0 hT (fun H locs ls G => W.vret hx hb hr (fun t ht hW => ⟨⟨T1, rfl, rfl, ⟨by rw [ht]; exact G.1, va_K.moved hW.alike hK, G.2.1⟩⟩, G.2.2.F ht⟩) G.2.2.2.2 dX3_parseSource_178) _ _ _ _ _ _ _ _ h G hl
  · have h := oif_neg c4 h
    refine lv_iconst (v := 1) hx hb dX3_parseSource_10 (by decide) ?_
    refine lv_goto (tgt := 15) hx hb dX3_parseSource_11 (by decide) ?_
    have hl := lv_sub hl [0, 1] rfl
    exact u_X3_parseSource_b15 E hA hX hN hml hst hA0 hT (fun H locs ls G => W.vret hx hb hr (fun t ht hW => ⟨⟨T1, rfl, rfl, ⟨by rw [ht]; exact G.1, va_K.moved hW.alike hK, G.2.1⟩⟩, G.2.2.F ht⟩) G.2.2.2.2 dX3_parseSource_178) _ _ _ _ _ _ _ _ h G hl
set_option maxHeartbeats 4000000 in
set_option maxRecDepth 100000 in
theorem s_X3_parseSource_b168 {e1 : Nat} {r1 : Int32} {T1 : AT} : ∀ (T : AT) (l1 : Nat), g_X3_parseSource_b168 T l1 = some (e1, r1, T1) → SP T T1 := by
  intro T l1 h
  have p0 := SP.rf T
  unfold g_X3_parseSource_b168 at h
  obtain ⟨g2, h⟩ := oif_some h
  obtain ⟨v3, -, h⟩ := elet_some h
  obtain ⟨v4, -, h⟩ := elet_some h
  obtain ⟨g5, h⟩ := oif_some h
  obtain ⟨T6, eT6, h⟩ := elet_some h
  have p1 : SP T T6 := SP.tr p0 (by rw [eT6]; exact sp_uI)
  rw [← (osome3 h).2.2]
  exact p1
set_option maxHeartbeats 4000000 in
set_option maxRecDepth 100000 in
theorem s_X3_parseSource_b15 {e1 : Nat} {r1 : Int32} {T1 : AT} : ∀ (T : AT) (s0 : Int32) (s1 : Nat) (l0 : Nat) (l1 : Nat), g_X3_parseSource_b15 T s0 s1 l0 l1 = some (e1, r1, T1) → SP T T1 := by
  intro T s0 s1 l0 l1 h
  have p0 := SP.rf T
  unfold g_X3_parseSource_b15 at h
  obtain ⟨g2, h⟩ := oif_some h
  rcases othr_s h with ⟨k9, r9, e9, -⟩ | ⟨r4, T3, eT3, h⟩
  · exact SP.tr p0 (s_X3_startLine e9)
  have p1 : SP T T3 := SP.tr p0 (s_X3_startLine eT3)
  obtain ⟨g5, h⟩ := oif_some h
  obtain ⟨n6, en6, h⟩ := obind_some h
  obtain ⟨g7, h⟩ := oif_some h
  obtain ⟨v8, -, h⟩ := elet_some h
  obtain ⟨g9, h⟩ := oif_some h
  obtain ⟨g10, h⟩ := oif_some h
  obtain ⟨n11, en11, h⟩ := obind_some h
  obtain ⟨g12, h⟩ := oif_some h
  rcases othr_s h with ⟨k9, r9, e9, -⟩ | ⟨r14, T13, eT13, h⟩
  · exact SP.tr p1 (s_X3_shape e9)
  have p2 : SP T T13 := SP.tr p1 (s_X3_shape eT13)
  obtain ⟨g15, h⟩ := oif_some h
  obtain ⟨T16, eT16, h⟩ := elet_some h
  have p3 : SP T T16 := SP.tr p2 (by rw [eT16]; exact sp_uI)
  obtain ⟨g17, h⟩ := oif_some h
  rcases othr_s h with ⟨k9, r9, e9, -⟩ | ⟨r19, T18, eT18, h⟩
  · exact SP.tr p3 (s_X3_signed e9)
  have p4 : SP T T18 := SP.tr p3 (s_X3_signed eT18)
  obtain ⟨g20, h⟩ := oif_some h
  obtain ⟨T21, eT21, h⟩ := elet_some h
  have p5 : SP T T21 := SP.tr p4 (by rw [eT21]; exact sp_uI)
  obtain ⟨g22, h⟩ := oif_some h
  rcases othr_s h with ⟨k9, r9, e9, -⟩ | ⟨r24, T23, eT23, h⟩
  · exact SP.tr p5 (s_X3_signed e9)
  have p6 : SP T T23 := SP.tr p5 (s_X3_signed eT23)
  obtain ⟨g25, h⟩ := oif_some h
  obtain ⟨T26, eT26, h⟩ := elet_some h
  have p7 : SP T T26 := SP.tr p6 (by rw [eT26]; exact sp_uI)
  obtain ⟨g27, h⟩ := oif_some h
  rcases othr_s h with ⟨k9, r9, e9, -⟩ | ⟨r29, T28, eT28, h⟩
  · exact SP.tr p7 (s_X3_signed e9)
  have p8 : SP T T28 := SP.tr p7 (s_X3_signed eT28)
  obtain ⟨g30, h⟩ := oif_some h
  obtain ⟨T31, eT31, h⟩ := elet_some h
  have p9 : SP T T31 := SP.tr p8 (by rw [eT31]; exact sp_uI)
  obtain ⟨g32, h⟩ := oif_some h
  rcases othr_s h with ⟨k9, r9, e9, -⟩ | ⟨r34, T33, eT33, h⟩
  · exact SP.tr p9 (s_X3_signed e9)
  have p10 : SP T T33 := SP.tr p9 (s_X3_signed eT33)
  obtain ⟨g35, h⟩ := oif_some h
  obtain ⟨T36, eT36, h⟩ := elet_some h
  have p11 : SP T T36 := SP.tr p10 (by rw [eT36]; exact sp_uI)
  obtain ⟨g37, h⟩ := oif_some h
  rcases othr_s h with ⟨k9, r9, e9, -⟩ | ⟨r39, T38, eT38, h⟩
  · exact SP.tr p11 (s_X3_number e9)
  have p12 : SP T T38 := SP.tr p11 (s_X3_number eT38)
  obtain ⟨g40, h⟩ := oif_some h
  obtain ⟨T41, eT41, h⟩ := elet_some h
  have p13 : SP T T41 := SP.tr p12 (by rw [eT41]; exact sp_uI)
  obtain ⟨g42, h⟩ := oif_some h
  rcases othr_s h with ⟨k9, r9, e9, -⟩ | ⟨r44, T43, eT43, h⟩
  · exact SP.tr p13 (s_X3_number e9)
  have p14 : SP T T43 := SP.tr p13 (s_X3_number eT43)
  obtain ⟨g45, h⟩ := oif_some h
  obtain ⟨T46, eT46, h⟩ := elet_some h
  have p15 : SP T T46 := SP.tr p14 (by rw [eT46]; exact sp_uI)
  obtain ⟨g47, h⟩ := oif_some h
  rcases othr_s h with ⟨k9, r9, e9, -⟩ | ⟨r49, T48, eT48, h⟩
  · exact SP.tr p15 (s_X3_number e9)
  have p16 : SP T T48 := SP.tr p15 (s_X3_number eT48)
  obtain ⟨g50, h⟩ := oif_some h
  obtain ⟨T51, eT51, h⟩ := elet_some h
  have p17 : SP T T51 := SP.tr p16 (by rw [eT51]; exact sp_uI)
  obtain ⟨g52, h⟩ := oif_some h
  obtain ⟨T53, eT53, h⟩ := elet_some h
  have p18 : SP T T53 := SP.tr p17 (by rw [eT53]; exact sp_uI)
  obtain ⟨g54, h⟩ := oif_some h
  obtain ⟨T55, eT55, h⟩ := elet_some h
  have p19 : SP T T55 := SP.tr p18 (by rw [eT55]; exact sp_uI)
  obtain ⟨g57, h⟩ := oif_some h
  obtain ⟨r59, T58, eT58, h⟩ := obind2_some h
  have p20 : SP T T58 := SP.tr p19 (s_X3_isWord eT58)
  rcases oif_or h with ⟨c60, h⟩ | ⟨c60, h⟩
  · have h := h
    exact SP.tr p20 (s_X3_parseSource_b168 _ _ h)
  · have h := h
    obtain ⟨g61, h⟩ := oif_some h
    obtain ⟨v62, -, h⟩ := elet_some h
    obtain ⟨v63, -, h⟩ := elet_some h
    obtain ⟨g64, h⟩ := oif_some h
    obtain ⟨T65, eT65, h⟩ := elet_some h
    have p21 : SP T T65 := SP.tr p20 (by rw [eT65]; exact sp_uI)
    obtain ⟨g66, h⟩ := oif_some h
    rcases othr_s h with ⟨k9, r9, e9, -⟩ | ⟨r68, T67, eT67, h⟩
    · exact SP.tr p21 (s_X3_number e9)
    have p22 : SP T T67 := SP.tr p21 (s_X3_number eT67)
    obtain ⟨g69, h⟩ := oif_some h
    obtain ⟨T70, eT70, h⟩ := elet_some h
    have p23 : SP T T70 := SP.tr p22 (by rw [eT70]; exact sp_uI)
    exact SP.tr p23 (s_X3_parseSource_b168 _ _ h)
set_option maxHeartbeats 4000000 in
set_option maxRecDepth 100000 in
theorem s_X3_parseSource {T : AT} {o : Nat} {a0 : Nat} {e1 : Nat} {r1 : Int32} {T1 : AT} (h : g_X3_parseSource T o a0 = some (e1, r1, T1)) : SP T T1 := by
  have p0 := SP.rf T
  unfold g_X3_parseSource at h
  obtain ⟨g2, h⟩ := oif_some h
  obtain ⟨v3, -, h⟩ := elet_some h
  rcases oif_or h with ⟨c4, h⟩ | ⟨c4, h⟩
  · have h := h
    exact SP.tr p0 (s_X3_parseSource_b15 _ _ _ _ _ h)
  · have h := h
    exact SP.tr p0 (s_X3_parseSource_b15 _ _ _ _ _ h)
set_option maxHeartbeats 4000000 in
set_option maxRecDepth 100000 in
theorem x_X3_parseSource_b168 {p : Program} {l : Launch} {e : Env} {s : State} {m : MethodId} {args : Array Value} {below : List Frame} {meth : Method} {c : Code} {Qc : Array Value → State → Outcome → State → Prop} {XC : String → State → State → Prop} {D : va_G} {A : Nat → Prop} {cI cJ cZ cMic cSrc cSt cAI cAJ : ClassId} {ad : Nat → Nat} {e1 : Nat} {r1 : Int32} {T1 : AT} (E : cE p c cX3_parseSource s m args (Cond.code yX3_parseSource cX3_parseSource 3 none :: wsA) D RX3 (CT cI cJ cZ cMic cSrc cSt cAI cAJ)) (hA : ∀ q : Nat, s.heap.size ≤ q → A q) (hX : xT A s) (hN : nX s) (hml : c.maxLocals = 3) {h0 : Nat} (hA0 : ∀ a : Nat, A a → h0 ≤ a) (hT : sAll h0 s) (hz9 : True) (hst : l.stackTraces = false) (htab : ∀ x ∈ c.exceptionTable.toList, False) (hlocks : meth.locks = false) (kx : ∀ (H : Heap) (locs : List Loc) (t : State), gC cI cJ cZ cMic cSrc cSt cAI cAJ D ad A s.heap H locs T1 → s.vm.Alike t.vm → H.size ≤ t.heap.size → (∀ q, q < H.size → t.heap[q]? = H[q]?) → XC (exn e1) s t) : ∀ (T : AT) (H : Heap) (locs : List Loc) (ls : Array Slot) (l1 : Nat), g_X3_parseSource_b168 T l1 = some (e1 + 1, r1, T1) → gC cI cJ cZ cMic cSrc cSt cAI cAJ D ad A s.heap H locs T → lv_has ls 3 [(1, .ref (ad l1))] → W p l e { frames := 9, cells := 1, slots := 6, locals := 148 } s m args below meth c H locs 0 0 (vx_MQ below Qc XC args s 1 6 A) (F0 m 168 ls []) := by
  have hx := E.1
  have hb := E.2.1
  have hts := E.2.2.1
  have hown := E.2.2.2.1
  have hK := E.2.2.2.2
  intro T H locs ls l1 h G hl
  unfold g_X3_parseSource_b168 at h
  refine lv_aload_n hx hb dX3_parseSource_168 rfl (lv_at hl 0 rfl) ?_
  refine lv_dup hx hb dX3_parseSource_169 rfl ?_
  obtain ⟨g2, h⟩ := oif_some h
  refine c_get E G l1 8 (oO_k g2).1 (cc_o6 (oO_k g2).2) rfl (fun w h => .tail _ (iA_14 h)) (by decide) (.tail _ qA_343) rfl rfl dX3_parseSource_170 ?_
  refine lv_topi (fun v3 ev3 => ?_)
  have h := elet_at ev3 h
  clear ev3
  refine lv_iconst (v := 1) hx hb dX3_parseSource_173 (by decide) ?_
  refine lv_iadd hx hb dX3_parseSource_174 ?_
  refine lv_topi (fun v4 ev4 => ?_)
  have h := elet_at ev4 h
  clear ev4
  obtain ⟨g5, h⟩ := oif_some h
  refine c_put E G l1 8 (v := .int v4) (oO_k g5).1 (cc_o6 (oO_k g5).2) rfl (fun w h => .tail _ (iA_14 h)) tyX6 tyX6_ok nmX6 (by decide) (.tail _ qA_343) ⟨rfl, rfl, rfl⟩ rfl rfl (Nat.le_of_ble_eq_true rfl) dX3_parseSource_175 (fun H locs G => ?_)
  have G := gC_up_i (f := upd (T.2.2.1 l1) 8 v4) (by rw [(oO_k g5).2]; rfl) G
  obtain ⟨T6, eT6, h⟩ := elet_some h
  have G : gC cI cJ cZ cMic cSrc cSt cAI cAJ D ad A s.heap H locs T6 := by rw [eT6]; exact G
  clear eT6
  exact (Nat.succ_ne_zero _ (congrArg Prod.fst (Option.some.inj h)).symm).elim
set_option maxHeartbeats 4000000 in
set_option maxRecDepth 100000 in
theorem x_X3_parseSource_b15 {p : Program} {l : Launch} {e : Env} {s : State} {m : MethodId} {args : Array Value} {below : List Frame} {meth : Method} {c : Code} {Qc : Array Value → State → Outcome → State → Prop} {XC : String → State → State → Prop} {D : va_G} {A : Nat → Prop} {cI cJ cZ cMic cSrc cSt cAI cAJ : ClassId} {ad : Nat → Nat} {e1 : Nat} {r1 : Int32} {T1 : AT} (E : cE p c cX3_parseSource s m args (Cond.code yX3_parseSource cX3_parseSource 3 none :: wsA) D RX3 (CT cI cJ cZ cMic cSrc cSt cAI cAJ)) (hA : ∀ q : Nat, s.heap.size ≤ q → A q) (hX : xT A s) (hN : nX s) (hml : c.maxLocals = 3) {h0 : Nat} (hA0 : ∀ a : Nat, A a → h0 ≤ a) (hT : sAll h0 s) (hz9 : True) (hst : l.stackTraces = false) (htab : ∀ x ∈ c.exceptionTable.toList, False) (hlocks : meth.locks = false) (kx : ∀ (H : Heap) (locs : List Loc) (t : State), gC cI cJ cZ cMic cSrc cSt cAI cAJ D ad A s.heap H locs T1 → s.vm.Alike t.vm → H.size ≤ t.heap.size → (∀ q, q < H.size → t.heap[q]? = H[q]?) → XC (exn e1) s t) : ∀ (T : AT) (H : Heap) (locs : List Loc) (ls : Array Slot) (s0 : Int32) (s1 : Nat) (l0 : Nat) (l1 : Nat), g_X3_parseSource_b15 T s0 s1 l0 l1 = some (e1 + 1, r1, T1) → gC cI cJ cZ cMic cSrc cSt cAI cAJ D ad A s.heap H locs T → lv_has ls 3 [(0, .ref (ad l0)), (1, .ref (ad l1))] → W p l e { frames := 9, cells := 1, slots := 6, locals := 148 } s m args below meth c H locs 0 0 (vx_MQ below Qc XC args s 1 6 A) (F0 m 15 ls [.int s0, .ref (ad s1)]) := by
  have hx := E.1
  have hb := E.2.1
  have hts := E.2.2.1
  have hown := E.2.2.2.1
  have hK := E.2.2.2.2
  intro T H locs ls s0 s1 l0 l1 h G hl
  unfold g_X3_parseSource_b15 at h
  refine lv_iconst (v := 4) hx hb dX3_parseSource_15 (by decide) ?_
  obtain ⟨g2, h⟩ := oif_some h
  rcases othr_t h with ⟨r0, eT3⟩ | ⟨r5, T3, eT3, h⟩
  · refine q_xvv (As := [.int s0, .int 4]) (rest := []) E G hA hX hN hml (x_X3_startLine l hst D cI cJ cZ cMic cSrc cSt cAI cAJ ad T s1 s0 (4 : Int32) eT3) (cwV 2 hts (gaV qA_321 qA_322 qA_323 qA_222 qA_324) rfl rfl rfl (by decide +kernel) ⟨Nat.le_of_ble_eq_true rfl, Nat.le_of_ble_eq_true rfl⟩) (oO_k g2).1 (cc_o3 (oO_k g2).2) rfl rfl hl.1 rfl (lv_room (Nat.le_of_ble_eq_true rfl)) dX3_parseSource_16 ⟨Nat.le_of_ble_eq_true rfl, Nat.le_of_ble_eq_true rfl⟩ (fun E9 ce q9 T9 H locs hp G hce hcv hcl => ?_)
    obtain ⟨hE, hT⟩ := hp
    subst hE
    rw [hT] at G
    exact vx_out (fun x hx => (htab x hx).elim) hlocks hce hcv hcl (fun t ht hvm => kx _ _ _ G hvm (by rw [ht]; exact Nat.le_refl _) (fun q hq => by rw [ht])) G.2.2.2.2 (Nat.le_refl _) (Nat.le_refl _)
  refine q_cvv (As := [.int s0, .int 4]) (rest := []) E G hA hX hN hml (u_X3_startLine l hst D cI cJ cZ cMic cSrc cSt cAI cAJ ad T s1 s0 (4 : Int32) eT3) (cwV 2 hts (gaV qA_321 qA_322 qA_323 qA_222 qA_324) rfl rfl rfl (by decide +kernel) ⟨Nat.le_of_ble_eq_true rfl, Nat.le_of_ble_eq_true rfl⟩) (oO_k g2).1 (cc_o3 (oO_k g2).2) rfl rfl hl.1 rfl (lv_room (Nat.le_of_ble_eq_true rfl)) dX3_parseSource_16 ⟨Nat.zero_le _, Nat.zero_le _⟩ (fun T4 H locs hq G => ?_)
  rw [hq] at G
  clear hq eT3
  refine lv_aload_n hx hb dX3_parseSource_19 rfl (lv_at hl 1 rfl) ?_
  obtain ⟨g7, h⟩ := oif_some h
  obtain ⟨n8, en8, h⟩ := obind_some h
  refine c_get E G l1 7 (v := .ref (ad n8)) (oO_k g7).1 (cc_o6 (oO_k g7).2) rfl (fun w h => .tail _ (iA_14 h)) (by decide) (.tail _ qA_344) rfl (by rw [en8]; rfl) dX3_parseSource_20 ?_
  clear en8
  refine lv_aload_n hx hb dX3_parseSource_23 rfl (lv_at hl 1 rfl) ?_
  obtain ⟨g9, h⟩ := oif_some h
  refine c_get E G l1 8 (oO_k g9).1 (cc_o6 (oO_k g9).2) rfl (fun w h => .tail _ (iA_14 h)) (by decide) (.tail _ qA_343) rfl rfl dX3_parseSource_24 ?_
  refine lv_topi (fun v10 ev10 => ?_)
  have h := elet_at ev10 h
  clear ev10
  obtain ⟨g11, h⟩ := oif_some h
  obtain ⟨g12, h⟩ := oif_some h
  obtain ⟨n13, en13, h⟩ := obind_some h
  refine c_aldq E G n8 4 (k := v10.toNatClampNeg) (v := .ref (ad n13)) (aA_k g11).1 (cc_a104 (aA_k g11).2.1) rfl (inb_k g12).1 (inb_k g12).2 (aA_k g11).2.2 (by show va_rf ((T3.2.2.2.2 n8 v10.toNatClampNeg).map ad) = _; rw [en13]; rfl) dX3_parseSource_27 ?_
  clear en13
  refine lv_astore_n (lv' := [(2, .ref (ad n13)), (0, .ref (ad l0)), (1, .ref (ad l1))]) hx hb dX3_parseSource_28 rfl hl (by decide) rfl (fun ls hl => ?_)
  refine lv_aload_n hx hb dX3_parseSource_29 rfl (lv_at hl 0 rfl) ?_
  refine lv_aload_n hx hb dX3_parseSource_30 rfl (lv_at hl 1 rfl) ?_
  obtain ⟨g14, h⟩ := oif_some h
  rcases othr_t h with ⟨r0, eT15⟩ | ⟨r17, T15, eT15, h⟩
  · refine q_xviX (As := []) (rest := [.ref (ad n13)]) E G hA hX hN hml (x_X3_shape l hst D cI cJ cZ cMic cSrc cSt cAI cAJ ad T3 h0 l0 eT15) (cwV 0 hts (gaV qA_355 qA_356 qA_357 qA_222 qA_358) rfl rfl rfl (by decide +kernel) ⟨Nat.le_of_ble_eq_true rfl, Nat.le_of_ble_eq_true rfl⟩) (oO_k g14).1 (cc_o3 (oO_k g14).2) rfl rfl hl.1 rfl (lv_room (Nat.le_of_ble_eq_true rfl)) dX3_parseSource_31 ⟨Nat.le_of_ble_eq_true rfl, Nat.le_of_ble_eq_true rfl⟩ (yT0.blind) (yT0.go hT hA0 hA G) (fun E9 ce q9 T9 H locs hp G hce hcv hcl => ?_)
    obtain ⟨hE, hT⟩ := hp
    subst hE
    rw [hT] at G
    exact vx_out (fun x hx => (htab x hx).elim) hlocks hce hcv hcl (fun t ht hvm => kx _ _ _ G hvm (by rw [ht]; exact Nat.le_refl _) (fun q hq => by rw [ht])) G.2.2.2.2 (Nat.le_refl _) (Nat.le_refl _)
  refine q_cviX (As := []) (rest := [.ref (ad n13)]) E G hA hX hN hml (u_X3_shape l hst D cI cJ cZ cMic cSrc cSt cAI cAJ ad T3 h0 l0 eT15) (cwV 0 hts (gaV qA_355 qA_356 qA_357 qA_222 qA_358) rfl rfl rfl (by decide +kernel) ⟨Nat.le_of_ble_eq_true rfl, Nat.le_of_ble_eq_true rfl⟩) (oO_k g14).1 (cc_o3 (oO_k g14).2) rfl rfl hl.1 rfl (lv_room (Nat.le_of_ble_eq_true rfl)) dX3_parseSource_31 ⟨Nat.zero_le _, Nat.zero_le _⟩ (yT0.blind) (yT0.go hT hA0 hA G) (fun q18 T16 H locs hq G => ?_)
  obtain ⟨hq1, hq2⟩ := hq
  rw [hq2] at G
  refine lv_to hq1 ?_
  clear hq1 hq2 eT15
  obtain ⟨g19, h⟩ := oif_some h
  refine c_put E G n13 0 (v := .int r17) (oO_k g19).1 (cc_o7 (oO_k g19).2) rfl (fun w h => .tail _ (iA_20 h)) tyX7 tyX7_ok nmX7 (by decide) (.tail _ qA_345) ⟨rfl, rfl, rfl⟩ rfl rfl (Nat.le_of_ble_eq_true rfl) dX3_parseSource_34 (fun H locs G => ?_)
  have G := gC_up_i (f := upd (T15.2.2.1 n13) 0 r17) (by rw [(oO_k g19).2]; rfl) G
  obtain ⟨T20, eT20, h⟩ := elet_some h
  have G : gC cI cJ cZ cMic cSrc cSt cAI cAJ D ad A s.heap H locs T20 := by rw [eT20]; exact G
  clear eT20
  refine lv_aload_n hx hb dX3_parseSource_37 rfl (lv_at hl 0 rfl) ?_
  refine lv_aload_n hx hb dX3_parseSource_38 rfl (lv_at hl 1 rfl) ?_
  refine lv_sipush (v := (-2000)) hx hb dX3_parseSource_39 (by decide) ?_
  refine lv_sipush (v := 2000) hx hb dX3_parseSource_42 (by decide) ?_
  obtain ⟨g21, h⟩ := oif_some h
  rcases othr_t h with ⟨r0, eT22⟩ | ⟨r24, T22, eT22, h⟩
  · refine q_xvi (As := [.int (-2000), .int 2000]) (rest := [.ref (ad n13)]) E G hA hX hN hml (x_X3_signed l hst D cI cJ cZ cMic cSrc cSt cAI cAJ ad T20 l0 ((-2000) : Int32) (2000 : Int32) eT22) (cwV 2 hts (gaV qA_325 qA_326 qA_327 qA_222 qA_328) rfl rfl rfl (by decide +kernel) ⟨Nat.le_of_ble_eq_true rfl, Nat.le_of_ble_eq_true rfl⟩) (oO_k g21).1 (cc_o3 (oO_k g21).2) rfl rfl hl.1 rfl (lv_room (Nat.le_of_ble_eq_true rfl)) dX3_parseSource_45 ⟨Nat.le_of_ble_eq_true rfl, Nat.le_of_ble_eq_true rfl⟩ (fun E9 ce q9 T9 H locs hp G hce hcv hcl => ?_)
    obtain ⟨hE, hT⟩ := hp
    subst hE
    rw [hT] at G
    exact vx_out (fun x hx => (htab x hx).elim) hlocks hce hcv hcl (fun t ht hvm => kx _ _ _ G hvm (by rw [ht]; exact Nat.le_refl _) (fun q hq => by rw [ht])) G.2.2.2.2 (Nat.le_refl _) (Nat.le_refl _)
  refine q_cvi (As := [.int (-2000), .int 2000]) (rest := [.ref (ad n13)]) E G hA hX hN hml (u_X3_signed l hst D cI cJ cZ cMic cSrc cSt cAI cAJ ad T20 l0 ((-2000) : Int32) (2000 : Int32) eT22) (cwV 2 hts (gaV qA_325 qA_326 qA_327 qA_222 qA_328) rfl rfl rfl (by decide +kernel) ⟨Nat.le_of_ble_eq_true rfl, Nat.le_of_ble_eq_true rfl⟩) (oO_k g21).1 (cc_o3 (oO_k g21).2) rfl rfl hl.1 rfl (lv_room (Nat.le_of_ble_eq_true rfl)) dX3_parseSource_45 ⟨Nat.zero_le _, Nat.zero_le _⟩ (fun q25 T23 H locs hq G => ?_)
  obtain ⟨hq1, hq2⟩ := hq
  rw [hq2] at G
  refine lv_to hq1 ?_
  clear hq1 hq2 eT22
  obtain ⟨g26, h⟩ := oif_some h
  refine c_put E G n13 1 (v := .int r24) (oO_k g26).1 (cc_o7 (oO_k g26).2) rfl (fun w h => .tail _ (iA_20 h)) tyX7 tyX7_ok nmX7 (by decide) (.tail _ qA_346) ⟨rfl, rfl, rfl⟩ rfl rfl (Nat.le_of_ble_eq_true rfl) dX3_parseSource_48 (fun H locs G => ?_)
  have G := gC_up_i (f := upd (T22.2.2.1 n13) 1 r24) (by rw [(oO_k g26).2]; rfl) G
  obtain ⟨T27, eT27, h⟩ := elet_some h
  have G : gC cI cJ cZ cMic cSrc cSt cAI cAJ D ad A s.heap H locs T27 := by rw [eT27]; exact G
  clear eT27
  refine lv_aload_n hx hb dX3_parseSource_51 rfl (lv_at hl 0 rfl) ?_
  refine lv_aload_n hx hb dX3_parseSource_52 rfl (lv_at hl 1 rfl) ?_
  refine lv_sipush (v := (-2000)) hx hb dX3_parseSource_53 (by decide) ?_
  refine lv_sipush (v := 2000) hx hb dX3_parseSource_56 (by decide) ?_
  obtain ⟨g28, h⟩ := oif_some h
  rcases othr_t h with ⟨r0, eT29⟩ | ⟨r31, T29, eT29, h⟩
  · refine q_xvi (As := [.int (-2000), .int 2000]) (rest := [.ref (ad n13)]) E G hA hX hN hml (x_X3_signed l hst D cI cJ cZ cMic cSrc cSt cAI cAJ ad T27 l0 ((-2000) : Int32) (2000 : Int32) eT29) (cwV 2 hts (gaV qA_325 qA_326 qA_327 qA_222 qA_328) rfl rfl rfl (by decide +kernel) ⟨Nat.le_of_ble_eq_true rfl, Nat.le_of_ble_eq_true rfl⟩) (oO_k g28).1 (cc_o3 (oO_k g28).2) rfl rfl hl.1 rfl (lv_room (Nat.le_of_ble_eq_true rfl)) dX3_parseSource_59 ⟨Nat.le_of_ble_eq_true rfl, Nat.le_of_ble_eq_true rfl⟩ (fun E9 ce q9 T9 H locs hp G hce hcv hcl => ?_)
    obtain ⟨hE, hT⟩ := hp
    subst hE
    rw [hT] at G
    exact vx_out (fun x hx => (htab x hx).elim) hlocks hce hcv hcl (fun t ht hvm => kx _ _ _ G hvm (by rw [ht]; exact Nat.le_refl _) (fun q hq => by rw [ht])) G.2.2.2.2 (Nat.le_refl _) (Nat.le_refl _)
  refine q_cvi (As := [.int (-2000), .int 2000]) (rest := [.ref (ad n13)]) E G hA hX hN hml (u_X3_signed l hst D cI cJ cZ cMic cSrc cSt cAI cAJ ad T27 l0 ((-2000) : Int32) (2000 : Int32) eT29) (cwV 2 hts (gaV qA_325 qA_326 qA_327 qA_222 qA_328) rfl rfl rfl (by decide +kernel) ⟨Nat.le_of_ble_eq_true rfl, Nat.le_of_ble_eq_true rfl⟩) (oO_k g28).1 (cc_o3 (oO_k g28).2) rfl rfl hl.1 rfl (lv_room (Nat.le_of_ble_eq_true rfl)) dX3_parseSource_59 ⟨Nat.zero_le _, Nat.zero_le _⟩ (fun q32 T30 H locs hq G => ?_)
  obtain ⟨hq1, hq2⟩ := hq
  rw [hq2] at G
  refine lv_to hq1 ?_
  clear hq1 hq2 eT29
  obtain ⟨g33, h⟩ := oif_some h
  refine c_put E G n13 2 (v := .int r31) (oO_k g33).1 (cc_o7 (oO_k g33).2) rfl (fun w h => .tail _ (iA_20 h)) tyX7 tyX7_ok nmX7 (by decide) (.tail _ qA_347) ⟨rfl, rfl, rfl⟩ rfl rfl (Nat.le_of_ble_eq_true rfl) dX3_parseSource_62 (fun H locs G => ?_)
  have G := gC_up_i (f := upd (T29.2.2.1 n13) 2 r31) (by rw [(oO_k g33).2]; rfl) G
  obtain ⟨T34, eT34, h⟩ := elet_some h
  have G : gC cI cJ cZ cMic cSrc cSt cAI cAJ D ad A s.heap H locs T34 := by rw [eT34]; exact G
  clear eT34
  refine lv_aload_n hx hb dX3_parseSource_65 rfl (lv_at hl 0 rfl) ?_
  refine lv_aload_n hx hb dX3_parseSource_66 rfl (lv_at hl 1 rfl) ?_
  refine lv_sipush (v := (-999)) hx hb dX3_parseSource_67 (by decide) ?_
  refine lv_sipush (v := 999) hx hb dX3_parseSource_70 (by decide) ?_
  obtain ⟨g35, h⟩ := oif_some h
  rcases othr_t h with ⟨r0, eT36⟩ | ⟨r38, T36, eT36, h⟩
  · refine q_xvi (As := [.int (-999), .int 999]) (rest := [.ref (ad n13)]) E G hA hX hN hml (x_X3_signed l hst D cI cJ cZ cMic cSrc cSt cAI cAJ ad T34 l0 ((-999) : Int32) (999 : Int32) eT36) (cwV 2 hts (gaV qA_325 qA_326 qA_327 qA_222 qA_328) rfl rfl rfl (by decide +kernel) ⟨Nat.le_of_ble_eq_true rfl, Nat.le_of_ble_eq_true rfl⟩) (oO_k g35).1 (cc_o3 (oO_k g35).2) rfl rfl hl.1 rfl (lv_room (Nat.le_of_ble_eq_true rfl)) dX3_parseSource_73 ⟨Nat.le_of_ble_eq_true rfl, Nat.le_of_ble_eq_true rfl⟩ (fun E9 ce q9 T9 H locs hp G hce hcv hcl => ?_)
    obtain ⟨hE, hT⟩ := hp
    subst hE
    rw [hT] at G
    exact vx_out (fun x hx => (htab x hx).elim) hlocks hce hcv hcl (fun t ht hvm => kx _ _ _ G hvm (by rw [ht]; exact Nat.le_refl _) (fun q hq => by rw [ht])) G.2.2.2.2 (Nat.le_refl _) (Nat.le_refl _)
  refine q_cvi (As := [.int (-999), .int 999]) (rest := [.ref (ad n13)]) E G hA hX hN hml (u_X3_signed l hst D cI cJ cZ cMic cSrc cSt cAI cAJ ad T34 l0 ((-999) : Int32) (999 : Int32) eT36) (cwV 2 hts (gaV qA_325 qA_326 qA_327 qA_222 qA_328) rfl rfl rfl (by decide +kernel) ⟨Nat.le_of_ble_eq_true rfl, Nat.le_of_ble_eq_true rfl⟩) (oO_k g35).1 (cc_o3 (oO_k g35).2) rfl rfl hl.1 rfl (lv_room (Nat.le_of_ble_eq_true rfl)) dX3_parseSource_73 ⟨Nat.zero_le _, Nat.zero_le _⟩ (fun q39 T37 H locs hq G => ?_)
  obtain ⟨hq1, hq2⟩ := hq
  rw [hq2] at G
  refine lv_to hq1 ?_
  clear hq1 hq2 eT36
  obtain ⟨g40, h⟩ := oif_some h
  refine c_put E G n13 3 (v := .int r38) (oO_k g40).1 (cc_o7 (oO_k g40).2) rfl (fun w h => .tail _ (iA_20 h)) tyX7 tyX7_ok nmX7 (by decide) (.tail _ qA_348) ⟨rfl, rfl, rfl⟩ rfl rfl (Nat.le_of_ble_eq_true rfl) dX3_parseSource_76 (fun H locs G => ?_)
  have G := gC_up_i (f := upd (T36.2.2.1 n13) 3 r38) (by rw [(oO_k g40).2]; rfl) G
  obtain ⟨T41, eT41, h⟩ := elet_some h
  have G : gC cI cJ cZ cMic cSrc cSt cAI cAJ D ad A s.heap H locs T41 := by rw [eT41]; exact G
  clear eT41
  refine lv_aload_n hx hb dX3_parseSource_79 rfl (lv_at hl 0 rfl) ?_
  refine lv_aload_n hx hb dX3_parseSource_80 rfl (lv_at hl 1 rfl) ?_
  refine lv_sipush (v := (-999)) hx hb dX3_parseSource_81 (by decide) ?_
  refine lv_sipush (v := 999) hx hb dX3_parseSource_84 (by decide) ?_
  obtain ⟨g42, h⟩ := oif_some h
  rcases othr_t h with ⟨r0, eT43⟩ | ⟨r45, T43, eT43, h⟩
  · refine q_xvi (As := [.int (-999), .int 999]) (rest := [.ref (ad n13)]) E G hA hX hN hml (x_X3_signed l hst D cI cJ cZ cMic cSrc cSt cAI cAJ ad T41 l0 ((-999) : Int32) (999 : Int32) eT43) (cwV 2 hts (gaV qA_325 qA_326 qA_327 qA_222 qA_328) rfl rfl rfl (by decide +kernel) ⟨Nat.le_of_ble_eq_true rfl, Nat.le_of_ble_eq_true rfl⟩) (oO_k g42).1 (cc_o3 (oO_k g42).2) rfl rfl hl.1 rfl (lv_room (Nat.le_of_ble_eq_true rfl)) dX3_parseSource_87 ⟨Nat.le_of_ble_eq_true rfl, Nat.le_of_ble_eq_true rfl⟩ (fun E9 ce q9 T9 H locs hp G hce hcv hcl => ?_)
    obtain ⟨hE, hT⟩ := hp
    subst hE
    rw [hT] at G
    exact vx_out (fun x hx => (htab x hx).elim) hlocks hce hcv hcl (fun t ht hvm => kx _ _ _ G hvm (by rw [ht]; exact Nat.le_refl _) (fun q hq => by rw [ht])) G.2.2.2.2 (Nat.le_refl _) (Nat.le_refl _)
  refine q_cvi (As := [.int (-999), .int 999]) (rest := [.ref (ad n13)]) E G hA hX hN hml (u_X3_signed l hst D cI cJ cZ cMic cSrc cSt cAI cAJ ad T41 l0 ((-999) : Int32) (999 : Int32) eT43) (cwV 2 hts (gaV qA_325 qA_326 qA_327 qA_222 qA_328) rfl rfl rfl (by decide +kernel) ⟨Nat.le_of_ble_eq_true rfl, Nat.le_of_ble_eq_true rfl⟩) (oO_k g42).1 (cc_o3 (oO_k g42).2) rfl rfl hl.1 rfl (lv_room (Nat.le_of_ble_eq_true rfl)) dX3_parseSource_87 ⟨Nat.zero_le _, Nat.zero_le _⟩ (fun q46 T44 H locs hq G => ?_)
  obtain ⟨hq1, hq2⟩ := hq
  rw [hq2] at G
  refine lv_to hq1 ?_
  clear hq1 hq2 eT43
  obtain ⟨g47, h⟩ := oif_some h
  refine c_put E G n13 4 (v := .int r45) (oO_k g47).1 (cc_o7 (oO_k g47).2) rfl (fun w h => .tail _ (iA_20 h)) tyX7 tyX7_ok nmX7 (by decide) (.tail _ qA_349) ⟨rfl, rfl, rfl⟩ rfl rfl (Nat.le_of_ble_eq_true rfl) dX3_parseSource_90 (fun H locs G => ?_)
  have G := gC_up_i (f := upd (T43.2.2.1 n13) 4 r45) (by rw [(oO_k g47).2]; rfl) G
  obtain ⟨T48, eT48, h⟩ := elet_some h
  have G : gC cI cJ cZ cMic cSrc cSt cAI cAJ D ad A s.heap H locs T48 := by rw [eT48]; exact G
  clear eT48
  refine lv_aload_n hx hb dX3_parseSource_93 rfl (lv_at hl 0 rfl) ?_
  refine lv_aload_n hx hb dX3_parseSource_94 rfl (lv_at hl 1 rfl) ?_
  refine lv_iconst (v := 1) hx hb dX3_parseSource_95 (by decide) ?_
  refine lv_sipush (v := 999) hx hb dX3_parseSource_96 (by decide) ?_
  obtain ⟨g49, h⟩ := oif_some h
  rcases othr_t h with ⟨r0, eT50⟩ | ⟨r52, T50, eT50, h⟩
  · refine q_xvi (As := [.int 1, .int 999]) (rest := [.ref (ad n13)]) E G hA hX hN hml (x_X3_number l hst D cI cJ cZ cMic cSrc cSt cAI cAJ ad T48 l0 (1 : Int32) (999 : Int32) eT50) (cwV 2 hts (gaV qA_299 qA_300 qA_301 qA_222 qA_302) rfl rfl rfl (by decide +kernel) ⟨Nat.le_of_ble_eq_true rfl, Nat.le_of_ble_eq_true rfl⟩) (oO_k g49).1 (cc_o3 (oO_k g49).2) rfl rfl hl.1 rfl (lv_room (Nat.le_of_ble_eq_true rfl)) dX3_parseSource_99 ⟨Nat.le_of_ble_eq_true rfl, Nat.le_of_ble_eq_true rfl⟩ (fun E9 ce q9 T9 H locs hp G hce hcv hcl => ?_)
    obtain ⟨hE, hT⟩ := hp
    subst hE
    rw [hT] at G
    exact vx_out (fun x hx => (htab x hx).elim) hlocks hce hcv hcl (fun t ht hvm => kx _ _ _ G hvm (by rw [ht]; exact Nat.le_refl _) (fun q hq => by rw [ht])) G.2.2.2.2 (Nat.le_refl _) (Nat.le_refl _)
  refine q_cvi (As := [.int 1, .int 999]) (rest := [.ref (ad n13)]) E G hA hX hN hml (u_X3_number l hst D cI cJ cZ cMic cSrc cSt cAI cAJ ad T48 l0 (1 : Int32) (999 : Int32) eT50) (cwV 2 hts (gaV qA_299 qA_300 qA_301 qA_222 qA_302) rfl rfl rfl (by decide +kernel) ⟨Nat.le_of_ble_eq_true rfl, Nat.le_of_ble_eq_true rfl⟩) (oO_k g49).1 (cc_o3 (oO_k g49).2) rfl rfl hl.1 rfl (lv_room (Nat.le_of_ble_eq_true rfl)) dX3_parseSource_99 ⟨Nat.zero_le _, Nat.zero_le _⟩ (fun q53 T51 H locs hq G => ?_)
  obtain ⟨hq1, hq2⟩ := hq
  rw [hq2] at G
  refine lv_to hq1 ?_
  clear hq1 hq2 eT50
  obtain ⟨g54, h⟩ := oif_some h
  refine c_put E G n13 5 (v := .int r52) (oO_k g54).1 (cc_o7 (oO_k g54).2) rfl (fun w h => .tail _ (iA_20 h)) tyX7 tyX7_ok nmX7 (by decide) (.tail _ qA_350) ⟨rfl, rfl, rfl⟩ rfl rfl (Nat.le_of_ble_eq_true rfl) dX3_parseSource_102 (fun H locs G => ?_)
  have G := gC_up_i (f := upd (T50.2.2.1 n13) 5 r52) (by rw [(oO_k g54).2]; rfl) G
  obtain ⟨T55, eT55, h⟩ := elet_some h
  have G : gC cI cJ cZ cMic cSrc cSt cAI cAJ D ad A s.heap H locs T55 := by rw [eT55]; exact G
  clear eT55
  refine lv_aload_n hx hb dX3_parseSource_105 rfl (lv_at hl 0 rfl) ?_
  refine lv_aload_n hx hb dX3_parseSource_106 rfl (lv_at hl 1 rfl) ?_
  refine lv_iconst (v := 2) hx hb dX3_parseSource_107 (by decide) ?_
  refine lv_bipush (v := 99) hx hb dX3_parseSource_108 (by decide) ?_
  obtain ⟨g56, h⟩ := oif_some h
  rcases othr_t h with ⟨r0, eT57⟩ | ⟨r59, T57, eT57, h⟩
  · refine q_xvi (As := [.int 2, .int 99]) (rest := [.ref (ad n13)]) E G hA hX hN hml (x_X3_number l hst D cI cJ cZ cMic cSrc cSt cAI cAJ ad T55 l0 (2 : Int32) (99 : Int32) eT57) (cwV 2 hts (gaV qA_299 qA_300 qA_301 qA_222 qA_302) rfl rfl rfl (by decide +kernel) ⟨Nat.le_of_ble_eq_true rfl, Nat.le_of_ble_eq_true rfl⟩) (oO_k g56).1 (cc_o3 (oO_k g56).2) rfl rfl hl.1 rfl (lv_room (Nat.le_of_ble_eq_true rfl)) dX3_parseSource_110 ⟨Nat.le_of_ble_eq_true rfl, Nat.le_of_ble_eq_true rfl⟩ (fun E9 ce q9 T9 H locs hp G hce hcv hcl => ?_)
    obtain ⟨hE, hT⟩ := hp
    subst hE
    rw [hT] at G
    exact vx_out (fun x hx => (htab x hx).elim) hlocks hce hcv hcl (fun t ht hvm => kx _ _ _ G hvm (by rw [ht]; exact Nat.le_refl _) (fun q hq => by rw [ht])) G.2.2.2.2 (Nat.le_refl _) (Nat.le_refl _)
  refine q_cvi (As := [.int 2, .int 99]) (rest := [.ref (ad n13)]) E G hA hX hN hml (u_X3_number l hst D cI cJ cZ cMic cSrc cSt cAI cAJ ad T55 l0 (2 : Int32) (99 : Int32) eT57) (cwV 2 hts (gaV qA_299 qA_300 qA_301 qA_222 qA_302) rfl rfl rfl (by decide +kernel) ⟨Nat.le_of_ble_eq_true rfl, Nat.le_of_ble_eq_true rfl⟩) (oO_k g56).1 (cc_o3 (oO_k g56).2) rfl rfl hl.1 rfl (lv_room (Nat.le_of_ble_eq_true rfl)) dX3_parseSource_110 ⟨Nat.zero_le _, Nat.zero_le _⟩ (fun q60 T58 H locs hq G => ?_)
  obtain ⟨hq1, hq2⟩ := hq
  rw [hq2] at G
  refine lv_to hq1 ?_
  clear hq1 hq2 eT57
  obtain ⟨g61, h⟩ := oif_some h
  refine c_put E G n13 6 (v := .int r59) (oO_k g61).1 (cc_o7 (oO_k g61).2) rfl (fun w h => .tail _ (iA_20 h)) tyX7 tyX7_ok nmX7 (by decide) (.tail _ qA_351) ⟨rfl, rfl, rfl⟩ rfl rfl (Nat.le_of_ble_eq_true rfl) dX3_parseSource_113 (fun H locs G => ?_)
  have G := gC_up_i (f := upd (T57.2.2.1 n13) 6 r59) (by rw [(oO_k g61).2]; rfl) G
  obtain ⟨T62, eT62, h⟩ := elet_some h
  have G : gC cI cJ cZ cMic cSrc cSt cAI cAJ D ad A s.heap H locs T62 := by rw [eT62]; exact G
  clear eT62
  refine lv_aload_n hx hb dX3_parseSource_116 rfl (lv_at hl 0 rfl) ?_
  refine lv_aload_n hx hb dX3_parseSource_117 rfl (lv_at hl 1 rfl) ?_
  refine lv_iconst (v := 0) hx hb dX3_parseSource_118 (by decide) ?_
  refine lv_bipush (v := 99) hx hb dX3_parseSource_119 (by decide) ?_
  obtain ⟨g63, h⟩ := oif_some h
  rcases othr_t h with ⟨r0, eT64⟩ | ⟨r66, T64, eT64, h⟩
  · refine q_xvi (As := [.int 0, .int 99]) (rest := [.ref (ad n13)]) E G hA hX hN hml (x_X3_number l hst D cI cJ cZ cMic cSrc cSt cAI cAJ ad T62 l0 (0 : Int32) (99 : Int32) eT64) (cwV 2 hts (gaV qA_299 qA_300 qA_301 qA_222 qA_302) rfl rfl rfl (by decide +kernel) ⟨Nat.le_of_ble_eq_true rfl, Nat.le_of_ble_eq_true rfl⟩) (oO_k g63).1 (cc_o3 (oO_k g63).2) rfl rfl hl.1 rfl (lv_room (Nat.le_of_ble_eq_true rfl)) dX3_parseSource_121 ⟨Nat.le_of_ble_eq_true rfl, Nat.le_of_ble_eq_true rfl⟩ (fun E9 ce q9 T9 H locs hp G hce hcv hcl => ?_)
    obtain ⟨hE, hT⟩ := hp
    subst hE
    rw [hT] at G
    exact vx_out (fun x hx => (htab x hx).elim) hlocks hce hcv hcl (fun t ht hvm => kx _ _ _ G hvm (by rw [ht]; exact Nat.le_refl _) (fun q hq => by rw [ht])) G.2.2.2.2 (Nat.le_refl _) (Nat.le_refl _)
  refine q_cvi (As := [.int 0, .int 99]) (rest := [.ref (ad n13)]) E G hA hX hN hml (u_X3_number l hst D cI cJ cZ cMic cSrc cSt cAI cAJ ad T62 l0 (0 : Int32) (99 : Int32) eT64) (cwV 2 hts (gaV qA_299 qA_300 qA_301 qA_222 qA_302) rfl rfl rfl (by decide +kernel) ⟨Nat.le_of_ble_eq_true rfl, Nat.le_of_ble_eq_true rfl⟩) (oO_k g63).1 (cc_o3 (oO_k g63).2) rfl rfl hl.1 rfl (lv_room (Nat.le_of_ble_eq_true rfl)) dX3_parseSource_121 ⟨Nat.zero_le _, Nat.zero_le _⟩ (fun q67 T65 H locs hq G => ?_)
  obtain ⟨hq1, hq2⟩ := hq
  rw [hq2] at G
  refine lv_to hq1 ?_
  clear hq1 hq2 eT64
  obtain ⟨g68, h⟩ := oif_some h
  refine c_put E G n13 7 (v := .int r66) (oO_k g68).1 (cc_o7 (oO_k g68).2) rfl (fun w h => .tail _ (iA_20 h)) tyX7 tyX7_ok nmX7 (by decide) (.tail _ qA_352) ⟨rfl, rfl, rfl⟩ rfl rfl (Nat.le_of_ble_eq_true rfl) dX3_parseSource_124 (fun H locs G => ?_)
  have G := gC_up_i (f := upd (T64.2.2.1 n13) 7 r66) (by rw [(oO_k g68).2]; rfl) G
  obtain ⟨T69, eT69, h⟩ := elet_some h
  have G : gC cI cJ cZ cMic cSrc cSt cAI cAJ D ad A s.heap H locs T69 := by rw [eT69]; exact G
  clear eT69
  refine lv_aload_n hx hb dX3_parseSource_127 rfl (lv_at hl 0 rfl) ?_
  refine lv_iconst (v := 0) hx hb dX3_parseSource_128 (by decide) ?_
  obtain ⟨g70, h⟩ := oif_some h
  refine c_put E G n13 8 (v := .int 0) (oO_k g70).1 (cc_o7 (oO_k g70).2) rfl (fun w h => .tail _ (iA_20 h)) tyX7 tyX7_ok nmX7 (by decide) (.tail _ qA_353) ⟨rfl, rfl, rfl⟩ rfl rfl (Nat.le_of_ble_eq_true rfl) dX3_parseSource_129 (fun H locs G => ?_)
  have G := gC_up_i (f := upd (T69.2.2.1 n13) 8 0) (by rw [(oO_k g70).2]; rfl) G
  obtain ⟨T71, eT71, h⟩ := elet_some h
  have G : gC cI cJ cZ cMic cSrc cSt cAI cAJ D ad A s.heap H locs T71 := by rw [eT71]; exact G
  clear eT71
  refine lv_aload_n hx hb dX3_parseSource_132 rfl (lv_at hl 0 rfl) ?_
  refine lv_iconst (v := 0) hx hb dX3_parseSource_133 (by decide) ?_
  obtain ⟨g72, h⟩ := oif_some h
  refine c_put E G n13 9 (v := .int 0) (oO_k g72).1 (cc_o7 (oO_k g72).2) rfl (fun w h => .tail _ (iA_20 h)) tyX7 tyX7_ok nmX7 (by decide) (.tail _ qA_354) ⟨rfl, rfl, rfl⟩ rfl rfl (Nat.le_of_ble_eq_true rfl) dX3_parseSource_134 (fun H locs G => ?_)
  have G := gC_up_i (f := upd (T71.2.2.1 n13) 9 0) (by rw [(oO_k g72).2]; rfl) G
  obtain ⟨T73, eT73, h⟩ := elet_some h
  have G : gC cI cJ cZ cMic cSrc cSt cAI cAJ D ad A s.heap H locs T73 := by rw [eT73]; exact G
  clear eT73
  refine lv_aload_n hx hb dX3_parseSource_137 rfl (lv_at hl 1 rfl) ?_
  obtain ⟨w74, hw74, ow74⟩ := hT.1 ("AcousticCamera$Parser", 216, "from") (List.mem_of_getElem? (i := 12) rfl)
  refine va_ldcS hx hb hown hw74 dX3_parseSource_138 ?_
  obtain ⟨g75, h⟩ := oif_some h
  obtain ⟨r78, T76, eT76, h⟩ := obind2_some h
  refine q_cviX (As := [.ref w74]) (rest := []) E G hA hX hN hml (u_X3_isWord l hst D cI cJ cZ cMic cSrc cSt cAI cAJ ad T73 h0 (q := w74) (sTx_ok (by decide +kernel)) l0 eT76) (cwV 1 hts (gaV qA_232 qA_233 qA_234 qA_222 qA_235) rfl rfl rfl (by decide +kernel) ⟨Nat.le_of_ble_eq_true rfl, Nat.le_of_ble_eq_true rfl⟩) (oO_k g75).1 (cc_o3 (oO_k g75).2) rfl rfl hl.1 rfl (lv_room (Nat.le_of_ble_eq_true rfl)) dX3_parseSource_140 ⟨Nat.zero_le _, Nat.zero_le _⟩ (yT1.blind) (yT1.go hT hA0 hA G ow74) (fun q79 T77 H locs hq G => ?_)
  obtain ⟨hq1, hq2⟩ := hq
  rw [hq2] at G
  refine lv_to hq1 ?_
  clear hq1 hq2 eT76
  refine lv_if_eq (tgt := 168) hx hb dX3_parseSource_143 (by decide) (fun c80 => ?_) (fun c80 => ?_)
  · have h := oif_pos c80 h
    have hl := lv_sub hl [2] rfl
    exact x_X3_parseSource_b168 E hA hX hN hml hA0 hT trivial hst htab hlocks kx _ _ _ _ _ h G hl
  · have h := oif_neg c80 h
    refine lv_aload_n hx hb dX3_parseSource_146 rfl (lv_at hl 1 rfl) ?_
    refine lv_dup hx hb dX3_parseSource_147 rfl ?_
    obtain ⟨g81, h⟩ := oif_some h
    refine c_get E G l0 1 (oO_k g81).1 (cc_o3 (oO_k g81).2) rfl (fun w h => .tail _ (iA_17 h)) (by decide) (.tail _ qA_176) rfl rfl dX3_parseSource_148 ?_
    refine lv_topi (fun v82 ev82 => ?_)
    have h := elet_at ev82 h
    clear ev82
    refine lv_iconst (v := 1) hx hb dX3_parseSource_151 (by decide) ?_
    refine lv_iadd hx hb dX3_parseSource_152 ?_
    refine lv_topi (fun v83 ev83 => ?_)
    have h := elet_at ev83 h
    clear ev83
    obtain ⟨g84, h⟩ := oif_some h
    refine c_put E G l0 1 (v := .int v83) (oO_k g84).1 (cc_o3 (oO_k g84).2) rfl (fun w h => .tail _ (iA_17 h)) tyX3 tyX3_ok nmX3 (by decide) (.tail _ qA_176) ⟨rfl, rfl, rfl⟩ rfl rfl (Nat.le_of_ble_eq_true rfl) dX3_parseSource_153 (fun H locs G => ?_)
    have G := gC_up_i (f := upd (T76.2.2.1 l0) 1 v83) (by rw [(oO_k g84).2]; rfl) G
    obtain ⟨T85, eT85, h⟩ := elet_some h
    have G : gC cI cJ cZ cMic cSrc cSt cAI cAJ D ad A s.heap H locs T85 := by rw [eT85]; exact G
    clear eT85
    refine lv_aload_n hx hb dX3_parseSource_156 rfl (lv_at hl 0 rfl) ?_
    refine lv_aload_n hx hb dX3_parseSource_157 rfl (lv_at hl 1 rfl) ?_
    refine lv_iconst (v := 0) hx hb dX3_parseSource_158 (by decide) ?_
    refine lv_sipush (v := 199) hx hb dX3_parseSource_159 (by decide) ?_
    obtain ⟨g86, h⟩ := oif_some h
    rcases othr_t h with ⟨r0, eT87⟩ | ⟨r89, T87, eT87, h⟩
    · refine q_xvi (As := [.int 0, .int 199]) (rest := [.ref (ad n13)]) E G hA hX hN hml (x_X3_number l hst D cI cJ cZ cMic cSrc cSt cAI cAJ ad T85 l0 (0 : Int32) (199 : Int32) eT87) (cwV 2 hts (gaV qA_299 qA_300 qA_301 qA_222 qA_302) rfl rfl rfl (by decide +kernel) ⟨Nat.le_of_ble_eq_true rfl, Nat.le_of_ble_eq_true rfl⟩) (oO_k g86).1 (cc_o3 (oO_k g86).2) rfl rfl hl.1 rfl (lv_room (Nat.le_of_ble_eq_true rfl)) dX3_parseSource_162 ⟨Nat.le_of_ble_eq_true rfl, Nat.le_of_ble_eq_true rfl⟩ (fun E9 ce q9 T9 H locs hp G hce hcv hcl => ?_)
      obtain ⟨hE, hT⟩ := hp
      subst hE
      rw [hT] at G
      exact vx_out (fun x hx => (htab x hx).elim) hlocks hce hcv hcl (fun t ht hvm => kx _ _ _ G hvm (by rw [ht]; exact Nat.le_refl _) (fun q hq => by rw [ht])) G.2.2.2.2 (Nat.le_refl _) (Nat.le_refl _)
    refine q_cvi (As := [.int 0, .int 199]) (rest := [.ref (ad n13)]) E G hA hX hN hml (u_X3_number l hst D cI cJ cZ cMic cSrc cSt cAI cAJ ad T85 l0 (0 : Int32) (199 : Int32) eT87) (cwV 2 hts (gaV qA_299 qA_300 qA_301 qA_222 qA_302) rfl rfl rfl (by decide +kernel) ⟨Nat.le_of_ble_eq_true rfl, Nat.le_of_ble_eq_true rfl⟩) (oO_k g86).1 (cc_o3 (oO_k g86).2) rfl rfl hl.1 rfl (lv_room (Nat.le_of_ble_eq_true rfl)) dX3_parseSource_162 ⟨Nat.zero_le _, Nat.zero_le _⟩ (fun q90 T88 H locs hq G => ?_)
    obtain ⟨hq1, hq2⟩ := hq
    rw [hq2] at G
    refine lv_to hq1 ?_
    clear hq1 hq2 eT87
    obtain ⟨g91, h⟩ := oif_some h
    refine c_put E G n13 8 (v := .int r89) (oO_k g91).1 (cc_o7 (oO_k g91).2) rfl (fun w h => .tail _ (iA_20 h)) tyX7 tyX7_ok nmX7 (by decide) (.tail _ qA_353) ⟨rfl, rfl, rfl⟩ rfl rfl (Nat.le_of_ble_eq_true rfl) dX3_parseSource_165 (fun H locs G => ?_)
    have G := gC_up_i (f := upd (T87.2.2.1 n13) 8 r89) (by rw [(oO_k g91).2]; rfl) G
    obtain ⟨T92, eT92, h⟩ := elet_some h
    have G : gC cI cJ cZ cMic cSrc cSt cAI cAJ D ad A s.heap H locs T92 := by rw [eT92]; exact G
    clear eT92
    have hl := lv_sub hl [2] rfl
    exact x_X3_parseSource_b168 E hA hX hN hml hA0 hT trivial hst htab hlocks kx _ _ _ _ _ h G hl
set_option maxHeartbeats 4000000 in
set_option maxRecDepth 100000 in
theorem x_X3_parseSource (l : Launch) (hst : l.stackTraces = false) (D : va_G) (cI cJ cZ cMic cSrc cSt cAI cAJ : ClassId) (ad : Nat → Nat) (T : AT) (h0 : Nat) (o : Nat) (a0 : Nat) {e1 : Nat} {r1 : Int32} {T1 : AT} (h : g_X3_parseSource T o a0 = some (e1 + 1, r1, T1)) : kXvX l yX3_parseSource (Cond.code yX3_parseSource cX3_parseSource 3 none :: wsA) 9 148 cI cJ cZ cMic cSrc cSt cAI cAJ D ad T [.ref (ad o), .ref (ad a0)] (yT0 cI cJ cZ cMic cSrc cSt cAI cAJ h0 ad T) e1 T1 := by
  intro sz
  refine vx_ofW (cc := cX3_parseSource) (maxL := 3) (ret := none) (by decide) rfl ?_
  intro p e s m args below meth c s₁ B hml htab hv
  obtain ⟨rfl, ⟨hsz, hP, hK, hD0, hX, hN⟩, hA1, hT⟩ := hv
  have hx := B.exec
  have hb := B.bytes
  have hr := B.returns
  have hts := atoms_spec (ws := (Cond.code yX3_parseSource cX3_parseSource 3 none :: wsA)) B.pre
  have hown : s.vm.findClass RX3 = some m.cls := findClass_of_methodNamed B.named
  have hlocks := B.notSynchronized
  subst hsz
  have hD := hD0.self (sz := s.heap.size)
  generalize hAe : va_A (cW ad T.1 (cc cI cJ cZ cMic cSrc cSt cAI cAJ ad T)) s.heap.size = A at hD hX hA1 ⊢
  have hA : ∀ q : Nat, s.heap.size ≤ q → A q := fun q h => by rw [← hAe]; exact Or.inr h
  have G : gC cI cJ cZ cMic cSrc cSt cAI cAJ D ad A s.heap s.heap [] T := ⟨hP, hD, va_S.rf⟩
  have E : cE p c cX3_parseSource s m ([.ref (ad o), .ref (ad a0)] : List Value).toArray (Cond.code yX3_parseSource cX3_parseSource 3 none :: wsA) D RX3 (CT cI cJ cZ cMic cSrc cSt cAI cAJ) := ⟨hx, hb, hts, hown, hK⟩
  have htab : ∀ x ∈ c.exceptionTable.toList, False := fun x hx => htab x hx
  have hA0 : ∀ a : Nat, A a → h0 ≤ a := hA1
  have hl := lv_entry ([.ref (ad o), .ref (ad a0)]) (n := 3) (Nat.le_of_ble_eq_true rfl)
  rw [lg_entry_eq]
  generalize (lg_sl ([.ref (ad o), .ref (ad a0)]) ++ List.replicate (3 - (lg_sl ([.ref (ad o), .ref (ad a0)])).length) Slot.unset).toArray = ls at hl ⊢
  have hl : lv_has ls 3 [(0, .ref (ad o)), (1, .ref (ad a0))] := hl
  unfold g_X3_parseSource at h
  refine lv_aload_n hx hb dX3_parseSource_0 rfl (lv_at hl 0 rfl) ?_
  refine lv_aload_n hx hb dX3_parseSource_1 rfl (lv_at hl 1 rfl) ?_
  obtain ⟨g2, h⟩ := oif_some h
  refine c_get E G a0 8 (oO_k g2).1 (cc_o6 (oO_k g2).2) rfl (fun w h => .tail _ (iA_14 h)) (by decide) (.tail _ qA_343) rfl rfl dX3_parseSource_2 ?_
  refine lv_topi (fun v3 ev3 => ?_)
  have h := elet_at ev3 h
  clear ev3
  refine lv_bipush (v := 6) hx hb dX3_parseSource_5 (by decide) ?_
  refine lv_icmp_lt (tgt := 14) hx hb dX3_parseSource_7 (by decide) (fun c4 => ?_) (fun c4 => ?_)
  · have h := oif_pos c4 h
    refine lv_iconst (v := 0) hx hb dX3_parseSource_14 (by decide) ?_
    have hl := lv_sub hl [0, 1] rfl
    exact x_X3_parseSource_b15 E hA hX hN hml hA0 hT trivial hst htab hlocks (fun H locs t G hvm h1 h2 => ⟨T1, trivial, ⟨⟨rfl, rfl⟩, (c_thrown G hK hvm h1 h2).1⟩, (c_thrown G hK hvm h1 h2).2⟩) _ _ _ _ _ _ _ _ h G hl
  · have h := oif_neg c4 h
    refine lv_iconst (v := 1) hx hb dX3_parseSource_10 (by decide) ?_
    refine lv_goto (tgt := 15) hx hb dX3_parseSource_11 (by decide) ?_
    have hl := lv_sub hl [0, 1] rfl
    exact x_X3_parseSource_b15 E hA hX hN hml hA0 hT trivial hst htab hlocks (fun H locs t G hvm h1 h2 => ⟨T1, trivial, ⟨⟨rfl, rfl⟩, (c_thrown G hK hvm h1 h2).1⟩, (c_thrown G hK hvm h1 h2).2⟩) _ _ _ _ _ _ _ _ h G hl
end
