section
/-! 11g.dec5.lean.txt -/
def fr_bestPower_b25  (S : MS) (s0 : Int64) : Option (Int64 × MS) := some (s0, S)
set_option maxHeartbeats 4000000 in
set_option maxRecDepth 100000 in
theorem tr_bestPower_b25 {p : Program} {l : Launch} {e : Env} {s : State} {m : MethodId} {args : Array Value} {below : List Frame} {meth : Method} {c : Code} {Q : State → Prop} {D : va_G} {A : Nat → Prop} {H0 : Heap} {cI cJ cZ : ClassId} {ad : Nat → Nat} {r1 : Int64} {S1 : MS} (E : mE p c cX12_bestPower s m args (Cond.code yX12_bestPower cX12_bestPower 1 (some .long) :: wsM) D cI cJ cZ) (hA : ∀ q : Nat, H0.size ≤ q → A q) (hR : sR s) (hml : c.maxLocals = 1) (kr25 : ∀ (H : Heap) (locs : List Loc) (ls : Array Slot), mG D cI cJ cZ ad A H0 H locs S1 → W p l e { frames := 8, cells := 0, slots := 0, locals := 163 } s m args below meth c H locs 0 0 Q (F0 m 25 ls [.long r1])) : ∀ (S : MS) (H : Heap) (locs : List Loc) (ls : Array Slot) (s0 : Int64), fr_bestPower_b25 S s0 = some (r1, S1) → mG D cI cJ cZ ad A H0 H locs S → lv_has ls 1 [] → W p l e { frames := 8, cells := 0, slots := 0, locals := 163 } s m args below meth c H locs 0 0 Q (F0 m 25 ls [.long s0]) := by
  have hx := E.1
  have hb := E.2.1
  have hts := E.2.2.1
  have hown := E.2.2.2.1
  have hK := E.2.2.2.2.1
  intro S H locs ls s0 h G hl
  unfold fr_bestPower_b25 at h
  rw [(osome2 h).2] at G
  refine lv_tol (osome2 h).1 ?_
  exact kr25 _ _ _ G
def fr_bestPower (S : MS)  : Option (Int64 × MS) := obind2 (fr_mayAsk S 1) fun r5 S2 => if r5 = 0 then (fr_bestPower_b25 S2 (0 : Int64)) else (obind2 (fr_bestIn_12 S2) fun r10 S7 => oif (inb r10 144 = true) <| elet (S7.2.2 25 r10.toNatClampNeg) fun v12 => fr_bestPower_b25 S7 v12)
set_option maxHeartbeats 4000000 in
set_option maxRecDepth 100000 in
theorem tr_bestPower (l : Launch) (D : va_G) (cI cJ cZ : ClassId) (ad : Nat → Nat) (S : MS)  {r1 : Int64} {S1 : MS} (h : fr_bestPower S = some (r1, S1)) : mCl l yX12_bestPower (Cond.code yX12_bestPower cX12_bestPower 1 (some .long) :: wsM) 8 163 D cI cJ cZ ad S [] (fun r S9 => r = r1 ∧ S9 = S1) := by
  intro sz
  refine Met.ofW (cc := cX12_bestPower) (maxL := 1) (ret := (some .long)) (by decide) rfl ?_
  intro p e s m args below meth c s₁ B hml hv
  obtain ⟨rfl, hsz, hP, hK, hD0, hR⟩ := hv
  have hx := B.exec
  have hb := B.bytes
  have hr := B.returns
  have hts := atoms_spec (ws := (Cond.code yX12_bestPower cX12_bestPower 1 (some .long) :: wsM)) B.pre
  have hown : s.vm.findClass RX12 = some m.cls := findClass_of_methodNamed B.named
  have hlocks := B.notSynchronized
  subst hsz
  have hD := hD0.self (sz := s.heap.size)
  generalize hAe : va_A (MW cI cJ cZ ad S) s.heap.size = A at hD ⊢
  have hA : ∀ q : Nat, s.heap.size ≤ q → A q := fun q h => by rw [← hAe]; exact Or.inr h
  have G : mG D cI cJ cZ ad A s.heap s.heap [] S := ⟨hP, hD, va_S.rf⟩
  have E : mE p c cX12_bestPower s m ([.ref (ad 0)] : List Value).toArray (Cond.code yX12_bestPower cX12_bestPower 1 (some .long) :: wsM) D cI cJ cZ := ⟨hx, hb, hts, hown, hK, fun w h => .tail _ (iM_x h)⟩
  have hl := lv_entry ([.ref (ad 0)]) (n := 1) (Nat.le_of_ble_eq_true rfl)
  rw [lg_entry_eq]
  generalize (lg_sl ([.ref (ad 0)]) ++ List.replicate (1 - (lg_sl ([.ref (ad 0)])).length) Slot.unset).toArray = ls at hl ⊢
  have hl : lv_has ls 1 [(0, .ref (ad 0))] := hl
  unfold fr_bestPower at h
  refine lv_aload_n hx hb dX12_bestPower_0 rfl (lv_at hl 0 rfl) ?_
  refine lv_iconst (v := 1) hx hb dX12_bestPower_1 (by decide) ?_
  obtain ⟨r5, S2, eS2, h⟩ := obind2_some h
  refine m_calli (As := [.int 1]) (rest := []) E G hA hR hml (tr_mayAsk l D cI cJ cZ ad S 1 eS2) (cwV 1 hts (gmV qM_319 qM_320 qM_321 qM_35 qM_304) rfl rfl rfl (by decide +kernel) ⟨Nat.le_of_ble_eq_true rfl, Nat.le_of_ble_eq_true rfl⟩) rfl hl.1 rfl (lv_room (Nat.le_of_ble_eq_true rfl)) dX12_bestPower_2 ⟨Nat.zero_le _, Nat.zero_le _⟩ (fun q3 S4 H locs hq G => ?_)
  obtain ⟨hq1, hq2⟩ := hq
  rw [hq2] at G
  refine lv_to hq1 ?_
  clear hq1 hq2 eS2
  refine lv_if_eq (tgt := 24) hx hb dX12_bestPower_5 (by decide) (fun c6 => ?_) (fun c6 => ?_)
  · have h := oif_pos c6 h
    refine lv_lconst (v := 0) hx hb dX12_bestPower_24 (by decide) ?_
    have hl := lv_sub hl [] rfl
    exact tr_bestPower_b25 E hA hR hml (fun H locs ls G => W.lret (v := r1) hx hb hr (fun t ht hW => ⟨⟨r1, S1, rfl, ⟨rfl, rfl⟩, ⟨by rw [ht]; exact G.1, va_K.moved hW.alike hK, G.2.1⟩⟩, G.2.2.F ht⟩) G.2.2.2.2 dX12_bestPower_25) _ _ _ _ _ h G hl
  · have h := oif_neg c6 h
    refine lv_aload_n hx hb dX12_bestPower_8 rfl (lv_at hl 0 rfl) ?_
    refine m_get E G 25 (v := .ref (ad 25)) (by decide) (.tail _ qM_21) rfl dX12_bestPower_9 rfl ?_
    refine lv_aload_n hx hb dX12_bestPower_12 rfl (lv_at hl 0 rfl) ?_
    refine lv_aload_n hx hb dX12_bestPower_13 rfl (lv_at hl 0 rfl) ?_
    refine m_get E G 12 (v := .ref (ad 12)) (by decide) (.tail _ qM_9) rfl dX12_bestPower_14 rfl ?_
    obtain ⟨r10, S7, eS7, h⟩ := obind2_some h
    refine m_calli (As := [.ref (ad 12)]) (rest := [.ref (ad 25)]) E G hA hR hml (tr_bestIn_12 l D cI cJ cZ ad S2 eS7) (cwV 1 hts (gmV qM_360 qM_361 qM_362 qM_35 qM_300) rfl rfl rfl (by decide +kernel) ⟨Nat.le_of_ble_eq_true rfl, Nat.le_of_ble_eq_true rfl⟩) rfl hl.1 rfl (lv_room (Nat.le_of_ble_eq_true rfl)) dX12_bestPower_17 ⟨Nat.zero_le _, Nat.zero_le _⟩ (fun q8 S9 H locs hq G => ?_)
    obtain ⟨hq1, hq2⟩ := hq
    rw [hq2] at G
    refine lv_to hq1 ?_
    clear hq1 hq2 eS7
    obtain ⟨g11, h⟩ := oif_some h
    refine m_lald E G 25 13 (n := 144) (k := r10.toNatClampNeg) rfl (inb_k g11).1 (inb_k g11).2 (by decide) dX12_bestPower_20 ?_
    refine lv_topl (fun v12 ev12 => ?_)
    have h := elet_at ev12 h
    clear ev12
    refine lv_goto (tgt := 25) hx hb dX12_bestPower_21 (by decide) ?_
    have hl := lv_sub hl [] rfl
    exact tr_bestPower_b25 E hA hR hml (fun H locs ls G => W.lret (v := r1) hx hb hr (fun t ht hW => ⟨⟨r1, S1, rfl, ⟨rfl, rfl⟩, ⟨by rw [ht]; exact G.1, va_K.moved hW.alike hK, G.2.1⟩⟩, G.2.2.F ht⟩) G.2.2.2.2 dX12_bestPower_25) _ _ _ _ _ h G hl
def fr_meanPower_b22  : Nat → MS → Int64 → Int32 → Option (Int64 × MS)
  | 0, _, _, _ => none
  | n + 1, S, l1, l3 => obind2 (fr_cellCount S) fun r5 S2 => if r5 ≤ l3 then (obind2 (fr_cellCount S2) fun r10 S7 => elet (r10.toInt64) fun v11 => oif (¬ v11 = 0) <| elet (l1 / v11) fun v13 => some (v13, S7)) else (oif (inb l3 144 = true) <| elet (S2.2.2 25 l3.toNatClampNeg) fun v15 => elet (l1 + v15) fun v16 => elet (l3 + Int32.ofInt (1)) fun v17 => fr_meanPower_b22 n S2 v16 v17)
set_option maxHeartbeats 4000000 in
set_option maxRecDepth 100000 in
theorem tr_meanPower_b22 {p : Program} {l : Launch} {e : Env} {s : State} {m : MethodId} {args : Array Value} {below : List Frame} {meth : Method} {c : Code} {Q : State → Prop} {D : va_G} {A : Nat → Prop} {H0 : Heap} {cI cJ cZ : ClassId} {ad : Nat → Nat} {r1 : Int64} {S1 : MS} (E : mE p c cX12_meanPower s m args (Cond.code yX12_meanPower cX12_meanPower 4 (some .long) :: wsM) D cI cJ cZ) (hA : ∀ q : Nat, H0.size ≤ q → A q) (hR : sR s) (hml : c.maxLocals = 4) (kr9 : ∀ (H : Heap) (locs : List Loc) (ls : Array Slot), mG D cI cJ cZ ad A H0 H locs S1 → W p l e { frames := 7, cells := 0, slots := 0, locals := 140 } s m args below meth c H locs 0 0 Q (F0 m 9 ls [.long r1])) (kr52 : ∀ (H : Heap) (locs : List Loc) (ls : Array Slot), mG D cI cJ cZ ad A H0 H locs S1 → W p l e { frames := 7, cells := 0, slots := 0, locals := 140 } s m args below meth c H locs 0 0 Q (F0 m 52 ls [.long r1])) : ∀ n : Nat, ∀ (S : MS) (H : Heap) (locs : List Loc) (ls : Array Slot) (l1 : Int64) (l3 : Int32), fr_meanPower_b22 n S l1 l3 = some (r1, S1) → mG D cI cJ cZ ad A H0 H locs S → lv_has ls 4 [(0, .ref (ad 0)), (1, .long l1), (3, .int l3)] → W p l e { frames := 7, cells := 0, slots := 0, locals := 140 } s m args below meth c H locs 0 0 Q (F0 m 22 ls []) := by
  have hx := E.1
  have hb := E.2.1
  have hts := E.2.2.1
  have hown := E.2.2.2.1
  have hK := E.2.2.2.2.1
  intro n
  induction n with
  | zero =>
    intro S H locs ls l1 l3 h
    have h : (none : Option (Int64 × MS)) = some (r1, S1) := h
    cases h
  | succ n ih =>
    intro S H locs ls l1 l3 h G hl
    unfold fr_meanPower_b22 at h
    refine lv_iload_n hx hb dX12_meanPower_22 rfl (lv_at hl 2 rfl) ?_
    refine lv_aload_n hx hb dX12_meanPower_23 rfl (lv_at hl 0 rfl) ?_
    obtain ⟨r5, S2, eS2, h⟩ := obind2_some h
    refine m_calli (As := []) (rest := [.int l3]) E G hA hR hml (tr_cellCount l D cI cJ cZ ad S eS2) (cwV 0 hts (gmV qM_204 qM_205 qM_206 qM_35 qM_207) rfl rfl rfl (by decide +kernel) ⟨Nat.le_of_ble_eq_true rfl, Nat.le_of_ble_eq_true rfl⟩) rfl hl.1 rfl (lv_room (Nat.le_of_ble_eq_true rfl)) dX12_meanPower_24 ⟨Nat.zero_le _, Nat.zero_le _⟩ (fun q3 S4 H locs hq G => ?_)
    obtain ⟨hq1, hq2⟩ := hq
    rw [hq2] at G
    refine lv_to hq1 ?_
    clear hq1 hq2 eS2
    refine lv_icmp_ge (tgt := 45) hx hb dX12_meanPower_27 (by decide) (fun c6 => ?_) (fun c6 => ?_)
    · have h := oif_pos c6 h
      refine lv_lload_n hx hb dX12_meanPower_45 rfl (lv_at hl 1 rfl) ?_
      refine lv_aload_n hx hb dX12_meanPower_46 rfl (lv_at hl 0 rfl) ?_
      obtain ⟨r10, S7, eS7, h⟩ := obind2_some h
      refine m_calli (As := []) (rest := [.long l1]) E G hA hR hml (tr_cellCount l D cI cJ cZ ad S2 eS7) (cwV 0 hts (gmV qM_204 qM_205 qM_206 qM_35 qM_207) rfl rfl rfl (by decide +kernel) ⟨Nat.le_of_ble_eq_true rfl, Nat.le_of_ble_eq_true rfl⟩) rfl hl.1 rfl (lv_room (Nat.le_of_ble_eq_true rfl)) dX12_meanPower_47 ⟨Nat.zero_le _, Nat.zero_le _⟩ (fun q8 S9 H locs hq G => ?_)
      obtain ⟨hq1, hq2⟩ := hq
      rw [hq2] at G
      refine lv_to hq1 ?_
      clear hq1 hq2 eS7
      refine lv_i2l (v := r10.toInt64) hx hb dX12_meanPower_50 rfl ?_
      refine lv_topl (fun v11 ev11 => ?_)
      have h := elet_at ev11 h
      clear ev11
      obtain ⟨g12, h⟩ := oif_some h
      refine lv_ldiv hx hb dX12_meanPower_51 g12 ?_
      refine lv_topl (fun v13 ev13 => ?_)
      have h := elet_at ev13 h
      clear ev13
      rw [(osome2 h).2] at G
      refine lv_tol (osome2 h).1 ?_
      exact kr52 _ _ _ G
    · have h := oif_neg c6 h
      refine lv_lload_n hx hb dX12_meanPower_30 rfl (lv_at hl 1 rfl) ?_
      refine lv_aload_n hx hb dX12_meanPower_31 rfl (lv_at hl 0 rfl) ?_
      refine m_get E G 25 (v := .ref (ad 25)) (by decide) (.tail _ qM_21) rfl dX12_meanPower_32 rfl ?_
      refine lv_iload_n hx hb dX12_meanPower_35 rfl (lv_at hl 2 rfl) ?_
      obtain ⟨g14, h⟩ := oif_some h
      refine m_lald E G 25 13 (n := 144) (k := l3.toNatClampNeg) rfl (inb_k g14).1 (inb_k g14).2 (by decide) dX12_meanPower_36 ?_
      refine lv_topl (fun v15 ev15 => ?_)
      have h := elet_at ev15 h
      clear ev15
      refine lv_ladd hx hb dX12_meanPower_37 ?_
      refine lv_topl (fun v16 ev16 => ?_)
      have h := elet_at ev16 h
      clear ev16
      refine lv_lstore_n (lv' := [(1, .long v16), (0, .ref (ad 0)), (3, .int l3)]) hx hb dX12_meanPower_38 rfl hl (by decide) rfl (fun ls hl => ?_)
      obtain ⟨v17, ev17, h⟩ := elet_some h
      refine lv_iinc (v := v17) (lv' := [(3, .int v17), (1, .long v16), (0, .ref (ad 0))]) hx hb dX12_meanPower_39 hl (k := 2) rfl ev17.symm (by decide) rfl (fun ls hl => ?_)
      refine lv_goto (tgt := 22) hx hb dX12_meanPower_42 (by decide) ?_
      have hl := lv_sub hl [2, 1, 0] rfl
      exact ih _ _ _ _ _ _ h G hl
def fr_meanPower (S : MS)  : Option (Int64 × MS) := obind2 (fr_mayAsk S 1) fun r5 S2 => if r5 = 0 then (some ((0 : Int64), S2)) else (obind (fr_laysPowers_12 S2) fun S7 => fr_meanPower_b22 16384 S7 (0 : Int64) 0)
set_option maxHeartbeats 4000000 in
set_option maxRecDepth 100000 in
theorem tr_meanPower (l : Launch) (D : va_G) (cI cJ cZ : ClassId) (ad : Nat → Nat) (S : MS)  {r1 : Int64} {S1 : MS} (h : fr_meanPower S = some (r1, S1)) : mCl l yX12_meanPower (Cond.code yX12_meanPower cX12_meanPower 4 (some .long) :: wsM) 7 140 D cI cJ cZ ad S [] (fun r S9 => r = r1 ∧ S9 = S1) := by
  intro sz
  refine Met.ofW (cc := cX12_meanPower) (maxL := 4) (ret := (some .long)) (by decide) rfl ?_
  intro p e s m args below meth c s₁ B hml hv
  obtain ⟨rfl, hsz, hP, hK, hD0, hR⟩ := hv
  have hx := B.exec
  have hb := B.bytes
  have hr := B.returns
  have hts := atoms_spec (ws := (Cond.code yX12_meanPower cX12_meanPower 4 (some .long) :: wsM)) B.pre
  have hown : s.vm.findClass RX12 = some m.cls := findClass_of_methodNamed B.named
  have hlocks := B.notSynchronized
  subst hsz
  have hD := hD0.self (sz := s.heap.size)
  generalize hAe : va_A (MW cI cJ cZ ad S) s.heap.size = A at hD ⊢
  have hA : ∀ q : Nat, s.heap.size ≤ q → A q := fun q h => by rw [← hAe]; exact Or.inr h
  have G : mG D cI cJ cZ ad A s.heap s.heap [] S := ⟨hP, hD, va_S.rf⟩
  have E : mE p c cX12_meanPower s m ([.ref (ad 0)] : List Value).toArray (Cond.code yX12_meanPower cX12_meanPower 4 (some .long) :: wsM) D cI cJ cZ := ⟨hx, hb, hts, hown, hK, fun w h => .tail _ (iM_x h)⟩
  have hl := lv_entry ([.ref (ad 0)]) (n := 4) (Nat.le_of_ble_eq_true rfl)
  rw [lg_entry_eq]
  generalize (lg_sl ([.ref (ad 0)]) ++ List.replicate (4 - (lg_sl ([.ref (ad 0)])).length) Slot.unset).toArray = ls at hl ⊢
  have hl : lv_has ls 4 [(0, .ref (ad 0))] := hl
  unfold fr_meanPower at h
  refine lv_aload_n hx hb dX12_meanPower_0 rfl (lv_at hl 0 rfl) ?_
  refine lv_iconst (v := 1) hx hb dX12_meanPower_1 (by decide) ?_
  obtain ⟨r5, S2, eS2, h⟩ := obind2_some h
  refine m_calli (As := [.int 1]) (rest := []) E G hA hR hml (tr_mayAsk l D cI cJ cZ ad S 1 eS2) (cwV 1 hts (gmV qM_319 qM_320 qM_321 qM_35 qM_304) rfl rfl rfl (by decide +kernel) ⟨Nat.le_of_ble_eq_true rfl, Nat.le_of_ble_eq_true rfl⟩) rfl hl.1 rfl (lv_room (Nat.le_of_ble_eq_true rfl)) dX12_meanPower_2 ⟨Nat.zero_le _, Nat.zero_le _⟩ (fun q3 S4 H locs hq G => ?_)
  obtain ⟨hq1, hq2⟩ := hq
  rw [hq2] at G
  refine lv_to hq1 ?_
  clear hq1 hq2 eS2
  refine lv_if_ne (tgt := 10) hx hb dX12_meanPower_5 (by decide) (fun c6 => ?_) (fun c6 => ?_)
  · have h := oif_neg c6 h
    refine lv_aload_n hx hb dX12_meanPower_10 rfl (lv_at hl 0 rfl) ?_
    refine lv_aload_n hx hb dX12_meanPower_11 rfl (lv_at hl 0 rfl) ?_
    refine m_get E G 12 (v := .ref (ad 12)) (by decide) (.tail _ qM_9) rfl dX12_meanPower_12 rfl ?_
    obtain ⟨S7, eS7, h⟩ := obind_some h
    refine m_callv (As := [.ref (ad 12)]) (rest := []) E G hA hR hml (tr_laysPowers_12 l D cI cJ cZ ad S2 eS7) (cwV 1 hts (gmV qM_301 qM_302 qM_303 qM_35 qM_296) rfl rfl rfl (by decide +kernel) ⟨Nat.le_of_ble_eq_true rfl, Nat.le_of_ble_eq_true rfl⟩) rfl hl.1 rfl (lv_room (Nat.le_of_ble_eq_true rfl)) dX12_meanPower_15 ⟨Nat.zero_le _, Nat.zero_le _⟩ (fun S9 H locs hq G => ?_)
    rw [hq] at G
    clear hq eS7
    refine lv_lconst (v := 0) hx hb dX12_meanPower_18 (by decide) ?_
    refine lv_lstore_n (lv' := [(1, .long (0 : Int64)), (0, .ref (ad 0))]) hx hb dX12_meanPower_19 rfl hl (by decide) rfl (fun ls hl => ?_)
    refine lv_iconst (v := 0) hx hb dX12_meanPower_20 (by decide) ?_
    refine lv_istore_n (lv' := [(3, .int 0), (1, .long (0 : Int64)), (0, .ref (ad 0))]) hx hb dX12_meanPower_21 rfl hl (by decide) rfl (fun ls hl => ?_)
    have hl := lv_sub hl [2, 1, 0] rfl
    exact tr_meanPower_b22 E hA hR hml (fun H locs ls G => W.lret (v := r1) hx hb hr (fun t ht hW => ⟨⟨r1, S1, rfl, ⟨rfl, rfl⟩, ⟨by rw [ht]; exact G.1, va_K.moved hW.alike hK, G.2.1⟩⟩, G.2.2.F ht⟩) G.2.2.2.2 dX12_meanPower_9) (fun H locs ls G => W.lret (v := r1) hx hb hr (fun t ht hW => ⟨⟨r1, S1, rfl, ⟨rfl, rfl⟩, ⟨by rw [ht]; exact G.1, va_K.moved hW.alike hK, G.2.1⟩⟩, G.2.2.F ht⟩) G.2.2.2.2 dX12_meanPower_52) _ _ _ _ _ _ _ h G hl
  · have h := oif_pos c6 h
    refine lv_lconst (v := 0) hx hb dX12_meanPower_8 (by decide) ?_
    exact W.lret (v := (0 : Int64)) hx hb hr (fun t ht hW => ⟨⟨(0 : Int64), S2, rfl, osome2 h, ⟨by rw [ht]; exact G.1, va_K.moved hW.alike hK, G.2.1⟩⟩, G.2.2.F ht⟩) G.2.2.2.2 dX12_meanPower_9
def fr_isTop_b118 (k29 : MS → Int32 → Int32 → Int32 → Int32 → Option (Int32 × MS)) (k58 : MS → Int32 → Int32 → Int32 → Int32 → Int32 → Option (Int32 × MS)) (S : MS) (l1 : Int32) (l2 : Int32) (l3 : Int32) (l4 : Int32) (l5 : Int32) : Option (Int32 × MS) := elet (l5 + Int32.ofInt (1)) fun v2 => k58 S l1 l2 l3 l4 v2
set_option maxHeartbeats 4000000 in
set_option maxRecDepth 100000 in
theorem tr_isTop_b118 {p : Program} {l : Launch} {e : Env} {s : State} {m : MethodId} {args : Array Value} {below : List Frame} {meth : Method} {c : Code} {Q : State → Prop} {D : va_G} {A : Nat → Prop} {H0 : Heap} {cI cJ cZ : ClassId} {ad : Nat → Nat} {r1 : Int32} {S1 : MS} (E : mE p c cX12_isTop s m args (Cond.code yX12_isTop cX12_isTop 7 (some .boolean) :: wsM) D cI cJ cZ) (hA : ∀ q : Nat, H0.size ≤ q → A q) (hR : sR s) (hml : c.maxLocals = 7) (kr117 : ∀ (H : Heap) (locs : List Loc) (ls : Array Slot), (r1 = 0 ∨ r1 = 1) → mG D cI cJ cZ ad A H0 H locs S1 → W p l e { frames := 1, cells := 0, slots := 0, locals := 17 } s m args below meth c H locs 0 0 Q (F0 m 117 ls [.int r1])) (kr131 : ∀ (H : Heap) (locs : List Loc) (ls : Array Slot), (r1 = 0 ∨ r1 = 1) → mG D cI cJ cZ ad A H0 H locs S1 → W p l e { frames := 1, cells := 0, slots := 0, locals := 17 } s m args below meth c H locs 0 0 Q (F0 m 131 ls [.int r1])) {k29 : MS → Int32 → Int32 → Int32 → Int32 → Option (Int32 × MS)} {k58 : MS → Int32 → Int32 → Int32 → Int32 → Int32 → Option (Int32 × MS)} (hk29 : ∀ (S : MS) (H : Heap) (locs : List Loc) (ls : Array Slot) (l1 : Int32) (l2 : Int32) (l3 : Int32) (l4 : Int32), k29 S l1 l2 l3 l4 = some (r1, S1) → mG D cI cJ cZ ad A H0 H locs S → lv_has ls 7 [(0, .ref (ad 0)), (1, .int l1), (2, .int l2), (3, .int l3), (4, .int l4)] → W p l e { frames := 1, cells := 0, slots := 0, locals := 17 } s m args below meth c H locs 0 0 Q (F0 m 29 ls [])) (hk58 : ∀ (S : MS) (H : Heap) (locs : List Loc) (ls : Array Slot) (l1 : Int32) (l2 : Int32) (l3 : Int32) (l4 : Int32) (l5 : Int32), k58 S l1 l2 l3 l4 l5 = some (r1, S1) → mG D cI cJ cZ ad A H0 H locs S → lv_has ls 7 [(0, .ref (ad 0)), (1, .int l1), (2, .int l2), (3, .int l3), (4, .int l4), (5, .int l5)] → W p l e { frames := 1, cells := 0, slots := 0, locals := 17 } s m args below meth c H locs 0 0 Q (F0 m 58 ls [])) : ∀ (S : MS) (H : Heap) (locs : List Loc) (ls : Array Slot) (l1 : Int32) (l2 : Int32) (l3 : Int32) (l4 : Int32) (l5 : Int32), fr_isTop_b118 k29 k58 S l1 l2 l3 l4 l5 = some (r1, S1) → mG D cI cJ cZ ad A H0 H locs S → lv_has ls 7 [(0, .ref (ad 0)), (1, .int l1), (2, .int l2), (3, .int l3), (4, .int l4), (5, .int l5)] → W p l e { frames := 1, cells := 0, slots := 0, locals := 17 } s m args below meth c H locs 0 0 Q (F0 m 118 ls []) := by
  have hx := E.1
  have hb := E.2.1
  have hts := E.2.2.1
  have hown := E.2.2.2.1
  have hK := E.2.2.2.2.1
  intro S H locs ls l1 l2 l3 l4 l5 h G hl
  unfold fr_isTop_b118 at h
  obtain ⟨v2, ev2, h⟩ := elet_some h
  refine lv_iinc (v := v2) (lv' := [(5, .int v2), (0, .ref (ad 0)), (1, .int l1), (2, .int l2), (3, .int l3), (4, .int l4)]) hx hb dX12_isTop_118 hl (k := 5) rfl ev2.symm (by decide) rfl (fun ls hl => ?_)
  refine lv_goto (tgt := 58) hx hb dX12_isTop_121 (by decide) ?_
  have hl := lv_sub hl [1, 2, 3, 4, 5, 0] rfl
  exact hk58 _ _ _ _ _ _ _ _ _ h G hl
def fr_isTop_b58 (k29 : MS → Int32 → Int32 → Int32 → Int32 → Option (Int32 × MS)) : Nat → MS → Int32 → Int32 → Int32 → Int32 → Int32 → Option (Int32 × MS)
  | 0, _, _, _, _, _, _ => none
  | n + 1, S, l1, l2, l3, l4, l5 => elet (S.2.1 10 9) fun v2 => elet (v2 - 1) fun v3 => elet (l2 + 1) fun v4 => elet (if v4 < v3 then v4 else v3) fun v5 => if v5 < l5 then (elet (l4 + Int32.ofInt (1)) fun v7 => k29 S l1 l2 l3 v7) else (elet (S.2.1 10 9) fun v8 => elet (v8 * l4) fun v9 => elet (v9 + l5) fun v10 => if v10 = l1 then (fr_isTop_b118 k29 (fr_isTop_b58 k29 n) S l1 l2 l3 l4 l5) else (oif (inb v10 144 = true) <| elet (S.2.2 25 v10.toNatClampNeg) fun v13 => oif (inb l1 144 = true) <| elet (S.2.2 25 l1.toNatClampNeg) fun v15 => elet (lg_cmp v13 v15) fun v16 => if v16 < 0 then (fr_isTop_b118 k29 (fr_isTop_b58 k29 n) S l1 l2 l3 l4 l5) else (some (0, S))))
set_option maxHeartbeats 4000000 in
set_option maxRecDepth 100000 in
theorem tr_isTop_b58 {p : Program} {l : Launch} {e : Env} {s : State} {m : MethodId} {args : Array Value} {below : List Frame} {meth : Method} {c : Code} {Q : State → Prop} {D : va_G} {A : Nat → Prop} {H0 : Heap} {cI cJ cZ : ClassId} {ad : Nat → Nat} {r1 : Int32} {S1 : MS} (E : mE p c cX12_isTop s m args (Cond.code yX12_isTop cX12_isTop 7 (some .boolean) :: wsM) D cI cJ cZ) (hA : ∀ q : Nat, H0.size ≤ q → A q) (hR : sR s) (hml : c.maxLocals = 7) (kr117 : ∀ (H : Heap) (locs : List Loc) (ls : Array Slot), (r1 = 0 ∨ r1 = 1) → mG D cI cJ cZ ad A H0 H locs S1 → W p l e { frames := 1, cells := 0, slots := 0, locals := 17 } s m args below meth c H locs 0 0 Q (F0 m 117 ls [.int r1])) (kr131 : ∀ (H : Heap) (locs : List Loc) (ls : Array Slot), (r1 = 0 ∨ r1 = 1) → mG D cI cJ cZ ad A H0 H locs S1 → W p l e { frames := 1, cells := 0, slots := 0, locals := 17 } s m args below meth c H locs 0 0 Q (F0 m 131 ls [.int r1])) {k29 : MS → Int32 → Int32 → Int32 → Int32 → Option (Int32 × MS)} (hk29 : ∀ (S : MS) (H : Heap) (locs : List Loc) (ls : Array Slot) (l1 : Int32) (l2 : Int32) (l3 : Int32) (l4 : Int32), k29 S l1 l2 l3 l4 = some (r1, S1) → mG D cI cJ cZ ad A H0 H locs S → lv_has ls 7 [(0, .ref (ad 0)), (1, .int l1), (2, .int l2), (3, .int l3), (4, .int l4)] → W p l e { frames := 1, cells := 0, slots := 0, locals := 17 } s m args below meth c H locs 0 0 Q (F0 m 29 ls [])) : ∀ n : Nat, ∀ (S : MS) (H : Heap) (locs : List Loc) (ls : Array Slot) (l1 : Int32) (l2 : Int32) (l3 : Int32) (l4 : Int32) (l5 : Int32), fr_isTop_b58 k29 n S l1 l2 l3 l4 l5 = some (r1, S1) → mG D cI cJ cZ ad A H0 H locs S → lv_has ls 7 [(0, .ref (ad 0)), (1, .int l1), (2, .int l2), (3, .int l3), (4, .int l4), (5, .int l5)] → W p l e { frames := 1, cells := 0, slots := 0, locals := 17 } s m args below meth c H locs 0 0 Q (F0 m 58 ls []) := by
  have hx := E.1
  have hb := E.2.1
  have hts := E.2.2.1
  have hown := E.2.2.2.1
  have hK := E.2.2.2.2.1
  intro n
  induction n with
  | zero =>
    intro S H locs ls l1 l2 l3 l4 l5 h
    have h : (none : Option (Int32 × MS)) = some (r1, S1) := h
    cases h
  | succ n ih =>
    intro S H locs ls l1 l2 l3 l4 l5 h G hl
    unfold fr_isTop_b58 at h
    refine lv_iload hx hb dX12_isTop_58 (lv_at hl 5 rfl) ?_
    refine lv_aload_n hx hb dX12_isTop_60 rfl (lv_at hl 0 rfl) ?_
    refine m_get E G 10 (v := .ref (ad 10)) (by decide) (.tail _ qM_7) rfl dX12_isTop_61 rfl ?_
    refine lv_bipush (v := 9) hx hb dX12_isTop_64 (by decide) ?_
    refine m_iald E G 10 2 (n := 131) (k := 9) rfl rfl (by decide) (by decide) dX12_isTop_66 ?_
    refine lv_topi (fun v2 ev2 => ?_)
    have h := elet_at ev2 h
    clear ev2
    refine lv_iconst (v := 1) hx hb dX12_isTop_67 (by decide) ?_
    refine lv_isub hx hb dX12_isTop_68 ?_
    refine lv_topi (fun v3 ev3 => ?_)
    have h := elet_at ev3 h
    clear ev3
    refine lv_iload_n hx hb dX12_isTop_69 rfl (lv_at hl 2 rfl) ?_
    refine lv_iconst (v := 1) hx hb dX12_isTop_70 (by decide) ?_
    refine lv_iadd hx hb dX12_isTop_71 ?_
    refine lv_topi (fun v4 ev4 => ?_)
    have h := elet_at ev4 h
    clear ev4
    refine va_mmin hx hb (hml.trans hl.1.symm) hown (hts _ (.tail _ qM_262)) (hts _ (.tail _ qM_263)) (hts _ (.tail _ qM_247)) (hts _ (.tail _ qM_264)) (Nat.le_of_ble_eq_true rfl) (Nat.le_of_ble_eq_true rfl) (Nat.zero_le _) (Nat.zero_le _) dX12_isTop_72 ?_
    refine lv_topi (fun v5 ev5 => ?_)
    have h := elet_at ev5 h
    clear ev5
    refine lv_icmp_gt (tgt := 124) hx hb dX12_isTop_75 (by decide) (fun c6 => ?_) (fun c6 => ?_)
    · have h := oif_pos c6 h
      obtain ⟨v7, ev7, h⟩ := elet_some h
      refine lv_iinc (v := v7) (lv' := [(4, .int v7), (0, .ref (ad 0)), (1, .int l1), (2, .int l2), (3, .int l3), (5, .int l5)]) hx hb dX12_isTop_124 hl (k := 4) rfl ev7.symm (by decide) rfl (fun ls hl => ?_)
      refine lv_goto (tgt := 29) hx hb dX12_isTop_127 (by decide) ?_
      have hl := lv_sub hl [1, 2, 3, 4, 0] rfl
      exact hk29 _ _ _ _ _ _ _ _ h G hl
    · have h := oif_neg c6 h
      refine lv_aload_n hx hb dX12_isTop_78 rfl (lv_at hl 0 rfl) ?_
      refine m_get E G 10 (v := .ref (ad 10)) (by decide) (.tail _ qM_7) rfl dX12_isTop_79 rfl ?_
      refine lv_bipush (v := 9) hx hb dX12_isTop_82 (by decide) ?_
      refine m_iald E G 10 2 (n := 131) (k := 9) rfl rfl (by decide) (by decide) dX12_isTop_84 ?_
      refine lv_topi (fun v8 ev8 => ?_)
      have h := elet_at ev8 h
      clear ev8
      refine lv_iload hx hb dX12_isTop_85 (lv_at hl 4 rfl) ?_
      refine lv_imul hx hb dX12_isTop_87 ?_
      refine lv_topi (fun v9 ev9 => ?_)
      have h := elet_at ev9 h
      clear ev9
      refine lv_iload hx hb dX12_isTop_88 (lv_at hl 5 rfl) ?_
      refine lv_iadd hx hb dX12_isTop_90 ?_
      refine lv_topi (fun v10 ev10 => ?_)
      have h := elet_at ev10 h
      clear ev10
      refine lv_istore (lv' := [(6, .int v10), (0, .ref (ad 0)), (1, .int l1), (2, .int l2), (3, .int l3), (4, .int l4), (5, .int l5)]) hx hb dX12_isTop_91 hl (by decide) rfl (fun ls hl => ?_)
      refine lv_iload hx hb dX12_isTop_93 (lv_at hl 0 rfl) ?_
      refine lv_iload_n hx hb dX12_isTop_95 rfl (lv_at hl 2 rfl) ?_
      refine lv_icmp_eq (tgt := 118) hx hb dX12_isTop_96 (by decide) (fun c11 => ?_) (fun c11 => ?_)
      · have h := oif_pos c11 h
        have hl := lv_sub hl [1, 2, 3, 4, 5, 6] rfl
        exact tr_isTop_b118 E hA hR hml kr117 kr131 hk29 ih _ _ _ _ _ _ _ _ _ h G hl
      · have h := oif_neg c11 h
        refine lv_aload_n hx hb dX12_isTop_99 rfl (lv_at hl 1 rfl) ?_
        refine m_get E G 25 (v := .ref (ad 25)) (by decide) (.tail _ qM_21) rfl dX12_isTop_100 rfl ?_
        refine lv_iload hx hb dX12_isTop_103 (lv_at hl 0 rfl) ?_
        obtain ⟨g12, h⟩ := oif_some h
        refine m_lald E G 25 13 (n := 144) (k := v10.toNatClampNeg) rfl (inb_k g12).1 (inb_k g12).2 (by decide) dX12_isTop_105 ?_
        refine lv_topl (fun v13 ev13 => ?_)
        have h := elet_at ev13 h
        clear ev13
        refine lv_aload_n hx hb dX12_isTop_106 rfl (lv_at hl 1 rfl) ?_
        refine m_get E G 25 (v := .ref (ad 25)) (by decide) (.tail _ qM_21) rfl dX12_isTop_107 rfl ?_
        refine lv_iload_n hx hb dX12_isTop_110 rfl (lv_at hl 2 rfl) ?_
        obtain ⟨g14, h⟩ := oif_some h
        refine m_lald E G 25 13 (n := 144) (k := l1.toNatClampNeg) rfl (inb_k g14).1 (inb_k g14).2 (by decide) dX12_isTop_111 ?_
        refine lv_topl (fun v15 ev15 => ?_)
        have h := elet_at ev15 h
        clear ev15
        refine W.lcmp hx hb dX12_isTop_112 ?_
        refine lv_topi (fun v16 ev16 => ?_)
        have h := elet_at ev16 h
        clear ev16
        refine lv_if_lt (tgt := 118) hx hb dX12_isTop_113 (by decide) (fun c17 => ?_) (fun c17 => ?_)
        · have h := oif_pos c17 h
          have hl := lv_sub hl [1, 2, 3, 4, 5, 6] rfl
          exact tr_isTop_b118 E hA hR hml kr117 kr131 hk29 ih _ _ _ _ _ _ _ _ _ h G hl
        · have h := oif_neg c17 h
          refine lv_iconst (v := 0) hx hb dX12_isTop_116 (by decide) ?_
          rw [(osome2 h).2] at G
          refine lv_to (osome2 h).1 ?_
          exact kr117 _ _ _ (.inl ((osome2 h).1).symm) G
def fr_isTop_b29  : Nat → MS → Int32 → Int32 → Int32 → Int32 → Option (Int32 × MS)
  | 0, _, _, _, _, _ => none
  | n + 1, S, l1, l2, l3, l4 => elet (S.2.1 10 10) fun v2 => elet (v2 - 1) fun v3 => elet (l3 + 1) fun v4 => elet (if v4 < v3 then v4 else v3) fun v5 => if v5 < l4 then (some (1, S)) else (elet (l2 - 1) fun v7 => elet (if 0 < v7 then v7 else 0) fun v8 => fr_isTop_b58 (fr_isTop_b29 n) 16384 S l1 l2 l3 l4 v8)
set_option maxHeartbeats 4000000 in
set_option maxRecDepth 100000 in
theorem tr_isTop_b29 {p : Program} {l : Launch} {e : Env} {s : State} {m : MethodId} {args : Array Value} {below : List Frame} {meth : Method} {c : Code} {Q : State → Prop} {D : va_G} {A : Nat → Prop} {H0 : Heap} {cI cJ cZ : ClassId} {ad : Nat → Nat} {r1 : Int32} {S1 : MS} (E : mE p c cX12_isTop s m args (Cond.code yX12_isTop cX12_isTop 7 (some .boolean) :: wsM) D cI cJ cZ) (hA : ∀ q : Nat, H0.size ≤ q → A q) (hR : sR s) (hml : c.maxLocals = 7) (kr117 : ∀ (H : Heap) (locs : List Loc) (ls : Array Slot), (r1 = 0 ∨ r1 = 1) → mG D cI cJ cZ ad A H0 H locs S1 → W p l e { frames := 1, cells := 0, slots := 0, locals := 17 } s m args below meth c H locs 0 0 Q (F0 m 117 ls [.int r1])) (kr131 : ∀ (H : Heap) (locs : List Loc) (ls : Array Slot), (r1 = 0 ∨ r1 = 1) → mG D cI cJ cZ ad A H0 H locs S1 → W p l e { frames := 1, cells := 0, slots := 0, locals := 17 } s m args below meth c H locs 0 0 Q (F0 m 131 ls [.int r1])) : ∀ n : Nat, ∀ (S : MS) (H : Heap) (locs : List Loc) (ls : Array Slot) (l1 : Int32) (l2 : Int32) (l3 : Int32) (l4 : Int32), fr_isTop_b29 n S l1 l2 l3 l4 = some (r1, S1) → mG D cI cJ cZ ad A H0 H locs S → lv_has ls 7 [(0, .ref (ad 0)), (1, .int l1), (2, .int l2), (3, .int l3), (4, .int l4)] → W p l e { frames := 1, cells := 0, slots := 0, locals := 17 } s m args below meth c H locs 0 0 Q (F0 m 29 ls []) := by
  have hx := E.1
  have hb := E.2.1
  have hts := E.2.2.1
  have hown := E.2.2.2.1
  have hK := E.2.2.2.2.1
  intro n
  induction n with
  | zero =>
    intro S H locs ls l1 l2 l3 l4 h
    have h : (none : Option (Int32 × MS)) = some (r1, S1) := h
    cases h
  | succ n ih =>
    intro S H locs ls l1 l2 l3 l4 h G hl
    unfold fr_isTop_b29 at h
    refine lv_iload hx hb dX12_isTop_29 (lv_at hl 4 rfl) ?_
    refine lv_aload_n hx hb dX12_isTop_31 rfl (lv_at hl 0 rfl) ?_
    refine m_get E G 10 (v := .ref (ad 10)) (by decide) (.tail _ qM_7) rfl dX12_isTop_32 rfl ?_
    refine lv_bipush (v := 10) hx hb dX12_isTop_35 (by decide) ?_
    refine m_iald E G 10 2 (n := 131) (k := 10) rfl rfl (by decide) (by decide) dX12_isTop_37 ?_
    refine lv_topi (fun v2 ev2 => ?_)
    have h := elet_at ev2 h
    clear ev2
    refine lv_iconst (v := 1) hx hb dX12_isTop_38 (by decide) ?_
    refine lv_isub hx hb dX12_isTop_39 ?_
    refine lv_topi (fun v3 ev3 => ?_)
    have h := elet_at ev3 h
    clear ev3
    refine lv_iload_n hx hb dX12_isTop_40 rfl (lv_at hl 3 rfl) ?_
    refine lv_iconst (v := 1) hx hb dX12_isTop_41 (by decide) ?_
    refine lv_iadd hx hb dX12_isTop_42 ?_
    refine lv_topi (fun v4 ev4 => ?_)
    have h := elet_at ev4 h
    clear ev4
    refine va_mmin hx hb (hml.trans hl.1.symm) hown (hts _ (.tail _ qM_262)) (hts _ (.tail _ qM_263)) (hts _ (.tail _ qM_247)) (hts _ (.tail _ qM_264)) (Nat.le_of_ble_eq_true rfl) (Nat.le_of_ble_eq_true rfl) (Nat.zero_le _) (Nat.zero_le _) dX12_isTop_43 ?_
    refine lv_topi (fun v5 ev5 => ?_)
    have h := elet_at ev5 h
    clear ev5
    refine lv_icmp_gt (tgt := 130) hx hb dX12_isTop_46 (by decide) (fun c6 => ?_) (fun c6 => ?_)
    · have h := oif_pos c6 h
      refine lv_iconst (v := 1) hx hb dX12_isTop_130 (by decide) ?_
      rw [(osome2 h).2] at G
      refine lv_to (osome2 h).1 ?_
      exact kr131 _ _ _ (.inr ((osome2 h).1).symm) G
    · have h := oif_neg c6 h
      refine lv_iconst (v := 0) hx hb dX12_isTop_49 (by decide) ?_
      refine lv_iload_n hx hb dX12_isTop_50 rfl (lv_at hl 2 rfl) ?_
      refine lv_iconst (v := 1) hx hb dX12_isTop_51 (by decide) ?_
      refine lv_isub hx hb dX12_isTop_52 ?_
      refine lv_topi (fun v7 ev7 => ?_)
      have h := elet_at ev7 h
      clear ev7
      refine va_mmax hx hb (hml.trans hl.1.symm) hown (hts _ (.tail _ qM_265)) (hts _ (.tail _ qM_266)) (hts _ (.tail _ qM_247)) (hts _ (.tail _ qM_267)) (Nat.le_of_ble_eq_true rfl) (Nat.le_of_ble_eq_true rfl) (Nat.zero_le _) (Nat.zero_le _) dX12_isTop_53 ?_
      refine lv_topi (fun v8 ev8 => ?_)
      have h := elet_at ev8 h
      clear ev8
      refine lv_istore (lv' := [(5, .int v8), (0, .ref (ad 0)), (1, .int l1), (2, .int l2), (3, .int l3), (4, .int l4)]) hx hb dX12_isTop_56 hl (by decide) rfl (fun ls hl => ?_)
      have hl := lv_sub hl [1, 2, 3, 4, 5, 0] rfl
      exact tr_isTop_b58 E hA hR hml kr117 kr131 ih _ _ _ _ _ _ _ _ _ _ h G hl
def fr_isTop (S : MS) (a0 : Int32) : Option (Int32 × MS) := elet (S.2.1 10 9) fun v2 => oif (¬ v2 = 0) <| elet (a0 - a0 / v2 * v2) fun v4 => elet (S.2.1 10 9) fun v5 => oif (¬ v5 = 0) <| elet (a0 / v5) fun v7 => elet (v7 - 1) fun v8 => elet (if 0 < v8 then v8 else 0) fun v9 => fr_isTop_b29 16384 S a0 v4 v7 v9
set_option maxHeartbeats 4000000 in
set_option maxRecDepth 100000 in
theorem tr_isTop (l : Launch) (D : va_G) (cI cJ cZ : ClassId) (ad : Nat → Nat) (S : MS) (a0 : Int32) {r1 : Int32} {S1 : MS} (h : fr_isTop S a0 = some (r1, S1)) : mCi l yX12_isTop (Cond.code yX12_isTop cX12_isTop 7 (some .boolean) :: wsM) 1 17 D cI cJ cZ ad S [.int a0] (fun r S9 => r = r1 ∧ S9 = S1) := by
  intro sz
  refine Met.ofW (cc := cX12_isTop) (maxL := 7) (ret := (some .boolean)) (by decide) rfl ?_
  intro p e s m args below meth c s₁ B hml hv
  obtain ⟨rfl, hsz, hP, hK, hD0, hR⟩ := hv
  have hx := B.exec
  have hb := B.bytes
  have hr := B.returns
  have hts := atoms_spec (ws := (Cond.code yX12_isTop cX12_isTop 7 (some .boolean) :: wsM)) B.pre
  have hown : s.vm.findClass RX12 = some m.cls := findClass_of_methodNamed B.named
  have hlocks := B.notSynchronized
  subst hsz
  have hD := hD0.self (sz := s.heap.size)
  generalize hAe : va_A (MW cI cJ cZ ad S) s.heap.size = A at hD ⊢
  have hA : ∀ q : Nat, s.heap.size ≤ q → A q := fun q h => by rw [← hAe]; exact Or.inr h
  have G : mG D cI cJ cZ ad A s.heap s.heap [] S := ⟨hP, hD, va_S.rf⟩
  have E : mE p c cX12_isTop s m ([.ref (ad 0), .int a0] : List Value).toArray (Cond.code yX12_isTop cX12_isTop 7 (some .boolean) :: wsM) D cI cJ cZ := ⟨hx, hb, hts, hown, hK, fun w h => .tail _ (iM_x h)⟩
  have hl := lv_entry ([.ref (ad 0), .int a0]) (n := 7) (Nat.le_of_ble_eq_true rfl)
  rw [lg_entry_eq]
  generalize (lg_sl ([.ref (ad 0), .int a0]) ++ List.replicate (7 - (lg_sl ([.ref (ad 0), .int a0])).length) Slot.unset).toArray = ls at hl ⊢
  have hl : lv_has ls 7 [(0, .ref (ad 0)), (1, .int a0)] := hl
  unfold fr_isTop at h
  refine lv_iload_n hx hb dX12_isTop_0 rfl (lv_at hl 1 rfl) ?_
  refine lv_aload_n hx hb dX12_isTop_1 rfl (lv_at hl 0 rfl) ?_
  refine m_get E G 10 (v := .ref (ad 10)) (by decide) (.tail _ qM_7) rfl dX12_isTop_2 rfl ?_
  refine lv_bipush (v := 9) hx hb dX12_isTop_5 (by decide) ?_
  refine m_iald E G 10 2 (n := 131) (k := 9) rfl rfl (by decide) (by decide) dX12_isTop_7 ?_
  refine lv_topi (fun v2 ev2 => ?_)
  have h := elet_at ev2 h
  clear ev2
  obtain ⟨g3, h⟩ := oif_some h
  refine lv_irem hx hb dX12_isTop_8 g3 ?_
  refine lv_topi (fun v4 ev4 => ?_)
  have h := elet_at ev4 h
  clear ev4
  refine lv_istore_n (lv' := [(2, .int v4), (0, .ref (ad 0)), (1, .int a0)]) hx hb dX12_isTop_9 rfl hl (by decide) rfl (fun ls hl => ?_)
  refine lv_iload_n hx hb dX12_isTop_10 rfl (lv_at hl 2 rfl) ?_
  refine lv_aload_n hx hb dX12_isTop_11 rfl (lv_at hl 1 rfl) ?_
  refine m_get E G 10 (v := .ref (ad 10)) (by decide) (.tail _ qM_7) rfl dX12_isTop_12 rfl ?_
  refine lv_bipush (v := 9) hx hb dX12_isTop_15 (by decide) ?_
  refine m_iald E G 10 2 (n := 131) (k := 9) rfl rfl (by decide) (by decide) dX12_isTop_17 ?_
  refine lv_topi (fun v5 ev5 => ?_)
  have h := elet_at ev5 h
  clear ev5
  obtain ⟨g6, h⟩ := oif_some h
  refine lv_idiv hx hb dX12_isTop_18 g6 ?_
  refine lv_topi (fun v7 ev7 => ?_)
  have h := elet_at ev7 h
  clear ev7
  refine lv_istore_n (lv' := [(3, .int v7), (2, .int v4), (0, .ref (ad 0)), (1, .int a0)]) hx hb dX12_isTop_19 rfl hl (by decide) rfl (fun ls hl => ?_)
  refine lv_iconst (v := 0) hx hb dX12_isTop_20 (by decide) ?_
  refine lv_iload_n hx hb dX12_isTop_21 rfl (lv_at hl 0 rfl) ?_
  refine lv_iconst (v := 1) hx hb dX12_isTop_22 (by decide) ?_
  refine lv_isub hx hb dX12_isTop_23 ?_
  refine lv_topi (fun v8 ev8 => ?_)
  have h := elet_at ev8 h
  clear ev8
  refine va_mmax hx hb (hml.trans hl.1.symm) hown (hts _ (.tail _ qM_265)) (hts _ (.tail _ qM_266)) (hts _ (.tail _ qM_247)) (hts _ (.tail _ qM_267)) (Nat.le_of_ble_eq_true rfl) (Nat.le_of_ble_eq_true rfl) (Nat.zero_le _) (Nat.zero_le _) dX12_isTop_24 ?_
  refine lv_topi (fun v9 ev9 => ?_)
  have h := elet_at ev9 h
  clear ev9
  refine lv_istore (lv' := [(4, .int v9), (3, .int v7), (2, .int v4), (0, .ref (ad 0)), (1, .int a0)]) hx hb dX12_isTop_27 hl (by decide) rfl (fun ls hl => ?_)
  have hl := lv_sub hl [3, 4, 2, 1, 0] rfl
  exact tr_isTop_b29 E hA hR hml (fun H locs ls gz G => W.zret (v := r1) hx hb hr (nar01 gz) (fun t ht hW => ⟨⟨r1, S1, rfl, ⟨rfl, rfl⟩, ⟨by rw [ht]; exact G.1, va_K.moved hW.alike hK, G.2.1⟩⟩, G.2.2.F ht⟩) G.2.2.2.2 dX12_isTop_117) (fun H locs ls gz G => W.zret (v := r1) hx hb hr (nar01 gz) (fun t ht hW => ⟨⟨r1, S1, rfl, ⟨rfl, rfl⟩, ⟨by rw [ht]; exact G.1, va_K.moved hW.alike hK, G.2.1⟩⟩, G.2.2.F ht⟩) G.2.2.2.2 dX12_isTop_131) _ _ _ _ _ _ _ _ _ h G hl
def fr_peaks_b44 (k22 : MS → Int32 → Int32 → Option (Int32 × MS)) (S : MS) (s0 : Int32) (s1 : Int32) (l2 : Int32) : Option (Int32 × MS) := elet (s1 + s0) fun v2 => elet (l2 + Int32.ofInt (1)) fun v3 => k22 S v2 v3
set_option maxHeartbeats 4000000 in
set_option maxRecDepth 100000 in
theorem tr_peaks_b44 {p : Program} {l : Launch} {e : Env} {s : State} {m : MethodId} {args : Array Value} {below : List Frame} {meth : Method} {c : Code} {Q : State → Prop} {D : va_G} {A : Nat → Prop} {H0 : Heap} {cI cJ cZ : ClassId} {ad : Nat → Nat} {r1 : Int32} {S1 : MS} (E : mE p c cX12_peaks s m args (Cond.code yX12_peaks cX12_peaks 3 (some .int) :: wsM) D cI cJ cZ) (hA : ∀ q : Nat, H0.size ≤ q → A q) (hR : sR s) (hml : c.maxLocals = 3) (kr9 : ∀ (H : Heap) (locs : List Loc) (ls : Array Slot), mG D cI cJ cZ ad A H0 H locs S1 → W p l e { frames := 7, cells := 0, slots := 0, locals := 140 } s m args below meth c H locs 0 0 Q (F0 m 9 ls [.int r1])) (kr53 : ∀ (H : Heap) (locs : List Loc) (ls : Array Slot), mG D cI cJ cZ ad A H0 H locs S1 → W p l e { frames := 7, cells := 0, slots := 0, locals := 140 } s m args below meth c H locs 0 0 Q (F0 m 53 ls [.int r1])) {k22 : MS → Int32 → Int32 → Option (Int32 × MS)} (hk22 : ∀ (S : MS) (H : Heap) (locs : List Loc) (ls : Array Slot) (l1 : Int32) (l2 : Int32), k22 S l1 l2 = some (r1, S1) → mG D cI cJ cZ ad A H0 H locs S → lv_has ls 3 [(0, .ref (ad 0)), (1, .int l1), (2, .int l2)] → W p l e { frames := 7, cells := 0, slots := 0, locals := 140 } s m args below meth c H locs 0 0 Q (F0 m 22 ls [])) : ∀ (S : MS) (H : Heap) (locs : List Loc) (ls : Array Slot) (s0 : Int32) (s1 : Int32) (l2 : Int32), fr_peaks_b44 k22 S s0 s1 l2 = some (r1, S1) → mG D cI cJ cZ ad A H0 H locs S → lv_has ls 3 [(0, .ref (ad 0)), (2, .int l2)] → W p l e { frames := 7, cells := 0, slots := 0, locals := 140 } s m args below meth c H locs 0 0 Q (F0 m 44 ls [.int s0, .int s1]) := by
  have hx := E.1
  have hb := E.2.1
  have hts := E.2.2.1
  have hown := E.2.2.2.1
  have hK := E.2.2.2.2.1
  intro S H locs ls s0 s1 l2 h G hl
  unfold fr_peaks_b44 at h
  refine lv_iadd hx hb dX12_peaks_44 ?_
  refine lv_topi (fun v2 ev2 => ?_)
  have h := elet_at ev2 h
  clear ev2
  refine lv_istore_n (lv' := [(1, .int v2), (0, .ref (ad 0)), (2, .int l2)]) hx hb dX12_peaks_45 rfl hl (by decide) rfl (fun ls hl => ?_)
  obtain ⟨v3, ev3, h⟩ := elet_some h
  refine lv_iinc (v := v3) (lv' := [(2, .int v3), (1, .int v2), (0, .ref (ad 0))]) hx hb dX12_peaks_46 hl (k := 2) rfl ev3.symm (by decide) rfl (fun ls hl => ?_)
  refine lv_goto (tgt := 22) hx hb dX12_peaks_49 (by decide) ?_
  have hl := lv_sub hl [2, 1, 0] rfl
  exact hk22 _ _ _ _ _ _ h G hl
def fr_peaks_b22  : Nat → MS → Int32 → Int32 → Option (Int32 × MS)
  | 0, _, _, _ => none
  | n + 1, S, l1, l2 => obind2 (fr_cellCount S) fun r5 S2 => if r5 ≤ l2 then (some (l1, S2)) else (obind2 (fr_isTop S2 l2) fun r10 S7 => if r10 = 0 then (fr_peaks_b44 (fr_peaks_b22 n) S7 0 l1 l2) else (fr_peaks_b44 (fr_peaks_b22 n) S7 1 l1 l2))
set_option maxHeartbeats 4000000 in
set_option maxRecDepth 100000 in
theorem tr_peaks_b22 {p : Program} {l : Launch} {e : Env} {s : State} {m : MethodId} {args : Array Value} {below : List Frame} {meth : Method} {c : Code} {Q : State → Prop} {D : va_G} {A : Nat → Prop} {H0 : Heap} {cI cJ cZ : ClassId} {ad : Nat → Nat} {r1 : Int32} {S1 : MS} (E : mE p c cX12_peaks s m args (Cond.code yX12_peaks cX12_peaks 3 (some .int) :: wsM) D cI cJ cZ) (hA : ∀ q : Nat, H0.size ≤ q → A q) (hR : sR s) (hml : c.maxLocals = 3) (kr9 : ∀ (H : Heap) (locs : List Loc) (ls : Array Slot), mG D cI cJ cZ ad A H0 H locs S1 → W p l e { frames := 7, cells := 0, slots := 0, locals := 140 } s m args below meth c H locs 0 0 Q (F0 m 9 ls [.int r1])) (kr53 : ∀ (H : Heap) (locs : List Loc) (ls : Array Slot), mG D cI cJ cZ ad A H0 H locs S1 → W p l e { frames := 7, cells := 0, slots := 0, locals := 140 } s m args below meth c H locs 0 0 Q (F0 m 53 ls [.int r1])) : ∀ n : Nat, ∀ (S : MS) (H : Heap) (locs : List Loc) (ls : Array Slot) (l1 : Int32) (l2 : Int32), fr_peaks_b22 n S l1 l2 = some (r1, S1) → mG D cI cJ cZ ad A H0 H locs S → lv_has ls 3 [(0, .ref (ad 0)), (1, .int l1), (2, .int l2)] → W p l e { frames := 7, cells := 0, slots := 0, locals := 140 } s m args below meth c H locs 0 0 Q (F0 m 22 ls []) := by
  have hx := E.1
  have hb := E.2.1
  have hts := E.2.2.1
  have hown := E.2.2.2.1
  have hK := E.2.2.2.2.1
  intro n
  induction n with
  | zero =>
    intro S H locs ls l1 l2 h
    have h : (none : Option (Int32 × MS)) = some (r1, S1) := h
    cases h
  | succ n ih =>
    intro S H locs ls l1 l2 h G hl
    unfold fr_peaks_b22 at h
    refine lv_iload_n hx hb dX12_peaks_22 rfl (lv_at hl 2 rfl) ?_
    refine lv_aload_n hx hb dX12_peaks_23 rfl (lv_at hl 0 rfl) ?_
    obtain ⟨r5, S2, eS2, h⟩ := obind2_some h
    refine m_calli (As := []) (rest := [.int l2]) E G hA hR hml (tr_cellCount l D cI cJ cZ ad S eS2) (cwV 0 hts (gmV qM_204 qM_205 qM_206 qM_35 qM_207) rfl rfl rfl (by decide +kernel) ⟨Nat.le_of_ble_eq_true rfl, Nat.le_of_ble_eq_true rfl⟩) rfl hl.1 rfl (lv_room (Nat.le_of_ble_eq_true rfl)) dX12_peaks_24 ⟨Nat.zero_le _, Nat.zero_le _⟩ (fun q3 S4 H locs hq G => ?_)
    obtain ⟨hq1, hq2⟩ := hq
    rw [hq2] at G
    refine lv_to hq1 ?_
    clear hq1 hq2 eS2
    refine lv_icmp_ge (tgt := 52) hx hb dX12_peaks_27 (by decide) (fun c6 => ?_) (fun c6 => ?_)
    · have h := oif_pos c6 h
      refine lv_iload_n hx hb dX12_peaks_52 rfl (lv_at hl 1 rfl) ?_
      rw [(osome2 h).2] at G
      refine lv_to (osome2 h).1 ?_
      exact kr53 _ _ _ G
    · have h := oif_neg c6 h
      refine lv_iload_n hx hb dX12_peaks_30 rfl (lv_at hl 1 rfl) ?_
      refine lv_aload_n hx hb dX12_peaks_31 rfl (lv_at hl 0 rfl) ?_
      refine lv_iload_n hx hb dX12_peaks_32 rfl (lv_at hl 2 rfl) ?_
      obtain ⟨r10, S7, eS7, h⟩ := obind2_some h
      refine m_calli (As := [.int l2]) (rest := [.int l1]) E G hA hR hml (tr_isTop l D cI cJ cZ ad S2 l2 eS7) (cwV 1 hts (gmV qM_367 qM_368 qM_369 qM_35 qM_365) rfl rfl rfl (by decide +kernel) ⟨Nat.le_of_ble_eq_true rfl, Nat.le_of_ble_eq_true rfl⟩) rfl hl.1 rfl (lv_room (Nat.le_of_ble_eq_true rfl)) dX12_peaks_33 ⟨Nat.zero_le _, Nat.zero_le _⟩ (fun q8 S9 H locs hq G => ?_)
      obtain ⟨hq1, hq2⟩ := hq
      rw [hq2] at G
      refine lv_to hq1 ?_
      clear hq1 hq2 eS7
      refine lv_if_eq (tgt := 43) hx hb dX12_peaks_36 (by decide) (fun c11 => ?_) (fun c11 => ?_)
      · have h := oif_pos c11 h
        refine lv_iconst (v := 0) hx hb dX12_peaks_43 (by decide) ?_
        have hl := lv_sub hl [0, 2] rfl
        exact tr_peaks_b44 E hA hR hml kr9 kr53 ih _ _ _ _ _ _ _ h G hl
      · have h := oif_neg c11 h
        refine lv_iconst (v := 1) hx hb dX12_peaks_39 (by decide) ?_
        refine lv_goto (tgt := 44) hx hb dX12_peaks_40 (by decide) ?_
        have hl := lv_sub hl [0, 2] rfl
        exact tr_peaks_b44 E hA hR hml kr9 kr53 ih _ _ _ _ _ _ _ h G hl
def fr_peaks (S : MS)  : Option (Int32 × MS) := obind2 (fr_mayAsk S 1) fun r5 S2 => if r5 = 0 then (some (0, S2)) else (obind (fr_laysPowers_12 S2) fun S7 => fr_peaks_b22 16384 S7 0 0)
set_option maxHeartbeats 4000000 in
set_option maxRecDepth 100000 in
theorem tr_peaks (l : Launch) (D : va_G) (cI cJ cZ : ClassId) (ad : Nat → Nat) (S : MS)  {r1 : Int32} {S1 : MS} (h : fr_peaks S = some (r1, S1)) : mCi l yX12_peaks (Cond.code yX12_peaks cX12_peaks 3 (some .int) :: wsM) 7 140 D cI cJ cZ ad S [] (fun r S9 => r = r1 ∧ S9 = S1) := by
  intro sz
  refine Met.ofW (cc := cX12_peaks) (maxL := 3) (ret := (some .int)) (by decide) rfl ?_
  intro p e s m args below meth c s₁ B hml hv
  obtain ⟨rfl, hsz, hP, hK, hD0, hR⟩ := hv
  have hx := B.exec
  have hb := B.bytes
  have hr := B.returns
  have hts := atoms_spec (ws := (Cond.code yX12_peaks cX12_peaks 3 (some .int) :: wsM)) B.pre
  have hown : s.vm.findClass RX12 = some m.cls := findClass_of_methodNamed B.named
  have hlocks := B.notSynchronized
  subst hsz
  have hD := hD0.self (sz := s.heap.size)
  generalize hAe : va_A (MW cI cJ cZ ad S) s.heap.size = A at hD ⊢
  have hA : ∀ q : Nat, s.heap.size ≤ q → A q := fun q h => by rw [← hAe]; exact Or.inr h
  have G : mG D cI cJ cZ ad A s.heap s.heap [] S := ⟨hP, hD, va_S.rf⟩
  have E : mE p c cX12_peaks s m ([.ref (ad 0)] : List Value).toArray (Cond.code yX12_peaks cX12_peaks 3 (some .int) :: wsM) D cI cJ cZ := ⟨hx, hb, hts, hown, hK, fun w h => .tail _ (iM_x h)⟩
  have hl := lv_entry ([.ref (ad 0)]) (n := 3) (Nat.le_of_ble_eq_true rfl)
  rw [lg_entry_eq]
  generalize (lg_sl ([.ref (ad 0)]) ++ List.replicate (3 - (lg_sl ([.ref (ad 0)])).length) Slot.unset).toArray = ls at hl ⊢
  have hl : lv_has ls 3 [(0, .ref (ad 0))] := hl
  unfold fr_peaks at h
  refine lv_aload_n hx hb dX12_peaks_0 rfl (lv_at hl 0 rfl) ?_
  refine lv_iconst (v := 1) hx hb dX12_peaks_1 (by decide) ?_
  obtain ⟨r5, S2, eS2, h⟩ := obind2_some h
  refine m_calli (As := [.int 1]) (rest := []) E G hA hR hml (tr_mayAsk l D cI cJ cZ ad S 1 eS2) (cwV 1 hts (gmV qM_319 qM_320 qM_321 qM_35 qM_304) rfl rfl rfl (by decide +kernel) ⟨Nat.le_of_ble_eq_true rfl, Nat.le_of_ble_eq_true rfl⟩) rfl hl.1 rfl (lv_room (Nat.le_of_ble_eq_true rfl)) dX12_peaks_2 ⟨Nat.zero_le _, Nat.zero_le _⟩ (fun q3 S4 H locs hq G => ?_)
  obtain ⟨hq1, hq2⟩ := hq
  rw [hq2] at G
  refine lv_to hq1 ?_
  clear hq1 hq2 eS2
  refine lv_if_ne (tgt := 10) hx hb dX12_peaks_5 (by decide) (fun c6 => ?_) (fun c6 => ?_)
  · have h := oif_neg c6 h
    refine lv_aload_n hx hb dX12_peaks_10 rfl (lv_at hl 0 rfl) ?_
    refine lv_aload_n hx hb dX12_peaks_11 rfl (lv_at hl 0 rfl) ?_
    refine m_get E G 12 (v := .ref (ad 12)) (by decide) (.tail _ qM_9) rfl dX12_peaks_12 rfl ?_
    obtain ⟨S7, eS7, h⟩ := obind_some h
    refine m_callv (As := [.ref (ad 12)]) (rest := []) E G hA hR hml (tr_laysPowers_12 l D cI cJ cZ ad S2 eS7) (cwV 1 hts (gmV qM_301 qM_302 qM_303 qM_35 qM_296) rfl rfl rfl (by decide +kernel) ⟨Nat.le_of_ble_eq_true rfl, Nat.le_of_ble_eq_true rfl⟩) rfl hl.1 rfl (lv_room (Nat.le_of_ble_eq_true rfl)) dX12_peaks_15 ⟨Nat.zero_le _, Nat.zero_le _⟩ (fun S9 H locs hq G => ?_)
    rw [hq] at G
    clear hq eS7
    refine lv_iconst (v := 0) hx hb dX12_peaks_18 (by decide) ?_
    refine lv_istore_n (lv' := [(1, .int 0), (0, .ref (ad 0))]) hx hb dX12_peaks_19 rfl hl (by decide) rfl (fun ls hl => ?_)
    refine lv_iconst (v := 0) hx hb dX12_peaks_20 (by decide) ?_
    refine lv_istore_n (lv' := [(2, .int 0), (1, .int 0), (0, .ref (ad 0))]) hx hb dX12_peaks_21 rfl hl (by decide) rfl (fun ls hl => ?_)
    have hl := lv_sub hl [2, 1, 0] rfl
    exact tr_peaks_b22 E hA hR hml (fun H locs ls G => W.iret (v := r1) hx hb hr (fun t ht hW => ⟨⟨r1, S1, rfl, ⟨rfl, rfl⟩, ⟨by rw [ht]; exact G.1, va_K.moved hW.alike hK, G.2.1⟩⟩, G.2.2.F ht⟩) G.2.2.2.2 dX12_peaks_9) (fun H locs ls G => W.iret (v := r1) hx hb hr (fun t ht hW => ⟨⟨r1, S1, rfl, ⟨rfl, rfl⟩, ⟨by rw [ht]; exact G.1, va_K.moved hW.alike hK, G.2.1⟩⟩, G.2.2.F ht⟩) G.2.2.2.2 dX12_peaks_53) _ _ _ _ _ _ _ h G hl
  · have h := oif_pos c6 h
    refine lv_iconst (v := 0) hx hb dX12_peaks_8 (by decide) ?_
    exact W.iret (v := 0) hx hb hr (fun t ht hW => ⟨⟨0, S2, rfl, osome2 h, ⟨by rw [ht]; exact G.1, va_K.moved hW.alike hK, G.2.1⟩⟩, G.2.2.F ht⟩) G.2.2.2.2 dX12_peaks_9
def fr_isGreater_b42  (S : MS) (s0 : Int32) : Option (Int32 × MS) := oif (s0 = 0 ∨ s0 = 1) <| some (s0, S)
set_option maxHeartbeats 4000000 in
set_option maxRecDepth 100000 in
theorem tr_isGreater_b42 {p : Program} {l : Launch} {e : Env} {s : State} {m : MethodId} {args : Array Value} {below : List Frame} {meth : Method} {c : Code} {Q : State → Prop} {D : va_G} {A : Nat → Prop} {H0 : Heap} {cI cJ cZ : ClassId} {ad : Nat → Nat} {r1 : Int32} {S1 : MS} (E : mE p c cX12_isGreater s m args (Cond.code yX12_isGreater cX12_isGreater 3 (some .boolean) :: wsM) D cI cJ cZ) (hA : ∀ q : Nat, H0.size ≤ q → A q) (hR : sR s) (hml : c.maxLocals = 3) (kr42 : ∀ (H : Heap) (locs : List Loc) (ls : Array Slot), (r1 = 0 ∨ r1 = 1) → mG D cI cJ cZ ad A H0 H locs S1 → W p l e { frames := 1, cells := 0, slots := 0, locals := 0 } s m args below meth c H locs 0 0 Q (F0 m 42 ls [.int r1])) : ∀ (S : MS) (H : Heap) (locs : List Loc) (ls : Array Slot) (s0 : Int32), fr_isGreater_b42 S s0 = some (r1, S1) → mG D cI cJ cZ ad A H0 H locs S → lv_has ls 3 [] → W p l e { frames := 1, cells := 0, slots := 0, locals := 0 } s m args below meth c H locs 0 0 Q (F0 m 42 ls [.int s0]) := by
  have hx := E.1
  have hb := E.2.1
  have hts := E.2.2.1
  have hown := E.2.2.2.1
  have hK := E.2.2.2.2.1
  intro S H locs ls s0 h G hl
  unfold fr_isGreater_b42 at h
  obtain ⟨gz, h⟩ := oif_some h
  have gr : r1 = 0 ∨ r1 = 1 := by rw [← (osome2 h).1]; exact gz
  rw [(osome2 h).2] at G
  refine lv_to (osome2 h).1 ?_
  exact kr42 _ _ _ gr G
def fr_isGreater_b37  (S : MS)  : Option (Int32 × MS) := fr_isGreater_b42 S 1
set_option maxHeartbeats 4000000 in
set_option maxRecDepth 100000 in
theorem tr_isGreater_b37 {p : Program} {l : Launch} {e : Env} {s : State} {m : MethodId} {args : Array Value} {below : List Frame} {meth : Method} {c : Code} {Q : State → Prop} {D : va_G} {A : Nat → Prop} {H0 : Heap} {cI cJ cZ : ClassId} {ad : Nat → Nat} {r1 : Int32} {S1 : MS} (E : mE p c cX12_isGreater s m args (Cond.code yX12_isGreater cX12_isGreater 3 (some .boolean) :: wsM) D cI cJ cZ) (hA : ∀ q : Nat, H0.size ≤ q → A q) (hR : sR s) (hml : c.maxLocals = 3) (kr42 : ∀ (H : Heap) (locs : List Loc) (ls : Array Slot), (r1 = 0 ∨ r1 = 1) → mG D cI cJ cZ ad A H0 H locs S1 → W p l e { frames := 1, cells := 0, slots := 0, locals := 0 } s m args below meth c H locs 0 0 Q (F0 m 42 ls [.int r1])) : ∀ (S : MS) (H : Heap) (locs : List Loc) (ls : Array Slot), fr_isGreater_b37 S = some (r1, S1) → mG D cI cJ cZ ad A H0 H locs S → lv_has ls 3 [] → W p l e { frames := 1, cells := 0, slots := 0, locals := 0 } s m args below meth c H locs 0 0 Q (F0 m 37 ls []) := by
  have hx := E.1
  have hb := E.2.1
  have hts := E.2.2.1
  have hown := E.2.2.2.1
  have hK := E.2.2.2.2.1
  intro S H locs ls h G hl
  unfold fr_isGreater_b37 at h
  refine lv_iconst (v := 1) hx hb dX12_isGreater_37 (by decide) ?_
  refine lv_goto (tgt := 42) hx hb dX12_isGreater_38 (by decide) ?_
  have hl := lv_sub hl [] rfl
  exact tr_isGreater_b42 E hA hR hml kr42 _ _ _ _ _ h G hl
def fr_isGreater_b41  (S : MS)  : Option (Int32 × MS) := fr_isGreater_b42 S 0
set_option maxHeartbeats 4000000 in
set_option maxRecDepth 100000 in
theorem tr_isGreater_b41 {p : Program} {l : Launch} {e : Env} {s : State} {m : MethodId} {args : Array Value} {below : List Frame} {meth : Method} {c : Code} {Q : State → Prop} {D : va_G} {A : Nat → Prop} {H0 : Heap} {cI cJ cZ : ClassId} {ad : Nat → Nat} {r1 : Int32} {S1 : MS} (E : mE p c cX12_isGreater s m args (Cond.code yX12_isGreater cX12_isGreater 3 (some .boolean) :: wsM) D cI cJ cZ) (hA : ∀ q : Nat, H0.size ≤ q → A q) (hR : sR s) (hml : c.maxLocals = 3) (kr42 : ∀ (H : Heap) (locs : List Loc) (ls : Array Slot), (r1 = 0 ∨ r1 = 1) → mG D cI cJ cZ ad A H0 H locs S1 → W p l e { frames := 1, cells := 0, slots := 0, locals := 0 } s m args below meth c H locs 0 0 Q (F0 m 42 ls [.int r1])) : ∀ (S : MS) (H : Heap) (locs : List Loc) (ls : Array Slot), fr_isGreater_b41 S = some (r1, S1) → mG D cI cJ cZ ad A H0 H locs S → lv_has ls 3 [] → W p l e { frames := 1, cells := 0, slots := 0, locals := 0 } s m args below meth c H locs 0 0 Q (F0 m 41 ls []) := by
  have hx := E.1
  have hb := E.2.1
  have hts := E.2.2.1
  have hown := E.2.2.2.1
  have hK := E.2.2.2.2.1
  intro S H locs ls h G hl
  unfold fr_isGreater_b41 at h
  refine lv_iconst (v := 0) hx hb dX12_isGreater_41 (by decide) ?_
  have hl := lv_sub hl [] rfl
  exact tr_isGreater_b42 E hA hR hml kr42 _ _ _ _ _ h G hl
def fr_isGreater (S : MS) (a0 : Int32) (a1 : Int32) : Option (Int32 × MS) := oif (inb a0 144 = true) <| elet (S.2.2 25 a0.toNatClampNeg) fun v3 => oif (inb a1 144 = true) <| elet (S.2.2 25 a1.toNatClampNeg) fun v5 => elet (lg_cmp v3 v5) fun v6 => if 0 < v6 then (fr_isGreater_b37 S) else (oif (inb a0 144 = true) <| elet (S.2.2 25 a0.toNatClampNeg) fun v9 => oif (inb a1 144 = true) <| elet (S.2.2 25 a1.toNatClampNeg) fun v11 => elet (lg_cmp v9 v11) fun v12 => if v12 = 0 then (if a1 ≤ a0 then (fr_isGreater_b41 S) else (fr_isGreater_b37 S)) else (fr_isGreater_b41 S))
set_option maxHeartbeats 4000000 in
set_option maxRecDepth 100000 in
theorem tr_isGreater (l : Launch) (D : va_G) (cI cJ cZ : ClassId) (ad : Nat → Nat) (S : MS) (a0 : Int32) (a1 : Int32) {r1 : Int32} {S1 : MS} (h : fr_isGreater S a0 a1 = some (r1, S1)) : mCi l yX12_isGreater (Cond.code yX12_isGreater cX12_isGreater 3 (some .boolean) :: wsM) 1 0 D cI cJ cZ ad S [.int a0, .int a1] (fun r S9 => r = r1 ∧ S9 = S1) := by
  intro sz
  refine Met.ofW (cc := cX12_isGreater) (maxL := 3) (ret := (some .boolean)) (by decide) rfl ?_
  intro p e s m args below meth c s₁ B hml hv
  obtain ⟨rfl, hsz, hP, hK, hD0, hR⟩ := hv
  have hx := B.exec
  have hb := B.bytes
  have hr := B.returns
  have hts := atoms_spec (ws := (Cond.code yX12_isGreater cX12_isGreater 3 (some .boolean) :: wsM)) B.pre
  have hown : s.vm.findClass RX12 = some m.cls := findClass_of_methodNamed B.named
  have hlocks := B.notSynchronized
  subst hsz
  have hD := hD0.self (sz := s.heap.size)
  generalize hAe : va_A (MW cI cJ cZ ad S) s.heap.size = A at hD ⊢
  have hA : ∀ q : Nat, s.heap.size ≤ q → A q := fun q h => by rw [← hAe]; exact Or.inr h
  have G : mG D cI cJ cZ ad A s.heap s.heap [] S := ⟨hP, hD, va_S.rf⟩
  have E : mE p c cX12_isGreater s m ([.ref (ad 0), .int a0, .int a1] : List Value).toArray (Cond.code yX12_isGreater cX12_isGreater 3 (some .boolean) :: wsM) D cI cJ cZ := ⟨hx, hb, hts, hown, hK, fun w h => .tail _ (iM_x h)⟩
  have hl := lv_entry ([.ref (ad 0), .int a0, .int a1]) (n := 3) (Nat.le_of_ble_eq_true rfl)
  rw [lg_entry_eq]
  generalize (lg_sl ([.ref (ad 0), .int a0, .int a1]) ++ List.replicate (3 - (lg_sl ([.ref (ad 0), .int a0, .int a1])).length) Slot.unset).toArray = ls at hl ⊢
  have hl : lv_has ls 3 [(0, .ref (ad 0)), (1, .int a0), (2, .int a1)] := hl
  unfold fr_isGreater at h
  refine lv_aload_n hx hb dX12_isGreater_0 rfl (lv_at hl 0 rfl) ?_
  refine m_get E G 25 (v := .ref (ad 25)) (by decide) (.tail _ qM_21) rfl dX12_isGreater_1 rfl ?_
  refine lv_iload_n hx hb dX12_isGreater_4 rfl (lv_at hl 1 rfl) ?_
  obtain ⟨g2, h⟩ := oif_some h
  refine m_lald E G 25 13 (n := 144) (k := a0.toNatClampNeg) rfl (inb_k g2).1 (inb_k g2).2 (by decide) dX12_isGreater_5 ?_
  refine lv_topl (fun v3 ev3 => ?_)
  have h := elet_at ev3 h
  clear ev3
  refine lv_aload_n hx hb dX12_isGreater_6 rfl (lv_at hl 0 rfl) ?_
  refine m_get E G 25 (v := .ref (ad 25)) (by decide) (.tail _ qM_21) rfl dX12_isGreater_7 rfl ?_
  refine lv_iload_n hx hb dX12_isGreater_10 rfl (lv_at hl 2 rfl) ?_
  obtain ⟨g4, h⟩ := oif_some h
  refine m_lald E G 25 13 (n := 144) (k := a1.toNatClampNeg) rfl (inb_k g4).1 (inb_k g4).2 (by decide) dX12_isGreater_11 ?_
  refine lv_topl (fun v5 ev5 => ?_)
  have h := elet_at ev5 h
  clear ev5
  refine W.lcmp hx hb dX12_isGreater_12 ?_
  refine lv_topi (fun v6 ev6 => ?_)
  have h := elet_at ev6 h
  clear ev6
  refine lv_if_gt (tgt := 37) hx hb dX12_isGreater_13 (by decide) (fun c7 => ?_) (fun c7 => ?_)
  · have h := oif_pos c7 h
    have hl := lv_sub hl [] rfl
    exact tr_isGreater_b37 E hA hR hml (fun H locs ls gz G => W.zret (v := r1) hx hb hr (nar01 gz) (fun t ht hW => ⟨⟨r1, S1, rfl, ⟨rfl, rfl⟩, ⟨by rw [ht]; exact G.1, va_K.moved hW.alike hK, G.2.1⟩⟩, G.2.2.F ht⟩) G.2.2.2.2 dX12_isGreater_42) _ _ _ _ h G hl
  · have h := oif_neg c7 h
    refine lv_aload_n hx hb dX12_isGreater_16 rfl (lv_at hl 0 rfl) ?_
    refine m_get E G 25 (v := .ref (ad 25)) (by decide) (.tail _ qM_21) rfl dX12_isGreater_17 rfl ?_
    refine lv_iload_n hx hb dX12_isGreater_20 rfl (lv_at hl 1 rfl) ?_
    obtain ⟨g8, h⟩ := oif_some h
    refine m_lald E G 25 13 (n := 144) (k := a0.toNatClampNeg) rfl (inb_k g8).1 (inb_k g8).2 (by decide) dX12_isGreater_21 ?_
    refine lv_topl (fun v9 ev9 => ?_)
    have h := elet_at ev9 h
    clear ev9
    refine lv_aload_n hx hb dX12_isGreater_22 rfl (lv_at hl 0 rfl) ?_
    refine m_get E G 25 (v := .ref (ad 25)) (by decide) (.tail _ qM_21) rfl dX12_isGreater_23 rfl ?_
    refine lv_iload_n hx hb dX12_isGreater_26 rfl (lv_at hl 2 rfl) ?_
    obtain ⟨g10, h⟩ := oif_some h
    refine m_lald E G 25 13 (n := 144) (k := a1.toNatClampNeg) rfl (inb_k g10).1 (inb_k g10).2 (by decide) dX12_isGreater_27 ?_
    refine lv_topl (fun v11 ev11 => ?_)
    have h := elet_at ev11 h
    clear ev11
    refine W.lcmp hx hb dX12_isGreater_28 ?_
    refine lv_topi (fun v12 ev12 => ?_)
    have h := elet_at ev12 h
    clear ev12
    refine lv_if_ne (tgt := 41) hx hb dX12_isGreater_29 (by decide) (fun c13 => ?_) (fun c13 => ?_)
    · have h := oif_neg c13 h
      have hl := lv_sub hl [] rfl
      exact tr_isGreater_b41 E hA hR hml (fun H locs ls gz G => W.zret (v := r1) hx hb hr (nar01 gz) (fun t ht hW => ⟨⟨r1, S1, rfl, ⟨rfl, rfl⟩, ⟨by rw [ht]; exact G.1, va_K.moved hW.alike hK, G.2.1⟩⟩, G.2.2.F ht⟩) G.2.2.2.2 dX12_isGreater_42) _ _ _ _ h G hl
    · have h := oif_pos c13 h
      refine lv_iload_n hx hb dX12_isGreater_32 rfl (lv_at hl 1 rfl) ?_
      refine lv_iload_n hx hb dX12_isGreater_33 rfl (lv_at hl 2 rfl) ?_
      refine lv_icmp_ge (tgt := 41) hx hb dX12_isGreater_34 (by decide) (fun c14 => ?_) (fun c14 => ?_)
      · have h := oif_pos c14 h
        have hl := lv_sub hl [] rfl
        exact tr_isGreater_b41 E hA hR hml (fun H locs ls gz G => W.zret (v := r1) hx hb hr (nar01 gz) (fun t ht hW => ⟨⟨r1, S1, rfl, ⟨rfl, rfl⟩, ⟨by rw [ht]; exact G.1, va_K.moved hW.alike hK, G.2.1⟩⟩, G.2.2.F ht⟩) G.2.2.2.2 dX12_isGreater_42) _ _ _ _ h G hl
      · have h := oif_neg c14 h
        have hl := lv_sub hl [] rfl
        exact tr_isGreater_b37 E hA hR hml (fun H locs ls gz G => W.zret (v := r1) hx hb hr (nar01 gz) (fun t ht hW => ⟨⟨r1, S1, rfl, ⟨rfl, rfl⟩, ⟨by rw [ht]; exact G.1, va_K.moved hW.alike hK, G.2.1⟩⟩, G.2.2.F ht⟩) G.2.2.2.2 dX12_isGreater_42) _ _ _ _ h G hl
def fr_peakAt_b99 (k20 : MS → Int32 → Int32 → Option (Int32 × MS)) (S : MS) (l1 : Int32) (l2 : Int32) : Option (Int32 × MS) := elet (l2 + Int32.ofInt (1)) fun v2 => k20 S l1 v2
set_option maxHeartbeats 4000000 in
set_option maxRecDepth 100000 in
theorem tr_peakAt_b99 {p : Program} {l : Launch} {e : Env} {s : State} {m : MethodId} {args : Array Value} {below : List Frame} {meth : Method} {c : Code} {Q : State → Prop} {D : va_G} {A : Nat → Prop} {H0 : Heap} {cI cJ cZ : ClassId} {ad : Nat → Nat} {r1 : Int32} {S1 : MS} (E : mE p c cX12_peakAt s m args (Cond.code yX12_peakAt cX12_peakAt 5 (some .int) :: wsM) D cI cJ cZ) (hA : ∀ q : Nat, H0.size ≤ q → A q) (hR : sR s) (hml : c.maxLocals = 5) (kr9 : ∀ (H : Heap) (locs : List Loc) (ls : Array Slot), mG D cI cJ cZ ad A H0 H locs S1 → W p l e { frames := 7, cells := 0, slots := 0, locals := 140 } s m args below meth c H locs 0 0 Q (F0 m 9 ls [.int r1])) (kr98 : ∀ (H : Heap) (locs : List Loc) (ls : Array Slot), mG D cI cJ cZ ad A H0 H locs S1 → W p l e { frames := 7, cells := 0, slots := 0, locals := 140 } s m args below meth c H locs 0 0 Q (F0 m 98 ls [.int r1])) (kr110 : ∀ (H : Heap) (locs : List Loc) (ls : Array Slot), mG D cI cJ cZ ad A H0 H locs S1 → W p l e { frames := 7, cells := 0, slots := 0, locals := 140 } s m args below meth c H locs 0 0 Q (F0 m 110 ls [.int r1])) {k20 : MS → Int32 → Int32 → Option (Int32 × MS)} (hk20 : ∀ (S : MS) (H : Heap) (locs : List Loc) (ls : Array Slot) (l1 : Int32) (l2 : Int32), k20 S l1 l2 = some (r1, S1) → mG D cI cJ cZ ad A H0 H locs S → lv_has ls 5 [(0, .ref (ad 0)), (1, .int l1), (2, .int l2)] → W p l e { frames := 7, cells := 0, slots := 0, locals := 140 } s m args below meth c H locs 0 0 Q (F0 m 20 ls [])) : ∀ (S : MS) (H : Heap) (locs : List Loc) (ls : Array Slot) (l1 : Int32) (l2 : Int32), fr_peakAt_b99 k20 S l1 l2 = some (r1, S1) → mG D cI cJ cZ ad A H0 H locs S → lv_has ls 5 [(0, .ref (ad 0)), (1, .int l1), (2, .int l2)] → W p l e { frames := 7, cells := 0, slots := 0, locals := 140 } s m args below meth c H locs 0 0 Q (F0 m 99 ls []) := by
  have hx := E.1
  have hb := E.2.1
  have hts := E.2.2.1
  have hown := E.2.2.2.1
  have hK := E.2.2.2.2.1
  intro S H locs ls l1 l2 h G hl
  unfold fr_peakAt_b99 at h
  obtain ⟨v2, ev2, h⟩ := elet_some h
  refine lv_iinc (v := v2) (lv' := [(2, .int v2), (0, .ref (ad 0)), (1, .int l1)]) hx hb dX12_peakAt_99 hl (k := 2) rfl ev2.symm (by decide) rfl (fun ls hl => ?_)
  refine lv_goto (tgt := 20) hx hb dX12_peakAt_102 (by decide) ?_
  have hl := lv_sub hl [1, 2, 0] rfl
  exact hk20 _ _ _ _ _ _ h G hl
def fr_peakAt_b84 (k20 : MS → Int32 → Int32 → Option (Int32 × MS)) (k44 : MS → Int32 → Int32 → Int32 → Int32 → Option (Int32 × MS)) (S : MS) (s0 : Int32) (s1 : Int32) (l1 : Int32) (l2 : Int32) (l4 : Int32) : Option (Int32 × MS) := elet (s1 + s0) fun v2 => elet (l4 + Int32.ofInt (1)) fun v3 => k44 S l1 l2 v2 v3
set_option maxHeartbeats 4000000 in
set_option maxRecDepth 100000 in
theorem tr_peakAt_b84 {p : Program} {l : Launch} {e : Env} {s : State} {m : MethodId} {args : Array Value} {below : List Frame} {meth : Method} {c : Code} {Q : State → Prop} {D : va_G} {A : Nat → Prop} {H0 : Heap} {cI cJ cZ : ClassId} {ad : Nat → Nat} {r1 : Int32} {S1 : MS} (E : mE p c cX12_peakAt s m args (Cond.code yX12_peakAt cX12_peakAt 5 (some .int) :: wsM) D cI cJ cZ) (hA : ∀ q : Nat, H0.size ≤ q → A q) (hR : sR s) (hml : c.maxLocals = 5) (kr9 : ∀ (H : Heap) (locs : List Loc) (ls : Array Slot), mG D cI cJ cZ ad A H0 H locs S1 → W p l e { frames := 7, cells := 0, slots := 0, locals := 140 } s m args below meth c H locs 0 0 Q (F0 m 9 ls [.int r1])) (kr98 : ∀ (H : Heap) (locs : List Loc) (ls : Array Slot), mG D cI cJ cZ ad A H0 H locs S1 → W p l e { frames := 7, cells := 0, slots := 0, locals := 140 } s m args below meth c H locs 0 0 Q (F0 m 98 ls [.int r1])) (kr110 : ∀ (H : Heap) (locs : List Loc) (ls : Array Slot), mG D cI cJ cZ ad A H0 H locs S1 → W p l e { frames := 7, cells := 0, slots := 0, locals := 140 } s m args below meth c H locs 0 0 Q (F0 m 110 ls [.int r1])) {k20 : MS → Int32 → Int32 → Option (Int32 × MS)} {k44 : MS → Int32 → Int32 → Int32 → Int32 → Option (Int32 × MS)} (hk20 : ∀ (S : MS) (H : Heap) (locs : List Loc) (ls : Array Slot) (l1 : Int32) (l2 : Int32), k20 S l1 l2 = some (r1, S1) → mG D cI cJ cZ ad A H0 H locs S → lv_has ls 5 [(0, .ref (ad 0)), (1, .int l1), (2, .int l2)] → W p l e { frames := 7, cells := 0, slots := 0, locals := 140 } s m args below meth c H locs 0 0 Q (F0 m 20 ls [])) (hk44 : ∀ (S : MS) (H : Heap) (locs : List Loc) (ls : Array Slot) (l1 : Int32) (l2 : Int32) (l3 : Int32) (l4 : Int32), k44 S l1 l2 l3 l4 = some (r1, S1) → mG D cI cJ cZ ad A H0 H locs S → lv_has ls 5 [(0, .ref (ad 0)), (1, .int l1), (2, .int l2), (3, .int l3), (4, .int l4)] → W p l e { frames := 7, cells := 0, slots := 0, locals := 140 } s m args below meth c H locs 0 0 Q (F0 m 44 ls [])) : ∀ (S : MS) (H : Heap) (locs : List Loc) (ls : Array Slot) (s0 : Int32) (s1 : Int32) (l1 : Int32) (l2 : Int32) (l4 : Int32), fr_peakAt_b84 k20 k44 S s0 s1 l1 l2 l4 = some (r1, S1) → mG D cI cJ cZ ad A H0 H locs S → lv_has ls 5 [(0, .ref (ad 0)), (1, .int l1), (2, .int l2), (4, .int l4)] → W p l e { frames := 7, cells := 0, slots := 0, locals := 140 } s m args below meth c H locs 0 0 Q (F0 m 84 ls [.int s0, .int s1]) := by
  have hx := E.1
  have hb := E.2.1
  have hts := E.2.2.1
  have hown := E.2.2.2.1
  have hK := E.2.2.2.2.1
  intro S H locs ls s0 s1 l1 l2 l4 h G hl
  unfold fr_peakAt_b84 at h
  refine lv_iadd hx hb dX12_peakAt_84 ?_
  refine lv_topi (fun v2 ev2 => ?_)
  have h := elet_at ev2 h
  clear ev2
  refine lv_istore_n (lv' := [(3, .int v2), (0, .ref (ad 0)), (1, .int l1), (2, .int l2), (4, .int l4)]) hx hb dX12_peakAt_85 rfl hl (by decide) rfl (fun ls hl => ?_)
  obtain ⟨v3, ev3, h⟩ := elet_some h
  refine lv_iinc (v := v3) (lv' := [(4, .int v3), (3, .int v2), (0, .ref (ad 0)), (1, .int l1), (2, .int l2)]) hx hb dX12_peakAt_86 hl (k := 4) rfl ev3.symm (by decide) rfl (fun ls hl => ?_)
  refine lv_goto (tgt := 44) hx hb dX12_peakAt_89 (by decide) ?_
  have hl := lv_sub hl [2, 3, 4, 1, 0] rfl
  exact hk44 _ _ _ _ _ _ _ _ h G hl
def fr_peakAt_b83 (k20 : MS → Int32 → Int32 → Option (Int32 × MS)) (k44 : MS → Int32 → Int32 → Int32 → Int32 → Option (Int32 × MS)) (S : MS) (s0 : Int32) (l1 : Int32) (l2 : Int32) (l4 : Int32) : Option (Int32 × MS) := fr_peakAt_b84 k20 k44 S 0 s0 l1 l2 l4
set_option maxHeartbeats 4000000 in
set_option maxRecDepth 100000 in
theorem tr_peakAt_b83 {p : Program} {l : Launch} {e : Env} {s : State} {m : MethodId} {args : Array Value} {below : List Frame} {meth : Method} {c : Code} {Q : State → Prop} {D : va_G} {A : Nat → Prop} {H0 : Heap} {cI cJ cZ : ClassId} {ad : Nat → Nat} {r1 : Int32} {S1 : MS} (E : mE p c cX12_peakAt s m args (Cond.code yX12_peakAt cX12_peakAt 5 (some .int) :: wsM) D cI cJ cZ) (hA : ∀ q : Nat, H0.size ≤ q → A q) (hR : sR s) (hml : c.maxLocals = 5) (kr9 : ∀ (H : Heap) (locs : List Loc) (ls : Array Slot), mG D cI cJ cZ ad A H0 H locs S1 → W p l e { frames := 7, cells := 0, slots := 0, locals := 140 } s m args below meth c H locs 0 0 Q (F0 m 9 ls [.int r1])) (kr98 : ∀ (H : Heap) (locs : List Loc) (ls : Array Slot), mG D cI cJ cZ ad A H0 H locs S1 → W p l e { frames := 7, cells := 0, slots := 0, locals := 140 } s m args below meth c H locs 0 0 Q (F0 m 98 ls [.int r1])) (kr110 : ∀ (H : Heap) (locs : List Loc) (ls : Array Slot), mG D cI cJ cZ ad A H0 H locs S1 → W p l e { frames := 7, cells := 0, slots := 0, locals := 140 } s m args below meth c H locs 0 0 Q (F0 m 110 ls [.int r1])) {k20 : MS → Int32 → Int32 → Option (Int32 × MS)} {k44 : MS → Int32 → Int32 → Int32 → Int32 → Option (Int32 × MS)} (hk20 : ∀ (S : MS) (H : Heap) (locs : List Loc) (ls : Array Slot) (l1 : Int32) (l2 : Int32), k20 S l1 l2 = some (r1, S1) → mG D cI cJ cZ ad A H0 H locs S → lv_has ls 5 [(0, .ref (ad 0)), (1, .int l1), (2, .int l2)] → W p l e { frames := 7, cells := 0, slots := 0, locals := 140 } s m args below meth c H locs 0 0 Q (F0 m 20 ls [])) (hk44 : ∀ (S : MS) (H : Heap) (locs : List Loc) (ls : Array Slot) (l1 : Int32) (l2 : Int32) (l3 : Int32) (l4 : Int32), k44 S l1 l2 l3 l4 = some (r1, S1) → mG D cI cJ cZ ad A H0 H locs S → lv_has ls 5 [(0, .ref (ad 0)), (1, .int l1), (2, .int l2), (3, .int l3), (4, .int l4)] → W p l e { frames := 7, cells := 0, slots := 0, locals := 140 } s m args below meth c H locs 0 0 Q (F0 m 44 ls [])) : ∀ (S : MS) (H : Heap) (locs : List Loc) (ls : Array Slot) (s0 : Int32) (l1 : Int32) (l2 : Int32) (l4 : Int32), fr_peakAt_b83 k20 k44 S s0 l1 l2 l4 = some (r1, S1) → mG D cI cJ cZ ad A H0 H locs S → lv_has ls 5 [(0, .ref (ad 0)), (1, .int l1), (2, .int l2), (4, .int l4)] → W p l e { frames := 7, cells := 0, slots := 0, locals := 140 } s m args below meth c H locs 0 0 Q (F0 m 83 ls [.int s0]) := by
  have hx := E.1
  have hb := E.2.1
  have hts := E.2.2.1
  have hown := E.2.2.2.1
  have hK := E.2.2.2.2.1
  intro S H locs ls s0 l1 l2 l4 h G hl
  unfold fr_peakAt_b83 at h
  refine lv_iconst (v := 0) hx hb dX12_peakAt_83 (by decide) ?_
  have hl := lv_sub hl [0, 1, 2, 3] rfl
  exact tr_peakAt_b84 E hA hR hml kr9 kr98 kr110 hk20 hk44 _ _ _ _ _ _ _ _ _ h G hl
def fr_peakAt_b44 (k20 : MS → Int32 → Int32 → Option (Int32 × MS)) : Nat → MS → Int32 → Int32 → Int32 → Int32 → Option (Int32 × MS)
  | 0, _, _, _, _, _ => none
  | n + 1, S, l1, l2, l3, l4 => obind2 (fr_cellCount S) fun r5 S2 => if r5 ≤ l4 then (if l3 = l1 then (some (l2, S2)) else (fr_peakAt_b99 k20 S2 l1 l2)) else (if l4 = l2 then (fr_peakAt_b83 k20 (fr_peakAt_b44 k20 n) S2 l3 l1 l2 l4) else (obind2 (fr_isTop S2 l4) fun r12 S9 => if r12 = 0 then (fr_peakAt_b83 k20 (fr_peakAt_b44 k20 n) S9 l3 l1 l2 l4) else (obind2 (fr_isGreater S9 l4 l2) fun r17 S14 => if r17 = 0 then (fr_peakAt_b83 k20 (fr_peakAt_b44 k20 n) S14 l3 l1 l2 l4) else (fr_peakAt_b84 k20 (fr_peakAt_b44 k20 n) S14 1 l3 l1 l2 l4))))
set_option maxHeartbeats 4000000 in
set_option maxRecDepth 100000 in
theorem tr_peakAt_b44 {p : Program} {l : Launch} {e : Env} {s : State} {m : MethodId} {args : Array Value} {below : List Frame} {meth : Method} {c : Code} {Q : State → Prop} {D : va_G} {A : Nat → Prop} {H0 : Heap} {cI cJ cZ : ClassId} {ad : Nat → Nat} {r1 : Int32} {S1 : MS} (E : mE p c cX12_peakAt s m args (Cond.code yX12_peakAt cX12_peakAt 5 (some .int) :: wsM) D cI cJ cZ) (hA : ∀ q : Nat, H0.size ≤ q → A q) (hR : sR s) (hml : c.maxLocals = 5) (kr9 : ∀ (H : Heap) (locs : List Loc) (ls : Array Slot), mG D cI cJ cZ ad A H0 H locs S1 → W p l e { frames := 7, cells := 0, slots := 0, locals := 140 } s m args below meth c H locs 0 0 Q (F0 m 9 ls [.int r1])) (kr98 : ∀ (H : Heap) (locs : List Loc) (ls : Array Slot), mG D cI cJ cZ ad A H0 H locs S1 → W p l e { frames := 7, cells := 0, slots := 0, locals := 140 } s m args below meth c H locs 0 0 Q (F0 m 98 ls [.int r1])) (kr110 : ∀ (H : Heap) (locs : List Loc) (ls : Array Slot), mG D cI cJ cZ ad A H0 H locs S1 → W p l e { frames := 7, cells := 0, slots := 0, locals := 140 } s m args below meth c H locs 0 0 Q (F0 m 110 ls [.int r1])) {k20 : MS → Int32 → Int32 → Option (Int32 × MS)} (hk20 : ∀ (S : MS) (H : Heap) (locs : List Loc) (ls : Array Slot) (l1 : Int32) (l2 : Int32), k20 S l1 l2 = some (r1, S1) → mG D cI cJ cZ ad A H0 H locs S → lv_has ls 5 [(0, .ref (ad 0)), (1, .int l1), (2, .int l2)] → W p l e { frames := 7, cells := 0, slots := 0, locals := 140 } s m args below meth c H locs 0 0 Q (F0 m 20 ls [])) : ∀ n : Nat, ∀ (S : MS) (H : Heap) (locs : List Loc) (ls : Array Slot) (l1 : Int32) (l2 : Int32) (l3 : Int32) (l4 : Int32), fr_peakAt_b44 k20 n S l1 l2 l3 l4 = some (r1, S1) → mG D cI cJ cZ ad A H0 H locs S → lv_has ls 5 [(0, .ref (ad 0)), (1, .int l1), (2, .int l2), (3, .int l3), (4, .int l4)] → W p l e { frames := 7, cells := 0, slots := 0, locals := 140 } s m args below meth c H locs 0 0 Q (F0 m 44 ls []) := by
  have hx := E.1
  have hb := E.2.1
  have hts := E.2.2.1
  have hown := E.2.2.2.1
  have hK := E.2.2.2.2.1
  intro n
  induction n with
  | zero =>
    intro S H locs ls l1 l2 l3 l4 h
    have h : (none : Option (Int32 × MS)) = some (r1, S1) := h
    cases h
  | succ n ih =>
    intro S H locs ls l1 l2 l3 l4 h G hl
    unfold fr_peakAt_b44 at h
    refine lv_iload hx hb dX12_peakAt_44 (lv_at hl 4 rfl) ?_
    refine lv_aload_n hx hb dX12_peakAt_46 rfl (lv_at hl 0 rfl) ?_
    obtain ⟨r5, S2, eS2, h⟩ := obind2_some h
    refine m_calli (As := []) (rest := [.int l4]) E G hA hR hml (tr_cellCount l D cI cJ cZ ad S eS2) (cwV 0 hts (gmV qM_204 qM_205 qM_206 qM_35 qM_207) rfl rfl rfl (by decide +kernel) ⟨Nat.le_of_ble_eq_true rfl, Nat.le_of_ble_eq_true rfl⟩) rfl hl.1 rfl (lv_room (Nat.le_of_ble_eq_true rfl)) dX12_peakAt_47 ⟨Nat.zero_le _, Nat.zero_le _⟩ (fun q3 S4 H locs hq G => ?_)
    obtain ⟨hq1, hq2⟩ := hq
    rw [hq2] at G
    refine lv_to hq1 ?_
    clear hq1 hq2 eS2
    refine lv_icmp_ge (tgt := 92) hx hb dX12_peakAt_50 (by decide) (fun c6 => ?_) (fun c6 => ?_)
    · have h := oif_pos c6 h
      refine lv_iload_n hx hb dX12_peakAt_92 rfl (lv_at hl 3 rfl) ?_
      refine lv_iload_n hx hb dX12_peakAt_93 rfl (lv_at hl 1 rfl) ?_
      refine lv_icmp_ne (tgt := 99) hx hb dX12_peakAt_94 (by decide) (fun c7 => ?_) (fun c7 => ?_)
      · have h := oif_neg c7 h
        have hl := lv_sub hl [0, 1, 2] rfl
        exact tr_peakAt_b99 E hA hR hml kr9 kr98 kr110 hk20 _ _ _ _ _ _ h G hl
      · have h := oif_pos c7 h
        refine lv_iload_n hx hb dX12_peakAt_97 rfl (lv_at hl 2 rfl) ?_
        rw [(osome2 h).2] at G
        refine lv_to (osome2 h).1 ?_
        exact kr98 _ _ _ G
    · have h := oif_neg c6 h
      refine lv_iload_n hx hb dX12_peakAt_53 rfl (lv_at hl 3 rfl) ?_
      refine lv_iload hx hb dX12_peakAt_54 (lv_at hl 4 rfl) ?_
      refine lv_iload_n hx hb dX12_peakAt_56 rfl (lv_at hl 2 rfl) ?_
      refine lv_icmp_eq (tgt := 83) hx hb dX12_peakAt_57 (by decide) (fun c8 => ?_) (fun c8 => ?_)
      · have h := oif_pos c8 h
        have hl := lv_sub hl [0, 1, 2, 4] rfl
        exact tr_peakAt_b83 E hA hR hml kr9 kr98 kr110 hk20 ih _ _ _ _ _ _ _ _ h G hl
      · have h := oif_neg c8 h
        refine lv_aload_n hx hb dX12_peakAt_60 rfl (lv_at hl 0 rfl) ?_
        refine lv_iload hx hb dX12_peakAt_61 (lv_at hl 4 rfl) ?_
        obtain ⟨r12, S9, eS9, h⟩ := obind2_some h
        refine m_calli (As := [.int l4]) (rest := [.int l3]) E G hA hR hml (tr_isTop l D cI cJ cZ ad S2 l4 eS9) (cwV 1 hts (gmV qM_367 qM_368 qM_369 qM_35 qM_365) rfl rfl rfl (by decide +kernel) ⟨Nat.le_of_ble_eq_true rfl, Nat.le_of_ble_eq_true rfl⟩) rfl hl.1 rfl (lv_room (Nat.le_of_ble_eq_true rfl)) dX12_peakAt_63 ⟨Nat.zero_le _, Nat.zero_le _⟩ (fun q10 S11 H locs hq G => ?_)
        obtain ⟨hq1, hq2⟩ := hq
        rw [hq2] at G
        refine lv_to hq1 ?_
        clear hq1 hq2 eS9
        refine lv_if_eq (tgt := 83) hx hb dX12_peakAt_66 (by decide) (fun c13 => ?_) (fun c13 => ?_)
        · have h := oif_pos c13 h
          have hl := lv_sub hl [0, 1, 2, 4] rfl
          exact tr_peakAt_b83 E hA hR hml kr9 kr98 kr110 hk20 ih _ _ _ _ _ _ _ _ h G hl
        · have h := oif_neg c13 h
          refine lv_aload_n hx hb dX12_peakAt_69 rfl (lv_at hl 0 rfl) ?_
          refine lv_iload hx hb dX12_peakAt_70 (lv_at hl 4 rfl) ?_
          refine lv_iload_n hx hb dX12_peakAt_72 rfl (lv_at hl 2 rfl) ?_
          obtain ⟨r17, S14, eS14, h⟩ := obind2_some h
          refine m_calli (As := [.int l4, .int l2]) (rest := [.int l3]) E G hA hR hml (tr_isGreater l D cI cJ cZ ad S9 l4 l2 eS14) (cwV 2 hts (gmV qM_372 qM_373 qM_374 qM_35 qM_370) rfl rfl rfl (by decide +kernel) ⟨Nat.le_of_ble_eq_true rfl, Nat.le_of_ble_eq_true rfl⟩) rfl hl.1 rfl (lv_room (Nat.le_of_ble_eq_true rfl)) dX12_peakAt_73 ⟨Nat.zero_le _, Nat.zero_le _⟩ (fun q15 S16 H locs hq G => ?_)
          obtain ⟨hq1, hq2⟩ := hq
          rw [hq2] at G
          refine lv_to hq1 ?_
          clear hq1 hq2 eS14
          refine lv_if_eq (tgt := 83) hx hb dX12_peakAt_76 (by decide) (fun c18 => ?_) (fun c18 => ?_)
          · have h := oif_pos c18 h
            have hl := lv_sub hl [0, 1, 2, 4] rfl
            exact tr_peakAt_b83 E hA hR hml kr9 kr98 kr110 hk20 ih _ _ _ _ _ _ _ _ h G hl
          · have h := oif_neg c18 h
            refine lv_iconst (v := 1) hx hb dX12_peakAt_79 (by decide) ?_
            refine lv_goto (tgt := 84) hx hb dX12_peakAt_80 (by decide) ?_
            have hl := lv_sub hl [0, 1, 2, 4] rfl
            exact tr_peakAt_b84 E hA hR hml kr9 kr98 kr110 hk20 ih _ _ _ _ _ _ _ _ _ h G hl
def fr_peakAt_b20  : Nat → MS → Int32 → Int32 → Option (Int32 × MS)
  | 0, _, _, _ => none
  | n + 1, S, l1, l2 => obind2 (fr_cellCount S) fun r5 S2 => if r5 ≤ l2 then (obind2 (fr_throwsAt S2 2) fun r10 S7 => some (r10, S7)) else (obind2 (fr_isTop S2 l2) fun r14 S11 => if r14 = 0 then (fr_peakAt_b99 (fr_peakAt_b20 n) S11 l1 l2) else (fr_peakAt_b44 (fr_peakAt_b20 n) 16384 S11 l1 l2 0 0))
set_option maxHeartbeats 4000000 in
set_option maxRecDepth 100000 in
theorem tr_peakAt_b20 {p : Program} {l : Launch} {e : Env} {s : State} {m : MethodId} {args : Array Value} {below : List Frame} {meth : Method} {c : Code} {Q : State → Prop} {D : va_G} {A : Nat → Prop} {H0 : Heap} {cI cJ cZ : ClassId} {ad : Nat → Nat} {r1 : Int32} {S1 : MS} (E : mE p c cX12_peakAt s m args (Cond.code yX12_peakAt cX12_peakAt 5 (some .int) :: wsM) D cI cJ cZ) (hA : ∀ q : Nat, H0.size ≤ q → A q) (hR : sR s) (hml : c.maxLocals = 5) (kr9 : ∀ (H : Heap) (locs : List Loc) (ls : Array Slot), mG D cI cJ cZ ad A H0 H locs S1 → W p l e { frames := 7, cells := 0, slots := 0, locals := 140 } s m args below meth c H locs 0 0 Q (F0 m 9 ls [.int r1])) (kr98 : ∀ (H : Heap) (locs : List Loc) (ls : Array Slot), mG D cI cJ cZ ad A H0 H locs S1 → W p l e { frames := 7, cells := 0, slots := 0, locals := 140 } s m args below meth c H locs 0 0 Q (F0 m 98 ls [.int r1])) (kr110 : ∀ (H : Heap) (locs : List Loc) (ls : Array Slot), mG D cI cJ cZ ad A H0 H locs S1 → W p l e { frames := 7, cells := 0, slots := 0, locals := 140 } s m args below meth c H locs 0 0 Q (F0 m 110 ls [.int r1])) : ∀ n : Nat, ∀ (S : MS) (H : Heap) (locs : List Loc) (ls : Array Slot) (l1 : Int32) (l2 : Int32), fr_peakAt_b20 n S l1 l2 = some (r1, S1) → mG D cI cJ cZ ad A H0 H locs S → lv_has ls 5 [(0, .ref (ad 0)), (1, .int l1), (2, .int l2)] → W p l e { frames := 7, cells := 0, slots := 0, locals := 140 } s m args below meth c H locs 0 0 Q (F0 m 20 ls []) := by
  have hx := E.1
  have hb := E.2.1
  have hts := E.2.2.1
  have hown := E.2.2.2.1
  have hK := E.2.2.2.2.1
  intro n
  induction n with
  | zero =>
    intro S H locs ls l1 l2 h
    have h : (none : Option (Int32 × MS)) = some (r1, S1) := h
    cases h
  | succ n ih =>
    intro S H locs ls l1 l2 h G hl
    unfold fr_peakAt_b20 at h
    refine lv_iload_n hx hb dX12_peakAt_20 rfl (lv_at hl 2 rfl) ?_
    refine lv_aload_n hx hb dX12_peakAt_21 rfl (lv_at hl 0 rfl) ?_
    obtain ⟨r5, S2, eS2, h⟩ := obind2_some h
    refine m_calli (As := []) (rest := [.int l2]) E G hA hR hml (tr_cellCount l D cI cJ cZ ad S eS2) (cwV 0 hts (gmV qM_204 qM_205 qM_206 qM_35 qM_207) rfl rfl rfl (by decide +kernel) ⟨Nat.le_of_ble_eq_true rfl, Nat.le_of_ble_eq_true rfl⟩) rfl hl.1 rfl (lv_room (Nat.le_of_ble_eq_true rfl)) dX12_peakAt_22 ⟨Nat.zero_le _, Nat.zero_le _⟩ (fun q3 S4 H locs hq G => ?_)
    obtain ⟨hq1, hq2⟩ := hq
    rw [hq2] at G
    refine lv_to hq1 ?_
    clear hq1 hq2 eS2
    refine lv_icmp_ge (tgt := 105) hx hb dX12_peakAt_25 (by decide) (fun c6 => ?_) (fun c6 => ?_)
    · have h := oif_pos c6 h
      refine lv_aload_n hx hb dX12_peakAt_105 rfl (lv_at hl 0 rfl) ?_
      refine lv_iconst (v := 2) hx hb dX12_peakAt_106 (by decide) ?_
      obtain ⟨r10, S7, eS7, h⟩ := obind2_some h
      refine m_calli (As := [.int 2]) (rest := []) E G hA hR hml (tr_throwsAt l D cI cJ cZ ad S2 2 eS7) (cwV 1 hts (gmV qM_195 qM_196 qM_197 qM_35 qM_28) rfl rfl rfl (by decide +kernel) ⟨Nat.le_of_ble_eq_true rfl, Nat.le_of_ble_eq_true rfl⟩) rfl hl.1 rfl (lv_room (Nat.le_of_ble_eq_true rfl)) dX12_peakAt_107 ⟨Nat.zero_le _, Nat.zero_le _⟩ (fun q8 S9 H locs hq G => ?_)
      obtain ⟨hq1, hq2⟩ := hq
      rw [hq2] at G
      refine lv_to hq1 ?_
      clear hq1 hq2 eS7
      rw [(osome2 h).2] at G
      refine lv_to (osome2 h).1 ?_
      exact kr110 _ _ _ G
    · have h := oif_neg c6 h
      refine lv_aload_n hx hb dX12_peakAt_28 rfl (lv_at hl 0 rfl) ?_
      refine lv_iload_n hx hb dX12_peakAt_29 rfl (lv_at hl 2 rfl) ?_
      obtain ⟨r14, S11, eS11, h⟩ := obind2_some h
      refine m_calli (As := [.int l2]) (rest := []) E G hA hR hml (tr_isTop l D cI cJ cZ ad S2 l2 eS11) (cwV 1 hts (gmV qM_367 qM_368 qM_369 qM_35 qM_365) rfl rfl rfl (by decide +kernel) ⟨Nat.le_of_ble_eq_true rfl, Nat.le_of_ble_eq_true rfl⟩) rfl hl.1 rfl (lv_room (Nat.le_of_ble_eq_true rfl)) dX12_peakAt_30 ⟨Nat.zero_le _, Nat.zero_le _⟩ (fun q12 S13 H locs hq G => ?_)
      obtain ⟨hq1, hq2⟩ := hq
      rw [hq2] at G
      refine lv_to hq1 ?_
      clear hq1 hq2 eS11
      refine lv_if_ne (tgt := 39) hx hb dX12_peakAt_33 (by decide) (fun c15 => ?_) (fun c15 => ?_)
      · have h := oif_neg c15 h
        refine lv_iconst (v := 0) hx hb dX12_peakAt_39 (by decide) ?_
        refine lv_istore_n (lv' := [(3, .int 0), (0, .ref (ad 0)), (1, .int l1), (2, .int l2)]) hx hb dX12_peakAt_40 rfl hl (by decide) rfl (fun ls hl => ?_)
        refine lv_iconst (v := 0) hx hb dX12_peakAt_41 (by decide) ?_
        refine lv_istore (lv' := [(4, .int 0), (3, .int 0), (0, .ref (ad 0)), (1, .int l1), (2, .int l2)]) hx hb dX12_peakAt_42 hl (by decide) rfl (fun ls hl => ?_)
        have hl := lv_sub hl [2, 3, 4, 1, 0] rfl
        exact tr_peakAt_b44 E hA hR hml kr9 kr98 kr110 ih _ _ _ _ _ _ _ _ _ h G hl
      · have h := oif_pos c15 h
        refine lv_goto (tgt := 99) hx hb dX12_peakAt_36 (by decide) ?_
        have hl := lv_sub hl [0, 1, 2] rfl
        exact tr_peakAt_b99 E hA hR hml kr9 kr98 kr110 ih _ _ _ _ _ _ h G hl
def fr_peakAt (S : MS) (a0 : Int32) : Option (Int32 × MS) := obind2 (fr_mayAsk S 1) fun r5 S2 => if r5 = 0 then (some (0, S2)) else (obind (fr_laysPowers_12 S2) fun S7 => fr_peakAt_b20 16384 S7 a0 0)
set_option maxHeartbeats 4000000 in
set_option maxRecDepth 100000 in
theorem tr_peakAt (l : Launch) (D : va_G) (cI cJ cZ : ClassId) (ad : Nat → Nat) (S : MS) (a0 : Int32) {r1 : Int32} {S1 : MS} (h : fr_peakAt S a0 = some (r1, S1)) : mCi l yX12_peakAt (Cond.code yX12_peakAt cX12_peakAt 5 (some .int) :: wsM) 7 140 D cI cJ cZ ad S [.int a0] (fun r S9 => r = r1 ∧ S9 = S1) := by
  intro sz
  refine Met.ofW (cc := cX12_peakAt) (maxL := 5) (ret := (some .int)) (by decide) rfl ?_
  intro p e s m args below meth c s₁ B hml hv
  obtain ⟨rfl, hsz, hP, hK, hD0, hR⟩ := hv
  have hx := B.exec
  have hb := B.bytes
  have hr := B.returns
  have hts := atoms_spec (ws := (Cond.code yX12_peakAt cX12_peakAt 5 (some .int) :: wsM)) B.pre
  have hown : s.vm.findClass RX12 = some m.cls := findClass_of_methodNamed B.named
  have hlocks := B.notSynchronized
  subst hsz
  have hD := hD0.self (sz := s.heap.size)
  generalize hAe : va_A (MW cI cJ cZ ad S) s.heap.size = A at hD ⊢
  have hA : ∀ q : Nat, s.heap.size ≤ q → A q := fun q h => by rw [← hAe]; exact Or.inr h
  have G : mG D cI cJ cZ ad A s.heap s.heap [] S := ⟨hP, hD, va_S.rf⟩
  have E : mE p c cX12_peakAt s m ([.ref (ad 0), .int a0] : List Value).toArray (Cond.code yX12_peakAt cX12_peakAt 5 (some .int) :: wsM) D cI cJ cZ := ⟨hx, hb, hts, hown, hK, fun w h => .tail _ (iM_x h)⟩
  have hl := lv_entry ([.ref (ad 0), .int a0]) (n := 5) (Nat.le_of_ble_eq_true rfl)
  rw [lg_entry_eq]
  generalize (lg_sl ([.ref (ad 0), .int a0]) ++ List.replicate (5 - (lg_sl ([.ref (ad 0), .int a0])).length) Slot.unset).toArray = ls at hl ⊢
  have hl : lv_has ls 5 [(0, .ref (ad 0)), (1, .int a0)] := hl
  unfold fr_peakAt at h
  refine lv_aload_n hx hb dX12_peakAt_0 rfl (lv_at hl 0 rfl) ?_
  refine lv_iconst (v := 1) hx hb dX12_peakAt_1 (by decide) ?_
  obtain ⟨r5, S2, eS2, h⟩ := obind2_some h
  refine m_calli (As := [.int 1]) (rest := []) E G hA hR hml (tr_mayAsk l D cI cJ cZ ad S 1 eS2) (cwV 1 hts (gmV qM_319 qM_320 qM_321 qM_35 qM_304) rfl rfl rfl (by decide +kernel) ⟨Nat.le_of_ble_eq_true rfl, Nat.le_of_ble_eq_true rfl⟩) rfl hl.1 rfl (lv_room (Nat.le_of_ble_eq_true rfl)) dX12_peakAt_2 ⟨Nat.zero_le _, Nat.zero_le _⟩ (fun q3 S4 H locs hq G => ?_)
  obtain ⟨hq1, hq2⟩ := hq
  rw [hq2] at G
  refine lv_to hq1 ?_
  clear hq1 hq2 eS2
  refine lv_if_ne (tgt := 10) hx hb dX12_peakAt_5 (by decide) (fun c6 => ?_) (fun c6 => ?_)
  · have h := oif_neg c6 h
    refine lv_aload_n hx hb dX12_peakAt_10 rfl (lv_at hl 0 rfl) ?_
    refine lv_aload_n hx hb dX12_peakAt_11 rfl (lv_at hl 0 rfl) ?_
    refine m_get E G 12 (v := .ref (ad 12)) (by decide) (.tail _ qM_9) rfl dX12_peakAt_12 rfl ?_
    obtain ⟨S7, eS7, h⟩ := obind_some h
    refine m_callv (As := [.ref (ad 12)]) (rest := []) E G hA hR hml (tr_laysPowers_12 l D cI cJ cZ ad S2 eS7) (cwV 1 hts (gmV qM_301 qM_302 qM_303 qM_35 qM_296) rfl rfl rfl (by decide +kernel) ⟨Nat.le_of_ble_eq_true rfl, Nat.le_of_ble_eq_true rfl⟩) rfl hl.1 rfl (lv_room (Nat.le_of_ble_eq_true rfl)) dX12_peakAt_15 ⟨Nat.zero_le _, Nat.zero_le _⟩ (fun S9 H locs hq G => ?_)
    rw [hq] at G
    clear hq eS7
    refine lv_iconst (v := 0) hx hb dX12_peakAt_18 (by decide) ?_
    refine lv_istore_n (lv' := [(2, .int 0), (0, .ref (ad 0)), (1, .int a0)]) hx hb dX12_peakAt_19 rfl hl (by decide) rfl (fun ls hl => ?_)
    have hl := lv_sub hl [1, 2, 0] rfl
    exact tr_peakAt_b20 E hA hR hml (fun H locs ls G => W.iret (v := r1) hx hb hr (fun t ht hW => ⟨⟨r1, S1, rfl, ⟨rfl, rfl⟩, ⟨by rw [ht]; exact G.1, va_K.moved hW.alike hK, G.2.1⟩⟩, G.2.2.F ht⟩) G.2.2.2.2 dX12_peakAt_9) (fun H locs ls G => W.iret (v := r1) hx hb hr (fun t ht hW => ⟨⟨r1, S1, rfl, ⟨rfl, rfl⟩, ⟨by rw [ht]; exact G.1, va_K.moved hW.alike hK, G.2.1⟩⟩, G.2.2.F ht⟩) G.2.2.2.2 dX12_peakAt_98) (fun H locs ls G => W.iret (v := r1) hx hb hr (fun t ht hW => ⟨⟨r1, S1, rfl, ⟨rfl, rfl⟩, ⟨by rw [ht]; exact G.1, va_K.moved hW.alike hK, G.2.1⟩⟩, G.2.2.F ht⟩) G.2.2.2.2 dX12_peakAt_110) _ _ _ _ _ _ _ h G hl
  · have h := oif_pos c6 h
    refine lv_iconst (v := 0) hx hb dX12_peakAt_8 (by decide) ?_
    exact W.iret (v := 0) hx hb hr (fun t ht hW => ⟨⟨0, S2, rfl, osome2 h, ⟨by rw [ht]; exact G.1, va_K.moved hW.alike hK, G.2.1⟩⟩, G.2.2.F ht⟩) G.2.2.2.2 dX12_peakAt_9
def fr_isPeak (S : MS) (a0 : Int32) : Option (Int32 × MS) := obind2 (fr_isCell S a0) fun r5 S2 => obind2 (fr_mayAsk S2 r5) fun r9 S6 => if r9 = 0 then (some (0, S6)) else (obind (fr_laysPowers_12 S6) fun S11 => obind2 (fr_isTop S11 a0) fun r17 S14 => oif (r17 = 0 ∨ r17 = 1) <| some (r17, S14))
set_option maxHeartbeats 4000000 in
set_option maxRecDepth 100000 in
theorem tr_isPeak (l : Launch) (D : va_G) (cI cJ cZ : ClassId) (ad : Nat → Nat) (S : MS) (a0 : Int32) {r1 : Int32} {S1 : MS} (h : fr_isPeak S a0 = some (r1, S1)) : mCi l yX12_isPeak (Cond.code yX12_isPeak cX12_isPeak 2 (some .boolean) :: wsM) 7 140 D cI cJ cZ ad S [.int a0] (fun r S9 => r = r1 ∧ S9 = S1) := by
  intro sz
  refine Met.ofW (cc := cX12_isPeak) (maxL := 2) (ret := (some .boolean)) (by decide) rfl ?_
  intro p e s m args below meth c s₁ B hml hv
  obtain ⟨rfl, hsz, hP, hK, hD0, hR⟩ := hv
  have hx := B.exec
  have hb := B.bytes
  have hr := B.returns
  have hts := atoms_spec (ws := (Cond.code yX12_isPeak cX12_isPeak 2 (some .boolean) :: wsM)) B.pre
  have hown : s.vm.findClass RX12 = some m.cls := findClass_of_methodNamed B.named
  have hlocks := B.notSynchronized
  subst hsz
  have hD := hD0.self (sz := s.heap.size)
  generalize hAe : va_A (MW cI cJ cZ ad S) s.heap.size = A at hD ⊢
  have hA : ∀ q : Nat, s.heap.size ≤ q → A q := fun q h => by rw [← hAe]; exact Or.inr h
  have G : mG D cI cJ cZ ad A s.heap s.heap [] S := ⟨hP, hD, va_S.rf⟩
  have E : mE p c cX12_isPeak s m ([.ref (ad 0), .int a0] : List Value).toArray (Cond.code yX12_isPeak cX12_isPeak 2 (some .boolean) :: wsM) D cI cJ cZ := ⟨hx, hb, hts, hown, hK, fun w h => .tail _ (iM_x h)⟩
  have hl := lv_entry ([.ref (ad 0), .int a0]) (n := 2) (Nat.le_of_ble_eq_true rfl)
  rw [lg_entry_eq]
  generalize (lg_sl ([.ref (ad 0), .int a0]) ++ List.replicate (2 - (lg_sl ([.ref (ad 0), .int a0])).length) Slot.unset).toArray = ls at hl ⊢
  have hl : lv_has ls 2 [(0, .ref (ad 0)), (1, .int a0)] := hl
  unfold fr_isPeak at h
  refine lv_aload_n hx hb dX12_isPeak_0 rfl (lv_at hl 0 rfl) ?_
  refine lv_aload_n hx hb dX12_isPeak_1 rfl (lv_at hl 0 rfl) ?_
  refine lv_iload_n hx hb dX12_isPeak_2 rfl (lv_at hl 1 rfl) ?_
  obtain ⟨r5, S2, eS2, h⟩ := obind2_some h
  refine m_calli (As := [.int a0]) (rest := [.ref (ad 0)]) E G hA hR hml (tr_isCell l D cI cJ cZ ad S a0 eS2) (cwV 1 hts (gmV qM_326 qM_327 qM_328 qM_35 qM_307) rfl rfl rfl (by decide +kernel) ⟨Nat.le_of_ble_eq_true rfl, Nat.le_of_ble_eq_true rfl⟩) rfl hl.1 rfl (lv_room (Nat.le_of_ble_eq_true rfl)) dX12_isPeak_3 ⟨Nat.zero_le _, Nat.zero_le _⟩ (fun q3 S4 H locs hq G => ?_)
  obtain ⟨hq1, hq2⟩ := hq
  rw [hq2] at G
  refine lv_to hq1 ?_
  clear hq1 hq2 eS2
  obtain ⟨r9, S6, eS6, h⟩ := obind2_some h
  refine m_calli (As := [.int r5]) (rest := []) E G hA hR hml (tr_mayAsk l D cI cJ cZ ad S2 r5 eS6) (cwV 1 hts (gmV qM_319 qM_320 qM_321 qM_35 qM_304) rfl rfl rfl (by decide +kernel) ⟨Nat.le_of_ble_eq_true rfl, Nat.le_of_ble_eq_true rfl⟩) rfl hl.1 rfl (lv_room (Nat.le_of_ble_eq_true rfl)) dX12_isPeak_6 ⟨Nat.zero_le _, Nat.zero_le _⟩ (fun q7 S8 H locs hq G => ?_)
  obtain ⟨hq1, hq2⟩ := hq
  rw [hq2] at G
  refine lv_to hq1 ?_
  clear hq1 hq2 eS6
  refine lv_if_ne (tgt := 14) hx hb dX12_isPeak_9 (by decide) (fun c10 => ?_) (fun c10 => ?_)
  · have h := oif_neg c10 h
    refine lv_aload_n hx hb dX12_isPeak_14 rfl (lv_at hl 0 rfl) ?_
    refine lv_aload_n hx hb dX12_isPeak_15 rfl (lv_at hl 0 rfl) ?_
    refine m_get E G 12 (v := .ref (ad 12)) (by decide) (.tail _ qM_9) rfl dX12_isPeak_16 rfl ?_
    obtain ⟨S11, eS11, h⟩ := obind_some h
    refine m_callv (As := [.ref (ad 12)]) (rest := []) E G hA hR hml (tr_laysPowers_12 l D cI cJ cZ ad S6 eS11) (cwV 1 hts (gmV qM_301 qM_302 qM_303 qM_35 qM_296) rfl rfl rfl (by decide +kernel) ⟨Nat.le_of_ble_eq_true rfl, Nat.le_of_ble_eq_true rfl⟩) rfl hl.1 rfl (lv_room (Nat.le_of_ble_eq_true rfl)) dX12_isPeak_19 ⟨Nat.zero_le _, Nat.zero_le _⟩ (fun S13 H locs hq G => ?_)
    rw [hq] at G
    clear hq eS11
    refine lv_aload_n hx hb dX12_isPeak_22 rfl (lv_at hl 0 rfl) ?_
    refine lv_iload_n hx hb dX12_isPeak_23 rfl (lv_at hl 1 rfl) ?_
    obtain ⟨r17, S14, eS14, h⟩ := obind2_some h
    refine m_calli (As := [.int a0]) (rest := []) E G hA hR hml (tr_isTop l D cI cJ cZ ad S11 a0 eS14) (cwV 1 hts (gmV qM_367 qM_368 qM_369 qM_35 qM_365) rfl rfl rfl (by decide +kernel) ⟨Nat.le_of_ble_eq_true rfl, Nat.le_of_ble_eq_true rfl⟩) rfl hl.1 rfl (lv_room (Nat.le_of_ble_eq_true rfl)) dX12_isPeak_24 ⟨Nat.zero_le _, Nat.zero_le _⟩ (fun q15 S16 H locs hq G => ?_)
    obtain ⟨hq1, hq2⟩ := hq
    rw [hq2] at G
    refine lv_to hq1 ?_
    clear hq1 hq2 eS14
    obtain ⟨gz, h⟩ := oif_some h
    exact W.zret (v := r17) hx hb hr (nar01 gz) (fun t ht hW => ⟨⟨r17, S14, rfl, osome2 h, ⟨by rw [ht]; exact G.1, va_K.moved hW.alike hK, G.2.1⟩⟩, G.2.2.F ht⟩) G.2.2.2.2 dX12_isPeak_27
  · have h := oif_pos c10 h
    refine lv_iconst (v := 0) hx hb dX12_isPeak_12 (by decide) ?_
    exact W.zret (v := 0) hx hb hr rfl (fun t ht hW => ⟨⟨0, S6, rfl, osome2 h, ⟨by rw [ht]; exact G.1, va_K.moved hW.alike hK, G.2.1⟩⟩, G.2.2.F ht⟩) G.2.2.2.2 dX12_isPeak_13
def fr_contrast_b81  (S : MS) (s0 : UInt32) : Option (UInt32 × MS) := some (s0, S)
set_option maxHeartbeats 4000000 in
set_option maxRecDepth 100000 in
theorem tr_contrast_b81 {p : Program} {l : Launch} {e : Env} {s : State} {m : MethodId} {args : Array Value} {below : List Frame} {meth : Method} {c : Code} {Q : State → Prop} {D : va_G} {A : Nat → Prop} {H0 : Heap} {cI cJ cZ : ClassId} {ad : Nat → Nat} {r1 : UInt32} {S1 : MS} (E : mE p c cX12_contrast s m args (Cond.code yX12_contrast cX12_contrast 5 (some .float) :: wsM) D cI cJ cZ) (hA : ∀ q : Nat, H0.size ≤ q → A q) (hR : sR s) (hml : c.maxLocals = 5) (kr9 : ∀ (H : Heap) (locs : List Loc) (ls : Array Slot), mG D cI cJ cZ ad A H0 H locs S1 → W p l e { frames := 8, cells := 0, slots := 0, locals := 163 } s m args below meth c H locs 0 0 Q (F0 m 9 ls [.float r1])) (kr81 : ∀ (H : Heap) (locs : List Loc) (ls : Array Slot), mG D cI cJ cZ ad A H0 H locs S1 → W p l e { frames := 8, cells := 0, slots := 0, locals := 163 } s m args below meth c H locs 0 0 Q (F0 m 81 ls [.float r1])) : ∀ (S : MS) (H : Heap) (locs : List Loc) (ls : Array Slot) (s0 : UInt32), fr_contrast_b81 S s0 = some (r1, S1) → mG D cI cJ cZ ad A H0 H locs S → lv_has ls 5 [] → W p l e { frames := 8, cells := 0, slots := 0, locals := 163 } s m args below meth c H locs 0 0 Q (F0 m 81 ls [.float s0]) := by
  have hx := E.1
  have hb := E.2.1
  have hts := E.2.2.1
  have hown := E.2.2.2.1
  have hK := E.2.2.2.2.1
  intro S H locs ls s0 h G hl
  unfold fr_contrast_b81 at h
  rw [(osome2 h).2] at G
  refine lv_tof (osome2 h).1 ?_
  exact kr81 _ _ _ G
def fr_contrast_b54 (k24 : MS → Int32 → Int64 → Int32 → Option (UInt32 × MS)) (S : MS) (s0 : Int64) (l1 : Int32) (l4 : Int32) : Option (UInt32 × MS) := elet (l4 + Int32.ofInt (1)) fun v2 => k24 S l1 s0 v2
set_option maxHeartbeats 4000000 in
set_option maxRecDepth 100000 in
theorem tr_contrast_b54 {p : Program} {l : Launch} {e : Env} {s : State} {m : MethodId} {args : Array Value} {below : List Frame} {meth : Method} {c : Code} {Q : State → Prop} {D : va_G} {A : Nat → Prop} {H0 : Heap} {cI cJ cZ : ClassId} {ad : Nat → Nat} {r1 : UInt32} {S1 : MS} (E : mE p c cX12_contrast s m args (Cond.code yX12_contrast cX12_contrast 5 (some .float) :: wsM) D cI cJ cZ) (hA : ∀ q : Nat, H0.size ≤ q → A q) (hR : sR s) (hml : c.maxLocals = 5) (kr9 : ∀ (H : Heap) (locs : List Loc) (ls : Array Slot), mG D cI cJ cZ ad A H0 H locs S1 → W p l e { frames := 8, cells := 0, slots := 0, locals := 163 } s m args below meth c H locs 0 0 Q (F0 m 9 ls [.float r1])) (kr81 : ∀ (H : Heap) (locs : List Loc) (ls : Array Slot), mG D cI cJ cZ ad A H0 H locs S1 → W p l e { frames := 8, cells := 0, slots := 0, locals := 163 } s m args below meth c H locs 0 0 Q (F0 m 81 ls [.float r1])) {k24 : MS → Int32 → Int64 → Int32 → Option (UInt32 × MS)} (hk24 : ∀ (S : MS) (H : Heap) (locs : List Loc) (ls : Array Slot) (l1 : Int32) (l2 : Int64) (l4 : Int32), k24 S l1 l2 l4 = some (r1, S1) → mG D cI cJ cZ ad A H0 H locs S → lv_has ls 5 [(0, .ref (ad 0)), (1, .int l1), (2, .long l2), (4, .int l4)] → W p l e { frames := 8, cells := 0, slots := 0, locals := 163 } s m args below meth c H locs 0 0 Q (F0 m 24 ls [])) : ∀ (S : MS) (H : Heap) (locs : List Loc) (ls : Array Slot) (s0 : Int64) (l1 : Int32) (l4 : Int32), fr_contrast_b54 k24 S s0 l1 l4 = some (r1, S1) → mG D cI cJ cZ ad A H0 H locs S → lv_has ls 5 [(0, .ref (ad 0)), (1, .int l1), (4, .int l4)] → W p l e { frames := 8, cells := 0, slots := 0, locals := 163 } s m args below meth c H locs 0 0 Q (F0 m 54 ls [.long s0]) := by
  have hx := E.1
  have hb := E.2.1
  have hts := E.2.2.1
  have hown := E.2.2.2.1
  have hK := E.2.2.2.2.1
  intro S H locs ls s0 l1 l4 h G hl
  unfold fr_contrast_b54 at h
  refine lv_lstore_n (lv' := [(2, .long s0), (0, .ref (ad 0)), (1, .int l1), (4, .int l4)]) hx hb dX12_contrast_54 rfl hl (by decide) rfl (fun ls hl => ?_)
  obtain ⟨v2, ev2, h⟩ := elet_some h
  refine lv_iinc (v := v2) (lv' := [(4, .int v2), (2, .long s0), (0, .ref (ad 0)), (1, .int l1)]) hx hb dX12_contrast_55 hl (k := 3) rfl ev2.symm (by decide) rfl (fun ls hl => ?_)
  refine lv_goto (tgt := 24) hx hb dX12_contrast_58 (by decide) ?_
  have hl := lv_sub hl [2, 3, 1, 0] rfl
  exact hk24 _ _ _ _ _ _ _ h G hl
def fr_contrast_b24  : Nat → MS → Int32 → Int64 → Int32 → Option (UInt32 × MS)
  | 0, _, _, _, _ => none
  | n + 1, S, l1, l2, l4 => obind2 (fr_cellCount S) fun r5 S2 => if r5 ≤ l4 then (elet (lg_cmp l2 (0 : Int64)) fun v7 => if v7 = 0 then (fr_contrast_b81 S2 FP.fconst0) else (oif (inb l1 144 = true) <| elet (S2.2.2 25 l1.toNatClampNeg) fun v10 => elet (FP.l2f v10) fun v11 => elet (FP.l2f l2) fun v12 => oif (FP.fdiv v11 v12 &&& 0x7fffffff ≤ 0x7f800000) <| elet (FP.fdiv v11 v12) fun v14 => fr_contrast_b81 S2 v14)) else (if l4 = l1 then (fr_contrast_b54 (fr_contrast_b24 n) S2 l2 l1 l4) else (oif (inb l4 144 = true) <| elet (S2.2.2 25 l4.toNatClampNeg) fun v17 => elet (if v17 < l2 then l2 else v17) fun v18 => fr_contrast_b54 (fr_contrast_b24 n) S2 v18 l1 l4))
set_option maxHeartbeats 4000000 in
set_option maxRecDepth 100000 in
theorem tr_contrast_b24 {p : Program} {l : Launch} {e : Env} {s : State} {m : MethodId} {args : Array Value} {below : List Frame} {meth : Method} {c : Code} {Q : State → Prop} {D : va_G} {A : Nat → Prop} {H0 : Heap} {cI cJ cZ : ClassId} {ad : Nat → Nat} {r1 : UInt32} {S1 : MS} (E : mE p c cX12_contrast s m args (Cond.code yX12_contrast cX12_contrast 5 (some .float) :: wsM) D cI cJ cZ) (hA : ∀ q : Nat, H0.size ≤ q → A q) (hR : sR s) (hml : c.maxLocals = 5) (kr9 : ∀ (H : Heap) (locs : List Loc) (ls : Array Slot), mG D cI cJ cZ ad A H0 H locs S1 → W p l e { frames := 8, cells := 0, slots := 0, locals := 163 } s m args below meth c H locs 0 0 Q (F0 m 9 ls [.float r1])) (kr81 : ∀ (H : Heap) (locs : List Loc) (ls : Array Slot), mG D cI cJ cZ ad A H0 H locs S1 → W p l e { frames := 8, cells := 0, slots := 0, locals := 163 } s m args below meth c H locs 0 0 Q (F0 m 81 ls [.float r1])) : ∀ n : Nat, ∀ (S : MS) (H : Heap) (locs : List Loc) (ls : Array Slot) (l1 : Int32) (l2 : Int64) (l4 : Int32), fr_contrast_b24 n S l1 l2 l4 = some (r1, S1) → mG D cI cJ cZ ad A H0 H locs S → lv_has ls 5 [(0, .ref (ad 0)), (1, .int l1), (2, .long l2), (4, .int l4)] → W p l e { frames := 8, cells := 0, slots := 0, locals := 163 } s m args below meth c H locs 0 0 Q (F0 m 24 ls []) := by
  have hx := E.1
  have hb := E.2.1
  have hts := E.2.2.1
  have hown := E.2.2.2.1
  have hK := E.2.2.2.2.1
  intro n
  induction n with
  | zero =>
    intro S H locs ls l1 l2 l4 h
    have h : (none : Option (UInt32 × MS)) = some (r1, S1) := h
    cases h
  | succ n ih =>
    intro S H locs ls l1 l2 l4 h G hl
    unfold fr_contrast_b24 at h
    refine lv_iload hx hb dX12_contrast_24 (lv_at hl 3 rfl) ?_
    refine lv_aload_n hx hb dX12_contrast_26 rfl (lv_at hl 0 rfl) ?_
    obtain ⟨r5, S2, eS2, h⟩ := obind2_some h
    refine m_calli (As := []) (rest := [.int l4]) E G hA hR hml (tr_cellCount l D cI cJ cZ ad S eS2) (cwV 0 hts (gmV qM_204 qM_205 qM_206 qM_35 qM_207) rfl rfl rfl (by decide +kernel) ⟨Nat.le_of_ble_eq_true rfl, Nat.le_of_ble_eq_true rfl⟩) rfl hl.1 rfl (lv_room (Nat.le_of_ble_eq_true rfl)) dX12_contrast_27 ⟨Nat.zero_le _, Nat.zero_le _⟩ (fun q3 S4 H locs hq G => ?_)
    obtain ⟨hq1, hq2⟩ := hq
    rw [hq2] at G
    refine lv_to hq1 ?_
    clear hq1 hq2 eS2
    refine lv_icmp_ge (tgt := 61) hx hb dX12_contrast_30 (by decide) (fun c6 => ?_) (fun c6 => ?_)
    · have h := oif_pos c6 h
      refine lv_lload_n hx hb dX12_contrast_61 rfl (lv_at hl 2 rfl) ?_
      refine lv_lconst (v := 0) hx hb dX12_contrast_62 (by decide) ?_
      refine W.lcmp hx hb dX12_contrast_63 ?_
      refine lv_topi (fun v7 ev7 => ?_)
      have h := elet_at ev7 h
      clear ev7
      refine lv_if_ne (tgt := 71) hx hb dX12_contrast_64 (by decide) (fun c8 => ?_) (fun c8 => ?_)
      · have h := oif_neg c8 h
        refine lv_aload_n hx hb dX12_contrast_71 rfl (lv_at hl 0 rfl) ?_
        refine m_get E G 25 (v := .ref (ad 25)) (by decide) (.tail _ qM_21) rfl dX12_contrast_72 rfl ?_
        refine lv_iload_n hx hb dX12_contrast_75 rfl (lv_at hl 1 rfl) ?_
        obtain ⟨g9, h⟩ := oif_some h
        refine m_lald E G 25 13 (n := 144) (k := l1.toNatClampNeg) rfl (inb_k g9).1 (inb_k g9).2 (by decide) dX12_contrast_76 ?_
        refine lv_topl (fun v10 ev10 => ?_)
        have h := elet_at ev10 h
        clear ev10
        refine lv_l2f hx hb dX12_contrast_77 ?_
        refine lv_topf (fun v11 ev11 => ?_)
        have h := elet_at ev11 h
        clear ev11
        refine lv_lload_n hx hb dX12_contrast_78 rfl (lv_at hl 2 rfl) ?_
        refine lv_l2f hx hb dX12_contrast_79 ?_
        refine lv_topf (fun v12 ev12 => ?_)
        have h := elet_at ev12 h
        clear ev12
        obtain ⟨g13, h⟩ := oif_some h
        refine lv_fdiv hx hb dX12_contrast_80 g13 ?_
        refine lv_topf (fun v14 ev14 => ?_)
        have h := elet_at ev14 h
        clear ev14
        have hl := lv_sub hl [] rfl
        exact tr_contrast_b81 E hA hR hml kr9 kr81 _ _ _ _ _ h G hl
      · have h := oif_pos c8 h
        refine lv_fconst0 hx hb dX12_contrast_67 ?_
        refine lv_goto (tgt := 81) hx hb dX12_contrast_68 (by decide) ?_
        have hl := lv_sub hl [] rfl
        exact tr_contrast_b81 E hA hR hml kr9 kr81 _ _ _ _ _ h G hl
    · have h := oif_neg c6 h
      refine lv_iload hx hb dX12_contrast_33 (lv_at hl 3 rfl) ?_
      refine lv_iload_n hx hb dX12_contrast_35 rfl (lv_at hl 1 rfl) ?_
      refine lv_icmp_ne (tgt := 43) hx hb dX12_contrast_36 (by decide) (fun c15 => ?_) (fun c15 => ?_)
      · have h := oif_neg c15 h
        refine lv_lload_n hx hb dX12_contrast_43 rfl (lv_at hl 2 rfl) ?_
        refine lv_aload_n hx hb dX12_contrast_44 rfl (lv_at hl 0 rfl) ?_
        refine m_get E G 25 (v := .ref (ad 25)) (by decide) (.tail _ qM_21) rfl dX12_contrast_45 rfl ?_
        refine lv_iload hx hb dX12_contrast_48 (lv_at hl 3 rfl) ?_
        obtain ⟨g16, h⟩ := oif_some h
        refine m_lald E G 25 13 (n := 144) (k := l4.toNatClampNeg) rfl (inb_k g16).1 (inb_k g16).2 (by decide) dX12_contrast_50 ?_
        refine lv_topl (fun v17 ev17 => ?_)
        have h := elet_at ev17 h
        clear ev17
        refine va_mmax_long hx hb (hml.trans hl.1.symm) hown (hts _ (.tail _ qM_377)) (hts _ (.tail _ qM_378)) (hts _ (.tail _ qM_247)) (hts _ (.tail _ qM_379)) (Nat.le_of_ble_eq_true rfl) (Nat.le_of_ble_eq_true rfl) (Nat.zero_le _) (Nat.zero_le _) dX12_contrast_51 ?_
        refine lv_topl (fun v18 ev18 => ?_)
        have h := elet_at ev18 h
        clear ev18
        have hl := lv_sub hl [0, 1, 3] rfl
        exact tr_contrast_b54 E hA hR hml kr9 kr81 ih _ _ _ _ _ _ _ h G hl
      · have h := oif_pos c15 h
        refine lv_lload_n hx hb dX12_contrast_39 rfl (lv_at hl 2 rfl) ?_
        refine lv_goto (tgt := 54) hx hb dX12_contrast_40 (by decide) ?_
        have hl := lv_sub hl [0, 1, 3] rfl
        exact tr_contrast_b54 E hA hR hml kr9 kr81 ih _ _ _ _ _ _ _ h G hl
def fr_contrast (S : MS)  : Option (UInt32 × MS) := obind2 (fr_mayAsk S 1) fun r5 S2 => if r5 = 0 then (some (FP.fconst0, S2)) else (obind2 (fr_bestIn_12 S2) fun r10 S7 => fr_contrast_b24 16384 S7 r10 (0 : Int64) 0)
set_option maxHeartbeats 4000000 in
set_option maxRecDepth 100000 in
theorem tr_contrast (l : Launch) (D : va_G) (cI cJ cZ : ClassId) (ad : Nat → Nat) (S : MS)  {r1 : UInt32} {S1 : MS} (h : fr_contrast S = some (r1, S1)) : mCf l yX12_contrast (Cond.code yX12_contrast cX12_contrast 5 (some .float) :: wsM) 8 163 D cI cJ cZ ad S [] (fun r S9 => r = r1 ∧ S9 = S1) := by
  intro sz
  refine Met.ofW (cc := cX12_contrast) (maxL := 5) (ret := (some .float)) (by decide) rfl ?_
  intro p e s m args below meth c s₁ B hml hv
  obtain ⟨rfl, hsz, hP, hK, hD0, hR⟩ := hv
  have hx := B.exec
  have hb := B.bytes
  have hr := B.returns
  have hts := atoms_spec (ws := (Cond.code yX12_contrast cX12_contrast 5 (some .float) :: wsM)) B.pre
  have hown : s.vm.findClass RX12 = some m.cls := findClass_of_methodNamed B.named
  have hlocks := B.notSynchronized
  subst hsz
  have hD := hD0.self (sz := s.heap.size)
  generalize hAe : va_A (MW cI cJ cZ ad S) s.heap.size = A at hD ⊢
  have hA : ∀ q : Nat, s.heap.size ≤ q → A q := fun q h => by rw [← hAe]; exact Or.inr h
  have G : mG D cI cJ cZ ad A s.heap s.heap [] S := ⟨hP, hD, va_S.rf⟩
  have E : mE p c cX12_contrast s m ([.ref (ad 0)] : List Value).toArray (Cond.code yX12_contrast cX12_contrast 5 (some .float) :: wsM) D cI cJ cZ := ⟨hx, hb, hts, hown, hK, fun w h => .tail _ (iM_x h)⟩
  have hl := lv_entry ([.ref (ad 0)]) (n := 5) (Nat.le_of_ble_eq_true rfl)
  rw [lg_entry_eq]
  generalize (lg_sl ([.ref (ad 0)]) ++ List.replicate (5 - (lg_sl ([.ref (ad 0)])).length) Slot.unset).toArray = ls at hl ⊢
  have hl : lv_has ls 5 [(0, .ref (ad 0))] := hl
  unfold fr_contrast at h
  refine lv_aload_n hx hb dX12_contrast_0 rfl (lv_at hl 0 rfl) ?_
  refine lv_iconst (v := 1) hx hb dX12_contrast_1 (by decide) ?_
  obtain ⟨r5, S2, eS2, h⟩ := obind2_some h
  refine m_calli (As := [.int 1]) (rest := []) E G hA hR hml (tr_mayAsk l D cI cJ cZ ad S 1 eS2) (cwV 1 hts (gmV qM_319 qM_320 qM_321 qM_35 qM_304) rfl rfl rfl (by decide +kernel) ⟨Nat.le_of_ble_eq_true rfl, Nat.le_of_ble_eq_true rfl⟩) rfl hl.1 rfl (lv_room (Nat.le_of_ble_eq_true rfl)) dX12_contrast_2 ⟨Nat.zero_le _, Nat.zero_le _⟩ (fun q3 S4 H locs hq G => ?_)
  obtain ⟨hq1, hq2⟩ := hq
  rw [hq2] at G
  refine lv_to hq1 ?_
  clear hq1 hq2 eS2
  refine lv_if_ne (tgt := 10) hx hb dX12_contrast_5 (by decide) (fun c6 => ?_) (fun c6 => ?_)
  · have h := oif_neg c6 h
    refine lv_aload_n hx hb dX12_contrast_10 rfl (lv_at hl 0 rfl) ?_
    refine lv_aload_n hx hb dX12_contrast_11 rfl (lv_at hl 0 rfl) ?_
    refine m_get E G 12 (v := .ref (ad 12)) (by decide) (.tail _ qM_9) rfl dX12_contrast_12 rfl ?_
    obtain ⟨r10, S7, eS7, h⟩ := obind2_some h
    refine m_calli (As := [.ref (ad 12)]) (rest := []) E G hA hR hml (tr_bestIn_12 l D cI cJ cZ ad S2 eS7) (cwV 1 hts (gmV qM_360 qM_361 qM_362 qM_35 qM_300) rfl rfl rfl (by decide +kernel) ⟨Nat.le_of_ble_eq_true rfl, Nat.le_of_ble_eq_true rfl⟩) rfl hl.1 rfl (lv_room (Nat.le_of_ble_eq_true rfl)) dX12_contrast_15 ⟨Nat.zero_le _, Nat.zero_le _⟩ (fun q8 S9 H locs hq G => ?_)
    obtain ⟨hq1, hq2⟩ := hq
    rw [hq2] at G
    refine lv_to hq1 ?_
    clear hq1 hq2 eS7
    refine lv_istore_n (lv' := [(1, .int r10), (0, .ref (ad 0))]) hx hb dX12_contrast_18 rfl hl (by decide) rfl (fun ls hl => ?_)
    refine lv_lconst (v := 0) hx hb dX12_contrast_19 (by decide) ?_
    refine lv_lstore_n (lv' := [(2, .long (0 : Int64)), (1, .int r10), (0, .ref (ad 0))]) hx hb dX12_contrast_20 rfl hl (by decide) rfl (fun ls hl => ?_)
    refine lv_iconst (v := 0) hx hb dX12_contrast_21 (by decide) ?_
    refine lv_istore (lv' := [(4, .int 0), (2, .long (0 : Int64)), (1, .int r10), (0, .ref (ad 0))]) hx hb dX12_contrast_22 hl (by decide) rfl (fun ls hl => ?_)
    have hl := lv_sub hl [3, 2, 1, 0] rfl
    exact tr_contrast_b24 E hA hR hml (fun H locs ls G => W.fret (v := r1) hx hb hr (fun t ht hW => ⟨⟨r1, S1, rfl, ⟨rfl, rfl⟩, ⟨by rw [ht]; exact G.1, va_K.moved hW.alike hK, G.2.1⟩⟩, G.2.2.F ht⟩) G.2.2.2.2 dX12_contrast_9) (fun H locs ls G => W.fret (v := r1) hx hb hr (fun t ht hW => ⟨⟨r1, S1, rfl, ⟨rfl, rfl⟩, ⟨by rw [ht]; exact G.1, va_K.moved hW.alike hK, G.2.1⟩⟩, G.2.2.F ht⟩) G.2.2.2.2 dX12_contrast_81) _ _ _ _ _ _ _ _ h G hl
  · have h := oif_pos c6 h
    refine lv_fconst0 hx hb dX12_contrast_8 ?_
    exact W.fret (v := FP.fconst0) hx hb hr (fun t ht hW => ⟨⟨FP.fconst0, S2, rfl, osome2 h, ⟨by rw [ht]; exact G.1, va_K.moved hW.alike hK, G.2.1⟩⟩, G.2.2.F ht⟩) G.2.2.2.2 dX12_contrast_9
def fr_shift (S : MS) (a0 : Int32) (a1 : Int32) (a2 : Int32) : Option (Int32 × MS) := elet (12 * a0) fun v2 => elet (v2 + a2) fun v3 => oif (inb v3 1728 = true) <| elet (S.2.1 17 v3.toNatClampNeg) fun v5 => elet (12 * a1) fun v6 => elet (v6 + a2) fun v7 => oif (inb v7 1728 = true) <| elet (S.2.1 17 v7.toNatClampNeg) fun v9 => elet (v5 - v9) fun v10 => some (v10, S)
set_option maxHeartbeats 4000000 in
set_option maxRecDepth 100000 in
theorem tr_shift (l : Launch) (D : va_G) (cI cJ cZ : ClassId) (ad : Nat → Nat) (S : MS) (a0 : Int32) (a1 : Int32) (a2 : Int32) {r1 : Int32} {S1 : MS} (h : fr_shift S a0 a1 a2 = some (r1, S1)) : mCi l yX12_shift (Cond.code yX12_shift cX12_shift 4 (some .int) :: wsM) 1 0 D cI cJ cZ ad S [.int a0, .int a1, .int a2] (fun r S9 => r = r1 ∧ S9 = S1) := by
  intro sz
  refine Met.ofW (cc := cX12_shift) (maxL := 4) (ret := (some .int)) (by decide) rfl ?_
  intro p e s m args below meth c s₁ B hml hv
  obtain ⟨rfl, hsz, hP, hK, hD0, hR⟩ := hv
  have hx := B.exec
  have hb := B.bytes
  have hr := B.returns
  have hts := atoms_spec (ws := (Cond.code yX12_shift cX12_shift 4 (some .int) :: wsM)) B.pre
  have hown : s.vm.findClass RX12 = some m.cls := findClass_of_methodNamed B.named
  have hlocks := B.notSynchronized
  subst hsz
  have hD := hD0.self (sz := s.heap.size)
  generalize hAe : va_A (MW cI cJ cZ ad S) s.heap.size = A at hD ⊢
  have hA : ∀ q : Nat, s.heap.size ≤ q → A q := fun q h => by rw [← hAe]; exact Or.inr h
  have G : mG D cI cJ cZ ad A s.heap s.heap [] S := ⟨hP, hD, va_S.rf⟩
  have E : mE p c cX12_shift s m ([.ref (ad 0), .int a0, .int a1, .int a2] : List Value).toArray (Cond.code yX12_shift cX12_shift 4 (some .int) :: wsM) D cI cJ cZ := ⟨hx, hb, hts, hown, hK, fun w h => .tail _ (iM_x h)⟩
  have hl := lv_entry ([.ref (ad 0), .int a0, .int a1, .int a2]) (n := 4) (Nat.le_of_ble_eq_true rfl)
  rw [lg_entry_eq]
  generalize (lg_sl ([.ref (ad 0), .int a0, .int a1, .int a2]) ++ List.replicate (4 - (lg_sl ([.ref (ad 0), .int a0, .int a1, .int a2])).length) Slot.unset).toArray = ls at hl ⊢
  have hl : lv_has ls 4 [(0, .ref (ad 0)), (1, .int a0), (2, .int a1), (3, .int a2)] := hl
  unfold fr_shift at h
  refine lv_aload_n hx hb dX12_shift_0 rfl (lv_at hl 0 rfl) ?_
  refine m_get E G 17 (v := .ref (ad 17)) (by decide) (.tail _ qM_14) rfl dX12_shift_1 rfl ?_
  refine lv_bipush (v := 12) hx hb dX12_shift_4 (by decide) ?_
  refine lv_iload_n hx hb dX12_shift_6 rfl (lv_at hl 1 rfl) ?_
  refine lv_imul hx hb dX12_shift_7 ?_
  refine lv_topi (fun v2 ev2 => ?_)
  have h := elet_at ev2 h
  clear ev2
  refine lv_iload_n hx hb dX12_shift_8 rfl (lv_at hl 3 rfl) ?_
  refine lv_iadd hx hb dX12_shift_9 ?_
  refine lv_topi (fun v3 ev3 => ?_)
  have h := elet_at ev3 h
  clear ev3
  obtain ⟨g4, h⟩ := oif_some h
  refine m_iald E G 17 9 (n := 1728) (k := v3.toNatClampNeg) rfl (inb_k g4).1 (inb_k g4).2 (by decide) dX12_shift_10 ?_
  refine lv_topi (fun v5 ev5 => ?_)
  have h := elet_at ev5 h
  clear ev5
  refine lv_aload_n hx hb dX12_shift_11 rfl (lv_at hl 0 rfl) ?_
  refine m_get E G 17 (v := .ref (ad 17)) (by decide) (.tail _ qM_14) rfl dX12_shift_12 rfl ?_
  refine lv_bipush (v := 12) hx hb dX12_shift_15 (by decide) ?_
  refine lv_iload_n hx hb dX12_shift_17 rfl (lv_at hl 2 rfl) ?_
  refine lv_imul hx hb dX12_shift_18 ?_
  refine lv_topi (fun v6 ev6 => ?_)
  have h := elet_at ev6 h
  clear ev6
  refine lv_iload_n hx hb dX12_shift_19 rfl (lv_at hl 3 rfl) ?_
  refine lv_iadd hx hb dX12_shift_20 ?_
  refine lv_topi (fun v7 ev7 => ?_)
  have h := elet_at ev7 h
  clear ev7
  obtain ⟨g8, h⟩ := oif_some h
  refine m_iald E G 17 9 (n := 1728) (k := v7.toNatClampNeg) rfl (inb_k g8).1 (inb_k g8).2 (by decide) dX12_shift_21 ?_
  refine lv_topi (fun v9 ev9 => ?_)
  have h := elet_at ev9 h
  clear ev9
  refine lv_isub hx hb dX12_shift_22 ?_
  refine lv_topi (fun v10 ev10 => ?_)
  have h := elet_at ev10 h
  clear ev10
  exact W.iret (v := v10) hx hb hr (fun t ht hW => ⟨⟨v10, S, rfl, osome2 h, ⟨by rw [ht]; exact G.1, va_K.moved hW.alike hK, G.2.1⟩⟩, G.2.2.F ht⟩) G.2.2.2.2 dX12_shift_23
def fr_confusion_b110 (k6 : MS → Int32 → Int32 → Int32 → Int32 → Int32 → Option (Int32 × MS)) (S : MS) (s0 : Int32) (l1 : Int32) (l2 : Int32) (l3 : Int32) (l5 : Int32) : Option (Int32 × MS) := elet (l5 + Int32.ofInt (1)) fun v2 => k6 S l1 l2 l3 s0 v2
set_option maxHeartbeats 4000000 in
set_option maxRecDepth 100000 in
theorem tr_confusion_b110 {p : Program} {l : Launch} {e : Env} {s : State} {m : MethodId} {args : Array Value} {below : List Frame} {meth : Method} {c : Code} {Q : State → Prop} {D : va_G} {A : Nat → Prop} {H0 : Heap} {cI cJ cZ : ClassId} {ad : Nat → Nat} {r1 : Int32} {S1 : MS} (E : mE p c cX12_confusion s m args (Cond.code yX12_confusion cX12_confusion 8 (some .int) :: wsM) D cI cJ cZ) (hA : ∀ q : Nat, H0.size ≤ q → A q) (hR : sR s) (hml : c.maxLocals = 8) (kr120 : ∀ (H : Heap) (locs : List Loc) (ls : Array Slot), mG D cI cJ cZ ad A H0 H locs S1 → W p l e { frames := 2, cells := 0, slots := 0, locals := 23 } s m args below meth c H locs 0 0 Q (F0 m 120 ls [.int r1])) {k6 : MS → Int32 → Int32 → Int32 → Int32 → Int32 → Option (Int32 × MS)} (hk6 : ∀ (S : MS) (H : Heap) (locs : List Loc) (ls : Array Slot) (l1 : Int32) (l2 : Int32) (l3 : Int32) (l4 : Int32) (l5 : Int32), k6 S l1 l2 l3 l4 l5 = some (r1, S1) → mG D cI cJ cZ ad A H0 H locs S → lv_has ls 8 [(0, .ref (ad 0)), (1, .int l1), (2, .int l2), (3, .int l3), (4, .int l4), (5, .int l5)] → W p l e { frames := 2, cells := 0, slots := 0, locals := 23 } s m args below meth c H locs 0 0 Q (F0 m 6 ls [])) : ∀ (S : MS) (H : Heap) (locs : List Loc) (ls : Array Slot) (s0 : Int32) (l1 : Int32) (l2 : Int32) (l3 : Int32) (l5 : Int32), fr_confusion_b110 k6 S s0 l1 l2 l3 l5 = some (r1, S1) → mG D cI cJ cZ ad A H0 H locs S → lv_has ls 8 [(0, .ref (ad 0)), (1, .int l1), (2, .int l2), (3, .int l3), (5, .int l5)] → W p l e { frames := 2, cells := 0, slots := 0, locals := 23 } s m args below meth c H locs 0 0 Q (F0 m 110 ls [.int s0]) := by
  have hx := E.1
  have hb := E.2.1
  have hts := E.2.2.1
  have hown := E.2.2.2.1
  have hK := E.2.2.2.2.1
  intro S H locs ls s0 l1 l2 l3 l5 h G hl
  unfold fr_confusion_b110 at h
  refine lv_istore (lv' := [(4, .int s0), (0, .ref (ad 0)), (1, .int l1), (2, .int l2), (3, .int l3), (5, .int l5)]) hx hb dX12_confusion_110 hl (by decide) rfl (fun ls hl => ?_)
  obtain ⟨v2, ev2, h⟩ := elet_some h
  refine lv_iinc (v := v2) (lv' := [(5, .int v2), (4, .int s0), (0, .ref (ad 0)), (1, .int l1), (2, .int l2), (3, .int l3)]) hx hb dX12_confusion_112 hl (k := 5) rfl ev2.symm (by decide) rfl (fun ls hl => ?_)
  refine lv_goto (tgt := 6) hx hb dX12_confusion_115 (by decide) ?_
  have hl := lv_sub hl [2, 3, 4, 5, 1, 0] rfl
  exact hk6 _ _ _ _ _ _ _ _ _ h G hl
def fr_confusion_b76 (k6 : MS → Int32 → Int32 → Int32 → Int32 → Int32 → Option (Int32 × MS)) (k23 : MS → Int32 → Int32 → Int32 → Int32 → Int32 → Int32 → Int32 → Option (Int32 × MS)) (S : MS) (s0 : Int32) (s1 : Int32) (l1 : Int32) (l2 : Int32) (l3 : Int32) (l4 : Int32) (l5 : Int32) (l7 : Int32) : Option (Int32 × MS) := elet (s1 + s0) fun v2 => elet (l7 + Int32.ofInt (1)) fun v3 => k23 S l1 l2 l3 l4 l5 v2 v3
set_option maxHeartbeats 4000000 in
set_option maxRecDepth 100000 in
theorem tr_confusion_b76 {p : Program} {l : Launch} {e : Env} {s : State} {m : MethodId} {args : Array Value} {below : List Frame} {meth : Method} {c : Code} {Q : State → Prop} {D : va_G} {A : Nat → Prop} {H0 : Heap} {cI cJ cZ : ClassId} {ad : Nat → Nat} {r1 : Int32} {S1 : MS} (E : mE p c cX12_confusion s m args (Cond.code yX12_confusion cX12_confusion 8 (some .int) :: wsM) D cI cJ cZ) (hA : ∀ q : Nat, H0.size ≤ q → A q) (hR : sR s) (hml : c.maxLocals = 8) (kr120 : ∀ (H : Heap) (locs : List Loc) (ls : Array Slot), mG D cI cJ cZ ad A H0 H locs S1 → W p l e { frames := 2, cells := 0, slots := 0, locals := 23 } s m args below meth c H locs 0 0 Q (F0 m 120 ls [.int r1])) {k6 : MS → Int32 → Int32 → Int32 → Int32 → Int32 → Option (Int32 × MS)} {k23 : MS → Int32 → Int32 → Int32 → Int32 → Int32 → Int32 → Int32 → Option (Int32 × MS)} (hk6 : ∀ (S : MS) (H : Heap) (locs : List Loc) (ls : Array Slot) (l1 : Int32) (l2 : Int32) (l3 : Int32) (l4 : Int32) (l5 : Int32), k6 S l1 l2 l3 l4 l5 = some (r1, S1) → mG D cI cJ cZ ad A H0 H locs S → lv_has ls 8 [(0, .ref (ad 0)), (1, .int l1), (2, .int l2), (3, .int l3), (4, .int l4), (5, .int l5)] → W p l e { frames := 2, cells := 0, slots := 0, locals := 23 } s m args below meth c H locs 0 0 Q (F0 m 6 ls [])) (hk23 : ∀ (S : MS) (H : Heap) (locs : List Loc) (ls : Array Slot) (l1 : Int32) (l2 : Int32) (l3 : Int32) (l4 : Int32) (l5 : Int32) (l6 : Int32) (l7 : Int32), k23 S l1 l2 l3 l4 l5 l6 l7 = some (r1, S1) → mG D cI cJ cZ ad A H0 H locs S → lv_has ls 8 [(0, .ref (ad 0)), (1, .int l1), (2, .int l2), (3, .int l3), (4, .int l4), (5, .int l5), (6, .int l6), (7, .int l7)] → W p l e { frames := 2, cells := 0, slots := 0, locals := 23 } s m args below meth c H locs 0 0 Q (F0 m 23 ls [])) : ∀ (S : MS) (H : Heap) (locs : List Loc) (ls : Array Slot) (s0 : Int32) (s1 : Int32) (l1 : Int32) (l2 : Int32) (l3 : Int32) (l4 : Int32) (l5 : Int32) (l7 : Int32), fr_confusion_b76 k6 k23 S s0 s1 l1 l2 l3 l4 l5 l7 = some (r1, S1) → mG D cI cJ cZ ad A H0 H locs S → lv_has ls 8 [(0, .ref (ad 0)), (1, .int l1), (2, .int l2), (3, .int l3), (4, .int l4), (5, .int l5), (7, .int l7)] → W p l e { frames := 2, cells := 0, slots := 0, locals := 23 } s m args below meth c H locs 0 0 Q (F0 m 76 ls [.int s0, .int s1]) := by
  have hx := E.1
  have hb := E.2.1
  have hts := E.2.2.1
  have hown := E.2.2.2.1
  have hK := E.2.2.2.2.1
  intro S H locs ls s0 s1 l1 l2 l3 l4 l5 l7 h G hl
  unfold fr_confusion_b76 at h
  refine lv_iadd hx hb dX12_confusion_76 ?_
  refine lv_topi (fun v2 ev2 => ?_)
  have h := elet_at ev2 h
  clear ev2
  refine lv_istore (lv' := [(6, .int v2), (0, .ref (ad 0)), (1, .int l1), (2, .int l2), (3, .int l3), (4, .int l4), (5, .int l5), (7, .int l7)]) hx hb dX12_confusion_77 hl (by decide) rfl (fun ls hl => ?_)
  obtain ⟨v3, ev3, h⟩ := elet_some h
  refine lv_iinc (v := v3) (lv' := [(7, .int v3), (6, .int v2), (0, .ref (ad 0)), (1, .int l1), (2, .int l2), (3, .int l3), (4, .int l4), (5, .int l5)]) hx hb dX12_confusion_79 hl (k := 7) rfl ev3.symm (by decide) rfl (fun ls hl => ?_)
  refine lv_goto (tgt := 23) hx hb dX12_confusion_82 (by decide) ?_
  have hl := lv_sub hl [2, 3, 4, 5, 6, 7, 1, 0] rfl
  exact hk23 _ _ _ _ _ _ _ _ _ _ _ h G hl
def fr_confusion_b75 (k6 : MS → Int32 → Int32 → Int32 → Int32 → Int32 → Option (Int32 × MS)) (k23 : MS → Int32 → Int32 → Int32 → Int32 → Int32 → Int32 → Int32 → Option (Int32 × MS)) (S : MS) (s0 : Int32) (l1 : Int32) (l2 : Int32) (l3 : Int32) (l4 : Int32) (l5 : Int32) (l7 : Int32) : Option (Int32 × MS) := fr_confusion_b76 k6 k23 S 0 s0 l1 l2 l3 l4 l5 l7
set_option maxHeartbeats 4000000 in
set_option maxRecDepth 100000 in
theorem tr_confusion_b75 {p : Program} {l : Launch} {e : Env} {s : State} {m : MethodId} {args : Array Value} {below : List Frame} {meth : Method} {c : Code} {Q : State → Prop} {D : va_G} {A : Nat → Prop} {H0 : Heap} {cI cJ cZ : ClassId} {ad : Nat → Nat} {r1 : Int32} {S1 : MS} (E : mE p c cX12_confusion s m args (Cond.code yX12_confusion cX12_confusion 8 (some .int) :: wsM) D cI cJ cZ) (hA : ∀ q : Nat, H0.size ≤ q → A q) (hR : sR s) (hml : c.maxLocals = 8) (kr120 : ∀ (H : Heap) (locs : List Loc) (ls : Array Slot), mG D cI cJ cZ ad A H0 H locs S1 → W p l e { frames := 2, cells := 0, slots := 0, locals := 23 } s m args below meth c H locs 0 0 Q (F0 m 120 ls [.int r1])) {k6 : MS → Int32 → Int32 → Int32 → Int32 → Int32 → Option (Int32 × MS)} {k23 : MS → Int32 → Int32 → Int32 → Int32 → Int32 → Int32 → Int32 → Option (Int32 × MS)} (hk6 : ∀ (S : MS) (H : Heap) (locs : List Loc) (ls : Array Slot) (l1 : Int32) (l2 : Int32) (l3 : Int32) (l4 : Int32) (l5 : Int32), k6 S l1 l2 l3 l4 l5 = some (r1, S1) → mG D cI cJ cZ ad A H0 H locs S → lv_has ls 8 [(0, .ref (ad 0)), (1, .int l1), (2, .int l2), (3, .int l3), (4, .int l4), (5, .int l5)] → W p l e { frames := 2, cells := 0, slots := 0, locals := 23 } s m args below meth c H locs 0 0 Q (F0 m 6 ls [])) (hk23 : ∀ (S : MS) (H : Heap) (locs : List Loc) (ls : Array Slot) (l1 : Int32) (l2 : Int32) (l3 : Int32) (l4 : Int32) (l5 : Int32) (l6 : Int32) (l7 : Int32), k23 S l1 l2 l3 l4 l5 l6 l7 = some (r1, S1) → mG D cI cJ cZ ad A H0 H locs S → lv_has ls 8 [(0, .ref (ad 0)), (1, .int l1), (2, .int l2), (3, .int l3), (4, .int l4), (5, .int l5), (6, .int l6), (7, .int l7)] → W p l e { frames := 2, cells := 0, slots := 0, locals := 23 } s m args below meth c H locs 0 0 Q (F0 m 23 ls [])) : ∀ (S : MS) (H : Heap) (locs : List Loc) (ls : Array Slot) (s0 : Int32) (l1 : Int32) (l2 : Int32) (l3 : Int32) (l4 : Int32) (l5 : Int32) (l7 : Int32), fr_confusion_b75 k6 k23 S s0 l1 l2 l3 l4 l5 l7 = some (r1, S1) → mG D cI cJ cZ ad A H0 H locs S → lv_has ls 8 [(0, .ref (ad 0)), (1, .int l1), (2, .int l2), (3, .int l3), (4, .int l4), (5, .int l5), (7, .int l7)] → W p l e { frames := 2, cells := 0, slots := 0, locals := 23 } s m args below meth c H locs 0 0 Q (F0 m 75 ls [.int s0]) := by
  have hx := E.1
  have hb := E.2.1
  have hts := E.2.2.1
  have hown := E.2.2.2.1
  have hK := E.2.2.2.2.1
  intro S H locs ls s0 l1 l2 l3 l4 l5 l7 h G hl
  unfold fr_confusion_b75 at h
  refine lv_iconst (v := 0) hx hb dX12_confusion_75 (by decide) ?_
  have hl := lv_sub hl [0, 1, 2, 3, 4, 5, 6] rfl
  exact tr_confusion_b76 E hA hR hml kr120 hk6 hk23 _ _ _ _ _ _ _ _ _ _ _ _ h G hl
def fr_confusion_b23 (k6 : MS → Int32 → Int32 → Int32 → Int32 → Int32 → Option (Int32 × MS)) : Nat → MS → Int32 → Int32 → Int32 → Int32 → Int32 → Int32 → Int32 → Option (Int32 × MS)
  | 0, _, _, _, _, _, _, _, _ => none
  | n + 1, S, l1, l2, l3, l4, l5, l6, l7 => elet (S.2.1 10 4) fun v2 => if v2 ≤ l7 then (obind2 (fr_hears_12 S l5) fun r7 S4 => if r7 = 0 then (fr_confusion_b110 k6 S4 l4 l1 l2 l3 l5) else (elet (if l4 < l6 then l6 else l4) fun v9 => fr_confusion_b110 k6 S4 v9 l1 l2 l3 l5)) else (obind2 (fr_hears_12 S l7) fun r13 S10 => if r13 = 0 then (fr_confusion_b75 k6 (fr_confusion_b23 k6 n) S10 l6 l1 l2 l3 l4 l5 l7) else (obind2 (fr_shift S10 l1 l2 l7) fun r18 S15 => obind2 (fr_shift S15 l1 l2 l5) fun r22 S19 => elet (r18 - r22) fun v23 => oif (¬ l3 = 0) <| elet (v23 - v23 / l3 * l3) fun v25 => if v25 = 0 then (fr_confusion_b76 k6 (fr_confusion_b23 k6 n) S19 1 l6 l1 l2 l3 l4 l5 l7) else (fr_confusion_b75 k6 (fr_confusion_b23 k6 n) S19 l6 l1 l2 l3 l4 l5 l7)))
set_option maxHeartbeats 4000000 in
set_option maxRecDepth 100000 in
theorem tr_confusion_b23 {p : Program} {l : Launch} {e : Env} {s : State} {m : MethodId} {args : Array Value} {below : List Frame} {meth : Method} {c : Code} {Q : State → Prop} {D : va_G} {A : Nat → Prop} {H0 : Heap} {cI cJ cZ : ClassId} {ad : Nat → Nat} {r1 : Int32} {S1 : MS} (E : mE p c cX12_confusion s m args (Cond.code yX12_confusion cX12_confusion 8 (some .int) :: wsM) D cI cJ cZ) (hA : ∀ q : Nat, H0.size ≤ q → A q) (hR : sR s) (hml : c.maxLocals = 8) (kr120 : ∀ (H : Heap) (locs : List Loc) (ls : Array Slot), mG D cI cJ cZ ad A H0 H locs S1 → W p l e { frames := 2, cells := 0, slots := 0, locals := 23 } s m args below meth c H locs 0 0 Q (F0 m 120 ls [.int r1])) {k6 : MS → Int32 → Int32 → Int32 → Int32 → Int32 → Option (Int32 × MS)} (hk6 : ∀ (S : MS) (H : Heap) (locs : List Loc) (ls : Array Slot) (l1 : Int32) (l2 : Int32) (l3 : Int32) (l4 : Int32) (l5 : Int32), k6 S l1 l2 l3 l4 l5 = some (r1, S1) → mG D cI cJ cZ ad A H0 H locs S → lv_has ls 8 [(0, .ref (ad 0)), (1, .int l1), (2, .int l2), (3, .int l3), (4, .int l4), (5, .int l5)] → W p l e { frames := 2, cells := 0, slots := 0, locals := 23 } s m args below meth c H locs 0 0 Q (F0 m 6 ls [])) : ∀ n : Nat, ∀ (S : MS) (H : Heap) (locs : List Loc) (ls : Array Slot) (l1 : Int32) (l2 : Int32) (l3 : Int32) (l4 : Int32) (l5 : Int32) (l6 : Int32) (l7 : Int32), fr_confusion_b23 k6 n S l1 l2 l3 l4 l5 l6 l7 = some (r1, S1) → mG D cI cJ cZ ad A H0 H locs S → lv_has ls 8 [(0, .ref (ad 0)), (1, .int l1), (2, .int l2), (3, .int l3), (4, .int l4), (5, .int l5), (6, .int l6), (7, .int l7)] → W p l e { frames := 2, cells := 0, slots := 0, locals := 23 } s m args below meth c H locs 0 0 Q (F0 m 23 ls []) := by
  have hx := E.1
  have hb := E.2.1
  have hts := E.2.2.1
  have hown := E.2.2.2.1
  have hK := E.2.2.2.2.1
  intro n
  induction n with
  | zero =>
    intro S H locs ls l1 l2 l3 l4 l5 l6 l7 h
    have h : (none : Option (Int32 × MS)) = some (r1, S1) := h
    cases h
  | succ n ih =>
    intro S H locs ls l1 l2 l3 l4 l5 l6 l7 h G hl
    unfold fr_confusion_b23 at h
    refine lv_iload hx hb dX12_confusion_23 (lv_at hl 7 rfl) ?_
    refine lv_aload_n hx hb dX12_confusion_25 rfl (lv_at hl 0 rfl) ?_
    refine m_get E G 10 (v := .ref (ad 10)) (by decide) (.tail _ qM_7) rfl dX12_confusion_26 rfl ?_
    refine lv_iconst (v := 4) hx hb dX12_confusion_29 (by decide) ?_
    refine m_iald E G 10 2 (n := 131) (k := 4) rfl rfl (by decide) (by decide) dX12_confusion_30 ?_
    refine lv_topi (fun v2 ev2 => ?_)
    have h := elet_at ev2 h
    clear ev2
    refine lv_icmp_ge (tgt := 85) hx hb dX12_confusion_31 (by decide) (fun c3 => ?_) (fun c3 => ?_)
    · have h := oif_pos c3 h
      refine lv_aload_n hx hb dX12_confusion_85 rfl (lv_at hl 0 rfl) ?_
      refine lv_aload_n hx hb dX12_confusion_86 rfl (lv_at hl 0 rfl) ?_
      refine m_get E G 12 (v := .ref (ad 12)) (by decide) (.tail _ qM_9) rfl dX12_confusion_87 rfl ?_
      refine lv_iload hx hb dX12_confusion_90 (lv_at hl 5 rfl) ?_
      obtain ⟨r7, S4, eS4, h⟩ := obind2_some h
      refine m_calli (As := [.ref (ad 12), .int l5]) (rest := []) E G hA hR hml (tr_hears_12 l D cI cJ cZ ad S l5 eS4) (cwV 2 hts (gmV qM_274 qM_275 qM_276 qM_35 qM_272) rfl rfl rfl (by decide +kernel) ⟨Nat.le_of_ble_eq_true rfl, Nat.le_of_ble_eq_true rfl⟩) rfl hl.1 rfl (lv_room (Nat.le_of_ble_eq_true rfl)) dX12_confusion_92 ⟨Nat.zero_le _, Nat.zero_le _⟩ (fun q5 S6 H locs hq G => ?_)
      obtain ⟨hq1, hq2⟩ := hq
      rw [hq2] at G
      refine lv_to hq1 ?_
      clear hq1 hq2 eS4
      refine lv_if_eq (tgt := 108) hx hb dX12_confusion_95 (by decide) (fun c8 => ?_) (fun c8 => ?_)
      · have h := oif_pos c8 h
        refine lv_iload hx hb dX12_confusion_108 (lv_at hl 4 rfl) ?_
        have hl := lv_sub hl [0, 1, 2, 3, 5] rfl
        exact tr_confusion_b110 E hA hR hml kr120 hk6 _ _ _ _ _ _ _ _ _ h G hl
      · have h := oif_neg c8 h
        refine lv_iload hx hb dX12_confusion_98 (lv_at hl 4 rfl) ?_
        refine lv_iload hx hb dX12_confusion_100 (lv_at hl 6 rfl) ?_
        refine va_mmax hx hb (hml.trans hl.1.symm) hown (hts _ (.tail _ qM_265)) (hts _ (.tail _ qM_266)) (hts _ (.tail _ qM_247)) (hts _ (.tail _ qM_267)) (Nat.le_of_ble_eq_true rfl) (Nat.le_of_ble_eq_true rfl) (Nat.zero_le _) (Nat.zero_le _) dX12_confusion_102 ?_
        refine lv_topi (fun v9 ev9 => ?_)
        have h := elet_at ev9 h
        clear ev9
        refine lv_goto (tgt := 110) hx hb dX12_confusion_105 (by decide) ?_
        have hl := lv_sub hl [0, 1, 2, 3, 5] rfl
        exact tr_confusion_b110 E hA hR hml kr120 hk6 _ _ _ _ _ _ _ _ _ h G hl
    · have h := oif_neg c3 h
      refine lv_iload hx hb dX12_confusion_34 (lv_at hl 6 rfl) ?_
      refine lv_aload_n hx hb dX12_confusion_36 rfl (lv_at hl 0 rfl) ?_
      refine lv_aload_n hx hb dX12_confusion_37 rfl (lv_at hl 0 rfl) ?_
      refine m_get E G 12 (v := .ref (ad 12)) (by decide) (.tail _ qM_9) rfl dX12_confusion_38 rfl ?_
      refine lv_iload hx hb dX12_confusion_41 (lv_at hl 7 rfl) ?_
      obtain ⟨r13, S10, eS10, h⟩ := obind2_some h
      refine m_calli (As := [.ref (ad 12), .int l7]) (rest := [.int l6]) E G hA hR hml (tr_hears_12 l D cI cJ cZ ad S l7 eS10) (cwV 2 hts (gmV qM_274 qM_275 qM_276 qM_35 qM_272) rfl rfl rfl (by decide +kernel) ⟨Nat.le_of_ble_eq_true rfl, Nat.le_of_ble_eq_true rfl⟩) rfl hl.1 rfl (lv_room (Nat.le_of_ble_eq_true rfl)) dX12_confusion_43 ⟨Nat.zero_le _, Nat.zero_le _⟩ (fun q11 S12 H locs hq G => ?_)
      obtain ⟨hq1, hq2⟩ := hq
      rw [hq2] at G
      refine lv_to hq1 ?_
      clear hq1 hq2 eS10
      refine lv_if_eq (tgt := 75) hx hb dX12_confusion_46 (by decide) (fun c14 => ?_) (fun c14 => ?_)
      · have h := oif_pos c14 h
        have hl := lv_sub hl [0, 1, 2, 3, 4, 5, 7] rfl
        exact tr_confusion_b75 E hA hR hml kr120 hk6 ih _ _ _ _ _ _ _ _ _ _ _ h G hl
      · have h := oif_neg c14 h
        refine lv_aload_n hx hb dX12_confusion_49 rfl (lv_at hl 0 rfl) ?_
        refine lv_iload_n hx hb dX12_confusion_50 rfl (lv_at hl 1 rfl) ?_
        refine lv_iload_n hx hb dX12_confusion_51 rfl (lv_at hl 2 rfl) ?_
        refine lv_iload hx hb dX12_confusion_52 (lv_at hl 7 rfl) ?_
        obtain ⟨r18, S15, eS15, h⟩ := obind2_some h
        refine m_calli (As := [.int l1, .int l2, .int l7]) (rest := [.int l6]) E G hA hR hml (tr_shift l D cI cJ cZ ad S10 l1 l2 l7 eS15) (cwV 3 hts (gmV qM_381 qM_382 qM_383 qM_35 qM_384) rfl rfl rfl (by decide +kernel) ⟨Nat.le_of_ble_eq_true rfl, Nat.le_of_ble_eq_true rfl⟩) rfl hl.1 rfl (lv_room (Nat.le_of_ble_eq_true rfl)) dX12_confusion_54 ⟨Nat.zero_le _, Nat.zero_le _⟩ (fun q16 S17 H locs hq G => ?_)
        obtain ⟨hq1, hq2⟩ := hq
        rw [hq2] at G
        refine lv_to hq1 ?_
        clear hq1 hq2 eS15
        refine lv_aload_n hx hb dX12_confusion_57 rfl (lv_at hl 0 rfl) ?_
        refine lv_iload_n hx hb dX12_confusion_58 rfl (lv_at hl 1 rfl) ?_
        refine lv_iload_n hx hb dX12_confusion_59 rfl (lv_at hl 2 rfl) ?_
        refine lv_iload hx hb dX12_confusion_60 (lv_at hl 5 rfl) ?_
        obtain ⟨r22, S19, eS19, h⟩ := obind2_some h
        refine m_calli (As := [.int l1, .int l2, .int l5]) (rest := [.int r18, .int l6]) E G hA hR hml (tr_shift l D cI cJ cZ ad S15 l1 l2 l5 eS19) (cwV 3 hts (gmV qM_381 qM_382 qM_383 qM_35 qM_384) rfl rfl rfl (by decide +kernel) ⟨Nat.le_of_ble_eq_true rfl, Nat.le_of_ble_eq_true rfl⟩) rfl hl.1 rfl (lv_room (Nat.le_of_ble_eq_true rfl)) dX12_confusion_62 ⟨Nat.zero_le _, Nat.zero_le _⟩ (fun q20 S21 H locs hq G => ?_)
        obtain ⟨hq1, hq2⟩ := hq
        rw [hq2] at G
        refine lv_to hq1 ?_
        clear hq1 hq2 eS19
        refine lv_isub hx hb dX12_confusion_65 ?_
        refine lv_topi (fun v23 ev23 => ?_)
        have h := elet_at ev23 h
        clear ev23
        refine lv_iload_n hx hb dX12_confusion_66 rfl (lv_at hl 3 rfl) ?_
        obtain ⟨g24, h⟩ := oif_some h
        refine lv_irem hx hb dX12_confusion_67 g24 ?_
        refine lv_topi (fun v25 ev25 => ?_)
        have h := elet_at ev25 h
        clear ev25
        refine lv_if_ne (tgt := 75) hx hb dX12_confusion_68 (by decide) (fun c26 => ?_) (fun c26 => ?_)
        · have h := oif_neg c26 h
          have hl := lv_sub hl [0, 1, 2, 3, 4, 5, 7] rfl
          exact tr_confusion_b75 E hA hR hml kr120 hk6 ih _ _ _ _ _ _ _ _ _ _ _ h G hl
        · have h := oif_pos c26 h
          refine lv_iconst (v := 1) hx hb dX12_confusion_71 (by decide) ?_
          refine lv_goto (tgt := 76) hx hb dX12_confusion_72 (by decide) ?_
          have hl := lv_sub hl [0, 1, 2, 3, 4, 5, 7] rfl
          exact tr_confusion_b76 E hA hR hml kr120 hk6 ih _ _ _ _ _ _ _ _ _ _ _ _ h G hl
def fr_confusion_b6  : Nat → MS → Int32 → Int32 → Int32 → Int32 → Int32 → Option (Int32 × MS)
  | 0, _, _, _, _, _, _ => none
  | n + 1, S, l1, l2, l3, l4, l5 => elet (S.2.1 10 4) fun v2 => if v2 ≤ l5 then (some (l4, S)) else (fr_confusion_b23 (fr_confusion_b6 n) 16384 S l1 l2 l3 l4 l5 0 0)
set_option maxHeartbeats 4000000 in
set_option maxRecDepth 100000 in
theorem tr_confusion_b6 {p : Program} {l : Launch} {e : Env} {s : State} {m : MethodId} {args : Array Value} {below : List Frame} {meth : Method} {c : Code} {Q : State → Prop} {D : va_G} {A : Nat → Prop} {H0 : Heap} {cI cJ cZ : ClassId} {ad : Nat → Nat} {r1 : Int32} {S1 : MS} (E : mE p c cX12_confusion s m args (Cond.code yX12_confusion cX12_confusion 8 (some .int) :: wsM) D cI cJ cZ) (hA : ∀ q : Nat, H0.size ≤ q → A q) (hR : sR s) (hml : c.maxLocals = 8) (kr120 : ∀ (H : Heap) (locs : List Loc) (ls : Array Slot), mG D cI cJ cZ ad A H0 H locs S1 → W p l e { frames := 2, cells := 0, slots := 0, locals := 23 } s m args below meth c H locs 0 0 Q (F0 m 120 ls [.int r1])) : ∀ n : Nat, ∀ (S : MS) (H : Heap) (locs : List Loc) (ls : Array Slot) (l1 : Int32) (l2 : Int32) (l3 : Int32) (l4 : Int32) (l5 : Int32), fr_confusion_b6 n S l1 l2 l3 l4 l5 = some (r1, S1) → mG D cI cJ cZ ad A H0 H locs S → lv_has ls 8 [(0, .ref (ad 0)), (1, .int l1), (2, .int l2), (3, .int l3), (4, .int l4), (5, .int l5)] → W p l e { frames := 2, cells := 0, slots := 0, locals := 23 } s m args below meth c H locs 0 0 Q (F0 m 6 ls []) := by
  have hx := E.1
  have hb := E.2.1
  have hts := E.2.2.1
  have hown := E.2.2.2.1
  have hK := E.2.2.2.2.1
  intro n
  induction n with
  | zero =>
    intro S H locs ls l1 l2 l3 l4 l5 h
    have h : (none : Option (Int32 × MS)) = some (r1, S1) := h
    cases h
  | succ n ih =>
    intro S H locs ls l1 l2 l3 l4 l5 h G hl
    unfold fr_confusion_b6 at h
    refine lv_iload hx hb dX12_confusion_6 (lv_at hl 5 rfl) ?_
    refine lv_aload_n hx hb dX12_confusion_8 rfl (lv_at hl 0 rfl) ?_
    refine m_get E G 10 (v := .ref (ad 10)) (by decide) (.tail _ qM_7) rfl dX12_confusion_9 rfl ?_
    refine lv_iconst (v := 4) hx hb dX12_confusion_12 (by decide) ?_
    refine m_iald E G 10 2 (n := 131) (k := 4) rfl rfl (by decide) (by decide) dX12_confusion_13 ?_
    refine lv_topi (fun v2 ev2 => ?_)
    have h := elet_at ev2 h
    clear ev2
    refine lv_icmp_ge (tgt := 118) hx hb dX12_confusion_14 (by decide) (fun c3 => ?_) (fun c3 => ?_)
    · have h := oif_pos c3 h
      refine lv_iload hx hb dX12_confusion_118 (lv_at hl 4 rfl) ?_
      rw [(osome2 h).2] at G
      refine lv_to (osome2 h).1 ?_
      exact kr120 _ _ _ G
    · have h := oif_neg c3 h
      refine lv_iconst (v := 0) hx hb dX12_confusion_17 (by decide) ?_
      refine lv_istore (lv' := [(6, .int 0), (0, .ref (ad 0)), (1, .int l1), (2, .int l2), (3, .int l3), (4, .int l4), (5, .int l5)]) hx hb dX12_confusion_18 hl (by decide) rfl (fun ls hl => ?_)
      refine lv_iconst (v := 0) hx hb dX12_confusion_20 (by decide) ?_
      refine lv_istore (lv' := [(7, .int 0), (6, .int 0), (0, .ref (ad 0)), (1, .int l1), (2, .int l2), (3, .int l3), (4, .int l4), (5, .int l5)]) hx hb dX12_confusion_21 hl (by decide) rfl (fun ls hl => ?_)
      have hl := lv_sub hl [2, 3, 4, 5, 6, 7, 1, 0] rfl
      exact tr_confusion_b23 E hA hR hml kr120 ih _ _ _ _ _ _ _ _ _ _ _ _ h G hl
def fr_confusion (S : MS) (a0 : Int32) (a1 : Int32) (a2 : Int32) : Option (Int32 × MS) := fr_confusion_b6 16384 S a0 a1 a2 0 0
set_option maxHeartbeats 4000000 in
set_option maxRecDepth 100000 in
theorem tr_confusion (l : Launch) (D : va_G) (cI cJ cZ : ClassId) (ad : Nat → Nat) (S : MS) (a0 : Int32) (a1 : Int32) (a2 : Int32) {r1 : Int32} {S1 : MS} (h : fr_confusion S a0 a1 a2 = some (r1, S1)) : mCi l yX12_confusion (Cond.code yX12_confusion cX12_confusion 8 (some .int) :: wsM) 2 23 D cI cJ cZ ad S [.int a0, .int a1, .int a2] (fun r S9 => r = r1 ∧ S9 = S1) := by
  intro sz
  refine Met.ofW (cc := cX12_confusion) (maxL := 8) (ret := (some .int)) (by decide) rfl ?_
  intro p e s m args below meth c s₁ B hml hv
  obtain ⟨rfl, hsz, hP, hK, hD0, hR⟩ := hv
  have hx := B.exec
  have hb := B.bytes
  have hr := B.returns
  have hts := atoms_spec (ws := (Cond.code yX12_confusion cX12_confusion 8 (some .int) :: wsM)) B.pre
  have hown : s.vm.findClass RX12 = some m.cls := findClass_of_methodNamed B.named
  have hlocks := B.notSynchronized
  subst hsz
  have hD := hD0.self (sz := s.heap.size)
  generalize hAe : va_A (MW cI cJ cZ ad S) s.heap.size = A at hD ⊢
  have hA : ∀ q : Nat, s.heap.size ≤ q → A q := fun q h => by rw [← hAe]; exact Or.inr h
  have G : mG D cI cJ cZ ad A s.heap s.heap [] S := ⟨hP, hD, va_S.rf⟩
  have E : mE p c cX12_confusion s m ([.ref (ad 0), .int a0, .int a1, .int a2] : List Value).toArray (Cond.code yX12_confusion cX12_confusion 8 (some .int) :: wsM) D cI cJ cZ := ⟨hx, hb, hts, hown, hK, fun w h => .tail _ (iM_x h)⟩
  have hl := lv_entry ([.ref (ad 0), .int a0, .int a1, .int a2]) (n := 8) (Nat.le_of_ble_eq_true rfl)
  rw [lg_entry_eq]
  generalize (lg_sl ([.ref (ad 0), .int a0, .int a1, .int a2]) ++ List.replicate (8 - (lg_sl ([.ref (ad 0), .int a0, .int a1, .int a2])).length) Slot.unset).toArray = ls at hl ⊢
  have hl : lv_has ls 8 [(0, .ref (ad 0)), (1, .int a0), (2, .int a1), (3, .int a2)] := hl
  unfold fr_confusion at h
  refine lv_iconst (v := 0) hx hb dX12_confusion_0 (by decide) ?_
  refine lv_istore (lv' := [(4, .int 0), (0, .ref (ad 0)), (1, .int a0), (2, .int a1), (3, .int a2)]) hx hb dX12_confusion_1 hl (by decide) rfl (fun ls hl => ?_)
  refine lv_iconst (v := 0) hx hb dX12_confusion_3 (by decide) ?_
  refine lv_istore (lv' := [(5, .int 0), (4, .int 0), (0, .ref (ad 0)), (1, .int a0), (2, .int a1), (3, .int a2)]) hx hb dX12_confusion_4 hl (by decide) rfl (fun ls hl => ?_)
  have hl := lv_sub hl [2, 3, 4, 5, 1, 0] rfl
  exact tr_confusion_b6 E hA hR hml (fun H locs ls G => W.iret (v := r1) hx hb hr (fun t ht hW => ⟨⟨r1, S1, rfl, ⟨rfl, rfl⟩, ⟨by rw [ht]; exact G.1, va_K.moved hW.alike hK, G.2.1⟩⟩, G.2.2.F ht⟩) G.2.2.2.2 dX12_confusion_120) _ _ _ _ _ _ _ _ _ _ h G hl
def fr_alias_b52  (S : MS) (s0 : Int32) : Option (Int32 × MS) := some (s0, S)
set_option maxHeartbeats 4000000 in
set_option maxRecDepth 100000 in
theorem tr_alias_b52 {p : Program} {l : Launch} {e : Env} {s : State} {m : MethodId} {args : Array Value} {below : List Frame} {meth : Method} {c : Code} {Q : State → Prop} {D : va_G} {A : Nat → Prop} {H0 : Heap} {cI cJ cZ : ClassId} {ad : Nat → Nat} {r1 : Int32} {S1 : MS} (E : mE p c cX12_alias s m args (Cond.code yX12_alias cX12_alias 4 (some .int) :: wsM) D cI cJ cZ) (hA : ∀ q : Nat, H0.size ≤ q → A q) (hR : sR s) (hml : c.maxLocals = 4) (kr29 : ∀ (H : Heap) (locs : List Loc) (ls : Array Slot), mG D cI cJ cZ ad A H0 H locs S1 → W p l e { frames := 3, cells := 0, slots := 0, locals := 50 } s m args below meth c H locs 0 0 Q (F0 m 29 ls [.int r1])) (kr52 : ∀ (H : Heap) (locs : List Loc) (ls : Array Slot), mG D cI cJ cZ ad A H0 H locs S1 → W p l e { frames := 3, cells := 0, slots := 0, locals := 50 } s m args below meth c H locs 0 0 Q (F0 m 52 ls [.int r1])) : ∀ (S : MS) (H : Heap) (locs : List Loc) (ls : Array Slot) (s0 : Int32), fr_alias_b52 S s0 = some (r1, S1) → mG D cI cJ cZ ad A H0 H locs S → lv_has ls 4 [] → W p l e { frames := 3, cells := 0, slots := 0, locals := 50 } s m args below meth c H locs 0 0 Q (F0 m 52 ls [.int s0]) := by
  have hx := E.1
  have hb := E.2.1
  have hts := E.2.2.1
  have hown := E.2.2.2.1
  have hK := E.2.2.2.2.1
  intro S H locs ls s0 h G hl
  unfold fr_alias_b52 at h
  rw [(osome2 h).2] at G
  refine lv_to (osome2 h).1 ?_
  exact kr52 _ _ _ G
def fr_alias_b22  (S : MS) (s0 : Int32) (l1 : Int32) (l2 : Int32) (l3 : Int32) : Option (Int32 × MS) := obind2 (fr_mayAsk S s0) fun r5 S2 => if r5 = 0 then (some (0, S2)) else (obind (fr_isPeriod l3) fun r7 => if r7 = 0 then (obind2 (fr_throwsAt S2 3) fun r13 S10 => fr_alias_b52 S10 r13) else (obind2 (fr_confusion S2 l1 l2 l3) fun r17 S14 => fr_alias_b52 S14 r17))
set_option maxHeartbeats 4000000 in
set_option maxRecDepth 100000 in
theorem tr_alias_b22 {p : Program} {l : Launch} {e : Env} {s : State} {m : MethodId} {args : Array Value} {below : List Frame} {meth : Method} {c : Code} {Q : State → Prop} {D : va_G} {A : Nat → Prop} {H0 : Heap} {cI cJ cZ : ClassId} {ad : Nat → Nat} {r1 : Int32} {S1 : MS} (E : mE p c cX12_alias s m args (Cond.code yX12_alias cX12_alias 4 (some .int) :: wsM) D cI cJ cZ) (hA : ∀ q : Nat, H0.size ≤ q → A q) (hR : sR s) (hml : c.maxLocals = 4) (kr29 : ∀ (H : Heap) (locs : List Loc) (ls : Array Slot), mG D cI cJ cZ ad A H0 H locs S1 → W p l e { frames := 3, cells := 0, slots := 0, locals := 50 } s m args below meth c H locs 0 0 Q (F0 m 29 ls [.int r1])) (kr52 : ∀ (H : Heap) (locs : List Loc) (ls : Array Slot), mG D cI cJ cZ ad A H0 H locs S1 → W p l e { frames := 3, cells := 0, slots := 0, locals := 50 } s m args below meth c H locs 0 0 Q (F0 m 52 ls [.int r1])) : ∀ (S : MS) (H : Heap) (locs : List Loc) (ls : Array Slot) (s0 : Int32) (l1 : Int32) (l2 : Int32) (l3 : Int32), fr_alias_b22 S s0 l1 l2 l3 = some (r1, S1) → mG D cI cJ cZ ad A H0 H locs S → lv_has ls 4 [(0, .ref (ad 0)), (1, .int l1), (2, .int l2), (3, .int l3)] → W p l e { frames := 3, cells := 0, slots := 0, locals := 50 } s m args below meth c H locs 0 0 Q (F0 m 22 ls [.int s0, .ref (ad 0)]) := by
  have hx := E.1
  have hb := E.2.1
  have hts := E.2.2.1
  have hown := E.2.2.2.1
  have hK := E.2.2.2.2.1
  intro S H locs ls s0 l1 l2 l3 h G hl
  unfold fr_alias_b22 at h
  obtain ⟨r5, S2, eS2, h⟩ := obind2_some h
  refine m_calli (As := [.int s0]) (rest := []) E G hA hR hml (tr_mayAsk l D cI cJ cZ ad S s0 eS2) (cwV 1 hts (gmV qM_319 qM_320 qM_321 qM_35 qM_304) rfl rfl rfl (by decide +kernel) ⟨Nat.le_of_ble_eq_true rfl, Nat.le_of_ble_eq_true rfl⟩) rfl hl.1 rfl (lv_room (Nat.le_of_ble_eq_true rfl)) dX12_alias_22 ⟨Nat.zero_le _, Nat.zero_le _⟩ (fun q3 S4 H locs hq G => ?_)
  obtain ⟨hq1, hq2⟩ := hq
  rw [hq2] at G
  refine lv_to hq1 ?_
  clear hq1 hq2 eS2
  refine lv_if_ne (tgt := 30) hx hb dX12_alias_25 (by decide) (fun c6 => ?_) (fun c6 => ?_)
  · have h := oif_neg c6 h
    refine lv_iload_n hx hb dX12_alias_30 rfl (lv_at hl 3 rfl) ?_
    obtain ⟨r7, er7, h⟩ := obind_some h
    refine m_stat (As := [.int l3]) (rest := []) ⟨hx, hb, hml, hown, hts⟩ (tr_isPeriod l l3 er7) (cwS 1 hts (gmS qM_386 qM_387 qM_35 qM_310) rfl rfl rfl (by decide +kernel) ⟨Nat.le_of_ble_eq_true rfl, Nat.le_of_ble_eq_true rfl⟩) rfl hl.1 rfl (lv_room (Nat.le_of_ble_eq_true rfl)) dX12_alias_31 ⟨Nat.zero_le _, Nat.zero_le _⟩ (fun q8 hq => ?_)
    refine lv_to hq ?_
    clear hq er7
    refine lv_if_eq (tgt := 47) hx hb dX12_alias_34 (by decide) (fun c9 => ?_) (fun c9 => ?_)
    · have h := oif_pos c9 h
      refine lv_aload_n hx hb dX12_alias_47 rfl (lv_at hl 0 rfl) ?_
      refine lv_iconst (v := 3) hx hb dX12_alias_48 (by decide) ?_
      obtain ⟨r13, S10, eS10, h⟩ := obind2_some h
      refine m_calli (As := [.int 3]) (rest := []) E G hA hR hml (tr_throwsAt l D cI cJ cZ ad S2 3 eS10) (cwV 1 hts (gmV qM_195 qM_196 qM_197 qM_35 qM_28) rfl rfl rfl (by decide +kernel) ⟨Nat.le_of_ble_eq_true rfl, Nat.le_of_ble_eq_true rfl⟩) rfl hl.1 rfl (lv_room (Nat.le_of_ble_eq_true rfl)) dX12_alias_49 ⟨Nat.zero_le _, Nat.zero_le _⟩ (fun q11 S12 H locs hq G => ?_)
      obtain ⟨hq1, hq2⟩ := hq
      rw [hq2] at G
      refine lv_to hq1 ?_
      clear hq1 hq2 eS10
      have hl := lv_sub hl [] rfl
      exact tr_alias_b52 E hA hR hml kr29 kr52 _ _ _ _ _ h G hl
    · have h := oif_neg c9 h
      refine lv_aload_n hx hb dX12_alias_37 rfl (lv_at hl 0 rfl) ?_
      refine lv_iload_n hx hb dX12_alias_38 rfl (lv_at hl 1 rfl) ?_
      refine lv_iload_n hx hb dX12_alias_39 rfl (lv_at hl 2 rfl) ?_
      refine lv_iload_n hx hb dX12_alias_40 rfl (lv_at hl 3 rfl) ?_
      obtain ⟨r17, S14, eS14, h⟩ := obind2_some h
      refine m_calli (As := [.int l1, .int l2, .int l3]) (rest := []) E G hA hR hml (tr_confusion l D cI cJ cZ ad S2 l1 l2 l3 eS14) (cwV 3 hts (gmV qM_388 qM_389 qM_390 qM_35 qM_380) rfl rfl rfl (by decide +kernel) ⟨Nat.le_of_ble_eq_true rfl, Nat.le_of_ble_eq_true rfl⟩) rfl hl.1 rfl (lv_room (Nat.le_of_ble_eq_true rfl)) dX12_alias_41 ⟨Nat.zero_le _, Nat.zero_le _⟩ (fun q15 S16 H locs hq G => ?_)
      obtain ⟨hq1, hq2⟩ := hq
      rw [hq2] at G
      refine lv_to hq1 ?_
      clear hq1 hq2 eS14
      refine lv_goto (tgt := 52) hx hb dX12_alias_44 (by decide) ?_
      have hl := lv_sub hl [] rfl
      exact tr_alias_b52 E hA hR hml kr29 kr52 _ _ _ _ _ h G hl
  · have h := oif_pos c6 h
    refine lv_iconst (v := 0) hx hb dX12_alias_28 (by decide) ?_
    rw [(osome2 h).2] at G
    refine lv_to (osome2 h).1 ?_
    exact kr29 _ _ _ G
def fr_alias_b21  (S : MS) (l1 : Int32) (l2 : Int32) (l3 : Int32) : Option (Int32 × MS) := fr_alias_b22 S 0 l1 l2 l3
set_option maxHeartbeats 4000000 in
set_option maxRecDepth 100000 in
theorem tr_alias_b21 {p : Program} {l : Launch} {e : Env} {s : State} {m : MethodId} {args : Array Value} {below : List Frame} {meth : Method} {c : Code} {Q : State → Prop} {D : va_G} {A : Nat → Prop} {H0 : Heap} {cI cJ cZ : ClassId} {ad : Nat → Nat} {r1 : Int32} {S1 : MS} (E : mE p c cX12_alias s m args (Cond.code yX12_alias cX12_alias 4 (some .int) :: wsM) D cI cJ cZ) (hA : ∀ q : Nat, H0.size ≤ q → A q) (hR : sR s) (hml : c.maxLocals = 4) (kr29 : ∀ (H : Heap) (locs : List Loc) (ls : Array Slot), mG D cI cJ cZ ad A H0 H locs S1 → W p l e { frames := 3, cells := 0, slots := 0, locals := 50 } s m args below meth c H locs 0 0 Q (F0 m 29 ls [.int r1])) (kr52 : ∀ (H : Heap) (locs : List Loc) (ls : Array Slot), mG D cI cJ cZ ad A H0 H locs S1 → W p l e { frames := 3, cells := 0, slots := 0, locals := 50 } s m args below meth c H locs 0 0 Q (F0 m 52 ls [.int r1])) : ∀ (S : MS) (H : Heap) (locs : List Loc) (ls : Array Slot) (l1 : Int32) (l2 : Int32) (l3 : Int32), fr_alias_b21 S l1 l2 l3 = some (r1, S1) → mG D cI cJ cZ ad A H0 H locs S → lv_has ls 4 [(0, .ref (ad 0)), (1, .int l1), (2, .int l2), (3, .int l3)] → W p l e { frames := 3, cells := 0, slots := 0, locals := 50 } s m args below meth c H locs 0 0 Q (F0 m 21 ls [.ref (ad 0)]) := by
  have hx := E.1
  have hb := E.2.1
  have hts := E.2.2.1
  have hown := E.2.2.2.1
  have hK := E.2.2.2.2.1
  intro S H locs ls l1 l2 l3 h G hl
  unfold fr_alias_b21 at h
  refine lv_iconst (v := 0) hx hb dX12_alias_21 (by decide) ?_
  have hl := lv_sub hl [0, 1, 2, 3] rfl
  exact tr_alias_b22 E hA hR hml kr29 kr52 _ _ _ _ _ _ _ _ h G hl
def fr_alias (S : MS) (a0 : Int32) (a1 : Int32) (a2 : Int32) : Option (Int32 × MS) := obind2 (fr_isCell S a0) fun r5 S2 => if r5 = 0 then (fr_alias_b21 S2 a0 a1 a2) else (obind2 (fr_isCell S2 a1) fun r10 S7 => if r10 = 0 then (fr_alias_b21 S7 a0 a1 a2) else (fr_alias_b22 S7 1 a0 a1 a2))
set_option maxHeartbeats 4000000 in
set_option maxRecDepth 100000 in
theorem tr_alias (l : Launch) (D : va_G) (cI cJ cZ : ClassId) (ad : Nat → Nat) (S : MS) (a0 : Int32) (a1 : Int32) (a2 : Int32) {r1 : Int32} {S1 : MS} (h : fr_alias S a0 a1 a2 = some (r1, S1)) : mCi l yX12_alias (Cond.code yX12_alias cX12_alias 4 (some .int) :: wsM) 3 50 D cI cJ cZ ad S [.int a0, .int a1, .int a2] (fun r S9 => r = r1 ∧ S9 = S1) := by
  intro sz
  refine Met.ofW (cc := cX12_alias) (maxL := 4) (ret := (some .int)) (by decide) rfl ?_
  intro p e s m args below meth c s₁ B hml hv
  obtain ⟨rfl, hsz, hP, hK, hD0, hR⟩ := hv
  have hx := B.exec
  have hb := B.bytes
  have hr := B.returns
  have hts := atoms_spec (ws := (Cond.code yX12_alias cX12_alias 4 (some .int) :: wsM)) B.pre
  have hown : s.vm.findClass RX12 = some m.cls := findClass_of_methodNamed B.named
  have hlocks := B.notSynchronized
  subst hsz
  have hD := hD0.self (sz := s.heap.size)
  generalize hAe : va_A (MW cI cJ cZ ad S) s.heap.size = A at hD ⊢
  have hA : ∀ q : Nat, s.heap.size ≤ q → A q := fun q h => by rw [← hAe]; exact Or.inr h
  have G : mG D cI cJ cZ ad A s.heap s.heap [] S := ⟨hP, hD, va_S.rf⟩
  have E : mE p c cX12_alias s m ([.ref (ad 0), .int a0, .int a1, .int a2] : List Value).toArray (Cond.code yX12_alias cX12_alias 4 (some .int) :: wsM) D cI cJ cZ := ⟨hx, hb, hts, hown, hK, fun w h => .tail _ (iM_x h)⟩
  have hl := lv_entry ([.ref (ad 0), .int a0, .int a1, .int a2]) (n := 4) (Nat.le_of_ble_eq_true rfl)
  rw [lg_entry_eq]
  generalize (lg_sl ([.ref (ad 0), .int a0, .int a1, .int a2]) ++ List.replicate (4 - (lg_sl ([.ref (ad 0), .int a0, .int a1, .int a2])).length) Slot.unset).toArray = ls at hl ⊢
  have hl : lv_has ls 4 [(0, .ref (ad 0)), (1, .int a0), (2, .int a1), (3, .int a2)] := hl
  unfold fr_alias at h
  refine lv_aload_n hx hb dX12_alias_0 rfl (lv_at hl 0 rfl) ?_
  refine lv_aload_n hx hb dX12_alias_1 rfl (lv_at hl 0 rfl) ?_
  refine lv_iload_n hx hb dX12_alias_2 rfl (lv_at hl 1 rfl) ?_
  obtain ⟨r5, S2, eS2, h⟩ := obind2_some h
  refine m_calli (As := [.int a0]) (rest := [.ref (ad 0)]) E G hA hR hml (tr_isCell l D cI cJ cZ ad S a0 eS2) (cwV 1 hts (gmV qM_326 qM_327 qM_328 qM_35 qM_307) rfl rfl rfl (by decide +kernel) ⟨Nat.le_of_ble_eq_true rfl, Nat.le_of_ble_eq_true rfl⟩) rfl hl.1 rfl (lv_room (Nat.le_of_ble_eq_true rfl)) dX12_alias_3 ⟨Nat.zero_le _, Nat.zero_le _⟩ (fun q3 S4 H locs hq G => ?_)
  obtain ⟨hq1, hq2⟩ := hq
  rw [hq2] at G
  refine lv_to hq1 ?_
  clear hq1 hq2 eS2
  refine lv_if_eq (tgt := 21) hx hb dX12_alias_6 (by decide) (fun c6 => ?_) (fun c6 => ?_)
  · have h := oif_pos c6 h
    have hl := lv_sub hl [0, 1, 2, 3] rfl
    exact tr_alias_b21 E hA hR hml (fun H locs ls G => W.iret (v := r1) hx hb hr (fun t ht hW => ⟨⟨r1, S1, rfl, ⟨rfl, rfl⟩, ⟨by rw [ht]; exact G.1, va_K.moved hW.alike hK, G.2.1⟩⟩, G.2.2.F ht⟩) G.2.2.2.2 dX12_alias_29) (fun H locs ls G => W.iret (v := r1) hx hb hr (fun t ht hW => ⟨⟨r1, S1, rfl, ⟨rfl, rfl⟩, ⟨by rw [ht]; exact G.1, va_K.moved hW.alike hK, G.2.1⟩⟩, G.2.2.F ht⟩) G.2.2.2.2 dX12_alias_52) _ _ _ _ _ _ _ h G hl
  · have h := oif_neg c6 h
    refine lv_aload_n hx hb dX12_alias_9 rfl (lv_at hl 0 rfl) ?_
    refine lv_iload_n hx hb dX12_alias_10 rfl (lv_at hl 2 rfl) ?_
    obtain ⟨r10, S7, eS7, h⟩ := obind2_some h
    refine m_calli (As := [.int a1]) (rest := [.ref (ad 0)]) E G hA hR hml (tr_isCell l D cI cJ cZ ad S2 a1 eS7) (cwV 1 hts (gmV qM_326 qM_327 qM_328 qM_35 qM_307) rfl rfl rfl (by decide +kernel) ⟨Nat.le_of_ble_eq_true rfl, Nat.le_of_ble_eq_true rfl⟩) rfl hl.1 rfl (lv_room (Nat.le_of_ble_eq_true rfl)) dX12_alias_11 ⟨Nat.zero_le _, Nat.zero_le _⟩ (fun q8 S9 H locs hq G => ?_)
    obtain ⟨hq1, hq2⟩ := hq
    rw [hq2] at G
    refine lv_to hq1 ?_
    clear hq1 hq2 eS7
    refine lv_if_eq (tgt := 21) hx hb dX12_alias_14 (by decide) (fun c11 => ?_) (fun c11 => ?_)
    · have h := oif_pos c11 h
      have hl := lv_sub hl [0, 1, 2, 3] rfl
      exact tr_alias_b21 E hA hR hml (fun H locs ls G => W.iret (v := r1) hx hb hr (fun t ht hW => ⟨⟨r1, S1, rfl, ⟨rfl, rfl⟩, ⟨by rw [ht]; exact G.1, va_K.moved hW.alike hK, G.2.1⟩⟩, G.2.2.F ht⟩) G.2.2.2.2 dX12_alias_29) (fun H locs ls G => W.iret (v := r1) hx hb hr (fun t ht hW => ⟨⟨r1, S1, rfl, ⟨rfl, rfl⟩, ⟨by rw [ht]; exact G.1, va_K.moved hW.alike hK, G.2.1⟩⟩, G.2.2.F ht⟩) G.2.2.2.2 dX12_alias_52) _ _ _ _ _ _ _ h G hl
    · have h := oif_neg c11 h
      refine lv_iconst (v := 1) hx hb dX12_alias_17 (by decide) ?_
      refine lv_goto (tgt := 22) hx hb dX12_alias_18 (by decide) ?_
      have hl := lv_sub hl [0, 1, 2, 3] rfl
      exact tr_alias_b22 E hA hR hml (fun H locs ls G => W.iret (v := r1) hx hb hr (fun t ht hW => ⟨⟨r1, S1, rfl, ⟨rfl, rfl⟩, ⟨by rw [ht]; exact G.1, va_K.moved hW.alike hK, G.2.1⟩⟩, G.2.2.F ht⟩) G.2.2.2.2 dX12_alias_29) (fun H locs ls G => W.iret (v := r1) hx hb hr (fun t ht hW => ⟨⟨r1, S1, rfl, ⟨rfl, rfl⟩, ⟨by rw [ht]; exact G.1, va_K.moved hW.alike hK, G.2.1⟩⟩, G.2.2.F ht⟩) G.2.2.2.2 dX12_alias_52) _ _ _ _ _ _ _ _ h G hl
def fr_isMark_b45  (S : MS) (s0 : Int32) : Option (Int32 × MS) := oif (s0 = 0 ∨ s0 = 1) <| some (s0, S)
set_option maxHeartbeats 4000000 in
set_option maxRecDepth 100000 in
theorem tr_isMark_b45 {p : Program} {l : Launch} {e : Env} {s : State} {m : MethodId} {args : Array Value} {below : List Frame} {meth : Method} {c : Code} {Q : State → Prop} {D : va_G} {A : Nat → Prop} {H0 : Heap} {cI cJ cZ : ClassId} {ad : Nat → Nat} {r1 : Int32} {S1 : MS} (E : mE p c cX12_isMark s m args (Cond.code yX12_isMark cX12_isMark 5 (some .boolean) :: wsM) D cI cJ cZ) (hA : ∀ q : Nat, H0.size ≤ q → A q) (hR : sR s) (hml : c.maxLocals = 5) (kr45 : ∀ (H : Heap) (locs : List Loc) (ls : Array Slot), (r1 = 0 ∨ r1 = 1) → mG D cI cJ cZ ad A H0 H locs S1 → W p l e { frames := 3, cells := 0, slots := 0, locals := 50 } s m args below meth c H locs 0 0 Q (F0 m 45 ls [.int r1])) : ∀ (S : MS) (H : Heap) (locs : List Loc) (ls : Array Slot) (s0 : Int32), fr_isMark_b45 S s0 = some (r1, S1) → mG D cI cJ cZ ad A H0 H locs S → lv_has ls 5 [] → W p l e { frames := 3, cells := 0, slots := 0, locals := 50 } s m args below meth c H locs 0 0 Q (F0 m 45 ls [.int s0]) := by
  have hx := E.1
  have hb := E.2.1
  have hts := E.2.2.1
  have hown := E.2.2.2.1
  have hK := E.2.2.2.2.1
  intro S H locs ls s0 h G hl
  unfold fr_isMark_b45 at h
  obtain ⟨gz, h⟩ := oif_some h
  have gr : r1 = 0 ∨ r1 = 1 := by rw [← (osome2 h).1]; exact gz
  rw [(osome2 h).2] at G
  refine lv_to (osome2 h).1 ?_
  exact kr45 _ _ _ gr G
def fr_isMark_b44  (S : MS)  : Option (Int32 × MS) := fr_isMark_b45 S 0
set_option maxHeartbeats 4000000 in
set_option maxRecDepth 100000 in
theorem tr_isMark_b44 {p : Program} {l : Launch} {e : Env} {s : State} {m : MethodId} {args : Array Value} {below : List Frame} {meth : Method} {c : Code} {Q : State → Prop} {D : va_G} {A : Nat → Prop} {H0 : Heap} {cI cJ cZ : ClassId} {ad : Nat → Nat} {r1 : Int32} {S1 : MS} (E : mE p c cX12_isMark s m args (Cond.code yX12_isMark cX12_isMark 5 (some .boolean) :: wsM) D cI cJ cZ) (hA : ∀ q : Nat, H0.size ≤ q → A q) (hR : sR s) (hml : c.maxLocals = 5) (kr45 : ∀ (H : Heap) (locs : List Loc) (ls : Array Slot), (r1 = 0 ∨ r1 = 1) → mG D cI cJ cZ ad A H0 H locs S1 → W p l e { frames := 3, cells := 0, slots := 0, locals := 50 } s m args below meth c H locs 0 0 Q (F0 m 45 ls [.int r1])) : ∀ (S : MS) (H : Heap) (locs : List Loc) (ls : Array Slot), fr_isMark_b44 S = some (r1, S1) → mG D cI cJ cZ ad A H0 H locs S → lv_has ls 5 [] → W p l e { frames := 3, cells := 0, slots := 0, locals := 50 } s m args below meth c H locs 0 0 Q (F0 m 44 ls []) := by
  have hx := E.1
  have hb := E.2.1
  have hts := E.2.2.1
  have hown := E.2.2.2.1
  have hK := E.2.2.2.2.1
  intro S H locs ls h G hl
  unfold fr_isMark_b44 at h
  refine lv_iconst (v := 0) hx hb dX12_isMark_44 (by decide) ?_
  have hl := lv_sub hl [] rfl
  exact tr_isMark_b45 E hA hR hml kr45 _ _ _ _ _ h G hl
def fr_isMark (S : MS) (a0 : Int32) (a1 : Int32) (a2 : Int32) (a3 : Int32) : Option (Int32 × MS) := if a0 = a1 then (fr_isMark_b44 S) else (obind2 (fr_isTop S a0) fun r6 S3 => if r6 = 0 then (fr_isMark_b44 S3) else (obind2 (fr_activeCount S3) fun r11 S8 => if r11 ≤ 0 then (fr_isMark_b44 S8) else (obind2 (fr_confusion S8 a0 a1 a2) fun r16 S13 => elet (100 * r16) fun v17 => obind2 (fr_activeCount S13) fun r21 S18 => elet (a3 * r21) fun v22 => if v17 < v22 then (fr_isMark_b44 S18) else (fr_isMark_b45 S18 1))))
set_option maxHeartbeats 4000000 in
set_option maxRecDepth 100000 in
theorem tr_isMark (l : Launch) (D : va_G) (cI cJ cZ : ClassId) (ad : Nat → Nat) (S : MS) (a0 : Int32) (a1 : Int32) (a2 : Int32) (a3 : Int32) {r1 : Int32} {S1 : MS} (h : fr_isMark S a0 a1 a2 a3 = some (r1, S1)) : mCi l yX12_isMark (Cond.code yX12_isMark cX12_isMark 5 (some .boolean) :: wsM) 3 50 D cI cJ cZ ad S [.int a0, .int a1, .int a2, .int a3] (fun r S9 => r = r1 ∧ S9 = S1) := by
  intro sz
  refine Met.ofW (cc := cX12_isMark) (maxL := 5) (ret := (some .boolean)) (by decide) rfl ?_
  intro p e s m args below meth c s₁ B hml hv
  obtain ⟨rfl, hsz, hP, hK, hD0, hR⟩ := hv
  have hx := B.exec
  have hb := B.bytes
  have hr := B.returns
  have hts := atoms_spec (ws := (Cond.code yX12_isMark cX12_isMark 5 (some .boolean) :: wsM)) B.pre
  have hown : s.vm.findClass RX12 = some m.cls := findClass_of_methodNamed B.named
  have hlocks := B.notSynchronized
  subst hsz
  have hD := hD0.self (sz := s.heap.size)
  generalize hAe : va_A (MW cI cJ cZ ad S) s.heap.size = A at hD ⊢
  have hA : ∀ q : Nat, s.heap.size ≤ q → A q := fun q h => by rw [← hAe]; exact Or.inr h
  have G : mG D cI cJ cZ ad A s.heap s.heap [] S := ⟨hP, hD, va_S.rf⟩
  have E : mE p c cX12_isMark s m ([.ref (ad 0), .int a0, .int a1, .int a2, .int a3] : List Value).toArray (Cond.code yX12_isMark cX12_isMark 5 (some .boolean) :: wsM) D cI cJ cZ := ⟨hx, hb, hts, hown, hK, fun w h => .tail _ (iM_x h)⟩
  have hl := lv_entry ([.ref (ad 0), .int a0, .int a1, .int a2, .int a3]) (n := 5) (Nat.le_of_ble_eq_true rfl)
  rw [lg_entry_eq]
  generalize (lg_sl ([.ref (ad 0), .int a0, .int a1, .int a2, .int a3]) ++ List.replicate (5 - (lg_sl ([.ref (ad 0), .int a0, .int a1, .int a2, .int a3])).length) Slot.unset).toArray = ls at hl ⊢
  have hl : lv_has ls 5 [(0, .ref (ad 0)), (1, .int a0), (2, .int a1), (3, .int a2), (4, .int a3)] := hl
  unfold fr_isMark at h
  refine lv_iload_n hx hb dX12_isMark_0 rfl (lv_at hl 1 rfl) ?_
  refine lv_iload_n hx hb dX12_isMark_1 rfl (lv_at hl 2 rfl) ?_
  refine lv_icmp_eq (tgt := 44) hx hb dX12_isMark_2 (by decide) (fun c2 => ?_) (fun c2 => ?_)
  · have h := oif_pos c2 h
    have hl := lv_sub hl [] rfl
    exact tr_isMark_b44 E hA hR hml (fun H locs ls gz G => W.zret (v := r1) hx hb hr (nar01 gz) (fun t ht hW => ⟨⟨r1, S1, rfl, ⟨rfl, rfl⟩, ⟨by rw [ht]; exact G.1, va_K.moved hW.alike hK, G.2.1⟩⟩, G.2.2.F ht⟩) G.2.2.2.2 dX12_isMark_45) _ _ _ _ h G hl
  · have h := oif_neg c2 h
    refine lv_aload_n hx hb dX12_isMark_5 rfl (lv_at hl 0 rfl) ?_
    refine lv_iload_n hx hb dX12_isMark_6 rfl (lv_at hl 1 rfl) ?_
    obtain ⟨r6, S3, eS3, h⟩ := obind2_some h
    refine m_calli (As := [.int a0]) (rest := []) E G hA hR hml (tr_isTop l D cI cJ cZ ad S a0 eS3) (cwV 1 hts (gmV qM_367 qM_368 qM_369 qM_35 qM_365) rfl rfl rfl (by decide +kernel) ⟨Nat.le_of_ble_eq_true rfl, Nat.le_of_ble_eq_true rfl⟩) rfl hl.1 rfl (lv_room (Nat.le_of_ble_eq_true rfl)) dX12_isMark_7 ⟨Nat.zero_le _, Nat.zero_le _⟩ (fun q4 S5 H locs hq G => ?_)
    obtain ⟨hq1, hq2⟩ := hq
    rw [hq2] at G
    refine lv_to hq1 ?_
    clear hq1 hq2 eS3
    refine lv_if_eq (tgt := 44) hx hb dX12_isMark_10 (by decide) (fun c7 => ?_) (fun c7 => ?_)
    · have h := oif_pos c7 h
      have hl := lv_sub hl [] rfl
      exact tr_isMark_b44 E hA hR hml (fun H locs ls gz G => W.zret (v := r1) hx hb hr (nar01 gz) (fun t ht hW => ⟨⟨r1, S1, rfl, ⟨rfl, rfl⟩, ⟨by rw [ht]; exact G.1, va_K.moved hW.alike hK, G.2.1⟩⟩, G.2.2.F ht⟩) G.2.2.2.2 dX12_isMark_45) _ _ _ _ h G hl
    · have h := oif_neg c7 h
      refine lv_aload_n hx hb dX12_isMark_13 rfl (lv_at hl 0 rfl) ?_
      obtain ⟨r11, S8, eS8, h⟩ := obind2_some h
      refine m_calli (As := []) (rest := []) E G hA hR hml (tr_activeCount l D cI cJ cZ ad S3 eS8) (cwV 0 hts (gmV qM_348 qM_349 qM_350 qM_35 qM_345) rfl rfl rfl (by decide +kernel) ⟨Nat.le_of_ble_eq_true rfl, Nat.le_of_ble_eq_true rfl⟩) rfl hl.1 rfl (lv_room (Nat.le_of_ble_eq_true rfl)) dX12_isMark_14 ⟨Nat.zero_le _, Nat.zero_le _⟩ (fun q9 S10 H locs hq G => ?_)
      obtain ⟨hq1, hq2⟩ := hq
      rw [hq2] at G
      refine lv_to hq1 ?_
      clear hq1 hq2 eS8
      refine lv_if_le (tgt := 44) hx hb dX12_isMark_17 (by decide) (fun c12 => ?_) (fun c12 => ?_)
      · have h := oif_pos c12 h
        have hl := lv_sub hl [] rfl
        exact tr_isMark_b44 E hA hR hml (fun H locs ls gz G => W.zret (v := r1) hx hb hr (nar01 gz) (fun t ht hW => ⟨⟨r1, S1, rfl, ⟨rfl, rfl⟩, ⟨by rw [ht]; exact G.1, va_K.moved hW.alike hK, G.2.1⟩⟩, G.2.2.F ht⟩) G.2.2.2.2 dX12_isMark_45) _ _ _ _ h G hl
      · have h := oif_neg c12 h
        refine lv_bipush (v := 100) hx hb dX12_isMark_20 (by decide) ?_
        refine lv_aload_n hx hb dX12_isMark_22 rfl (lv_at hl 0 rfl) ?_
        refine lv_iload_n hx hb dX12_isMark_23 rfl (lv_at hl 1 rfl) ?_
        refine lv_iload_n hx hb dX12_isMark_24 rfl (lv_at hl 2 rfl) ?_
        refine lv_iload_n hx hb dX12_isMark_25 rfl (lv_at hl 3 rfl) ?_
        obtain ⟨r16, S13, eS13, h⟩ := obind2_some h
        refine m_calli (As := [.int a0, .int a1, .int a2]) (rest := [.int 100]) E G hA hR hml (tr_confusion l D cI cJ cZ ad S8 a0 a1 a2 eS13) (cwV 3 hts (gmV qM_388 qM_389 qM_390 qM_35 qM_380) rfl rfl rfl (by decide +kernel) ⟨Nat.le_of_ble_eq_true rfl, Nat.le_of_ble_eq_true rfl⟩) rfl hl.1 rfl (lv_room (Nat.le_of_ble_eq_true rfl)) dX12_isMark_26 ⟨Nat.zero_le _, Nat.zero_le _⟩ (fun q14 S15 H locs hq G => ?_)
        obtain ⟨hq1, hq2⟩ := hq
        rw [hq2] at G
        refine lv_to hq1 ?_
        clear hq1 hq2 eS13
        refine lv_imul hx hb dX12_isMark_29 ?_
        refine lv_topi (fun v17 ev17 => ?_)
        have h := elet_at ev17 h
        clear ev17
        refine lv_iload hx hb dX12_isMark_30 (lv_at hl 4 rfl) ?_
        refine lv_aload_n hx hb dX12_isMark_32 rfl (lv_at hl 0 rfl) ?_
        obtain ⟨r21, S18, eS18, h⟩ := obind2_some h
        refine m_calli (As := []) (rest := [.int a3, .int v17]) E G hA hR hml (tr_activeCount l D cI cJ cZ ad S13 eS18) (cwV 0 hts (gmV qM_348 qM_349 qM_350 qM_35 qM_345) rfl rfl rfl (by decide +kernel) ⟨Nat.le_of_ble_eq_true rfl, Nat.le_of_ble_eq_true rfl⟩) rfl hl.1 rfl (lv_room (Nat.le_of_ble_eq_true rfl)) dX12_isMark_33 ⟨Nat.zero_le _, Nat.zero_le _⟩ (fun q19 S20 H locs hq G => ?_)
        obtain ⟨hq1, hq2⟩ := hq
        rw [hq2] at G
        refine lv_to hq1 ?_
        clear hq1 hq2 eS18
        refine lv_imul hx hb dX12_isMark_36 ?_
        refine lv_topi (fun v22 ev22 => ?_)
        have h := elet_at ev22 h
        clear ev22
        refine lv_icmp_lt (tgt := 44) hx hb dX12_isMark_37 (by decide) (fun c23 => ?_) (fun c23 => ?_)
        · have h := oif_pos c23 h
          have hl := lv_sub hl [] rfl
          exact tr_isMark_b44 E hA hR hml (fun H locs ls gz G => W.zret (v := r1) hx hb hr (nar01 gz) (fun t ht hW => ⟨⟨r1, S1, rfl, ⟨rfl, rfl⟩, ⟨by rw [ht]; exact G.1, va_K.moved hW.alike hK, G.2.1⟩⟩, G.2.2.F ht⟩) G.2.2.2.2 dX12_isMark_45) _ _ _ _ h G hl
        · have h := oif_neg c23 h
          refine lv_iconst (v := 1) hx hb dX12_isMark_40 (by decide) ?_
          refine lv_goto (tgt := 45) hx hb dX12_isMark_41 (by decide) ?_
          have hl := lv_sub hl [] rfl
          exact tr_isMark_b45 E hA hR hml (fun H locs ls gz G => W.zret (v := r1) hx hb hr (nar01 gz) (fun t ht hW => ⟨⟨r1, S1, rfl, ⟨rfl, rfl⟩, ⟨by rw [ht]; exact G.1, va_K.moved hW.alike hK, G.2.1⟩⟩, G.2.2.F ht⟩) G.2.2.2.2 dX12_isMark_45) _ _ _ _ _ h G hl
def fr_isShare  (a0 : Int32) : Option (Int32) := obind (fr_in a0 1 100) fun r2 => oif (r2 = 0 ∨ r2 = 1) <| some r2
set_option maxHeartbeats 4000000 in
set_option maxRecDepth 100000 in
theorem tr_isShare (l : Launch) (a0 : Int32) {r1 : Int32} (h : fr_isShare a0 = some r1) : Met l yX12_isShare (Cond.code yX12_isShare cX12_isShare 1 (some .boolean) :: wsM) { frames := 2, cells := 0, slots := 0, locals := 22 } (va_Pc [.int a0] (fun _ => True)) (vp_Si (fun r => r = r1)) 0 0 (fun _ => False) := by
  refine Met.ofW (cc := cX12_isShare) (maxL := 1) (ret := (some .boolean)) (by decide) rfl ?_
  intro p e s m args below meth c s₁ B hml hv
  obtain ⟨rfl, -⟩ := hv
  have hx := B.exec
  have hb := B.bytes
  have hr := B.returns
  have hts := atoms_spec (ws := (Cond.code yX12_isShare cX12_isShare 1 (some .boolean) :: wsM)) B.pre
  have hown : s.vm.findClass RX12 = some m.cls := findClass_of_methodNamed B.named
  have hlocks := B.notSynchronized
  have E : p.tables.exec = Jvm.exec ∧ c.code = cX12_isShare ∧ (∀ w ∈ (Cond.code yX12_isShare cX12_isShare 1 (some .boolean) :: wsM), w.before ([.int a0] : List Value).toArray s = true) ∧ s.vm.findClass RX12 = some m.cls := ⟨hx, hb, hts, hown⟩
  have hl := lv_entry ([.int a0]) (n := 1) (Nat.le_of_ble_eq_true rfl)
  rw [lg_entry_eq]
  generalize (lg_sl ([.int a0]) ++ List.replicate (1 - (lg_sl ([.int a0])).length) Slot.unset).toArray = ls at hl ⊢
  have hl : lv_has ls 1 [(0, .int a0)] := hl
  unfold fr_isShare at h
  refine lv_iload_n hx hb dX12_isShare_0 rfl (lv_at hl 0 rfl) ?_
  refine lv_iconst (v := 1) hx hb dX12_isShare_1 (by decide) ?_
  refine lv_bipush (v := 100) hx hb dX12_isShare_2 (by decide) ?_
  obtain ⟨r2, er2, h⟩ := obind_some h
  refine m_stat (As := [.int a0, .int 1, .int 100]) (rest := []) ⟨hx, hb, hml, hown, hts⟩ (tr_in l a0 1 100 er2) (cwS 3 hts (gmS qM_52 qM_53 qM_35 qM_27) rfl rfl rfl (by decide +kernel) ⟨Nat.le_of_ble_eq_true rfl, Nat.le_of_ble_eq_true rfl⟩) rfl hl.1 rfl (lv_room (Nat.le_of_ble_eq_true rfl)) dX12_isShare_4 ⟨Nat.zero_le _, Nat.zero_le _⟩ (fun q3 hq => ?_)
  refine lv_to hq ?_
  clear hq er2
  obtain ⟨gz, h⟩ := oif_some h
  exact W.zret (v := r2) hx hb hr (nar01 gz) (fun t ht hW => ⟨r2, rfl, osome1 h, ht⟩) (fun _ h => absurd h List.not_mem_nil) dX12_isShare_7
def fr_isAlias_b67  (S : MS) (s0 : Int32) : Option (Int32 × MS) := oif (s0 = 0 ∨ s0 = 1) <| some (s0, S)
set_option maxHeartbeats 4000000 in
set_option maxRecDepth 100000 in
theorem tr_isAlias_b67 {p : Program} {l : Launch} {e : Env} {s : State} {m : MethodId} {args : Array Value} {below : List Frame} {meth : Method} {c : Code} {Q : State → Prop} {D : va_G} {A : Nat → Prop} {H0 : Heap} {cI cJ cZ : ClassId} {ad : Nat → Nat} {r1 : Int32} {S1 : MS} (E : mE p c cX12_isAlias s m args (Cond.code yX12_isAlias cX12_isAlias 4 (some .boolean) :: wsM) D cI cJ cZ) (hA : ∀ q : Nat, H0.size ≤ q → A q) (hR : sR s) (hml : c.maxLocals = 4) (kr13 : ∀ (H : Heap) (locs : List Loc) (ls : Array Slot), (r1 = 0 ∨ r1 = 1) → mG D cI cJ cZ ad A H0 H locs S1 → W p l e { frames := 8, cells := 0, slots := 0, locals := 163 } s m args below meth c H locs 0 0 Q (F0 m 13 ls [.int r1])) (kr67 : ∀ (H : Heap) (locs : List Loc) (ls : Array Slot), (r1 = 0 ∨ r1 = 1) → mG D cI cJ cZ ad A H0 H locs S1 → W p l e { frames := 8, cells := 0, slots := 0, locals := 163 } s m args below meth c H locs 0 0 Q (F0 m 67 ls [.int r1])) : ∀ (S : MS) (H : Heap) (locs : List Loc) (ls : Array Slot) (s0 : Int32), fr_isAlias_b67 S s0 = some (r1, S1) → mG D cI cJ cZ ad A H0 H locs S → lv_has ls 4 [] → W p l e { frames := 8, cells := 0, slots := 0, locals := 163 } s m args below meth c H locs 0 0 Q (F0 m 67 ls [.int s0]) := by
  have hx := E.1
  have hb := E.2.1
  have hts := E.2.2.1
  have hown := E.2.2.2.1
  have hK := E.2.2.2.2.1
  intro S H locs ls s0 h G hl
  unfold fr_isAlias_b67 at h
  obtain ⟨gz, h⟩ := oif_some h
  have gr : r1 = 0 ∨ r1 = 1 := by rw [← (osome2 h).1]; exact gz
  rw [(osome2 h).2] at G
  refine lv_to (osome2 h).1 ?_
  exact kr67 _ _ _ gr G
def fr_isAlias_b66  (S : MS)  : Option (Int32 × MS) := fr_isAlias_b67 S 0
set_option maxHeartbeats 4000000 in
set_option maxRecDepth 100000 in
theorem tr_isAlias_b66 {p : Program} {l : Launch} {e : Env} {s : State} {m : MethodId} {args : Array Value} {below : List Frame} {meth : Method} {c : Code} {Q : State → Prop} {D : va_G} {A : Nat → Prop} {H0 : Heap} {cI cJ cZ : ClassId} {ad : Nat → Nat} {r1 : Int32} {S1 : MS} (E : mE p c cX12_isAlias s m args (Cond.code yX12_isAlias cX12_isAlias 4 (some .boolean) :: wsM) D cI cJ cZ) (hA : ∀ q : Nat, H0.size ≤ q → A q) (hR : sR s) (hml : c.maxLocals = 4) (kr13 : ∀ (H : Heap) (locs : List Loc) (ls : Array Slot), (r1 = 0 ∨ r1 = 1) → mG D cI cJ cZ ad A H0 H locs S1 → W p l e { frames := 8, cells := 0, slots := 0, locals := 163 } s m args below meth c H locs 0 0 Q (F0 m 13 ls [.int r1])) (kr67 : ∀ (H : Heap) (locs : List Loc) (ls : Array Slot), (r1 = 0 ∨ r1 = 1) → mG D cI cJ cZ ad A H0 H locs S1 → W p l e { frames := 8, cells := 0, slots := 0, locals := 163 } s m args below meth c H locs 0 0 Q (F0 m 67 ls [.int r1])) : ∀ (S : MS) (H : Heap) (locs : List Loc) (ls : Array Slot), fr_isAlias_b66 S = some (r1, S1) → mG D cI cJ cZ ad A H0 H locs S → lv_has ls 4 [] → W p l e { frames := 8, cells := 0, slots := 0, locals := 163 } s m args below meth c H locs 0 0 Q (F0 m 66 ls []) := by
  have hx := E.1
  have hb := E.2.1
  have hts := E.2.2.1
  have hown := E.2.2.2.1
  have hK := E.2.2.2.2.1
  intro S H locs ls h G hl
  unfold fr_isAlias_b66 at h
  refine lv_iconst (v := 0) hx hb dX12_isAlias_66 (by decide) ?_
  have hl := lv_sub hl [] rfl
  exact tr_isAlias_b67 E hA hR hml kr13 kr67 _ _ _ _ _ h G hl
def fr_isAlias_b34  (S : MS) (s0 : Int32) (l1 : Int32) (l2 : Int32) (l3 : Int32) : Option (Int32 × MS) := elet (mi S 0 s0) fun S2 => elet (S2.1 0) fun v3 => if v3 = 0 then (obind2 (fr_bestIn_12 S2) fun r8 S5 => obind2 (fr_isMark S5 l1 r8 l2 l3) fun r12 S9 => if r12 = 0 then (fr_isAlias_b66 S9) else (fr_isAlias_b67 S9 1)) else (fr_isAlias_b66 S2)
set_option maxHeartbeats 4000000 in
set_option maxRecDepth 100000 in
theorem tr_isAlias_b34 {p : Program} {l : Launch} {e : Env} {s : State} {m : MethodId} {args : Array Value} {below : List Frame} {meth : Method} {c : Code} {Q : State → Prop} {D : va_G} {A : Nat → Prop} {H0 : Heap} {cI cJ cZ : ClassId} {ad : Nat → Nat} {r1 : Int32} {S1 : MS} (E : mE p c cX12_isAlias s m args (Cond.code yX12_isAlias cX12_isAlias 4 (some .boolean) :: wsM) D cI cJ cZ) (hA : ∀ q : Nat, H0.size ≤ q → A q) (hR : sR s) (hml : c.maxLocals = 4) (kr13 : ∀ (H : Heap) (locs : List Loc) (ls : Array Slot), (r1 = 0 ∨ r1 = 1) → mG D cI cJ cZ ad A H0 H locs S1 → W p l e { frames := 8, cells := 0, slots := 0, locals := 163 } s m args below meth c H locs 0 0 Q (F0 m 13 ls [.int r1])) (kr67 : ∀ (H : Heap) (locs : List Loc) (ls : Array Slot), (r1 = 0 ∨ r1 = 1) → mG D cI cJ cZ ad A H0 H locs S1 → W p l e { frames := 8, cells := 0, slots := 0, locals := 163 } s m args below meth c H locs 0 0 Q (F0 m 67 ls [.int r1])) : ∀ (S : MS) (H : Heap) (locs : List Loc) (ls : Array Slot) (s0 : Int32) (l1 : Int32) (l2 : Int32) (l3 : Int32), fr_isAlias_b34 S s0 l1 l2 l3 = some (r1, S1) → mG D cI cJ cZ ad A H0 H locs S → lv_has ls 4 [(0, .ref (ad 0)), (1, .int l1), (2, .int l2), (3, .int l3)] → W p l e { frames := 8, cells := 0, slots := 0, locals := 163 } s m args below meth c H locs 0 0 Q (F0 m 34 ls [.int s0, .ref (ad 0)]) := by
  have hx := E.1
  have hb := E.2.1
  have hts := E.2.2.1
  have hown := E.2.2.2.1
  have hK := E.2.2.2.2.1
  intro S H locs ls s0 l1 l2 l3 h G hl
  unfold fr_isAlias_b34 at h
  refine m_put E G 0 (by decide) (.tail _ qM_26) (mw_i0 _ _ _ _ _ s0) dX12_isAlias_34 ⟨rfl, rfl, rfl⟩ rfl rfl (fun H locs G => ?_)
  obtain ⟨S2, eS2, h⟩ := elet_some h
  rw [← eS2] at G
  clear eS2
  refine lv_aload_n hx hb dX12_isAlias_37 rfl (lv_at hl 0 rfl) ?_
  refine m_get E G 0 (v := .int (S2.1 0)) (by decide) (.tail _ qM_26) rfl dX12_isAlias_38 rfl ?_
  refine lv_topi (fun v3 ev3 => ?_)
  have h := elet_at ev3 h
  clear ev3
  refine lv_if_ne (tgt := 66) hx hb dX12_isAlias_41 (by decide) (fun c4 => ?_) (fun c4 => ?_)
  · have h := oif_neg c4 h
    have hl := lv_sub hl [] rfl
    exact tr_isAlias_b66 E hA hR hml kr13 kr67 _ _ _ _ h G hl
  · have h := oif_pos c4 h
    refine lv_aload_n hx hb dX12_isAlias_44 rfl (lv_at hl 0 rfl) ?_
    refine lv_iload_n hx hb dX12_isAlias_45 rfl (lv_at hl 1 rfl) ?_
    refine lv_aload_n hx hb dX12_isAlias_46 rfl (lv_at hl 0 rfl) ?_
    refine lv_aload_n hx hb dX12_isAlias_47 rfl (lv_at hl 0 rfl) ?_
    refine m_get E G 12 (v := .ref (ad 12)) (by decide) (.tail _ qM_9) rfl dX12_isAlias_48 rfl ?_
    obtain ⟨r8, S5, eS5, h⟩ := obind2_some h
    refine m_calli (As := [.ref (ad 12)]) (rest := [.int l1, .ref (ad 0)]) E G hA hR hml (tr_bestIn_12 l D cI cJ cZ ad S2 eS5) (cwV 1 hts (gmV qM_360 qM_361 qM_362 qM_35 qM_300) rfl rfl rfl (by decide +kernel) ⟨Nat.le_of_ble_eq_true rfl, Nat.le_of_ble_eq_true rfl⟩) rfl hl.1 rfl (lv_room (Nat.le_of_ble_eq_true rfl)) dX12_isAlias_51 ⟨Nat.zero_le _, Nat.zero_le _⟩ (fun q6 S7 H locs hq G => ?_)
    obtain ⟨hq1, hq2⟩ := hq
    rw [hq2] at G
    refine lv_to hq1 ?_
    clear hq1 hq2 eS5
    refine lv_iload_n hx hb dX12_isAlias_54 rfl (lv_at hl 2 rfl) ?_
    refine lv_iload_n hx hb dX12_isAlias_55 rfl (lv_at hl 3 rfl) ?_
    obtain ⟨r12, S9, eS9, h⟩ := obind2_some h
    refine m_calli (As := [.int l1, .int r8, .int l2, .int l3]) (rest := []) E G hA hR hml (tr_isMark l D cI cJ cZ ad S5 l1 r8 l2 l3 eS9) (cwV 4 hts (gmV qM_396 qM_397 qM_398 qM_35 qM_391) rfl rfl rfl (by decide +kernel) ⟨Nat.le_of_ble_eq_true rfl, Nat.le_of_ble_eq_true rfl⟩) rfl hl.1 rfl (lv_room (Nat.le_of_ble_eq_true rfl)) dX12_isAlias_56 ⟨Nat.zero_le _, Nat.zero_le _⟩ (fun q10 S11 H locs hq G => ?_)
    obtain ⟨hq1, hq2⟩ := hq
    rw [hq2] at G
    refine lv_to hq1 ?_
    clear hq1 hq2 eS9
    refine lv_if_eq (tgt := 66) hx hb dX12_isAlias_59 (by decide) (fun c13 => ?_) (fun c13 => ?_)
    · have h := oif_pos c13 h
      have hl := lv_sub hl [] rfl
      exact tr_isAlias_b66 E hA hR hml kr13 kr67 _ _ _ _ h G hl
    · have h := oif_neg c13 h
      refine lv_iconst (v := 1) hx hb dX12_isAlias_62 (by decide) ?_
      refine lv_goto (tgt := 67) hx hb dX12_isAlias_63 (by decide) ?_
      have hl := lv_sub hl [] rfl
      exact tr_isAlias_b67 E hA hR hml kr13 kr67 _ _ _ _ _ h G hl
def fr_isAlias_b33  (S : MS) (l1 : Int32) (l2 : Int32) (l3 : Int32) : Option (Int32 × MS) := fr_isAlias_b34 S 3 l1 l2 l3
set_option maxHeartbeats 4000000 in
set_option maxRecDepth 100000 in
theorem tr_isAlias_b33 {p : Program} {l : Launch} {e : Env} {s : State} {m : MethodId} {args : Array Value} {below : List Frame} {meth : Method} {c : Code} {Q : State → Prop} {D : va_G} {A : Nat → Prop} {H0 : Heap} {cI cJ cZ : ClassId} {ad : Nat → Nat} {r1 : Int32} {S1 : MS} (E : mE p c cX12_isAlias s m args (Cond.code yX12_isAlias cX12_isAlias 4 (some .boolean) :: wsM) D cI cJ cZ) (hA : ∀ q : Nat, H0.size ≤ q → A q) (hR : sR s) (hml : c.maxLocals = 4) (kr13 : ∀ (H : Heap) (locs : List Loc) (ls : Array Slot), (r1 = 0 ∨ r1 = 1) → mG D cI cJ cZ ad A H0 H locs S1 → W p l e { frames := 8, cells := 0, slots := 0, locals := 163 } s m args below meth c H locs 0 0 Q (F0 m 13 ls [.int r1])) (kr67 : ∀ (H : Heap) (locs : List Loc) (ls : Array Slot), (r1 = 0 ∨ r1 = 1) → mG D cI cJ cZ ad A H0 H locs S1 → W p l e { frames := 8, cells := 0, slots := 0, locals := 163 } s m args below meth c H locs 0 0 Q (F0 m 67 ls [.int r1])) : ∀ (S : MS) (H : Heap) (locs : List Loc) (ls : Array Slot) (l1 : Int32) (l2 : Int32) (l3 : Int32), fr_isAlias_b33 S l1 l2 l3 = some (r1, S1) → mG D cI cJ cZ ad A H0 H locs S → lv_has ls 4 [(0, .ref (ad 0)), (1, .int l1), (2, .int l2), (3, .int l3)] → W p l e { frames := 8, cells := 0, slots := 0, locals := 163 } s m args below meth c H locs 0 0 Q (F0 m 33 ls [.ref (ad 0)]) := by
  have hx := E.1
  have hb := E.2.1
  have hts := E.2.2.1
  have hown := E.2.2.2.1
  have hK := E.2.2.2.2.1
  intro S H locs ls l1 l2 l3 h G hl
  unfold fr_isAlias_b33 at h
  refine lv_iconst (v := 3) hx hb dX12_isAlias_33 (by decide) ?_
  have hl := lv_sub hl [0, 1, 2, 3] rfl
  exact tr_isAlias_b34 E hA hR hml kr13 kr67 _ _ _ _ _ _ _ _ h G hl
def fr_isAlias (S : MS) (a0 : Int32) (a1 : Int32) (a2 : Int32) : Option (Int32 × MS) := obind2 (fr_isCell S a0) fun r5 S2 => obind2 (fr_mayAsk S2 r5) fun r9 S6 => if r9 = 0 then (some (0, S6)) else (obind (fr_isPeriod a1) fun r11 => if r11 = 0 then (fr_isAlias_b33 S6 a0 a1 a2) else (obind (fr_isShare a2) fun r14 => if r14 = 0 then (fr_isAlias_b33 S6 a0 a1 a2) else (fr_isAlias_b34 S6 0 a0 a1 a2)))
set_option maxHeartbeats 4000000 in
set_option maxRecDepth 100000 in
theorem tr_isAlias (l : Launch) (D : va_G) (cI cJ cZ : ClassId) (ad : Nat → Nat) (S : MS) (a0 : Int32) (a1 : Int32) (a2 : Int32) {r1 : Int32} {S1 : MS} (h : fr_isAlias S a0 a1 a2 = some (r1, S1)) : mCi l yX12_isAlias (Cond.code yX12_isAlias cX12_isAlias 4 (some .boolean) :: wsM) 8 163 D cI cJ cZ ad S [.int a0, .int a1, .int a2] (fun r S9 => r = r1 ∧ S9 = S1) := by
  intro sz
  refine Met.ofW (cc := cX12_isAlias) (maxL := 4) (ret := (some .boolean)) (by decide) rfl ?_
  intro p e s m args below meth c s₁ B hml hv
  obtain ⟨rfl, hsz, hP, hK, hD0, hR⟩ := hv
  have hx := B.exec
  have hb := B.bytes
  have hr := B.returns
  have hts := atoms_spec (ws := (Cond.code yX12_isAlias cX12_isAlias 4 (some .boolean) :: wsM)) B.pre
  have hown : s.vm.findClass RX12 = some m.cls := findClass_of_methodNamed B.named
  have hlocks := B.notSynchronized
  subst hsz
  have hD := hD0.self (sz := s.heap.size)
  generalize hAe : va_A (MW cI cJ cZ ad S) s.heap.size = A at hD ⊢
  have hA : ∀ q : Nat, s.heap.size ≤ q → A q := fun q h => by rw [← hAe]; exact Or.inr h
  have G : mG D cI cJ cZ ad A s.heap s.heap [] S := ⟨hP, hD, va_S.rf⟩
  have E : mE p c cX12_isAlias s m ([.ref (ad 0), .int a0, .int a1, .int a2] : List Value).toArray (Cond.code yX12_isAlias cX12_isAlias 4 (some .boolean) :: wsM) D cI cJ cZ := ⟨hx, hb, hts, hown, hK, fun w h => .tail _ (iM_x h)⟩
  have hl := lv_entry ([.ref (ad 0), .int a0, .int a1, .int a2]) (n := 4) (Nat.le_of_ble_eq_true rfl)
  rw [lg_entry_eq]
  generalize (lg_sl ([.ref (ad 0), .int a0, .int a1, .int a2]) ++ List.replicate (4 - (lg_sl ([.ref (ad 0), .int a0, .int a1, .int a2])).length) Slot.unset).toArray = ls at hl ⊢
  have hl : lv_has ls 4 [(0, .ref (ad 0)), (1, .int a0), (2, .int a1), (3, .int a2)] := hl
  unfold fr_isAlias at h
  refine lv_aload_n hx hb dX12_isAlias_0 rfl (lv_at hl 0 rfl) ?_
  refine lv_aload_n hx hb dX12_isAlias_1 rfl (lv_at hl 0 rfl) ?_
  refine lv_iload_n hx hb dX12_isAlias_2 rfl (lv_at hl 1 rfl) ?_
  obtain ⟨r5, S2, eS2, h⟩ := obind2_some h
  refine m_calli (As := [.int a0]) (rest := [.ref (ad 0)]) E G hA hR hml (tr_isCell l D cI cJ cZ ad S a0 eS2) (cwV 1 hts (gmV qM_326 qM_327 qM_328 qM_35 qM_307) rfl rfl rfl (by decide +kernel) ⟨Nat.le_of_ble_eq_true rfl, Nat.le_of_ble_eq_true rfl⟩) rfl hl.1 rfl (lv_room (Nat.le_of_ble_eq_true rfl)) dX12_isAlias_3 ⟨Nat.zero_le _, Nat.zero_le _⟩ (fun q3 S4 H locs hq G => ?_)
  obtain ⟨hq1, hq2⟩ := hq
  rw [hq2] at G
  refine lv_to hq1 ?_
  clear hq1 hq2 eS2
  obtain ⟨r9, S6, eS6, h⟩ := obind2_some h
  refine m_calli (As := [.int r5]) (rest := []) E G hA hR hml (tr_mayAsk l D cI cJ cZ ad S2 r5 eS6) (cwV 1 hts (gmV qM_319 qM_320 qM_321 qM_35 qM_304) rfl rfl rfl (by decide +kernel) ⟨Nat.le_of_ble_eq_true rfl, Nat.le_of_ble_eq_true rfl⟩) rfl hl.1 rfl (lv_room (Nat.le_of_ble_eq_true rfl)) dX12_isAlias_6 ⟨Nat.zero_le _, Nat.zero_le _⟩ (fun q7 S8 H locs hq G => ?_)
  obtain ⟨hq1, hq2⟩ := hq
  rw [hq2] at G
  refine lv_to hq1 ?_
  clear hq1 hq2 eS6
  refine lv_if_ne (tgt := 14) hx hb dX12_isAlias_9 (by decide) (fun c10 => ?_) (fun c10 => ?_)
  · have h := oif_neg c10 h
    refine lv_aload_n hx hb dX12_isAlias_14 rfl (lv_at hl 0 rfl) ?_
    refine lv_iload_n hx hb dX12_isAlias_15 rfl (lv_at hl 2 rfl) ?_
    obtain ⟨r11, er11, h⟩ := obind_some h
    refine m_stat (As := [.int a1]) (rest := [.ref (ad 0)]) ⟨hx, hb, hml, hown, hts⟩ (tr_isPeriod l a1 er11) (cwS 1 hts (gmS qM_386 qM_387 qM_35 qM_310) rfl rfl rfl (by decide +kernel) ⟨Nat.le_of_ble_eq_true rfl, Nat.le_of_ble_eq_true rfl⟩) rfl hl.1 rfl (lv_room (Nat.le_of_ble_eq_true rfl)) dX12_isAlias_16 ⟨Nat.zero_le _, Nat.zero_le _⟩ (fun q12 hq => ?_)
    refine lv_to hq ?_
    clear hq er11
    refine lv_if_eq (tgt := 33) hx hb dX12_isAlias_19 (by decide) (fun c13 => ?_) (fun c13 => ?_)
    · have h := oif_pos c13 h
      have hl := lv_sub hl [0, 1, 2, 3] rfl
      exact tr_isAlias_b33 E hA hR hml (fun H locs ls gz G => W.zret (v := r1) hx hb hr (nar01 gz) (fun t ht hW => ⟨⟨r1, S1, rfl, ⟨rfl, rfl⟩, ⟨by rw [ht]; exact G.1, va_K.moved hW.alike hK, G.2.1⟩⟩, G.2.2.F ht⟩) G.2.2.2.2 dX12_isAlias_13) (fun H locs ls gz G => W.zret (v := r1) hx hb hr (nar01 gz) (fun t ht hW => ⟨⟨r1, S1, rfl, ⟨rfl, rfl⟩, ⟨by rw [ht]; exact G.1, va_K.moved hW.alike hK, G.2.1⟩⟩, G.2.2.F ht⟩) G.2.2.2.2 dX12_isAlias_67) _ _ _ _ _ _ _ h G hl
    · have h := oif_neg c13 h
      refine lv_iload_n hx hb dX12_isAlias_22 rfl (lv_at hl 3 rfl) ?_
      obtain ⟨r14, er14, h⟩ := obind_some h
      refine m_stat (As := [.int a2]) (rest := [.ref (ad 0)]) ⟨hx, hb, hml, hown, hts⟩ (tr_isShare l a2 er14) (cwS 1 hts (gmS qM_394 qM_395 qM_35 qM_392) rfl rfl rfl (by decide +kernel) ⟨Nat.le_of_ble_eq_true rfl, Nat.le_of_ble_eq_true rfl⟩) rfl hl.1 rfl (lv_room (Nat.le_of_ble_eq_true rfl)) dX12_isAlias_23 ⟨Nat.zero_le _, Nat.zero_le _⟩ (fun q15 hq => ?_)
      refine lv_to hq ?_
      clear hq er14
      refine lv_if_eq (tgt := 33) hx hb dX12_isAlias_26 (by decide) (fun c16 => ?_) (fun c16 => ?_)
      · have h := oif_pos c16 h
        have hl := lv_sub hl [0, 1, 2, 3] rfl
        exact tr_isAlias_b33 E hA hR hml (fun H locs ls gz G => W.zret (v := r1) hx hb hr (nar01 gz) (fun t ht hW => ⟨⟨r1, S1, rfl, ⟨rfl, rfl⟩, ⟨by rw [ht]; exact G.1, va_K.moved hW.alike hK, G.2.1⟩⟩, G.2.2.F ht⟩) G.2.2.2.2 dX12_isAlias_13) (fun H locs ls gz G => W.zret (v := r1) hx hb hr (nar01 gz) (fun t ht hW => ⟨⟨r1, S1, rfl, ⟨rfl, rfl⟩, ⟨by rw [ht]; exact G.1, va_K.moved hW.alike hK, G.2.1⟩⟩, G.2.2.F ht⟩) G.2.2.2.2 dX12_isAlias_67) _ _ _ _ _ _ _ h G hl
      · have h := oif_neg c16 h
        refine lv_iconst (v := 0) hx hb dX12_isAlias_29 (by decide) ?_
        refine lv_goto (tgt := 34) hx hb dX12_isAlias_30 (by decide) ?_
        have hl := lv_sub hl [0, 1, 2, 3] rfl
        exact tr_isAlias_b34 E hA hR hml (fun H locs ls gz G => W.zret (v := r1) hx hb hr (nar01 gz) (fun t ht hW => ⟨⟨r1, S1, rfl, ⟨rfl, rfl⟩, ⟨by rw [ht]; exact G.1, va_K.moved hW.alike hK, G.2.1⟩⟩, G.2.2.F ht⟩) G.2.2.2.2 dX12_isAlias_13) (fun H locs ls gz G => W.zret (v := r1) hx hb hr (nar01 gz) (fun t ht hW => ⟨⟨r1, S1, rfl, ⟨rfl, rfl⟩, ⟨by rw [ht]; exact G.1, va_K.moved hW.alike hK, G.2.1⟩⟩, G.2.2.F ht⟩) G.2.2.2.2 dX12_isAlias_67) _ _ _ _ _ _ _ _ h G hl
  · have h := oif_pos c10 h
    refine lv_iconst (v := 0) hx hb dX12_isAlias_12 (by decide) ?_
    exact W.zret (v := 0) hx hb hr rfl (fun t ht hW => ⟨⟨0, S6, rfl, osome2 h, ⟨by rw [ht]; exact G.1, va_K.moved hW.alike hK, G.2.1⟩⟩, G.2.2.F ht⟩) G.2.2.2.2 dX12_isAlias_13
def fr_aliases_b71 (k43 : MS → Int32 → Int32 → Int32 → Int32 → Int32 → Option (Int32 × MS)) (S : MS) (s0 : Int32) (s1 : Int32) (l1 : Int32) (l2 : Int32) (l3 : Int32) (l5 : Int32) : Option (Int32 × MS) := elet (s1 + s0) fun v2 => elet (l5 + Int32.ofInt (1)) fun v3 => k43 S l1 l2 l3 v2 v3
set_option maxHeartbeats 4000000 in
set_option maxRecDepth 100000 in
theorem tr_aliases_b71 {p : Program} {l : Launch} {e : Env} {s : State} {m : MethodId} {args : Array Value} {below : List Frame} {meth : Method} {c : Code} {Q : State → Prop} {D : va_G} {A : Nat → Prop} {H0 : Heap} {cI cJ cZ : ClassId} {ad : Nat → Nat} {r1 : Int32} {S1 : MS} (E : mE p c cX12_aliases s m args (Cond.code yX12_aliases cX12_aliases 6 (some .int) :: wsM) D cI cJ cZ) (hA : ∀ q : Nat, H0.size ≤ q → A q) (hR : sR s) (hml : c.maxLocals = 6) (kr27 : ∀ (H : Heap) (locs : List Loc) (ls : Array Slot), mG D cI cJ cZ ad A H0 H locs S1 → W p l e { frames := 8, cells := 0, slots := 0, locals := 163 } s m args below meth c H locs 0 0 Q (F0 m 27 ls [.int r1])) (kr82 : ∀ (H : Heap) (locs : List Loc) (ls : Array Slot), mG D cI cJ cZ ad A H0 H locs S1 → W p l e { frames := 8, cells := 0, slots := 0, locals := 163 } s m args below meth c H locs 0 0 Q (F0 m 82 ls [.int r1])) {k43 : MS → Int32 → Int32 → Int32 → Int32 → Int32 → Option (Int32 × MS)} (hk43 : ∀ (S : MS) (H : Heap) (locs : List Loc) (ls : Array Slot) (l1 : Int32) (l2 : Int32) (l3 : Int32) (l4 : Int32) (l5 : Int32), k43 S l1 l2 l3 l4 l5 = some (r1, S1) → mG D cI cJ cZ ad A H0 H locs S → lv_has ls 6 [(0, .ref (ad 0)), (1, .int l1), (2, .int l2), (3, .int l3), (4, .int l4), (5, .int l5)] → W p l e { frames := 8, cells := 0, slots := 0, locals := 163 } s m args below meth c H locs 0 0 Q (F0 m 43 ls [])) : ∀ (S : MS) (H : Heap) (locs : List Loc) (ls : Array Slot) (s0 : Int32) (s1 : Int32) (l1 : Int32) (l2 : Int32) (l3 : Int32) (l5 : Int32), fr_aliases_b71 k43 S s0 s1 l1 l2 l3 l5 = some (r1, S1) → mG D cI cJ cZ ad A H0 H locs S → lv_has ls 6 [(0, .ref (ad 0)), (1, .int l1), (2, .int l2), (3, .int l3), (5, .int l5)] → W p l e { frames := 8, cells := 0, slots := 0, locals := 163 } s m args below meth c H locs 0 0 Q (F0 m 71 ls [.int s0, .int s1]) := by
  have hx := E.1
  have hb := E.2.1
  have hts := E.2.2.1
  have hown := E.2.2.2.1
  have hK := E.2.2.2.2.1
  intro S H locs ls s0 s1 l1 l2 l3 l5 h G hl
  unfold fr_aliases_b71 at h
  refine lv_iadd hx hb dX12_aliases_71 ?_
  refine lv_topi (fun v2 ev2 => ?_)
  have h := elet_at ev2 h
  clear ev2
  refine lv_istore (lv' := [(4, .int v2), (0, .ref (ad 0)), (1, .int l1), (2, .int l2), (3, .int l3), (5, .int l5)]) hx hb dX12_aliases_72 hl (by decide) rfl (fun ls hl => ?_)
  obtain ⟨v3, ev3, h⟩ := elet_some h
  refine lv_iinc (v := v3) (lv' := [(5, .int v3), (4, .int v2), (0, .ref (ad 0)), (1, .int l1), (2, .int l2), (3, .int l3)]) hx hb dX12_aliases_74 hl (k := 5) rfl ev3.symm (by decide) rfl (fun ls hl => ?_)
  refine lv_goto (tgt := 43) hx hb dX12_aliases_77 (by decide) ?_
  have hl := lv_sub hl [2, 3, 4, 5, 1, 0] rfl
  exact hk43 _ _ _ _ _ _ _ _ _ h G hl
def fr_aliases_b43  : Nat → MS → Int32 → Int32 → Int32 → Int32 → Int32 → Option (Int32 × MS)
  | 0, _, _, _, _, _, _ => none
  | n + 1, S, l1, l2, l3, l4, l5 => obind2 (fr_cellCount S) fun r5 S2 => if r5 ≤ l5 then (some (l4, S2)) else (obind2 (fr_isMark S2 l5 l3 l1 l2) fun r10 S7 => if r10 = 0 then (fr_aliases_b71 (fr_aliases_b43 n) S7 0 l4 l1 l2 l3 l5) else (fr_aliases_b71 (fr_aliases_b43 n) S7 1 l4 l1 l2 l3 l5))
set_option maxHeartbeats 4000000 in
set_option maxRecDepth 100000 in
theorem tr_aliases_b43 {p : Program} {l : Launch} {e : Env} {s : State} {m : MethodId} {args : Array Value} {below : List Frame} {meth : Method} {c : Code} {Q : State → Prop} {D : va_G} {A : Nat → Prop} {H0 : Heap} {cI cJ cZ : ClassId} {ad : Nat → Nat} {r1 : Int32} {S1 : MS} (E : mE p c cX12_aliases s m args (Cond.code yX12_aliases cX12_aliases 6 (some .int) :: wsM) D cI cJ cZ) (hA : ∀ q : Nat, H0.size ≤ q → A q) (hR : sR s) (hml : c.maxLocals = 6) (kr27 : ∀ (H : Heap) (locs : List Loc) (ls : Array Slot), mG D cI cJ cZ ad A H0 H locs S1 → W p l e { frames := 8, cells := 0, slots := 0, locals := 163 } s m args below meth c H locs 0 0 Q (F0 m 27 ls [.int r1])) (kr82 : ∀ (H : Heap) (locs : List Loc) (ls : Array Slot), mG D cI cJ cZ ad A H0 H locs S1 → W p l e { frames := 8, cells := 0, slots := 0, locals := 163 } s m args below meth c H locs 0 0 Q (F0 m 82 ls [.int r1])) : ∀ n : Nat, ∀ (S : MS) (H : Heap) (locs : List Loc) (ls : Array Slot) (l1 : Int32) (l2 : Int32) (l3 : Int32) (l4 : Int32) (l5 : Int32), fr_aliases_b43 n S l1 l2 l3 l4 l5 = some (r1, S1) → mG D cI cJ cZ ad A H0 H locs S → lv_has ls 6 [(0, .ref (ad 0)), (1, .int l1), (2, .int l2), (3, .int l3), (4, .int l4), (5, .int l5)] → W p l e { frames := 8, cells := 0, slots := 0, locals := 163 } s m args below meth c H locs 0 0 Q (F0 m 43 ls []) := by
  have hx := E.1
  have hb := E.2.1
  have hts := E.2.2.1
  have hown := E.2.2.2.1
  have hK := E.2.2.2.2.1
  intro n
  induction n with
  | zero =>
    intro S H locs ls l1 l2 l3 l4 l5 h
    have h : (none : Option (Int32 × MS)) = some (r1, S1) := h
    cases h
  | succ n ih =>
    intro S H locs ls l1 l2 l3 l4 l5 h G hl
    unfold fr_aliases_b43 at h
    refine lv_iload hx hb dX12_aliases_43 (lv_at hl 5 rfl) ?_
    refine lv_aload_n hx hb dX12_aliases_45 rfl (lv_at hl 0 rfl) ?_
    obtain ⟨r5, S2, eS2, h⟩ := obind2_some h
    refine m_calli (As := []) (rest := [.int l5]) E G hA hR hml (tr_cellCount l D cI cJ cZ ad S eS2) (cwV 0 hts (gmV qM_204 qM_205 qM_206 qM_35 qM_207) rfl rfl rfl (by decide +kernel) ⟨Nat.le_of_ble_eq_true rfl, Nat.le_of_ble_eq_true rfl⟩) rfl hl.1 rfl (lv_room (Nat.le_of_ble_eq_true rfl)) dX12_aliases_46 ⟨Nat.zero_le _, Nat.zero_le _⟩ (fun q3 S4 H locs hq G => ?_)
    obtain ⟨hq1, hq2⟩ := hq
    rw [hq2] at G
    refine lv_to hq1 ?_
    clear hq1 hq2 eS2
    refine lv_icmp_ge (tgt := 80) hx hb dX12_aliases_49 (by decide) (fun c6 => ?_) (fun c6 => ?_)
    · have h := oif_pos c6 h
      refine lv_iload hx hb dX12_aliases_80 (lv_at hl 4 rfl) ?_
      rw [(osome2 h).2] at G
      refine lv_to (osome2 h).1 ?_
      exact kr82 _ _ _ G
    · have h := oif_neg c6 h
      refine lv_iload hx hb dX12_aliases_52 (lv_at hl 4 rfl) ?_
      refine lv_aload_n hx hb dX12_aliases_54 rfl (lv_at hl 0 rfl) ?_
      refine lv_iload hx hb dX12_aliases_55 (lv_at hl 5 rfl) ?_
      refine lv_iload_n hx hb dX12_aliases_57 rfl (lv_at hl 3 rfl) ?_
      refine lv_iload_n hx hb dX12_aliases_58 rfl (lv_at hl 1 rfl) ?_
      refine lv_iload_n hx hb dX12_aliases_59 rfl (lv_at hl 2 rfl) ?_
      obtain ⟨r10, S7, eS7, h⟩ := obind2_some h
      refine m_calli (As := [.int l5, .int l3, .int l1, .int l2]) (rest := [.int l4]) E G hA hR hml (tr_isMark l D cI cJ cZ ad S2 l5 l3 l1 l2 eS7) (cwV 4 hts (gmV qM_396 qM_397 qM_398 qM_35 qM_391) rfl rfl rfl (by decide +kernel) ⟨Nat.le_of_ble_eq_true rfl, Nat.le_of_ble_eq_true rfl⟩) rfl hl.1 rfl (lv_room (Nat.le_of_ble_eq_true rfl)) dX12_aliases_60 ⟨Nat.zero_le _, Nat.zero_le _⟩ (fun q8 S9 H locs hq G => ?_)
      obtain ⟨hq1, hq2⟩ := hq
      rw [hq2] at G
      refine lv_to hq1 ?_
      clear hq1 hq2 eS7
      refine lv_if_eq (tgt := 70) hx hb dX12_aliases_63 (by decide) (fun c11 => ?_) (fun c11 => ?_)
      · have h := oif_pos c11 h
        refine lv_iconst (v := 0) hx hb dX12_aliases_70 (by decide) ?_
        have hl := lv_sub hl [0, 1, 2, 3, 5] rfl
        exact tr_aliases_b71 E hA hR hml kr27 kr82 ih _ _ _ _ _ _ _ _ _ _ h G hl
      · have h := oif_neg c11 h
        refine lv_iconst (v := 1) hx hb dX12_aliases_66 (by decide) ?_
        refine lv_goto (tgt := 71) hx hb dX12_aliases_67 (by decide) ?_
        have hl := lv_sub hl [0, 1, 2, 3, 5] rfl
        exact tr_aliases_b71 E hA hR hml kr27 kr82 ih _ _ _ _ _ _ _ _ _ _ h G hl
def fr_aliases_b20  (S : MS) (s0 : Int32) (l1 : Int32) (l2 : Int32) : Option (Int32 × MS) := obind2 (fr_mayAsk S s0) fun r5 S2 => if r5 = 0 then (some (0, S2)) else (obind2 (fr_bestIn_12 S2) fun r10 S7 => fr_aliases_b43 16384 S7 l1 l2 r10 0 0)
set_option maxHeartbeats 4000000 in
set_option maxRecDepth 100000 in
theorem tr_aliases_b20 {p : Program} {l : Launch} {e : Env} {s : State} {m : MethodId} {args : Array Value} {below : List Frame} {meth : Method} {c : Code} {Q : State → Prop} {D : va_G} {A : Nat → Prop} {H0 : Heap} {cI cJ cZ : ClassId} {ad : Nat → Nat} {r1 : Int32} {S1 : MS} (E : mE p c cX12_aliases s m args (Cond.code yX12_aliases cX12_aliases 6 (some .int) :: wsM) D cI cJ cZ) (hA : ∀ q : Nat, H0.size ≤ q → A q) (hR : sR s) (hml : c.maxLocals = 6) (kr27 : ∀ (H : Heap) (locs : List Loc) (ls : Array Slot), mG D cI cJ cZ ad A H0 H locs S1 → W p l e { frames := 8, cells := 0, slots := 0, locals := 163 } s m args below meth c H locs 0 0 Q (F0 m 27 ls [.int r1])) (kr82 : ∀ (H : Heap) (locs : List Loc) (ls : Array Slot), mG D cI cJ cZ ad A H0 H locs S1 → W p l e { frames := 8, cells := 0, slots := 0, locals := 163 } s m args below meth c H locs 0 0 Q (F0 m 82 ls [.int r1])) : ∀ (S : MS) (H : Heap) (locs : List Loc) (ls : Array Slot) (s0 : Int32) (l1 : Int32) (l2 : Int32), fr_aliases_b20 S s0 l1 l2 = some (r1, S1) → mG D cI cJ cZ ad A H0 H locs S → lv_has ls 6 [(0, .ref (ad 0)), (1, .int l1), (2, .int l2)] → W p l e { frames := 8, cells := 0, slots := 0, locals := 163 } s m args below meth c H locs 0 0 Q (F0 m 20 ls [.int s0, .ref (ad 0)]) := by
  have hx := E.1
  have hb := E.2.1
  have hts := E.2.2.1
  have hown := E.2.2.2.1
  have hK := E.2.2.2.2.1
  intro S H locs ls s0 l1 l2 h G hl
  unfold fr_aliases_b20 at h
  obtain ⟨r5, S2, eS2, h⟩ := obind2_some h
  refine m_calli (As := [.int s0]) (rest := []) E G hA hR hml (tr_mayAsk l D cI cJ cZ ad S s0 eS2) (cwV 1 hts (gmV qM_319 qM_320 qM_321 qM_35 qM_304) rfl rfl rfl (by decide +kernel) ⟨Nat.le_of_ble_eq_true rfl, Nat.le_of_ble_eq_true rfl⟩) rfl hl.1 rfl (lv_room (Nat.le_of_ble_eq_true rfl)) dX12_aliases_20 ⟨Nat.zero_le _, Nat.zero_le _⟩ (fun q3 S4 H locs hq G => ?_)
  obtain ⟨hq1, hq2⟩ := hq
  rw [hq2] at G
  refine lv_to hq1 ?_
  clear hq1 hq2 eS2
  refine lv_if_ne (tgt := 28) hx hb dX12_aliases_23 (by decide) (fun c6 => ?_) (fun c6 => ?_)
  · have h := oif_neg c6 h
    refine lv_aload_n hx hb dX12_aliases_28 rfl (lv_at hl 0 rfl) ?_
    refine lv_aload_n hx hb dX12_aliases_29 rfl (lv_at hl 0 rfl) ?_
    refine m_get E G 12 (v := .ref (ad 12)) (by decide) (.tail _ qM_9) rfl dX12_aliases_30 rfl ?_
    obtain ⟨r10, S7, eS7, h⟩ := obind2_some h
    refine m_calli (As := [.ref (ad 12)]) (rest := []) E G hA hR hml (tr_bestIn_12 l D cI cJ cZ ad S2 eS7) (cwV 1 hts (gmV qM_360 qM_361 qM_362 qM_35 qM_300) rfl rfl rfl (by decide +kernel) ⟨Nat.le_of_ble_eq_true rfl, Nat.le_of_ble_eq_true rfl⟩) rfl hl.1 rfl (lv_room (Nat.le_of_ble_eq_true rfl)) dX12_aliases_33 ⟨Nat.zero_le _, Nat.zero_le _⟩ (fun q8 S9 H locs hq G => ?_)
    obtain ⟨hq1, hq2⟩ := hq
    rw [hq2] at G
    refine lv_to hq1 ?_
    clear hq1 hq2 eS7
    refine lv_istore_n (lv' := [(3, .int r10), (0, .ref (ad 0)), (1, .int l1), (2, .int l2)]) hx hb dX12_aliases_36 rfl hl (by decide) rfl (fun ls hl => ?_)
    refine lv_iconst (v := 0) hx hb dX12_aliases_37 (by decide) ?_
    refine lv_istore (lv' := [(4, .int 0), (3, .int r10), (0, .ref (ad 0)), (1, .int l1), (2, .int l2)]) hx hb dX12_aliases_38 hl (by decide) rfl (fun ls hl => ?_)
    refine lv_iconst (v := 0) hx hb dX12_aliases_40 (by decide) ?_
    refine lv_istore (lv' := [(5, .int 0), (4, .int 0), (3, .int r10), (0, .ref (ad 0)), (1, .int l1), (2, .int l2)]) hx hb dX12_aliases_41 hl (by decide) rfl (fun ls hl => ?_)
    have hl := lv_sub hl [3, 4, 5, 2, 1, 0] rfl
    exact tr_aliases_b43 E hA hR hml kr27 kr82 _ _ _ _ _ _ _ _ _ _ h G hl
  · have h := oif_pos c6 h
    refine lv_iconst (v := 0) hx hb dX12_aliases_26 (by decide) ?_
    rw [(osome2 h).2] at G
    refine lv_to (osome2 h).1 ?_
    exact kr27 _ _ _ G
def fr_aliases_b19  (S : MS) (l1 : Int32) (l2 : Int32) : Option (Int32 × MS) := fr_aliases_b20 S 0 l1 l2
set_option maxHeartbeats 4000000 in
set_option maxRecDepth 100000 in
theorem tr_aliases_b19 {p : Program} {l : Launch} {e : Env} {s : State} {m : MethodId} {args : Array Value} {below : List Frame} {meth : Method} {c : Code} {Q : State → Prop} {D : va_G} {A : Nat → Prop} {H0 : Heap} {cI cJ cZ : ClassId} {ad : Nat → Nat} {r1 : Int32} {S1 : MS} (E : mE p c cX12_aliases s m args (Cond.code yX12_aliases cX12_aliases 6 (some .int) :: wsM) D cI cJ cZ) (hA : ∀ q : Nat, H0.size ≤ q → A q) (hR : sR s) (hml : c.maxLocals = 6) (kr27 : ∀ (H : Heap) (locs : List Loc) (ls : Array Slot), mG D cI cJ cZ ad A H0 H locs S1 → W p l e { frames := 8, cells := 0, slots := 0, locals := 163 } s m args below meth c H locs 0 0 Q (F0 m 27 ls [.int r1])) (kr82 : ∀ (H : Heap) (locs : List Loc) (ls : Array Slot), mG D cI cJ cZ ad A H0 H locs S1 → W p l e { frames := 8, cells := 0, slots := 0, locals := 163 } s m args below meth c H locs 0 0 Q (F0 m 82 ls [.int r1])) : ∀ (S : MS) (H : Heap) (locs : List Loc) (ls : Array Slot) (l1 : Int32) (l2 : Int32), fr_aliases_b19 S l1 l2 = some (r1, S1) → mG D cI cJ cZ ad A H0 H locs S → lv_has ls 6 [(0, .ref (ad 0)), (1, .int l1), (2, .int l2)] → W p l e { frames := 8, cells := 0, slots := 0, locals := 163 } s m args below meth c H locs 0 0 Q (F0 m 19 ls [.ref (ad 0)]) := by
  have hx := E.1
  have hb := E.2.1
  have hts := E.2.2.1
  have hown := E.2.2.2.1
  have hK := E.2.2.2.2.1
  intro S H locs ls l1 l2 h G hl
  unfold fr_aliases_b19 at h
  refine lv_iconst (v := 0) hx hb dX12_aliases_19 (by decide) ?_
  have hl := lv_sub hl [0, 1, 2] rfl
  exact tr_aliases_b20 E hA hR hml kr27 kr82 _ _ _ _ _ _ _ h G hl
def fr_aliases (S : MS) (a0 : Int32) (a1 : Int32) : Option (Int32 × MS) := obind (fr_isPeriod a0) fun r2 => if r2 = 0 then (fr_aliases_b19 S a0 a1) else (obind (fr_isShare a1) fun r5 => if r5 = 0 then (fr_aliases_b19 S a0 a1) else (fr_aliases_b20 S 1 a0 a1))
set_option maxHeartbeats 4000000 in
set_option maxRecDepth 100000 in
theorem tr_aliases (l : Launch) (D : va_G) (cI cJ cZ : ClassId) (ad : Nat → Nat) (S : MS) (a0 : Int32) (a1 : Int32) {r1 : Int32} {S1 : MS} (h : fr_aliases S a0 a1 = some (r1, S1)) : mCi l yX12_aliases (Cond.code yX12_aliases cX12_aliases 6 (some .int) :: wsM) 8 163 D cI cJ cZ ad S [.int a0, .int a1] (fun r S9 => r = r1 ∧ S9 = S1) := by
  intro sz
  refine Met.ofW (cc := cX12_aliases) (maxL := 6) (ret := (some .int)) (by decide) rfl ?_
  intro p e s m args below meth c s₁ B hml hv
  obtain ⟨rfl, hsz, hP, hK, hD0, hR⟩ := hv
  have hx := B.exec
  have hb := B.bytes
  have hr := B.returns
  have hts := atoms_spec (ws := (Cond.code yX12_aliases cX12_aliases 6 (some .int) :: wsM)) B.pre
  have hown : s.vm.findClass RX12 = some m.cls := findClass_of_methodNamed B.named
  have hlocks := B.notSynchronized
  subst hsz
  have hD := hD0.self (sz := s.heap.size)
  generalize hAe : va_A (MW cI cJ cZ ad S) s.heap.size = A at hD ⊢
  have hA : ∀ q : Nat, s.heap.size ≤ q → A q := fun q h => by rw [← hAe]; exact Or.inr h
  have G : mG D cI cJ cZ ad A s.heap s.heap [] S := ⟨hP, hD, va_S.rf⟩
  have E : mE p c cX12_aliases s m ([.ref (ad 0), .int a0, .int a1] : List Value).toArray (Cond.code yX12_aliases cX12_aliases 6 (some .int) :: wsM) D cI cJ cZ := ⟨hx, hb, hts, hown, hK, fun w h => .tail _ (iM_x h)⟩
  have hl := lv_entry ([.ref (ad 0), .int a0, .int a1]) (n := 6) (Nat.le_of_ble_eq_true rfl)
  rw [lg_entry_eq]
  generalize (lg_sl ([.ref (ad 0), .int a0, .int a1]) ++ List.replicate (6 - (lg_sl ([.ref (ad 0), .int a0, .int a1])).length) Slot.unset).toArray = ls at hl ⊢
  have hl : lv_has ls 6 [(0, .ref (ad 0)), (1, .int a0), (2, .int a1)] := hl
  unfold fr_aliases at h
  refine lv_aload_n hx hb dX12_aliases_0 rfl (lv_at hl 0 rfl) ?_
  refine lv_iload_n hx hb dX12_aliases_1 rfl (lv_at hl 1 rfl) ?_
  obtain ⟨r2, er2, h⟩ := obind_some h
  refine m_stat (As := [.int a0]) (rest := [.ref (ad 0)]) ⟨hx, hb, hml, hown, hts⟩ (tr_isPeriod l a0 er2) (cwS 1 hts (gmS qM_386 qM_387 qM_35 qM_310) rfl rfl rfl (by decide +kernel) ⟨Nat.le_of_ble_eq_true rfl, Nat.le_of_ble_eq_true rfl⟩) rfl hl.1 rfl (lv_room (Nat.le_of_ble_eq_true rfl)) dX12_aliases_2 ⟨Nat.zero_le _, Nat.zero_le _⟩ (fun q3 hq => ?_)
  refine lv_to hq ?_
  clear hq er2
  refine lv_if_eq (tgt := 19) hx hb dX12_aliases_5 (by decide) (fun c4 => ?_) (fun c4 => ?_)
  · have h := oif_pos c4 h
    have hl := lv_sub hl [0, 1, 2] rfl
    exact tr_aliases_b19 E hA hR hml (fun H locs ls G => W.iret (v := r1) hx hb hr (fun t ht hW => ⟨⟨r1, S1, rfl, ⟨rfl, rfl⟩, ⟨by rw [ht]; exact G.1, va_K.moved hW.alike hK, G.2.1⟩⟩, G.2.2.F ht⟩) G.2.2.2.2 dX12_aliases_27) (fun H locs ls G => W.iret (v := r1) hx hb hr (fun t ht hW => ⟨⟨r1, S1, rfl, ⟨rfl, rfl⟩, ⟨by rw [ht]; exact G.1, va_K.moved hW.alike hK, G.2.1⟩⟩, G.2.2.F ht⟩) G.2.2.2.2 dX12_aliases_82) _ _ _ _ _ _ h G hl
  · have h := oif_neg c4 h
    refine lv_iload_n hx hb dX12_aliases_8 rfl (lv_at hl 2 rfl) ?_
    obtain ⟨r5, er5, h⟩ := obind_some h
    refine m_stat (As := [.int a1]) (rest := [.ref (ad 0)]) ⟨hx, hb, hml, hown, hts⟩ (tr_isShare l a1 er5) (cwS 1 hts (gmS qM_394 qM_395 qM_35 qM_392) rfl rfl rfl (by decide +kernel) ⟨Nat.le_of_ble_eq_true rfl, Nat.le_of_ble_eq_true rfl⟩) rfl hl.1 rfl (lv_room (Nat.le_of_ble_eq_true rfl)) dX12_aliases_9 ⟨Nat.zero_le _, Nat.zero_le _⟩ (fun q6 hq => ?_)
    refine lv_to hq ?_
    clear hq er5
    refine lv_if_eq (tgt := 19) hx hb dX12_aliases_12 (by decide) (fun c7 => ?_) (fun c7 => ?_)
    · have h := oif_pos c7 h
      have hl := lv_sub hl [0, 1, 2] rfl
      exact tr_aliases_b19 E hA hR hml (fun H locs ls G => W.iret (v := r1) hx hb hr (fun t ht hW => ⟨⟨r1, S1, rfl, ⟨rfl, rfl⟩, ⟨by rw [ht]; exact G.1, va_K.moved hW.alike hK, G.2.1⟩⟩, G.2.2.F ht⟩) G.2.2.2.2 dX12_aliases_27) (fun H locs ls G => W.iret (v := r1) hx hb hr (fun t ht hW => ⟨⟨r1, S1, rfl, ⟨rfl, rfl⟩, ⟨by rw [ht]; exact G.1, va_K.moved hW.alike hK, G.2.1⟩⟩, G.2.2.F ht⟩) G.2.2.2.2 dX12_aliases_82) _ _ _ _ _ _ h G hl
    · have h := oif_neg c7 h
      refine lv_iconst (v := 1) hx hb dX12_aliases_15 (by decide) ?_
      refine lv_goto (tgt := 20) hx hb dX12_aliases_16 (by decide) ?_
      have hl := lv_sub hl [0, 1, 2] rfl
      exact tr_aliases_b20 E hA hR hml (fun H locs ls G => W.iret (v := r1) hx hb hr (fun t ht hW => ⟨⟨r1, S1, rfl, ⟨rfl, rfl⟩, ⟨by rw [ht]; exact G.1, va_K.moved hW.alike hK, G.2.1⟩⟩, G.2.2.F ht⟩) G.2.2.2.2 dX12_aliases_27) (fun H locs ls G => W.iret (v := r1) hx hb hr (fun t ht hW => ⟨⟨r1, S1, rfl, ⟨rfl, rfl⟩, ⟨by rw [ht]; exact G.1, va_K.moved hW.alike hK, G.2.1⟩⟩, G.2.2.F ht⟩) G.2.2.2.2 dX12_aliases_82) _ _ _ _ _ _ _ h G hl
def fr_blockOf (S : MS) (a0 : Int32) (a1 : Int32) (a2 : Int32) : Option (Int64 × MS) := obind (fr_laysCell S a0) fun S2 => obind2 (fr_windowOf_12 S2) fun r8 S5 => elet (a1 + a2) fun v9 => elet (if v9 < r8 then v9 else r8) fun v10 => obind2 (fr_energy_12 S5 a1 v10) fun r14 S11 => elet (a2.toInt64) fun v15 => oif (¬ v15 = 0) <| elet (r14 / v15) fun v17 => some (v17, S11)
set_option maxHeartbeats 4000000 in
set_option maxRecDepth 100000 in
theorem tr_blockOf (l : Launch) (D : va_G) (cI cJ cZ : ClassId) (ad : Nat → Nat) (S : MS) (a0 : Int32) (a1 : Int32) (a2 : Int32) {r1 : Int64} {S1 : MS} (h : fr_blockOf S a0 a1 a2 = some (r1, S1)) : mCl l yX12_blockOf (Cond.code yX12_blockOf cX12_blockOf 4 (some .long) :: wsM) 4 74 D cI cJ cZ ad S [.int a0, .int a1, .int a2] (fun r S9 => r = r1 ∧ S9 = S1) := by
  intro sz
  refine Met.ofW (cc := cX12_blockOf) (maxL := 4) (ret := (some .long)) (by decide) rfl ?_
  intro p e s m args below meth c s₁ B hml hv
  obtain ⟨rfl, hsz, hP, hK, hD0, hR⟩ := hv
  have hx := B.exec
  have hb := B.bytes
  have hr := B.returns
  have hts := atoms_spec (ws := (Cond.code yX12_blockOf cX12_blockOf 4 (some .long) :: wsM)) B.pre
  have hown : s.vm.findClass RX12 = some m.cls := findClass_of_methodNamed B.named
  have hlocks := B.notSynchronized
  subst hsz
  have hD := hD0.self (sz := s.heap.size)
  generalize hAe : va_A (MW cI cJ cZ ad S) s.heap.size = A at hD ⊢
  have hA : ∀ q : Nat, s.heap.size ≤ q → A q := fun q h => by rw [← hAe]; exact Or.inr h
  have G : mG D cI cJ cZ ad A s.heap s.heap [] S := ⟨hP, hD, va_S.rf⟩
  have E : mE p c cX12_blockOf s m ([.ref (ad 0), .int a0, .int a1, .int a2] : List Value).toArray (Cond.code yX12_blockOf cX12_blockOf 4 (some .long) :: wsM) D cI cJ cZ := ⟨hx, hb, hts, hown, hK, fun w h => .tail _ (iM_x h)⟩
  have hl := lv_entry ([.ref (ad 0), .int a0, .int a1, .int a2]) (n := 4) (Nat.le_of_ble_eq_true rfl)
  rw [lg_entry_eq]
  generalize (lg_sl ([.ref (ad 0), .int a0, .int a1, .int a2]) ++ List.replicate (4 - (lg_sl ([.ref (ad 0), .int a0, .int a1, .int a2])).length) Slot.unset).toArray = ls at hl ⊢
  have hl : lv_has ls 4 [(0, .ref (ad 0)), (1, .int a0), (2, .int a1), (3, .int a2)] := hl
  unfold fr_blockOf at h
  refine lv_aload_n hx hb dX12_blockOf_0 rfl (lv_at hl 0 rfl) ?_
  refine lv_iload_n hx hb dX12_blockOf_1 rfl (lv_at hl 1 rfl) ?_
  obtain ⟨S2, eS2, h⟩ := obind_some h
  refine m_callv (As := [.int a0]) (rest := []) E G hA hR hml (tr_laysCell l D cI cJ cZ ad S a0 eS2) (cwV 1 hts (gmV qM_290 qM_291 qM_292 qM_35 qM_270) rfl rfl rfl (by decide +kernel) ⟨Nat.le_of_ble_eq_true rfl, Nat.le_of_ble_eq_true rfl⟩) rfl hl.1 rfl (lv_room (Nat.le_of_ble_eq_true rfl)) dX12_blockOf_2 ⟨Nat.zero_le _, Nat.zero_le _⟩ (fun S4 H locs hq G => ?_)
  rw [hq] at G
  clear hq eS2
  refine lv_aload_n hx hb dX12_blockOf_5 rfl (lv_at hl 0 rfl) ?_
  refine lv_aload_n hx hb dX12_blockOf_6 rfl (lv_at hl 0 rfl) ?_
  refine m_get E G 12 (v := .ref (ad 12)) (by decide) (.tail _ qM_9) rfl dX12_blockOf_7 rfl ?_
  refine lv_iload_n hx hb dX12_blockOf_10 rfl (lv_at hl 2 rfl) ?_
  refine lv_aload_n hx hb dX12_blockOf_11 rfl (lv_at hl 0 rfl) ?_
  refine lv_aload_n hx hb dX12_blockOf_12 rfl (lv_at hl 0 rfl) ?_
  refine m_get E G 12 (v := .ref (ad 12)) (by decide) (.tail _ qM_9) rfl dX12_blockOf_13 rfl ?_
  obtain ⟨r8, S5, eS5, h⟩ := obind2_some h
  refine m_calli (As := [.ref (ad 12)]) (rest := [.int a1, .ref (ad 12), .ref (ad 0)]) E G hA hR hml (tr_windowOf_12 l D cI cJ cZ ad S2 eS5) (cwV 1 hts (gmV qM_283 qM_284 qM_285 qM_35 qM_273) rfl rfl rfl (by decide +kernel) ⟨Nat.le_of_ble_eq_true rfl, Nat.le_of_ble_eq_true rfl⟩) rfl hl.1 rfl (lv_room (Nat.le_of_ble_eq_true rfl)) dX12_blockOf_16 ⟨Nat.zero_le _, Nat.zero_le _⟩ (fun q6 S7 H locs hq G => ?_)
  obtain ⟨hq1, hq2⟩ := hq
  rw [hq2] at G
  refine lv_to hq1 ?_
  clear hq1 hq2 eS5
  refine lv_iload_n hx hb dX12_blockOf_19 rfl (lv_at hl 2 rfl) ?_
  refine lv_iload_n hx hb dX12_blockOf_20 rfl (lv_at hl 3 rfl) ?_
  refine lv_iadd hx hb dX12_blockOf_21 ?_
  refine lv_topi (fun v9 ev9 => ?_)
  have h := elet_at ev9 h
  clear ev9
  refine va_mmin hx hb (hml.trans hl.1.symm) hown (hts _ (.tail _ qM_262)) (hts _ (.tail _ qM_263)) (hts _ (.tail _ qM_247)) (hts _ (.tail _ qM_264)) (Nat.le_of_ble_eq_true rfl) (Nat.le_of_ble_eq_true rfl) (Nat.zero_le _) (Nat.zero_le _) dX12_blockOf_22 ?_
  refine lv_topi (fun v10 ev10 => ?_)
  have h := elet_at ev10 h
  clear ev10
  obtain ⟨r14, S11, eS11, h⟩ := obind2_some h
  refine m_calll (As := [.ref (ad 12), .int a1, .int v10]) (rest := []) E G hA hR hml (tr_energy_12 l D cI cJ cZ ad S5 a1 v10 eS11) (cwV 3 hts (gmV qM_286 qM_287 qM_288 qM_35 qM_278) rfl rfl rfl (by decide +kernel) ⟨Nat.le_of_ble_eq_true rfl, Nat.le_of_ble_eq_true rfl⟩) rfl hl.1 rfl (lv_room (Nat.le_of_ble_eq_true rfl)) dX12_blockOf_25 ⟨Nat.zero_le _, Nat.zero_le _⟩ (fun q12 S13 H locs hq G => ?_)
  obtain ⟨hq1, hq2⟩ := hq
  rw [hq2] at G
  refine lv_tol hq1 ?_
  clear hq1 hq2 eS11
  refine lv_iload_n hx hb dX12_blockOf_28 rfl (lv_at hl 3 rfl) ?_
  refine lv_i2l (v := a2.toInt64) hx hb dX12_blockOf_29 rfl ?_
  refine lv_topl (fun v15 ev15 => ?_)
  have h := elet_at ev15 h
  clear ev15
  obtain ⟨g16, h⟩ := oif_some h
  refine lv_ldiv hx hb dX12_blockOf_30 g16 ?_
  refine lv_topl (fun v17 ev17 => ?_)
  have h := elet_at ev17 h
  clear ev17
  exact W.lret (v := v17) hx hb hr (fun t ht hW => ⟨⟨v17, S11, rfl, osome2 h, ⟨by rw [ht]; exact G.1, va_K.moved hW.alike hK, G.2.1⟩⟩, G.2.2.F ht⟩) G.2.2.2.2 dX12_blockOf_31
def fr_isBlock_b27  (S : MS) (s0 : Int32) : Option (Int32 × MS) := oif (s0 = 0 ∨ s0 = 1) <| some (s0, S)
set_option maxHeartbeats 4000000 in
set_option maxRecDepth 100000 in
theorem tr_isBlock_b27 {p : Program} {l : Launch} {e : Env} {s : State} {m : MethodId} {args : Array Value} {below : List Frame} {meth : Method} {c : Code} {Q : State → Prop} {D : va_G} {A : Nat → Prop} {H0 : Heap} {cI cJ cZ : ClassId} {ad : Nat → Nat} {r1 : Int32} {S1 : MS} (E : mE p c cX12_isBlock s m args (Cond.code yX12_isBlock cX12_isBlock 3 (some .boolean) :: wsM) D cI cJ cZ) (hA : ∀ q : Nat, H0.size ≤ q → A q) (hR : sR s) (hml : c.maxLocals = 3) (kr27 : ∀ (H : Heap) (locs : List Loc) (ls : Array Slot), (r1 = 0 ∨ r1 = 1) → mG D cI cJ cZ ad A H0 H locs S1 → W p l e { frames := 3, cells := 0, slots := 0, locals := 43 } s m args below meth c H locs 0 0 Q (F0 m 27 ls [.int r1])) : ∀ (S : MS) (H : Heap) (locs : List Loc) (ls : Array Slot) (s0 : Int32), fr_isBlock_b27 S s0 = some (r1, S1) → mG D cI cJ cZ ad A H0 H locs S → lv_has ls 3 [] → W p l e { frames := 3, cells := 0, slots := 0, locals := 43 } s m args below meth c H locs 0 0 Q (F0 m 27 ls [.int s0]) := by
  have hx := E.1
  have hb := E.2.1
  have hts := E.2.2.1
  have hown := E.2.2.2.1
  have hK := E.2.2.2.2.1
  intro S H locs ls s0 h G hl
  unfold fr_isBlock_b27 at h
  obtain ⟨gz, h⟩ := oif_some h
  have gr : r1 = 0 ∨ r1 = 1 := by rw [← (osome2 h).1]; exact gz
  rw [(osome2 h).2] at G
  refine lv_to (osome2 h).1 ?_
  exact kr27 _ _ _ gr G
def fr_isBlock_b26  (S : MS)  : Option (Int32 × MS) := fr_isBlock_b27 S 0
set_option maxHeartbeats 4000000 in
set_option maxRecDepth 100000 in
theorem tr_isBlock_b26 {p : Program} {l : Launch} {e : Env} {s : State} {m : MethodId} {args : Array Value} {below : List Frame} {meth : Method} {c : Code} {Q : State → Prop} {D : va_G} {A : Nat → Prop} {H0 : Heap} {cI cJ cZ : ClassId} {ad : Nat → Nat} {r1 : Int32} {S1 : MS} (E : mE p c cX12_isBlock s m args (Cond.code yX12_isBlock cX12_isBlock 3 (some .boolean) :: wsM) D cI cJ cZ) (hA : ∀ q : Nat, H0.size ≤ q → A q) (hR : sR s) (hml : c.maxLocals = 3) (kr27 : ∀ (H : Heap) (locs : List Loc) (ls : Array Slot), (r1 = 0 ∨ r1 = 1) → mG D cI cJ cZ ad A H0 H locs S1 → W p l e { frames := 3, cells := 0, slots := 0, locals := 43 } s m args below meth c H locs 0 0 Q (F0 m 27 ls [.int r1])) : ∀ (S : MS) (H : Heap) (locs : List Loc) (ls : Array Slot), fr_isBlock_b26 S = some (r1, S1) → mG D cI cJ cZ ad A H0 H locs S → lv_has ls 3 [] → W p l e { frames := 3, cells := 0, slots := 0, locals := 43 } s m args below meth c H locs 0 0 Q (F0 m 26 ls []) := by
  have hx := E.1
  have hb := E.2.1
  have hts := E.2.2.1
  have hown := E.2.2.2.1
  have hK := E.2.2.2.2.1
  intro S H locs ls h G hl
  unfold fr_isBlock_b26 at h
  refine lv_iconst (v := 0) hx hb dX12_isBlock_26 (by decide) ?_
  have hl := lv_sub hl [] rfl
  exact tr_isBlock_b27 E hA hR hml kr27 _ _ _ _ _ h G hl
def fr_isBlock (S : MS) (a0 : Int32) (a1 : Int32) : Option (Int32 × MS) := obind2 (fr_isTime S a0) fun r5 S2 => if r5 = 0 then (fr_isBlock_b26 S2) else (elet (S2.2.1 10 2) fun v7 => obind (fr_in a1 1 v7) fun r8 => if r8 = 0 then (fr_isBlock_b26 S2) else (fr_isBlock_b27 S2 1))
set_option maxHeartbeats 4000000 in
set_option maxRecDepth 100000 in
theorem tr_isBlock (l : Launch) (D : va_G) (cI cJ cZ : ClassId) (ad : Nat → Nat) (S : MS) (a0 : Int32) (a1 : Int32) {r1 : Int32} {S1 : MS} (h : fr_isBlock S a0 a1 = some (r1, S1)) : mCi l yX12_isBlock (Cond.code yX12_isBlock cX12_isBlock 3 (some .boolean) :: wsM) 3 43 D cI cJ cZ ad S [.int a0, .int a1] (fun r S9 => r = r1 ∧ S9 = S1) := by
  intro sz
  refine Met.ofW (cc := cX12_isBlock) (maxL := 3) (ret := (some .boolean)) (by decide) rfl ?_
  intro p e s m args below meth c s₁ B hml hv
  obtain ⟨rfl, hsz, hP, hK, hD0, hR⟩ := hv
  have hx := B.exec
  have hb := B.bytes
  have hr := B.returns
  have hts := atoms_spec (ws := (Cond.code yX12_isBlock cX12_isBlock 3 (some .boolean) :: wsM)) B.pre
  have hown : s.vm.findClass RX12 = some m.cls := findClass_of_methodNamed B.named
  have hlocks := B.notSynchronized
  subst hsz
  have hD := hD0.self (sz := s.heap.size)
  generalize hAe : va_A (MW cI cJ cZ ad S) s.heap.size = A at hD ⊢
  have hA : ∀ q : Nat, s.heap.size ≤ q → A q := fun q h => by rw [← hAe]; exact Or.inr h
  have G : mG D cI cJ cZ ad A s.heap s.heap [] S := ⟨hP, hD, va_S.rf⟩
  have E : mE p c cX12_isBlock s m ([.ref (ad 0), .int a0, .int a1] : List Value).toArray (Cond.code yX12_isBlock cX12_isBlock 3 (some .boolean) :: wsM) D cI cJ cZ := ⟨hx, hb, hts, hown, hK, fun w h => .tail _ (iM_x h)⟩
  have hl := lv_entry ([.ref (ad 0), .int a0, .int a1]) (n := 3) (Nat.le_of_ble_eq_true rfl)
  rw [lg_entry_eq]
  generalize (lg_sl ([.ref (ad 0), .int a0, .int a1]) ++ List.replicate (3 - (lg_sl ([.ref (ad 0), .int a0, .int a1])).length) Slot.unset).toArray = ls at hl ⊢
  have hl : lv_has ls 3 [(0, .ref (ad 0)), (1, .int a0), (2, .int a1)] := hl
  unfold fr_isBlock at h
  refine lv_aload_n hx hb dX12_isBlock_0 rfl (lv_at hl 0 rfl) ?_
  refine lv_iload_n hx hb dX12_isBlock_1 rfl (lv_at hl 1 rfl) ?_
  obtain ⟨r5, S2, eS2, h⟩ := obind2_some h
  refine m_calli (As := [.int a0]) (rest := []) E G hA hR hml (tr_isTime l D cI cJ cZ ad S a0 eS2) (cwV 1 hts (gmV qM_334 qM_335 qM_336 qM_35 qM_309) rfl rfl rfl (by decide +kernel) ⟨Nat.le_of_ble_eq_true rfl, Nat.le_of_ble_eq_true rfl⟩) rfl hl.1 rfl (lv_room (Nat.le_of_ble_eq_true rfl)) dX12_isBlock_2 ⟨Nat.zero_le _, Nat.zero_le _⟩ (fun q3 S4 H locs hq G => ?_)
  obtain ⟨hq1, hq2⟩ := hq
  rw [hq2] at G
  refine lv_to hq1 ?_
  clear hq1 hq2 eS2
  refine lv_if_eq (tgt := 26) hx hb dX12_isBlock_5 (by decide) (fun c6 => ?_) (fun c6 => ?_)
  · have h := oif_pos c6 h
    have hl := lv_sub hl [] rfl
    exact tr_isBlock_b26 E hA hR hml (fun H locs ls gz G => W.zret (v := r1) hx hb hr (nar01 gz) (fun t ht hW => ⟨⟨r1, S1, rfl, ⟨rfl, rfl⟩, ⟨by rw [ht]; exact G.1, va_K.moved hW.alike hK, G.2.1⟩⟩, G.2.2.F ht⟩) G.2.2.2.2 dX12_isBlock_27) _ _ _ _ h G hl
  · have h := oif_neg c6 h
    refine lv_iload_n hx hb dX12_isBlock_8 rfl (lv_at hl 2 rfl) ?_
    refine lv_iconst (v := 1) hx hb dX12_isBlock_9 (by decide) ?_
    refine lv_aload_n hx hb dX12_isBlock_10 rfl (lv_at hl 0 rfl) ?_
    refine m_get E G 10 (v := .ref (ad 10)) (by decide) (.tail _ qM_7) rfl dX12_isBlock_11 rfl ?_
    refine lv_iconst (v := 2) hx hb dX12_isBlock_14 (by decide) ?_
    refine m_iald E G 10 2 (n := 131) (k := 2) rfl rfl (by decide) (by decide) dX12_isBlock_15 ?_
    refine lv_topi (fun v7 ev7 => ?_)
    have h := elet_at ev7 h
    clear ev7
    obtain ⟨r8, er8, h⟩ := obind_some h
    refine m_stat (As := [.int a1, .int 1, .int v7]) (rest := []) ⟨hx, hb, hml, hown, hts⟩ (tr_in l a1 1 v7 er8) (cwS 3 hts (gmS qM_52 qM_53 qM_35 qM_27) rfl rfl rfl (by decide +kernel) ⟨Nat.le_of_ble_eq_true rfl, Nat.le_of_ble_eq_true rfl⟩) rfl hl.1 rfl (lv_room (Nat.le_of_ble_eq_true rfl)) dX12_isBlock_16 ⟨Nat.zero_le _, Nat.zero_le _⟩ (fun q9 hq => ?_)
    refine lv_to hq ?_
    clear hq er8
    refine lv_if_eq (tgt := 26) hx hb dX12_isBlock_19 (by decide) (fun c10 => ?_) (fun c10 => ?_)
    · have h := oif_pos c10 h
      have hl := lv_sub hl [] rfl
      exact tr_isBlock_b26 E hA hR hml (fun H locs ls gz G => W.zret (v := r1) hx hb hr (nar01 gz) (fun t ht hW => ⟨⟨r1, S1, rfl, ⟨rfl, rfl⟩, ⟨by rw [ht]; exact G.1, va_K.moved hW.alike hK, G.2.1⟩⟩, G.2.2.F ht⟩) G.2.2.2.2 dX12_isBlock_27) _ _ _ _ h G hl
    · have h := oif_neg c10 h
      refine lv_iconst (v := 1) hx hb dX12_isBlock_22 (by decide) ?_
      refine lv_goto (tgt := 27) hx hb dX12_isBlock_23 (by decide) ?_
      have hl := lv_sub hl [] rfl
      exact tr_isBlock_b27 E hA hR hml (fun H locs ls gz G => W.zret (v := r1) hx hb hr (nar01 gz) (fun t ht hW => ⟨⟨r1, S1, rfl, ⟨rfl, rfl⟩, ⟨by rw [ht]; exact G.1, va_K.moved hW.alike hK, G.2.1⟩⟩, G.2.2.F ht⟩) G.2.2.2.2 dX12_isBlock_27) _ _ _ _ _ h G hl
def fr_blockPower_b39  (S : MS) (s0 : Int64) : Option (Int64 × MS) := some (s0, S)
set_option maxHeartbeats 4000000 in
set_option maxRecDepth 100000 in
theorem tr_blockPower_b39 {p : Program} {l : Launch} {e : Env} {s : State} {m : MethodId} {args : Array Value} {below : List Frame} {meth : Method} {c : Code} {Q : State → Prop} {D : va_G} {A : Nat → Prop} {H0 : Heap} {cI cJ cZ : ClassId} {ad : Nat → Nat} {r1 : Int64} {S1 : MS} (E : mE p c cX12_blockPower s m args (Cond.code yX12_blockPower cX12_blockPower 4 (some .long) :: wsM) D cI cJ cZ) (hA : ∀ q : Nat, H0.size ≤ q → A q) (hR : sR s) (hml : c.maxLocals = 4) (kr13 : ∀ (H : Heap) (locs : List Loc) (ls : Array Slot), mG D cI cJ cZ ad A H0 H locs S1 → W p l e { frames := 5, cells := 0, slots := 0, locals := 97 } s m args below meth c H locs 0 0 Q (F0 m 13 ls [.long r1])) (kr39 : ∀ (H : Heap) (locs : List Loc) (ls : Array Slot), mG D cI cJ cZ ad A H0 H locs S1 → W p l e { frames := 5, cells := 0, slots := 0, locals := 97 } s m args below meth c H locs 0 0 Q (F0 m 39 ls [.long r1])) : ∀ (S : MS) (H : Heap) (locs : List Loc) (ls : Array Slot) (s0 : Int64), fr_blockPower_b39 S s0 = some (r1, S1) → mG D cI cJ cZ ad A H0 H locs S → lv_has ls 4 [] → W p l e { frames := 5, cells := 0, slots := 0, locals := 97 } s m args below meth c H locs 0 0 Q (F0 m 39 ls [.long s0]) := by
  have hx := E.1
  have hb := E.2.1
  have hts := E.2.2.1
  have hown := E.2.2.2.1
  have hK := E.2.2.2.2.1
  intro S H locs ls s0 h G hl
  unfold fr_blockPower_b39 at h
  rw [(osome2 h).2] at G
  refine lv_tol (osome2 h).1 ?_
  exact kr39 _ _ _ G
def fr_blockPower (S : MS) (a0 : Int32) (a1 : Int32) (a2 : Int32) : Option (Int64 × MS) := obind2 (fr_isCell S a0) fun r5 S2 => obind2 (fr_mayAsk S2 r5) fun r9 S6 => if r9 = 0 then (some ((0 : Int64), S6)) else (obind2 (fr_isBlock S6 a1 a2) fun r14 S11 => if r14 = 0 then (obind2 (fr_throwsAt S11 3) fun r19 S16 => elet (r19.toInt64) fun v20 => fr_blockPower_b39 S16 v20) else (obind2 (fr_blockOf S11 a0 a1 a2) fun r24 S21 => fr_blockPower_b39 S21 r24))
set_option maxHeartbeats 4000000 in
set_option maxRecDepth 100000 in
theorem tr_blockPower (l : Launch) (D : va_G) (cI cJ cZ : ClassId) (ad : Nat → Nat) (S : MS) (a0 : Int32) (a1 : Int32) (a2 : Int32) {r1 : Int64} {S1 : MS} (h : fr_blockPower S a0 a1 a2 = some (r1, S1)) : mCl l yX12_blockPower (Cond.code yX12_blockPower cX12_blockPower 4 (some .long) :: wsM) 5 97 D cI cJ cZ ad S [.int a0, .int a1, .int a2] (fun r S9 => r = r1 ∧ S9 = S1) := by
  intro sz
  refine Met.ofW (cc := cX12_blockPower) (maxL := 4) (ret := (some .long)) (by decide) rfl ?_
  intro p e s m args below meth c s₁ B hml hv
  obtain ⟨rfl, hsz, hP, hK, hD0, hR⟩ := hv
  have hx := B.exec
  have hb := B.bytes
  have hr := B.returns
  have hts := atoms_spec (ws := (Cond.code yX12_blockPower cX12_blockPower 4 (some .long) :: wsM)) B.pre
  have hown : s.vm.findClass RX12 = some m.cls := findClass_of_methodNamed B.named
  have hlocks := B.notSynchronized
  subst hsz
  have hD := hD0.self (sz := s.heap.size)
  generalize hAe : va_A (MW cI cJ cZ ad S) s.heap.size = A at hD ⊢
  have hA : ∀ q : Nat, s.heap.size ≤ q → A q := fun q h => by rw [← hAe]; exact Or.inr h
  have G : mG D cI cJ cZ ad A s.heap s.heap [] S := ⟨hP, hD, va_S.rf⟩
  have E : mE p c cX12_blockPower s m ([.ref (ad 0), .int a0, .int a1, .int a2] : List Value).toArray (Cond.code yX12_blockPower cX12_blockPower 4 (some .long) :: wsM) D cI cJ cZ := ⟨hx, hb, hts, hown, hK, fun w h => .tail _ (iM_x h)⟩
  have hl := lv_entry ([.ref (ad 0), .int a0, .int a1, .int a2]) (n := 4) (Nat.le_of_ble_eq_true rfl)
  rw [lg_entry_eq]
  generalize (lg_sl ([.ref (ad 0), .int a0, .int a1, .int a2]) ++ List.replicate (4 - (lg_sl ([.ref (ad 0), .int a0, .int a1, .int a2])).length) Slot.unset).toArray = ls at hl ⊢
  have hl : lv_has ls 4 [(0, .ref (ad 0)), (1, .int a0), (2, .int a1), (3, .int a2)] := hl
  unfold fr_blockPower at h
  refine lv_aload_n hx hb dX12_blockPower_0 rfl (lv_at hl 0 rfl) ?_
  refine lv_aload_n hx hb dX12_blockPower_1 rfl (lv_at hl 0 rfl) ?_
  refine lv_iload_n hx hb dX12_blockPower_2 rfl (lv_at hl 1 rfl) ?_
  obtain ⟨r5, S2, eS2, h⟩ := obind2_some h
  refine m_calli (As := [.int a0]) (rest := [.ref (ad 0)]) E G hA hR hml (tr_isCell l D cI cJ cZ ad S a0 eS2) (cwV 1 hts (gmV qM_326 qM_327 qM_328 qM_35 qM_307) rfl rfl rfl (by decide +kernel) ⟨Nat.le_of_ble_eq_true rfl, Nat.le_of_ble_eq_true rfl⟩) rfl hl.1 rfl (lv_room (Nat.le_of_ble_eq_true rfl)) dX12_blockPower_3 ⟨Nat.zero_le _, Nat.zero_le _⟩ (fun q3 S4 H locs hq G => ?_)
  obtain ⟨hq1, hq2⟩ := hq
  rw [hq2] at G
  refine lv_to hq1 ?_
  clear hq1 hq2 eS2
  obtain ⟨r9, S6, eS6, h⟩ := obind2_some h
  refine m_calli (As := [.int r5]) (rest := []) E G hA hR hml (tr_mayAsk l D cI cJ cZ ad S2 r5 eS6) (cwV 1 hts (gmV qM_319 qM_320 qM_321 qM_35 qM_304) rfl rfl rfl (by decide +kernel) ⟨Nat.le_of_ble_eq_true rfl, Nat.le_of_ble_eq_true rfl⟩) rfl hl.1 rfl (lv_room (Nat.le_of_ble_eq_true rfl)) dX12_blockPower_6 ⟨Nat.zero_le _, Nat.zero_le _⟩ (fun q7 S8 H locs hq G => ?_)
  obtain ⟨hq1, hq2⟩ := hq
  rw [hq2] at G
  refine lv_to hq1 ?_
  clear hq1 hq2 eS6
  refine lv_if_ne (tgt := 14) hx hb dX12_blockPower_9 (by decide) (fun c10 => ?_) (fun c10 => ?_)
  · have h := oif_neg c10 h
    refine lv_aload_n hx hb dX12_blockPower_14 rfl (lv_at hl 0 rfl) ?_
    refine lv_iload_n hx hb dX12_blockPower_15 rfl (lv_at hl 2 rfl) ?_
    refine lv_iload_n hx hb dX12_blockPower_16 rfl (lv_at hl 3 rfl) ?_
    obtain ⟨r14, S11, eS11, h⟩ := obind2_some h
    refine m_calli (As := [.int a1, .int a2]) (rest := []) E G hA hR hml (tr_isBlock l D cI cJ cZ ad S6 a1 a2 eS11) (cwV 2 hts (gmV qM_403 qM_404 qM_405 qM_35 qM_401) rfl rfl rfl (by decide +kernel) ⟨Nat.le_of_ble_eq_true rfl, Nat.le_of_ble_eq_true rfl⟩) rfl hl.1 rfl (lv_room (Nat.le_of_ble_eq_true rfl)) dX12_blockPower_17 ⟨Nat.zero_le _, Nat.zero_le _⟩ (fun q12 S13 H locs hq G => ?_)
    obtain ⟨hq1, hq2⟩ := hq
    rw [hq2] at G
    refine lv_to hq1 ?_
    clear hq1 hq2 eS11
    refine lv_if_eq (tgt := 33) hx hb dX12_blockPower_20 (by decide) (fun c15 => ?_) (fun c15 => ?_)
    · have h := oif_pos c15 h
      refine lv_aload_n hx hb dX12_blockPower_33 rfl (lv_at hl 0 rfl) ?_
      refine lv_iconst (v := 3) hx hb dX12_blockPower_34 (by decide) ?_
      obtain ⟨r19, S16, eS16, h⟩ := obind2_some h
      refine m_calli (As := [.int 3]) (rest := []) E G hA hR hml (tr_throwsAt l D cI cJ cZ ad S11 3 eS16) (cwV 1 hts (gmV qM_195 qM_196 qM_197 qM_35 qM_28) rfl rfl rfl (by decide +kernel) ⟨Nat.le_of_ble_eq_true rfl, Nat.le_of_ble_eq_true rfl⟩) rfl hl.1 rfl (lv_room (Nat.le_of_ble_eq_true rfl)) dX12_blockPower_35 ⟨Nat.zero_le _, Nat.zero_le _⟩ (fun q17 S18 H locs hq G => ?_)
      obtain ⟨hq1, hq2⟩ := hq
      rw [hq2] at G
      refine lv_to hq1 ?_
      clear hq1 hq2 eS16
      refine lv_i2l (v := r19.toInt64) hx hb dX12_blockPower_38 rfl ?_
      refine lv_topl (fun v20 ev20 => ?_)
      have h := elet_at ev20 h
      clear ev20
      have hl := lv_sub hl [] rfl
      exact tr_blockPower_b39 E hA hR hml (fun H locs ls G => W.lret (v := r1) hx hb hr (fun t ht hW => ⟨⟨r1, S1, rfl, ⟨rfl, rfl⟩, ⟨by rw [ht]; exact G.1, va_K.moved hW.alike hK, G.2.1⟩⟩, G.2.2.F ht⟩) G.2.2.2.2 dX12_blockPower_13) (fun H locs ls G => W.lret (v := r1) hx hb hr (fun t ht hW => ⟨⟨r1, S1, rfl, ⟨rfl, rfl⟩, ⟨by rw [ht]; exact G.1, va_K.moved hW.alike hK, G.2.1⟩⟩, G.2.2.F ht⟩) G.2.2.2.2 dX12_blockPower_39) _ _ _ _ _ h G hl
    · have h := oif_neg c15 h
      refine lv_aload_n hx hb dX12_blockPower_23 rfl (lv_at hl 0 rfl) ?_
      refine lv_iload_n hx hb dX12_blockPower_24 rfl (lv_at hl 1 rfl) ?_
      refine lv_iload_n hx hb dX12_blockPower_25 rfl (lv_at hl 2 rfl) ?_
      refine lv_iload_n hx hb dX12_blockPower_26 rfl (lv_at hl 3 rfl) ?_
      obtain ⟨r24, S21, eS21, h⟩ := obind2_some h
      refine m_calll (As := [.int a0, .int a1, .int a2]) (rest := []) E G hA hR hml (tr_blockOf l D cI cJ cZ ad S11 a0 a1 a2 eS21) (cwV 3 hts (gmV qM_406 qM_407 qM_408 qM_35 qM_400) rfl rfl rfl (by decide +kernel) ⟨Nat.le_of_ble_eq_true rfl, Nat.le_of_ble_eq_true rfl⟩) rfl hl.1 rfl (lv_room (Nat.le_of_ble_eq_true rfl)) dX12_blockPower_27 ⟨Nat.zero_le _, Nat.zero_le _⟩ (fun q22 S23 H locs hq G => ?_)
      obtain ⟨hq1, hq2⟩ := hq
      rw [hq2] at G
      refine lv_tol hq1 ?_
      clear hq1 hq2 eS21
      refine lv_goto (tgt := 39) hx hb dX12_blockPower_30 (by decide) ?_
      have hl := lv_sub hl [] rfl
      exact tr_blockPower_b39 E hA hR hml (fun H locs ls G => W.lret (v := r1) hx hb hr (fun t ht hW => ⟨⟨r1, S1, rfl, ⟨rfl, rfl⟩, ⟨by rw [ht]; exact G.1, va_K.moved hW.alike hK, G.2.1⟩⟩, G.2.2.F ht⟩) G.2.2.2.2 dX12_blockPower_13) (fun H locs ls G => W.lret (v := r1) hx hb hr (fun t ht hW => ⟨⟨r1, S1, rfl, ⟨rfl, rfl⟩, ⟨by rw [ht]; exact G.1, va_K.moved hW.alike hK, G.2.1⟩⟩, G.2.2.F ht⟩) G.2.2.2.2 dX12_blockPower_39) _ _ _ _ _ h G hl
  · have h := oif_pos c10 h
    refine lv_lconst (v := 0) hx hb dX12_blockPower_12 (by decide) ?_
    exact W.lret (v := (0 : Int64)) hx hb hr (fun t ht hW => ⟨⟨(0 : Int64), S6, rfl, osome2 h, ⟨by rw [ht]; exact G.1, va_K.moved hW.alike hK, G.2.1⟩⟩, G.2.2.F ht⟩) G.2.2.2.2 dX12_blockPower_13
def fr_bestOfBlock_b51 (k14 : MS → Int32 → Int32 → Int32 → Int64 → Int32 → Option (Int32 × MS)) (S : MS) (l1 : Int32) (l2 : Int32) (l3 : Int32) (l4 : Int64) (l6 : Int32) : Option (Int32 × MS) := elet (l6 + Int32.ofInt (1)) fun v2 => k14 S l1 l2 l3 l4 v2
set_option maxHeartbeats 4000000 in
set_option maxRecDepth 100000 in
theorem tr_bestOfBlock_b51 {p : Program} {l : Launch} {e : Env} {s : State} {m : MethodId} {args : Array Value} {below : List Frame} {meth : Method} {c : Code} {Q : State → Prop} {D : va_G} {A : Nat → Prop} {H0 : Heap} {cI cJ cZ : ClassId} {ad : Nat → Nat} {r1 : Int32} {S1 : MS} (E : mE p c cX12_bestOfBlock s m args (Cond.code yX12_bestOfBlock cX12_bestOfBlock 9 (some .int) :: wsM) D cI cJ cZ) (hA : ∀ q : Nat, H0.size ≤ q → A q) (hR : sR s) (hml : c.maxLocals = 9) (kr58 : ∀ (H : Heap) (locs : List Loc) (ls : Array Slot), mG D cI cJ cZ ad A H0 H locs S1 → W p l e { frames := 5, cells := 0, slots := 0, locals := 97 } s m args below meth c H locs 0 0 Q (F0 m 58 ls [.int r1])) {k14 : MS → Int32 → Int32 → Int32 → Int64 → Int32 → Option (Int32 × MS)} (hk14 : ∀ (S : MS) (H : Heap) (locs : List Loc) (ls : Array Slot) (l1 : Int32) (l2 : Int32) (l3 : Int32) (l4 : Int64) (l6 : Int32), k14 S l1 l2 l3 l4 l6 = some (r1, S1) → mG D cI cJ cZ ad A H0 H locs S → lv_has ls 9 [(0, .ref (ad 0)), (1, .int l1), (2, .int l2), (3, .int l3), (4, .long l4), (6, .int l6)] → W p l e { frames := 5, cells := 0, slots := 0, locals := 97 } s m args below meth c H locs 0 0 Q (F0 m 14 ls [])) : ∀ (S : MS) (H : Heap) (locs : List Loc) (ls : Array Slot) (l1 : Int32) (l2 : Int32) (l3 : Int32) (l4 : Int64) (l6 : Int32), fr_bestOfBlock_b51 k14 S l1 l2 l3 l4 l6 = some (r1, S1) → mG D cI cJ cZ ad A H0 H locs S → lv_has ls 9 [(0, .ref (ad 0)), (1, .int l1), (2, .int l2), (3, .int l3), (4, .long l4), (6, .int l6)] → W p l e { frames := 5, cells := 0, slots := 0, locals := 97 } s m args below meth c H locs 0 0 Q (F0 m 51 ls []) := by
  have hx := E.1
  have hb := E.2.1
  have hts := E.2.2.1
  have hown := E.2.2.2.1
  have hK := E.2.2.2.2.1
  intro S H locs ls l1 l2 l3 l4 l6 h G hl
  unfold fr_bestOfBlock_b51 at h
  obtain ⟨v2, ev2, h⟩ := elet_some h
  refine lv_iinc (v := v2) (lv' := [(6, .int v2), (0, .ref (ad 0)), (1, .int l1), (2, .int l2), (3, .int l3), (4, .long l4)]) hx hb dX12_bestOfBlock_51 hl (k := 5) rfl ev2.symm (by decide) rfl (fun ls hl => ?_)
  refine lv_goto (tgt := 14) hx hb dX12_bestOfBlock_54 (by decide) ?_
  have hl := lv_sub hl [1, 2, 3, 4, 5, 0] rfl
  exact hk14 _ _ _ _ _ _ _ _ _ h G hl
def fr_bestOfBlock_b14  : Nat → MS → Int32 → Int32 → Int32 → Int64 → Int32 → Option (Int32 × MS)
  | 0, _, _, _, _, _, _ => none
  | n + 1, S, l1, l2, l3, l4, l6 => obind2 (fr_cellCount S) fun r5 S2 => if r5 ≤ l6 then (some (l3, S2)) else (obind2 (fr_blockOf S2 l6 l1 l2) fun r10 S7 => elet (lg_cmp r10 l4) fun v11 => if 0 < v11 then (fr_bestOfBlock_b51 (fr_bestOfBlock_b14 n) S7 l1 l2 l6 r10 l6) else (fr_bestOfBlock_b51 (fr_bestOfBlock_b14 n) S7 l1 l2 l3 l4 l6))
set_option maxHeartbeats 4000000 in
set_option maxRecDepth 100000 in
theorem tr_bestOfBlock_b14 {p : Program} {l : Launch} {e : Env} {s : State} {m : MethodId} {args : Array Value} {below : List Frame} {meth : Method} {c : Code} {Q : State → Prop} {D : va_G} {A : Nat → Prop} {H0 : Heap} {cI cJ cZ : ClassId} {ad : Nat → Nat} {r1 : Int32} {S1 : MS} (E : mE p c cX12_bestOfBlock s m args (Cond.code yX12_bestOfBlock cX12_bestOfBlock 9 (some .int) :: wsM) D cI cJ cZ) (hA : ∀ q : Nat, H0.size ≤ q → A q) (hR : sR s) (hml : c.maxLocals = 9) (kr58 : ∀ (H : Heap) (locs : List Loc) (ls : Array Slot), mG D cI cJ cZ ad A H0 H locs S1 → W p l e { frames := 5, cells := 0, slots := 0, locals := 97 } s m args below meth c H locs 0 0 Q (F0 m 58 ls [.int r1])) : ∀ n : Nat, ∀ (S : MS) (H : Heap) (locs : List Loc) (ls : Array Slot) (l1 : Int32) (l2 : Int32) (l3 : Int32) (l4 : Int64) (l6 : Int32), fr_bestOfBlock_b14 n S l1 l2 l3 l4 l6 = some (r1, S1) → mG D cI cJ cZ ad A H0 H locs S → lv_has ls 9 [(0, .ref (ad 0)), (1, .int l1), (2, .int l2), (3, .int l3), (4, .long l4), (6, .int l6)] → W p l e { frames := 5, cells := 0, slots := 0, locals := 97 } s m args below meth c H locs 0 0 Q (F0 m 14 ls []) := by
  have hx := E.1
  have hb := E.2.1
  have hts := E.2.2.1
  have hown := E.2.2.2.1
  have hK := E.2.2.2.2.1
  intro n
  induction n with
  | zero =>
    intro S H locs ls l1 l2 l3 l4 l6 h
    have h : (none : Option (Int32 × MS)) = some (r1, S1) := h
    cases h
  | succ n ih =>
    intro S H locs ls l1 l2 l3 l4 l6 h G hl
    unfold fr_bestOfBlock_b14 at h
    refine lv_iload hx hb dX12_bestOfBlock_14 (lv_at hl 5 rfl) ?_
    refine lv_aload_n hx hb dX12_bestOfBlock_16 rfl (lv_at hl 0 rfl) ?_
    obtain ⟨r5, S2, eS2, h⟩ := obind2_some h
    refine m_calli (As := []) (rest := [.int l6]) E G hA hR hml (tr_cellCount l D cI cJ cZ ad S eS2) (cwV 0 hts (gmV qM_204 qM_205 qM_206 qM_35 qM_207) rfl rfl rfl (by decide +kernel) ⟨Nat.le_of_ble_eq_true rfl, Nat.le_of_ble_eq_true rfl⟩) rfl hl.1 rfl (lv_room (Nat.le_of_ble_eq_true rfl)) dX12_bestOfBlock_17 ⟨Nat.zero_le _, Nat.zero_le _⟩ (fun q3 S4 H locs hq G => ?_)
    obtain ⟨hq1, hq2⟩ := hq
    rw [hq2] at G
    refine lv_to hq1 ?_
    clear hq1 hq2 eS2
    refine lv_icmp_ge (tgt := 57) hx hb dX12_bestOfBlock_20 (by decide) (fun c6 => ?_) (fun c6 => ?_)
    · have h := oif_pos c6 h
      refine lv_iload_n hx hb dX12_bestOfBlock_57 rfl (lv_at hl 3 rfl) ?_
      rw [(osome2 h).2] at G
      refine lv_to (osome2 h).1 ?_
      exact kr58 _ _ _ G
    · have h := oif_neg c6 h
      refine lv_aload_n hx hb dX12_bestOfBlock_23 rfl (lv_at hl 0 rfl) ?_
      refine lv_iload hx hb dX12_bestOfBlock_24 (lv_at hl 5 rfl) ?_
      refine lv_iload_n hx hb dX12_bestOfBlock_26 rfl (lv_at hl 1 rfl) ?_
      refine lv_iload_n hx hb dX12_bestOfBlock_27 rfl (lv_at hl 2 rfl) ?_
      obtain ⟨r10, S7, eS7, h⟩ := obind2_some h
      refine m_calll (As := [.int l6, .int l1, .int l2]) (rest := []) E G hA hR hml (tr_blockOf l D cI cJ cZ ad S2 l6 l1 l2 eS7) (cwV 3 hts (gmV qM_406 qM_407 qM_408 qM_35 qM_400) rfl rfl rfl (by decide +kernel) ⟨Nat.le_of_ble_eq_true rfl, Nat.le_of_ble_eq_true rfl⟩) rfl hl.1 rfl (lv_room (Nat.le_of_ble_eq_true rfl)) dX12_bestOfBlock_28 ⟨Nat.zero_le _, Nat.zero_le _⟩ (fun q8 S9 H locs hq G => ?_)
      obtain ⟨hq1, hq2⟩ := hq
      rw [hq2] at G
      refine lv_tol hq1 ?_
      clear hq1 hq2 eS7
      refine lv_lstore (lv' := [(7, .long r10), (0, .ref (ad 0)), (1, .int l1), (2, .int l2), (3, .int l3), (4, .long l4), (6, .int l6)]) hx hb dX12_bestOfBlock_31 hl (by decide) rfl (fun ls hl => ?_)
      refine lv_lload hx hb dX12_bestOfBlock_33 (lv_at hl 0 rfl) ?_
      refine lv_lload hx hb dX12_bestOfBlock_35 (lv_at hl 5 rfl) ?_
      refine W.lcmp hx hb dX12_bestOfBlock_37 ?_
      refine lv_topi (fun v11 ev11 => ?_)
      have h := elet_at ev11 h
      clear ev11
      refine lv_if_gt (tgt := 44) hx hb dX12_bestOfBlock_38 (by decide) (fun c12 => ?_) (fun c12 => ?_)
      · have h := oif_pos c12 h
        refine lv_iload hx hb dX12_bestOfBlock_44 (lv_at hl 6 rfl) ?_
        refine lv_istore_n (lv' := [(3, .int l6), (7, .long r10), (0, .ref (ad 0)), (1, .int l1), (2, .int l2), (4, .long l4), (6, .int l6)]) hx hb dX12_bestOfBlock_46 rfl hl (by decide) rfl (fun ls hl => ?_)
        refine lv_lload hx hb dX12_bestOfBlock_47 (lv_at hl 1 rfl) ?_
        refine lv_lstore (lv' := [(4, .long r10), (3, .int l6), (7, .long r10), (0, .ref (ad 0)), (1, .int l1), (2, .int l2), (6, .int l6)]) hx hb dX12_bestOfBlock_49 hl (by decide) rfl (fun ls hl => ?_)
        have hl := lv_sub hl [3, 4, 5, 1, 0, 6] rfl
        exact tr_bestOfBlock_b51 E hA hR hml kr58 ih _ _ _ _ _ _ _ _ _ h G hl
      · have h := oif_neg c12 h
        refine lv_goto (tgt := 51) hx hb dX12_bestOfBlock_41 (by decide) ?_
        have hl := lv_sub hl [1, 2, 3, 4, 5, 6] rfl
        exact tr_bestOfBlock_b51 E hA hR hml kr58 ih _ _ _ _ _ _ _ _ _ h G hl
def fr_bestOfBlock (S : MS) (a0 : Int32) (a1 : Int32) : Option (Int32 × MS) := obind2 (fr_blockOf S 0 a0 a1) fun r5 S2 => fr_bestOfBlock_b14 16384 S2 a0 a1 0 r5 1
set_option maxHeartbeats 4000000 in
set_option maxRecDepth 100000 in
theorem tr_bestOfBlock (l : Launch) (D : va_G) (cI cJ cZ : ClassId) (ad : Nat → Nat) (S : MS) (a0 : Int32) (a1 : Int32) {r1 : Int32} {S1 : MS} (h : fr_bestOfBlock S a0 a1 = some (r1, S1)) : mCi l yX12_bestOfBlock (Cond.code yX12_bestOfBlock cX12_bestOfBlock 9 (some .int) :: wsM) 5 97 D cI cJ cZ ad S [.int a0, .int a1] (fun r S9 => r = r1 ∧ S9 = S1) := by
  intro sz
  refine Met.ofW (cc := cX12_bestOfBlock) (maxL := 9) (ret := (some .int)) (by decide) rfl ?_
  intro p e s m args below meth c s₁ B hml hv
  obtain ⟨rfl, hsz, hP, hK, hD0, hR⟩ := hv
  have hx := B.exec
  have hb := B.bytes
  have hr := B.returns
  have hts := atoms_spec (ws := (Cond.code yX12_bestOfBlock cX12_bestOfBlock 9 (some .int) :: wsM)) B.pre
  have hown : s.vm.findClass RX12 = some m.cls := findClass_of_methodNamed B.named
  have hlocks := B.notSynchronized
  subst hsz
  have hD := hD0.self (sz := s.heap.size)
  generalize hAe : va_A (MW cI cJ cZ ad S) s.heap.size = A at hD ⊢
  have hA : ∀ q : Nat, s.heap.size ≤ q → A q := fun q h => by rw [← hAe]; exact Or.inr h
  have G : mG D cI cJ cZ ad A s.heap s.heap [] S := ⟨hP, hD, va_S.rf⟩
  have E : mE p c cX12_bestOfBlock s m ([.ref (ad 0), .int a0, .int a1] : List Value).toArray (Cond.code yX12_bestOfBlock cX12_bestOfBlock 9 (some .int) :: wsM) D cI cJ cZ := ⟨hx, hb, hts, hown, hK, fun w h => .tail _ (iM_x h)⟩
  have hl := lv_entry ([.ref (ad 0), .int a0, .int a1]) (n := 9) (Nat.le_of_ble_eq_true rfl)
  rw [lg_entry_eq]
  generalize (lg_sl ([.ref (ad 0), .int a0, .int a1]) ++ List.replicate (9 - (lg_sl ([.ref (ad 0), .int a0, .int a1])).length) Slot.unset).toArray = ls at hl ⊢
  have hl : lv_has ls 9 [(0, .ref (ad 0)), (1, .int a0), (2, .int a1)] := hl
  unfold fr_bestOfBlock at h
  refine lv_iconst (v := 0) hx hb dX12_bestOfBlock_0 (by decide) ?_
  refine lv_istore_n (lv' := [(3, .int 0), (0, .ref (ad 0)), (1, .int a0), (2, .int a1)]) hx hb dX12_bestOfBlock_1 rfl hl (by decide) rfl (fun ls hl => ?_)
  refine lv_aload_n hx hb dX12_bestOfBlock_2 rfl (lv_at hl 1 rfl) ?_
  refine lv_iconst (v := 0) hx hb dX12_bestOfBlock_3 (by decide) ?_
  refine lv_iload_n hx hb dX12_bestOfBlock_4 rfl (lv_at hl 2 rfl) ?_
  refine lv_iload_n hx hb dX12_bestOfBlock_5 rfl (lv_at hl 3 rfl) ?_
  obtain ⟨r5, S2, eS2, h⟩ := obind2_some h
  refine m_calll (As := [.int 0, .int a0, .int a1]) (rest := []) E G hA hR hml (tr_blockOf l D cI cJ cZ ad S 0 a0 a1 eS2) (cwV 3 hts (gmV qM_406 qM_407 qM_408 qM_35 qM_400) rfl rfl rfl (by decide +kernel) ⟨Nat.le_of_ble_eq_true rfl, Nat.le_of_ble_eq_true rfl⟩) rfl hl.1 rfl (lv_room (Nat.le_of_ble_eq_true rfl)) dX12_bestOfBlock_6 ⟨Nat.zero_le _, Nat.zero_le _⟩ (fun q3 S4 H locs hq G => ?_)
  obtain ⟨hq1, hq2⟩ := hq
  rw [hq2] at G
  refine lv_tol hq1 ?_
  clear hq1 hq2 eS2
  refine lv_lstore (lv' := [(4, .long r5), (3, .int 0), (0, .ref (ad 0)), (1, .int a0), (2, .int a1)]) hx hb dX12_bestOfBlock_9 hl (by decide) rfl (fun ls hl => ?_)
  refine lv_iconst (v := 1) hx hb dX12_bestOfBlock_11 (by decide) ?_
  refine lv_istore (lv' := [(6, .int 1), (4, .long r5), (3, .int 0), (0, .ref (ad 0)), (1, .int a0), (2, .int a1)]) hx hb dX12_bestOfBlock_12 hl (by decide) rfl (fun ls hl => ?_)
  have hl := lv_sub hl [3, 4, 5, 2, 1, 0] rfl
  exact tr_bestOfBlock_b14 E hA hR hml (fun H locs ls G => W.iret (v := r1) hx hb hr (fun t ht hW => ⟨⟨r1, S1, rfl, ⟨rfl, rfl⟩, ⟨by rw [ht]; exact G.1, va_K.moved hW.alike hK, G.2.1⟩⟩, G.2.2.F ht⟩) G.2.2.2.2 dX12_bestOfBlock_58) _ _ _ _ _ _ _ _ _ _ h G hl
end
section
/-! 11h.dec6.lean.txt -/
def fr_blockBest_b23  (S : MS) (s0 : Int32) : Option (Int32 × MS) := some (s0, S)
set_option maxHeartbeats 4000000 in
set_option maxRecDepth 100000 in
theorem tr_blockBest_b23 {p : Program} {l : Launch} {e : Env} {s : State} {m : MethodId} {args : Array Value} {below : List Frame} {meth : Method} {c : Code} {Q : State → Prop} {D : va_G} {A : Nat → Prop} {H0 : Heap} {cI cJ cZ : ClassId} {ad : Nat → Nat} {r1 : Int32} {S1 : MS} (E : mE p c cX12_blockBest s m args (Cond.code yX12_blockBest cX12_blockBest 3 (some .int) :: wsM) D cI cJ cZ) (hA : ∀ q : Nat, H0.size ≤ q → A q) (hR : sR s) (hml : c.maxLocals = 3) (kr23 : ∀ (H : Heap) (locs : List Loc) (ls : Array Slot), mG D cI cJ cZ ad A H0 H locs S1 → W p l e { frames := 6, cells := 0, slots := 0, locals := 125 } s m args below meth c H locs 0 0 Q (F0 m 23 ls [.int r1])) : ∀ (S : MS) (H : Heap) (locs : List Loc) (ls : Array Slot) (s0 : Int32), fr_blockBest_b23 S s0 = some (r1, S1) → mG D cI cJ cZ ad A H0 H locs S → lv_has ls 3 [] → W p l e { frames := 6, cells := 0, slots := 0, locals := 125 } s m args below meth c H locs 0 0 Q (F0 m 23 ls [.int s0]) := by
  have hx := E.1
  have hb := E.2.1
  have hts := E.2.2.1
  have hown := E.2.2.2.1
  have hK := E.2.2.2.2.1
  intro S H locs ls s0 h G hl
  unfold fr_blockBest_b23 at h
  rw [(osome2 h).2] at G
  refine lv_to (osome2 h).1 ?_
  exact kr23 _ _ _ G
def fr_blockBest (S : MS) (a0 : Int32) (a1 : Int32) : Option (Int32 × MS) := obind2 (fr_isBlock S a0 a1) fun r5 S2 => obind2 (fr_mayAsk S2 r5) fun r9 S6 => if r9 = 0 then (fr_blockBest_b23 S6 0) else (obind2 (fr_bestOfBlock S6 a0 a1) fun r14 S11 => fr_blockBest_b23 S11 r14)
set_option maxHeartbeats 4000000 in
set_option maxRecDepth 100000 in
theorem tr_blockBest (l : Launch) (D : va_G) (cI cJ cZ : ClassId) (ad : Nat → Nat) (S : MS) (a0 : Int32) (a1 : Int32) {r1 : Int32} {S1 : MS} (h : fr_blockBest S a0 a1 = some (r1, S1)) : mCi l yX12_blockBest (Cond.code yX12_blockBest cX12_blockBest 3 (some .int) :: wsM) 6 125 D cI cJ cZ ad S [.int a0, .int a1] (fun r S9 => r = r1 ∧ S9 = S1) := by
  intro sz
  refine Met.ofW (cc := cX12_blockBest) (maxL := 3) (ret := (some .int)) (by decide) rfl ?_
  intro p e s m args below meth c s₁ B hml hv
  obtain ⟨rfl, hsz, hP, hK, hD0, hR⟩ := hv
  have hx := B.exec
  have hb := B.bytes
  have hr := B.returns
  have hts := atoms_spec (ws := (Cond.code yX12_blockBest cX12_blockBest 3 (some .int) :: wsM)) B.pre
  have hown : s.vm.findClass RX12 = some m.cls := findClass_of_methodNamed B.named
  have hlocks := B.notSynchronized
  subst hsz
  have hD := hD0.self (sz := s.heap.size)
  generalize hAe : va_A (MW cI cJ cZ ad S) s.heap.size = A at hD ⊢
  have hA : ∀ q : Nat, s.heap.size ≤ q → A q := fun q h => by rw [← hAe]; exact Or.inr h
  have G : mG D cI cJ cZ ad A s.heap s.heap [] S := ⟨hP, hD, va_S.rf⟩
  have E : mE p c cX12_blockBest s m ([.ref (ad 0), .int a0, .int a1] : List Value).toArray (Cond.code yX12_blockBest cX12_blockBest 3 (some .int) :: wsM) D cI cJ cZ := ⟨hx, hb, hts, hown, hK, fun w h => .tail _ (iM_x h)⟩
  have hl := lv_entry ([.ref (ad 0), .int a0, .int a1]) (n := 3) (Nat.le_of_ble_eq_true rfl)
  rw [lg_entry_eq]
  generalize (lg_sl ([.ref (ad 0), .int a0, .int a1]) ++ List.replicate (3 - (lg_sl ([.ref (ad 0), .int a0, .int a1])).length) Slot.unset).toArray = ls at hl ⊢
  have hl : lv_has ls 3 [(0, .ref (ad 0)), (1, .int a0), (2, .int a1)] := hl
  unfold fr_blockBest at h
  refine lv_aload_n hx hb dX12_blockBest_0 rfl (lv_at hl 0 rfl) ?_
  refine lv_aload_n hx hb dX12_blockBest_1 rfl (lv_at hl 0 rfl) ?_
  refine lv_iload_n hx hb dX12_blockBest_2 rfl (lv_at hl 1 rfl) ?_
  refine lv_iload_n hx hb dX12_blockBest_3 rfl (lv_at hl 2 rfl) ?_
  obtain ⟨r5, S2, eS2, h⟩ := obind2_some h
  refine m_calli (As := [.int a0, .int a1]) (rest := [.ref (ad 0)]) E G hA hR hml (tr_isBlock l D cI cJ cZ ad S a0 a1 eS2) (cwV 2 hts (gmV qM_403 qM_404 qM_405 qM_35 qM_401) rfl rfl rfl (by decide +kernel) ⟨Nat.le_of_ble_eq_true rfl, Nat.le_of_ble_eq_true rfl⟩) rfl hl.1 rfl (lv_room (Nat.le_of_ble_eq_true rfl)) dX12_blockBest_4 ⟨Nat.zero_le _, Nat.zero_le _⟩ (fun q3 S4 H locs hq G => ?_)
  obtain ⟨hq1, hq2⟩ := hq
  rw [hq2] at G
  refine lv_to hq1 ?_
  clear hq1 hq2 eS2
  obtain ⟨r9, S6, eS6, h⟩ := obind2_some h
  refine m_calli (As := [.int r5]) (rest := []) E G hA hR hml (tr_mayAsk l D cI cJ cZ ad S2 r5 eS6) (cwV 1 hts (gmV qM_319 qM_320 qM_321 qM_35 qM_304) rfl rfl rfl (by decide +kernel) ⟨Nat.le_of_ble_eq_true rfl, Nat.le_of_ble_eq_true rfl⟩) rfl hl.1 rfl (lv_room (Nat.le_of_ble_eq_true rfl)) dX12_blockBest_7 ⟨Nat.zero_le _, Nat.zero_le _⟩ (fun q7 S8 H locs hq G => ?_)
  obtain ⟨hq1, hq2⟩ := hq
  rw [hq2] at G
  refine lv_to hq1 ?_
  clear hq1 hq2 eS6
  refine lv_if_eq (tgt := 22) hx hb dX12_blockBest_10 (by decide) (fun c10 => ?_) (fun c10 => ?_)
  · have h := oif_pos c10 h
    refine lv_iconst (v := 0) hx hb dX12_blockBest_22 (by decide) ?_
    have hl := lv_sub hl [] rfl
    exact tr_blockBest_b23 E hA hR hml (fun H locs ls G => W.iret (v := r1) hx hb hr (fun t ht hW => ⟨⟨r1, S1, rfl, ⟨rfl, rfl⟩, ⟨by rw [ht]; exact G.1, va_K.moved hW.alike hK, G.2.1⟩⟩, G.2.2.F ht⟩) G.2.2.2.2 dX12_blockBest_23) _ _ _ _ _ h G hl
  · have h := oif_neg c10 h
    refine lv_aload_n hx hb dX12_blockBest_13 rfl (lv_at hl 0 rfl) ?_
    refine lv_iload_n hx hb dX12_blockBest_14 rfl (lv_at hl 1 rfl) ?_
    refine lv_iload_n hx hb dX12_blockBest_15 rfl (lv_at hl 2 rfl) ?_
    obtain ⟨r14, S11, eS11, h⟩ := obind2_some h
    refine m_calli (As := [.int a0, .int a1]) (rest := []) E G hA hR hml (tr_bestOfBlock l D cI cJ cZ ad S6 a0 a1 eS11) (cwV 2 hts (gmV qM_411 qM_412 qM_413 qM_35 qM_409) rfl rfl rfl (by decide +kernel) ⟨Nat.le_of_ble_eq_true rfl, Nat.le_of_ble_eq_true rfl⟩) rfl hl.1 rfl (lv_room (Nat.le_of_ble_eq_true rfl)) dX12_blockBest_16 ⟨Nat.zero_le _, Nat.zero_le _⟩ (fun q12 S13 H locs hq G => ?_)
    obtain ⟨hq1, hq2⟩ := hq
    rw [hq2] at G
    refine lv_to hq1 ?_
    clear hq1 hq2 eS11
    refine lv_goto (tgt := 23) hx hb dX12_blockBest_19 (by decide) ?_
    have hl := lv_sub hl [] rfl
    exact tr_blockBest_b23 E hA hR hml (fun H locs ls G => W.iret (v := r1) hx hb hr (fun t ht hW => ⟨⟨r1, S1, rfl, ⟨rfl, rfl⟩, ⟨by rw [ht]; exact G.1, va_K.moved hW.alike hK, G.2.1⟩⟩, G.2.2.F ht⟩) G.2.2.2.2 dX12_blockBest_23) _ _ _ _ _ h G hl
def fr_path_b66 (k32 : MS → Int32 → Int32 → Int32 → Int32 → Option (Int32 × MS)) (S : MS) (s0 : Int32) (s1 : Int32) (l1 : Int32) (l4 : Int32) (l5 : Int32) : Option (Int32 × MS) := elet (s1 + s0) fun v2 => elet (l4 + l1) fun v3 => k32 S l1 v2 l5 v3
set_option maxHeartbeats 4000000 in
set_option maxRecDepth 100000 in
theorem tr_path_b66 {p : Program} {l : Launch} {e : Env} {s : State} {m : MethodId} {args : Array Value} {below : List Frame} {meth : Method} {c : Code} {Q : State → Prop} {D : va_G} {A : Nat → Prop} {H0 : Heap} {cI cJ cZ : ClassId} {ad : Nat → Nat} {r1 : Int32} {S1 : MS} (E : mE p c cX12_path s m args (Cond.code yX12_path cX12_path 6 (some .int) :: wsM) D cI cJ cZ) (hA : ∀ q : Nat, H0.size ≤ q → A q) (hR : sR s) (hml : c.maxLocals = 6) (kr19 : ∀ (H : Heap) (locs : List Loc) (ls : Array Slot), mG D cI cJ cZ ad A H0 H locs S1 → W p l e { frames := 6, cells := 0, slots := 0, locals := 125 } s m args below meth c H locs 0 0 Q (F0 m 19 ls [.int r1])) (kr81 : ∀ (H : Heap) (locs : List Loc) (ls : Array Slot), mG D cI cJ cZ ad A H0 H locs S1 → W p l e { frames := 6, cells := 0, slots := 0, locals := 125 } s m args below meth c H locs 0 0 Q (F0 m 81 ls [.int r1])) {k32 : MS → Int32 → Int32 → Int32 → Int32 → Option (Int32 × MS)} (hk32 : ∀ (S : MS) (H : Heap) (locs : List Loc) (ls : Array Slot) (l1 : Int32) (l2 : Int32) (l3 : Int32) (l4 : Int32), k32 S l1 l2 l3 l4 = some (r1, S1) → mG D cI cJ cZ ad A H0 H locs S → lv_has ls 6 [(0, .ref (ad 0)), (1, .int l1), (2, .int l2), (3, .int l3), (4, .int l4)] → W p l e { frames := 6, cells := 0, slots := 0, locals := 125 } s m args below meth c H locs 0 0 Q (F0 m 32 ls [])) : ∀ (S : MS) (H : Heap) (locs : List Loc) (ls : Array Slot) (s0 : Int32) (s1 : Int32) (l1 : Int32) (l4 : Int32) (l5 : Int32), fr_path_b66 k32 S s0 s1 l1 l4 l5 = some (r1, S1) → mG D cI cJ cZ ad A H0 H locs S → lv_has ls 6 [(0, .ref (ad 0)), (1, .int l1), (4, .int l4), (5, .int l5)] → W p l e { frames := 6, cells := 0, slots := 0, locals := 125 } s m args below meth c H locs 0 0 Q (F0 m 66 ls [.int s0, .int s1]) := by
  have hx := E.1
  have hb := E.2.1
  have hts := E.2.2.1
  have hown := E.2.2.2.1
  have hK := E.2.2.2.2.1
  intro S H locs ls s0 s1 l1 l4 l5 h G hl
  unfold fr_path_b66 at h
  refine lv_iadd hx hb dX12_path_66 ?_
  refine lv_topi (fun v2 ev2 => ?_)
  have h := elet_at ev2 h
  clear ev2
  refine lv_istore_n (lv' := [(2, .int v2), (0, .ref (ad 0)), (1, .int l1), (4, .int l4), (5, .int l5)]) hx hb dX12_path_67 rfl hl (by decide) rfl (fun ls hl => ?_)
  refine lv_iload hx hb dX12_path_68 (lv_at hl 4 rfl) ?_
  refine lv_istore_n (lv' := [(3, .int l5), (2, .int v2), (0, .ref (ad 0)), (1, .int l1), (4, .int l4), (5, .int l5)]) hx hb dX12_path_70 rfl hl (by decide) rfl (fun ls hl => ?_)
  refine lv_iload hx hb dX12_path_71 (lv_at hl 4 rfl) ?_
  refine lv_iload_n hx hb dX12_path_73 rfl (lv_at hl 3 rfl) ?_
  refine lv_iadd hx hb dX12_path_74 ?_
  refine lv_topi (fun v3 ev3 => ?_)
  have h := elet_at ev3 h
  clear ev3
  refine lv_istore (lv' := [(4, .int v3), (3, .int l5), (2, .int v2), (0, .ref (ad 0)), (1, .int l1), (5, .int l5)]) hx hb dX12_path_75 hl (by decide) rfl (fun ls hl => ?_)
  refine lv_goto (tgt := 32) hx hb dX12_path_77 (by decide) ?_
  have hl := lv_sub hl [3, 4, 2, 1, 0] rfl
  exact hk32 _ _ _ _ _ _ _ _ h G hl
def fr_path_b32  : Nat → MS → Int32 → Int32 → Int32 → Int32 → Option (Int32 × MS)
  | 0, _, _, _, _, _ => none
  | n + 1, S, l1, l2, l3, l4 => elet (l4 + l1) fun v2 => elet (S.2.1 10 2) fun v3 => if v3 < v2 then (some (l2, S)) else (obind2 (fr_bestOfBlock S l4 l1) fun r8 S5 => if r8 = l3 then (fr_path_b66 (fr_path_b32 n) S5 0 l2 l1 l4 r8) else (fr_path_b66 (fr_path_b32 n) S5 1 l2 l1 l4 r8))
set_option maxHeartbeats 4000000 in
set_option maxRecDepth 100000 in
theorem tr_path_b32 {p : Program} {l : Launch} {e : Env} {s : State} {m : MethodId} {args : Array Value} {below : List Frame} {meth : Method} {c : Code} {Q : State → Prop} {D : va_G} {A : Nat → Prop} {H0 : Heap} {cI cJ cZ : ClassId} {ad : Nat → Nat} {r1 : Int32} {S1 : MS} (E : mE p c cX12_path s m args (Cond.code yX12_path cX12_path 6 (some .int) :: wsM) D cI cJ cZ) (hA : ∀ q : Nat, H0.size ≤ q → A q) (hR : sR s) (hml : c.maxLocals = 6) (kr19 : ∀ (H : Heap) (locs : List Loc) (ls : Array Slot), mG D cI cJ cZ ad A H0 H locs S1 → W p l e { frames := 6, cells := 0, slots := 0, locals := 125 } s m args below meth c H locs 0 0 Q (F0 m 19 ls [.int r1])) (kr81 : ∀ (H : Heap) (locs : List Loc) (ls : Array Slot), mG D cI cJ cZ ad A H0 H locs S1 → W p l e { frames := 6, cells := 0, slots := 0, locals := 125 } s m args below meth c H locs 0 0 Q (F0 m 81 ls [.int r1])) : ∀ n : Nat, ∀ (S : MS) (H : Heap) (locs : List Loc) (ls : Array Slot) (l1 : Int32) (l2 : Int32) (l3 : Int32) (l4 : Int32), fr_path_b32 n S l1 l2 l3 l4 = some (r1, S1) → mG D cI cJ cZ ad A H0 H locs S → lv_has ls 6 [(0, .ref (ad 0)), (1, .int l1), (2, .int l2), (3, .int l3), (4, .int l4)] → W p l e { frames := 6, cells := 0, slots := 0, locals := 125 } s m args below meth c H locs 0 0 Q (F0 m 32 ls []) := by
  have hx := E.1
  have hb := E.2.1
  have hts := E.2.2.1
  have hown := E.2.2.2.1
  have hK := E.2.2.2.2.1
  intro n
  induction n with
  | zero =>
    intro S H locs ls l1 l2 l3 l4 h
    have h : (none : Option (Int32 × MS)) = some (r1, S1) := h
    cases h
  | succ n ih =>
    intro S H locs ls l1 l2 l3 l4 h G hl
    unfold fr_path_b32 at h
    refine lv_iload hx hb dX12_path_32 (lv_at hl 4 rfl) ?_
    refine lv_iload_n hx hb dX12_path_34 rfl (lv_at hl 1 rfl) ?_
    refine lv_iadd hx hb dX12_path_35 ?_
    refine lv_topi (fun v2 ev2 => ?_)
    have h := elet_at ev2 h
    clear ev2
    refine lv_aload_n hx hb dX12_path_36 rfl (lv_at hl 0 rfl) ?_
    refine m_get E G 10 (v := .ref (ad 10)) (by decide) (.tail _ qM_7) rfl dX12_path_37 rfl ?_
    refine lv_iconst (v := 2) hx hb dX12_path_40 (by decide) ?_
    refine m_iald E G 10 2 (n := 131) (k := 2) rfl rfl (by decide) (by decide) dX12_path_41 ?_
    refine lv_topi (fun v3 ev3 => ?_)
    have h := elet_at ev3 h
    clear ev3
    refine lv_icmp_gt (tgt := 80) hx hb dX12_path_42 (by decide) (fun c4 => ?_) (fun c4 => ?_)
    · have h := oif_pos c4 h
      refine lv_iload_n hx hb dX12_path_80 rfl (lv_at hl 2 rfl) ?_
      rw [(osome2 h).2] at G
      refine lv_to (osome2 h).1 ?_
      exact kr81 _ _ _ G
    · have h := oif_neg c4 h
      refine lv_aload_n hx hb dX12_path_45 rfl (lv_at hl 0 rfl) ?_
      refine lv_iload hx hb dX12_path_46 (lv_at hl 4 rfl) ?_
      refine lv_iload_n hx hb dX12_path_48 rfl (lv_at hl 1 rfl) ?_
      obtain ⟨r8, S5, eS5, h⟩ := obind2_some h
      refine m_calli (As := [.int l4, .int l1]) (rest := []) E G hA hR hml (tr_bestOfBlock l D cI cJ cZ ad S l4 l1 eS5) (cwV 2 hts (gmV qM_411 qM_412 qM_413 qM_35 qM_409) rfl rfl rfl (by decide +kernel) ⟨Nat.le_of_ble_eq_true rfl, Nat.le_of_ble_eq_true rfl⟩) rfl hl.1 rfl (lv_room (Nat.le_of_ble_eq_true rfl)) dX12_path_49 ⟨Nat.zero_le _, Nat.zero_le _⟩ (fun q6 S7 H locs hq G => ?_)
      obtain ⟨hq1, hq2⟩ := hq
      rw [hq2] at G
      refine lv_to hq1 ?_
      clear hq1 hq2 eS5
      refine lv_istore (lv' := [(5, .int r8), (0, .ref (ad 0)), (1, .int l1), (2, .int l2), (3, .int l3), (4, .int l4)]) hx hb dX12_path_52 hl (by decide) rfl (fun ls hl => ?_)
      refine lv_iload_n hx hb dX12_path_54 rfl (lv_at hl 3 rfl) ?_
      refine lv_iload hx hb dX12_path_55 (lv_at hl 0 rfl) ?_
      refine lv_iload_n hx hb dX12_path_57 rfl (lv_at hl 4 rfl) ?_
      refine lv_icmp_eq (tgt := 65) hx hb dX12_path_58 (by decide) (fun c9 => ?_) (fun c9 => ?_)
      · have h := oif_pos c9 h
        refine lv_iconst (v := 0) hx hb dX12_path_65 (by decide) ?_
        have hl := lv_sub hl [1, 2, 5, 0] rfl
        exact tr_path_b66 E hA hR hml kr19 kr81 ih _ _ _ _ _ _ _ _ _ h G hl
      · have h := oif_neg c9 h
        refine lv_iconst (v := 1) hx hb dX12_path_61 (by decide) ?_
        refine lv_goto (tgt := 66) hx hb dX12_path_62 (by decide) ?_
        have hl := lv_sub hl [1, 2, 5, 0] rfl
        exact tr_path_b66 E hA hR hml kr19 kr81 ih _ _ _ _ _ _ _ _ _ h G hl
def fr_path (S : MS) (a0 : Int32) : Option (Int32 × MS) := elet (S.2.1 10 2) fun v2 => obind (fr_in a0 4 v2) fun r3 => obind2 (fr_mayAsk S r3) fun r8 S5 => if r8 = 0 then (some (0, S5)) else (obind2 (fr_bestOfBlock S5 0 a0) fun r13 S10 => fr_path_b32 16384 S10 a0 0 r13 a0)
set_option maxHeartbeats 4000000 in
set_option maxRecDepth 100000 in
theorem tr_path (l : Launch) (D : va_G) (cI cJ cZ : ClassId) (ad : Nat → Nat) (S : MS) (a0 : Int32) {r1 : Int32} {S1 : MS} (h : fr_path S a0 = some (r1, S1)) : mCi l yX12_path (Cond.code yX12_path cX12_path 6 (some .int) :: wsM) 6 125 D cI cJ cZ ad S [.int a0] (fun r S9 => r = r1 ∧ S9 = S1) := by
  intro sz
  refine Met.ofW (cc := cX12_path) (maxL := 6) (ret := (some .int)) (by decide) rfl ?_
  intro p e s m args below meth c s₁ B hml hv
  obtain ⟨rfl, hsz, hP, hK, hD0, hR⟩ := hv
  have hx := B.exec
  have hb := B.bytes
  have hr := B.returns
  have hts := atoms_spec (ws := (Cond.code yX12_path cX12_path 6 (some .int) :: wsM)) B.pre
  have hown : s.vm.findClass RX12 = some m.cls := findClass_of_methodNamed B.named
  have hlocks := B.notSynchronized
  subst hsz
  have hD := hD0.self (sz := s.heap.size)
  generalize hAe : va_A (MW cI cJ cZ ad S) s.heap.size = A at hD ⊢
  have hA : ∀ q : Nat, s.heap.size ≤ q → A q := fun q h => by rw [← hAe]; exact Or.inr h
  have G : mG D cI cJ cZ ad A s.heap s.heap [] S := ⟨hP, hD, va_S.rf⟩
  have E : mE p c cX12_path s m ([.ref (ad 0), .int a0] : List Value).toArray (Cond.code yX12_path cX12_path 6 (some .int) :: wsM) D cI cJ cZ := ⟨hx, hb, hts, hown, hK, fun w h => .tail _ (iM_x h)⟩
  have hl := lv_entry ([.ref (ad 0), .int a0]) (n := 6) (Nat.le_of_ble_eq_true rfl)
  rw [lg_entry_eq]
  generalize (lg_sl ([.ref (ad 0), .int a0]) ++ List.replicate (6 - (lg_sl ([.ref (ad 0), .int a0])).length) Slot.unset).toArray = ls at hl ⊢
  have hl : lv_has ls 6 [(0, .ref (ad 0)), (1, .int a0)] := hl
  unfold fr_path at h
  refine lv_aload_n hx hb dX12_path_0 rfl (lv_at hl 0 rfl) ?_
  refine lv_iload_n hx hb dX12_path_1 rfl (lv_at hl 1 rfl) ?_
  refine lv_iconst (v := 4) hx hb dX12_path_2 (by decide) ?_
  refine lv_aload_n hx hb dX12_path_3 rfl (lv_at hl 0 rfl) ?_
  refine m_get E G 10 (v := .ref (ad 10)) (by decide) (.tail _ qM_7) rfl dX12_path_4 rfl ?_
  refine lv_iconst (v := 2) hx hb dX12_path_7 (by decide) ?_
  refine m_iald E G 10 2 (n := 131) (k := 2) rfl rfl (by decide) (by decide) dX12_path_8 ?_
  refine lv_topi (fun v2 ev2 => ?_)
  have h := elet_at ev2 h
  clear ev2
  obtain ⟨r3, er3, h⟩ := obind_some h
  refine m_stat (As := [.int a0, .int 4, .int v2]) (rest := [.ref (ad 0)]) ⟨hx, hb, hml, hown, hts⟩ (tr_in l a0 4 v2 er3) (cwS 3 hts (gmS qM_52 qM_53 qM_35 qM_27) rfl rfl rfl (by decide +kernel) ⟨Nat.le_of_ble_eq_true rfl, Nat.le_of_ble_eq_true rfl⟩) rfl hl.1 rfl (lv_room (Nat.le_of_ble_eq_true rfl)) dX12_path_9 ⟨Nat.zero_le _, Nat.zero_le _⟩ (fun q4 hq => ?_)
  refine lv_to hq ?_
  clear hq er3
  obtain ⟨r8, S5, eS5, h⟩ := obind2_some h
  refine m_calli (As := [.int r3]) (rest := []) E G hA hR hml (tr_mayAsk l D cI cJ cZ ad S r3 eS5) (cwV 1 hts (gmV qM_319 qM_320 qM_321 qM_35 qM_304) rfl rfl rfl (by decide +kernel) ⟨Nat.le_of_ble_eq_true rfl, Nat.le_of_ble_eq_true rfl⟩) rfl hl.1 rfl (lv_room (Nat.le_of_ble_eq_true rfl)) dX12_path_12 ⟨Nat.zero_le _, Nat.zero_le _⟩ (fun q6 S7 H locs hq G => ?_)
  obtain ⟨hq1, hq2⟩ := hq
  rw [hq2] at G
  refine lv_to hq1 ?_
  clear hq1 hq2 eS5
  refine lv_if_ne (tgt := 20) hx hb dX12_path_15 (by decide) (fun c9 => ?_) (fun c9 => ?_)
  · have h := oif_neg c9 h
    refine lv_iconst (v := 0) hx hb dX12_path_20 (by decide) ?_
    refine lv_istore_n (lv' := [(2, .int 0), (0, .ref (ad 0)), (1, .int a0)]) hx hb dX12_path_21 rfl hl (by decide) rfl (fun ls hl => ?_)
    refine lv_aload_n hx hb dX12_path_22 rfl (lv_at hl 1 rfl) ?_
    refine lv_iconst (v := 0) hx hb dX12_path_23 (by decide) ?_
    refine lv_iload_n hx hb dX12_path_24 rfl (lv_at hl 2 rfl) ?_
    obtain ⟨r13, S10, eS10, h⟩ := obind2_some h
    refine m_calli (As := [.int 0, .int a0]) (rest := []) E G hA hR hml (tr_bestOfBlock l D cI cJ cZ ad S5 0 a0 eS10) (cwV 2 hts (gmV qM_411 qM_412 qM_413 qM_35 qM_409) rfl rfl rfl (by decide +kernel) ⟨Nat.le_of_ble_eq_true rfl, Nat.le_of_ble_eq_true rfl⟩) rfl hl.1 rfl (lv_room (Nat.le_of_ble_eq_true rfl)) dX12_path_25 ⟨Nat.zero_le _, Nat.zero_le _⟩ (fun q11 S12 H locs hq G => ?_)
    obtain ⟨hq1, hq2⟩ := hq
    rw [hq2] at G
    refine lv_to hq1 ?_
    clear hq1 hq2 eS10
    refine lv_istore_n (lv' := [(3, .int r13), (2, .int 0), (0, .ref (ad 0)), (1, .int a0)]) hx hb dX12_path_28 rfl hl (by decide) rfl (fun ls hl => ?_)
    refine lv_iload_n hx hb dX12_path_29 rfl (lv_at hl 3 rfl) ?_
    refine lv_istore (lv' := [(4, .int a0), (3, .int r13), (2, .int 0), (0, .ref (ad 0)), (1, .int a0)]) hx hb dX12_path_30 hl (by decide) rfl (fun ls hl => ?_)
    have hl := lv_sub hl [3, 4, 2, 1, 0] rfl
    exact tr_path_b32 E hA hR hml (fun H locs ls G => W.iret (v := r1) hx hb hr (fun t ht hW => ⟨⟨r1, S1, rfl, ⟨rfl, rfl⟩, ⟨by rw [ht]; exact G.1, va_K.moved hW.alike hK, G.2.1⟩⟩, G.2.2.F ht⟩) G.2.2.2.2 dX12_path_19) (fun H locs ls G => W.iret (v := r1) hx hb hr (fun t ht hW => ⟨⟨r1, S1, rfl, ⟨rfl, rfl⟩, ⟨by rw [ht]; exact G.1, va_K.moved hW.alike hK, G.2.1⟩⟩, G.2.2.F ht⟩) G.2.2.2.2 dX12_path_81) _ _ _ _ _ _ _ _ _ h G hl
  · have h := oif_pos c9 h
    refine lv_iconst (v := 0) hx hb dX12_path_18 (by decide) ?_
    exact W.iret (v := 0) hx hb hr (fun t ht hW => ⟨⟨0, S5, rfl, osome2 h, ⟨by rw [ht]; exact G.1, va_K.moved hW.alike hK, G.2.1⟩⟩, G.2.2.F ht⟩) G.2.2.2.2 dX12_path_19
def fr_blockCount (S : MS) (a0 : Int32) : Option (Int32 × MS) := elet (S.2.1 10 2) fun v2 => oif (¬ a0 = 0) <| elet (v2 / a0) fun v4 => some (v4, S)
set_option maxHeartbeats 4000000 in
set_option maxRecDepth 100000 in
theorem tr_blockCount (l : Launch) (D : va_G) (cI cJ cZ : ClassId) (ad : Nat → Nat) (S : MS) (a0 : Int32) {r1 : Int32} {S1 : MS} (h : fr_blockCount S a0 = some (r1, S1)) : mCi l yX12_blockCount (Cond.code yX12_blockCount cX12_blockCount 2 (some .int) :: wsM) 1 0 D cI cJ cZ ad S [.int a0] (fun r S9 => r = r1 ∧ S9 = S1) := by
  intro sz
  refine Met.ofW (cc := cX12_blockCount) (maxL := 2) (ret := (some .int)) (by decide) rfl ?_
  intro p e s m args below meth c s₁ B hml hv
  obtain ⟨rfl, hsz, hP, hK, hD0, hR⟩ := hv
  have hx := B.exec
  have hb := B.bytes
  have hr := B.returns
  have hts := atoms_spec (ws := (Cond.code yX12_blockCount cX12_blockCount 2 (some .int) :: wsM)) B.pre
  have hown : s.vm.findClass RX12 = some m.cls := findClass_of_methodNamed B.named
  have hlocks := B.notSynchronized
  subst hsz
  have hD := hD0.self (sz := s.heap.size)
  generalize hAe : va_A (MW cI cJ cZ ad S) s.heap.size = A at hD ⊢
  have hA : ∀ q : Nat, s.heap.size ≤ q → A q := fun q h => by rw [← hAe]; exact Or.inr h
  have G : mG D cI cJ cZ ad A s.heap s.heap [] S := ⟨hP, hD, va_S.rf⟩
  have E : mE p c cX12_blockCount s m ([.ref (ad 0), .int a0] : List Value).toArray (Cond.code yX12_blockCount cX12_blockCount 2 (some .int) :: wsM) D cI cJ cZ := ⟨hx, hb, hts, hown, hK, fun w h => .tail _ (iM_x h)⟩
  have hl := lv_entry ([.ref (ad 0), .int a0]) (n := 2) (Nat.le_of_ble_eq_true rfl)
  rw [lg_entry_eq]
  generalize (lg_sl ([.ref (ad 0), .int a0]) ++ List.replicate (2 - (lg_sl ([.ref (ad 0), .int a0])).length) Slot.unset).toArray = ls at hl ⊢
  have hl : lv_has ls 2 [(0, .ref (ad 0)), (1, .int a0)] := hl
  unfold fr_blockCount at h
  refine lv_aload_n hx hb dX12_blockCount_0 rfl (lv_at hl 0 rfl) ?_
  refine m_get E G 10 (v := .ref (ad 10)) (by decide) (.tail _ qM_7) rfl dX12_blockCount_1 rfl ?_
  refine lv_iconst (v := 2) hx hb dX12_blockCount_4 (by decide) ?_
  refine m_iald E G 10 2 (n := 131) (k := 2) rfl rfl (by decide) (by decide) dX12_blockCount_5 ?_
  refine lv_topi (fun v2 ev2 => ?_)
  have h := elet_at ev2 h
  clear ev2
  refine lv_iload_n hx hb dX12_blockCount_6 rfl (lv_at hl 1 rfl) ?_
  obtain ⟨g3, h⟩ := oif_some h
  refine lv_idiv hx hb dX12_blockCount_7 g3 ?_
  refine lv_topi (fun v4 ev4 => ?_)
  have h := elet_at ev4 h
  clear ev4
  exact W.iret (v := v4) hx hb hr (fun t ht hW => ⟨⟨v4, S, rfl, osome2 h, ⟨by rw [ht]; exact G.1, va_K.moved hW.alike hK, G.2.1⟩⟩, G.2.2.F ht⟩) G.2.2.2.2 dX12_blockCount_8
def fr_areNear_b57  (S : MS) (s0 : Int32) : Option (Int32 × MS) := oif (s0 = 0 ∨ s0 = 1) <| some (s0, S)
set_option maxHeartbeats 4000000 in
set_option maxRecDepth 100000 in
theorem tr_areNear_b57 {p : Program} {l : Launch} {e : Env} {s : State} {m : MethodId} {args : Array Value} {below : List Frame} {meth : Method} {c : Code} {Q : State → Prop} {D : va_G} {A : Nat → Prop} {H0 : Heap} {cI cJ cZ : ClassId} {ad : Nat → Nat} {r1 : Int32} {S1 : MS} (E : mE p c cX12_areNear s m args (Cond.code yX12_areNear cX12_areNear 3 (some .boolean) :: wsM) D cI cJ cZ) (hA : ∀ q : Nat, H0.size ≤ q → A q) (hR : sR s) (hml : c.maxLocals = 3) (kr57 : ∀ (H : Heap) (locs : List Loc) (ls : Array Slot), (r1 = 0 ∨ r1 = 1) → mG D cI cJ cZ ad A H0 H locs S1 → W p l e { frames := 1, cells := 0, slots := 0, locals := 15 } s m args below meth c H locs 0 0 Q (F0 m 57 ls [.int r1])) : ∀ (S : MS) (H : Heap) (locs : List Loc) (ls : Array Slot) (s0 : Int32), fr_areNear_b57 S s0 = some (r1, S1) → mG D cI cJ cZ ad A H0 H locs S → lv_has ls 3 [] → W p l e { frames := 1, cells := 0, slots := 0, locals := 15 } s m args below meth c H locs 0 0 Q (F0 m 57 ls [.int s0]) := by
  have hx := E.1
  have hb := E.2.1
  have hts := E.2.2.1
  have hown := E.2.2.2.1
  have hK := E.2.2.2.2.1
  intro S H locs ls s0 h G hl
  unfold fr_areNear_b57 at h
  obtain ⟨gz, h⟩ := oif_some h
  have gr : r1 = 0 ∨ r1 = 1 := by rw [← (osome2 h).1]; exact gz
  rw [(osome2 h).2] at G
  refine lv_to (osome2 h).1 ?_
  exact kr57 _ _ _ gr G
def fr_areNear_b56  (S : MS)  : Option (Int32 × MS) := fr_areNear_b57 S 0
set_option maxHeartbeats 4000000 in
set_option maxRecDepth 100000 in
theorem tr_areNear_b56 {p : Program} {l : Launch} {e : Env} {s : State} {m : MethodId} {args : Array Value} {below : List Frame} {meth : Method} {c : Code} {Q : State → Prop} {D : va_G} {A : Nat → Prop} {H0 : Heap} {cI cJ cZ : ClassId} {ad : Nat → Nat} {r1 : Int32} {S1 : MS} (E : mE p c cX12_areNear s m args (Cond.code yX12_areNear cX12_areNear 3 (some .boolean) :: wsM) D cI cJ cZ) (hA : ∀ q : Nat, H0.size ≤ q → A q) (hR : sR s) (hml : c.maxLocals = 3) (kr57 : ∀ (H : Heap) (locs : List Loc) (ls : Array Slot), (r1 = 0 ∨ r1 = 1) → mG D cI cJ cZ ad A H0 H locs S1 → W p l e { frames := 1, cells := 0, slots := 0, locals := 15 } s m args below meth c H locs 0 0 Q (F0 m 57 ls [.int r1])) : ∀ (S : MS) (H : Heap) (locs : List Loc) (ls : Array Slot), fr_areNear_b56 S = some (r1, S1) → mG D cI cJ cZ ad A H0 H locs S → lv_has ls 3 [] → W p l e { frames := 1, cells := 0, slots := 0, locals := 15 } s m args below meth c H locs 0 0 Q (F0 m 56 ls []) := by
  have hx := E.1
  have hb := E.2.1
  have hts := E.2.2.1
  have hown := E.2.2.2.1
  have hK := E.2.2.2.2.1
  intro S H locs ls h G hl
  unfold fr_areNear_b56 at h
  refine lv_iconst (v := 0) hx hb dX12_areNear_56 (by decide) ?_
  have hl := lv_sub hl [] rfl
  exact tr_areNear_b57 E hA hR hml kr57 _ _ _ _ _ h G hl
def fr_areNear (S : MS) (a0 : Int32) (a1 : Int32) : Option (Int32 × MS) := elet (S.2.1 10 9) fun v2 => oif (¬ v2 = 0) <| elet (a0 - a0 / v2 * v2) fun v4 => elet (S.2.1 10 9) fun v5 => oif (¬ v5 = 0) <| elet (a1 - a1 / v5 * v5) fun v7 => elet (v4 - v7) fun v8 => elet (if 0 ≤ v8 then v8 else 0 - v8) fun v9 => if 1 < v9 then (fr_areNear_b56 S) else (elet (S.2.1 10 9) fun v11 => oif (¬ v11 = 0) <| elet (a0 / v11) fun v13 => elet (S.2.1 10 9) fun v14 => oif (¬ v14 = 0) <| elet (a1 / v14) fun v16 => elet (v13 - v16) fun v17 => elet (if 0 ≤ v17 then v17 else 0 - v17) fun v18 => if 1 < v18 then (fr_areNear_b56 S) else (fr_areNear_b57 S 1))
set_option maxHeartbeats 4000000 in
set_option maxRecDepth 100000 in
theorem tr_areNear (l : Launch) (D : va_G) (cI cJ cZ : ClassId) (ad : Nat → Nat) (S : MS) (a0 : Int32) (a1 : Int32) {r1 : Int32} {S1 : MS} (h : fr_areNear S a0 a1 = some (r1, S1)) : mCi l yX12_areNear (Cond.code yX12_areNear cX12_areNear 3 (some .boolean) :: wsM) 1 15 D cI cJ cZ ad S [.int a0, .int a1] (fun r S9 => r = r1 ∧ S9 = S1) := by
  intro sz
  refine Met.ofW (cc := cX12_areNear) (maxL := 3) (ret := (some .boolean)) (by decide) rfl ?_
  intro p e s m args below meth c s₁ B hml hv
  obtain ⟨rfl, hsz, hP, hK, hD0, hR⟩ := hv
  have hx := B.exec
  have hb := B.bytes
  have hr := B.returns
  have hts := atoms_spec (ws := (Cond.code yX12_areNear cX12_areNear 3 (some .boolean) :: wsM)) B.pre
  have hown : s.vm.findClass RX12 = some m.cls := findClass_of_methodNamed B.named
  have hlocks := B.notSynchronized
  subst hsz
  have hD := hD0.self (sz := s.heap.size)
  generalize hAe : va_A (MW cI cJ cZ ad S) s.heap.size = A at hD ⊢
  have hA : ∀ q : Nat, s.heap.size ≤ q → A q := fun q h => by rw [← hAe]; exact Or.inr h
  have G : mG D cI cJ cZ ad A s.heap s.heap [] S := ⟨hP, hD, va_S.rf⟩
  have E : mE p c cX12_areNear s m ([.ref (ad 0), .int a0, .int a1] : List Value).toArray (Cond.code yX12_areNear cX12_areNear 3 (some .boolean) :: wsM) D cI cJ cZ := ⟨hx, hb, hts, hown, hK, fun w h => .tail _ (iM_x h)⟩
  have hl := lv_entry ([.ref (ad 0), .int a0, .int a1]) (n := 3) (Nat.le_of_ble_eq_true rfl)
  rw [lg_entry_eq]
  generalize (lg_sl ([.ref (ad 0), .int a0, .int a1]) ++ List.replicate (3 - (lg_sl ([.ref (ad 0), .int a0, .int a1])).length) Slot.unset).toArray = ls at hl ⊢
  have hl : lv_has ls 3 [(0, .ref (ad 0)), (1, .int a0), (2, .int a1)] := hl
  unfold fr_areNear at h
  refine lv_iload_n hx hb dX12_areNear_0 rfl (lv_at hl 1 rfl) ?_
  refine lv_aload_n hx hb dX12_areNear_1 rfl (lv_at hl 0 rfl) ?_
  refine m_get E G 10 (v := .ref (ad 10)) (by decide) (.tail _ qM_7) rfl dX12_areNear_2 rfl ?_
  refine lv_bipush (v := 9) hx hb dX12_areNear_5 (by decide) ?_
  refine m_iald E G 10 2 (n := 131) (k := 9) rfl rfl (by decide) (by decide) dX12_areNear_7 ?_
  refine lv_topi (fun v2 ev2 => ?_)
  have h := elet_at ev2 h
  clear ev2
  obtain ⟨g3, h⟩ := oif_some h
  refine lv_irem hx hb dX12_areNear_8 g3 ?_
  refine lv_topi (fun v4 ev4 => ?_)
  have h := elet_at ev4 h
  clear ev4
  refine lv_iload_n hx hb dX12_areNear_9 rfl (lv_at hl 2 rfl) ?_
  refine lv_aload_n hx hb dX12_areNear_10 rfl (lv_at hl 0 rfl) ?_
  refine m_get E G 10 (v := .ref (ad 10)) (by decide) (.tail _ qM_7) rfl dX12_areNear_11 rfl ?_
  refine lv_bipush (v := 9) hx hb dX12_areNear_14 (by decide) ?_
  refine m_iald E G 10 2 (n := 131) (k := 9) rfl rfl (by decide) (by decide) dX12_areNear_16 ?_
  refine lv_topi (fun v5 ev5 => ?_)
  have h := elet_at ev5 h
  clear ev5
  obtain ⟨g6, h⟩ := oif_some h
  refine lv_irem hx hb dX12_areNear_17 g6 ?_
  refine lv_topi (fun v7 ev7 => ?_)
  have h := elet_at ev7 h
  clear ev7
  refine lv_isub hx hb dX12_areNear_18 ?_
  refine lv_topi (fun v8 ev8 => ?_)
  have h := elet_at ev8 h
  clear ev8
  refine va_mabs hx hb (hml.trans hl.1.symm) hown (hts _ (.tail _ qM_245)) (hts _ (.tail _ qM_246)) (hts _ (.tail _ qM_247)) (hts _ (.tail _ qM_248)) (Nat.le_of_ble_eq_true rfl) (Nat.le_of_ble_eq_true rfl) (Nat.zero_le _) (Nat.zero_le _) dX12_areNear_19 ?_
  refine lv_topi (fun v9 ev9 => ?_)
  have h := elet_at ev9 h
  clear ev9
  refine lv_iconst (v := 1) hx hb dX12_areNear_22 (by decide) ?_
  refine lv_icmp_gt (tgt := 56) hx hb dX12_areNear_23 (by decide) (fun c10 => ?_) (fun c10 => ?_)
  · have h := oif_pos c10 h
    have hl := lv_sub hl [] rfl
    exact tr_areNear_b56 E hA hR hml (fun H locs ls gz G => W.zret (v := r1) hx hb hr (nar01 gz) (fun t ht hW => ⟨⟨r1, S1, rfl, ⟨rfl, rfl⟩, ⟨by rw [ht]; exact G.1, va_K.moved hW.alike hK, G.2.1⟩⟩, G.2.2.F ht⟩) G.2.2.2.2 dX12_areNear_57) _ _ _ _ h G hl
  · have h := oif_neg c10 h
    refine lv_iload_n hx hb dX12_areNear_26 rfl (lv_at hl 1 rfl) ?_
    refine lv_aload_n hx hb dX12_areNear_27 rfl (lv_at hl 0 rfl) ?_
    refine m_get E G 10 (v := .ref (ad 10)) (by decide) (.tail _ qM_7) rfl dX12_areNear_28 rfl ?_
    refine lv_bipush (v := 9) hx hb dX12_areNear_31 (by decide) ?_
    refine m_iald E G 10 2 (n := 131) (k := 9) rfl rfl (by decide) (by decide) dX12_areNear_33 ?_
    refine lv_topi (fun v11 ev11 => ?_)
    have h := elet_at ev11 h
    clear ev11
    obtain ⟨g12, h⟩ := oif_some h
    refine lv_idiv hx hb dX12_areNear_34 g12 ?_
    refine lv_topi (fun v13 ev13 => ?_)
    have h := elet_at ev13 h
    clear ev13
    refine lv_iload_n hx hb dX12_areNear_35 rfl (lv_at hl 2 rfl) ?_
    refine lv_aload_n hx hb dX12_areNear_36 rfl (lv_at hl 0 rfl) ?_
    refine m_get E G 10 (v := .ref (ad 10)) (by decide) (.tail _ qM_7) rfl dX12_areNear_37 rfl ?_
    refine lv_bipush (v := 9) hx hb dX12_areNear_40 (by decide) ?_
    refine m_iald E G 10 2 (n := 131) (k := 9) rfl rfl (by decide) (by decide) dX12_areNear_42 ?_
    refine lv_topi (fun v14 ev14 => ?_)
    have h := elet_at ev14 h
    clear ev14
    obtain ⟨g15, h⟩ := oif_some h
    refine lv_idiv hx hb dX12_areNear_43 g15 ?_
    refine lv_topi (fun v16 ev16 => ?_)
    have h := elet_at ev16 h
    clear ev16
    refine lv_isub hx hb dX12_areNear_44 ?_
    refine lv_topi (fun v17 ev17 => ?_)
    have h := elet_at ev17 h
    clear ev17
    refine va_mabs hx hb (hml.trans hl.1.symm) hown (hts _ (.tail _ qM_245)) (hts _ (.tail _ qM_246)) (hts _ (.tail _ qM_247)) (hts _ (.tail _ qM_248)) (Nat.le_of_ble_eq_true rfl) (Nat.le_of_ble_eq_true rfl) (Nat.zero_le _) (Nat.zero_le _) dX12_areNear_45 ?_
    refine lv_topi (fun v18 ev18 => ?_)
    have h := elet_at ev18 h
    clear ev18
    refine lv_iconst (v := 1) hx hb dX12_areNear_48 (by decide) ?_
    refine lv_icmp_gt (tgt := 56) hx hb dX12_areNear_49 (by decide) (fun c19 => ?_) (fun c19 => ?_)
    · have h := oif_pos c19 h
      have hl := lv_sub hl [] rfl
      exact tr_areNear_b56 E hA hR hml (fun H locs ls gz G => W.zret (v := r1) hx hb hr (nar01 gz) (fun t ht hW => ⟨⟨r1, S1, rfl, ⟨rfl, rfl⟩, ⟨by rw [ht]; exact G.1, va_K.moved hW.alike hK, G.2.1⟩⟩, G.2.2.F ht⟩) G.2.2.2.2 dX12_areNear_57) _ _ _ _ h G hl
    · have h := oif_neg c19 h
      refine lv_iconst (v := 1) hx hb dX12_areNear_52 (by decide) ?_
      refine lv_goto (tgt := 57) hx hb dX12_areNear_53 (by decide) ?_
      have hl := lv_sub hl [] rfl
      exact tr_areNear_b57 E hA hR hml (fun H locs ls gz G => W.zret (v := r1) hx hb hr (nar01 gz) (fun t ht hW => ⟨⟨r1, S1, rfl, ⟨rfl, rfl⟩, ⟨by rw [ht]; exact G.1, va_K.moved hW.alike hK, G.2.1⟩⟩, G.2.2.F ht⟩) G.2.2.2.2 dX12_areNear_57) _ _ _ _ _ h G hl
def fr_bestBehind_b69 (k5 : MS → Int32 → Int32 → Int32 → Int32 → Option (Int32 × MS)) (S : MS) (l1 : Int32) (l2 : Int32) (l3 : Int32) (l4 : Int32) : Option (Int32 × MS) := elet (l4 + Int32.ofInt (1)) fun v2 => k5 S l1 l2 l3 v2
set_option maxHeartbeats 4000000 in
set_option maxRecDepth 100000 in
theorem tr_bestBehind_b69 {p : Program} {l : Launch} {e : Env} {s : State} {m : MethodId} {args : Array Value} {below : List Frame} {meth : Method} {c : Code} {Q : State → Prop} {D : va_G} {A : Nat → Prop} {H0 : Heap} {cI cJ cZ : ClassId} {ad : Nat → Nat} {r1 : Int32} {S1 : MS} (E : mE p c cX12_bestBehind s m args (Cond.code yX12_bestBehind cX12_bestBehind 5 (some .int) :: wsM) D cI cJ cZ) (hA : ∀ q : Nat, H0.size ≤ q → A q) (hR : sR s) (hml : c.maxLocals = 5) (kr76 : ∀ (H : Heap) (locs : List Loc) (ls : Array Slot), mG D cI cJ cZ ad A H0 H locs S1 → W p l e { frames := 2, cells := 0, slots := 0, locals := 37 } s m args below meth c H locs 0 0 Q (F0 m 76 ls [.int r1])) {k5 : MS → Int32 → Int32 → Int32 → Int32 → Option (Int32 × MS)} (hk5 : ∀ (S : MS) (H : Heap) (locs : List Loc) (ls : Array Slot) (l1 : Int32) (l2 : Int32) (l3 : Int32) (l4 : Int32), k5 S l1 l2 l3 l4 = some (r1, S1) → mG D cI cJ cZ ad A H0 H locs S → lv_has ls 5 [(0, .ref (ad 0)), (1, .int l1), (2, .int l2), (3, .int l3), (4, .int l4)] → W p l e { frames := 2, cells := 0, slots := 0, locals := 37 } s m args below meth c H locs 0 0 Q (F0 m 5 ls [])) : ∀ (S : MS) (H : Heap) (locs : List Loc) (ls : Array Slot) (l1 : Int32) (l2 : Int32) (l3 : Int32) (l4 : Int32), fr_bestBehind_b69 k5 S l1 l2 l3 l4 = some (r1, S1) → mG D cI cJ cZ ad A H0 H locs S → lv_has ls 5 [(0, .ref (ad 0)), (1, .int l1), (2, .int l2), (3, .int l3), (4, .int l4)] → W p l e { frames := 2, cells := 0, slots := 0, locals := 37 } s m args below meth c H locs 0 0 Q (F0 m 69 ls []) := by
  have hx := E.1
  have hb := E.2.1
  have hts := E.2.2.1
  have hown := E.2.2.2.1
  have hK := E.2.2.2.2.1
  intro S H locs ls l1 l2 l3 l4 h G hl
  unfold fr_bestBehind_b69 at h
  obtain ⟨v2, ev2, h⟩ := elet_some h
  refine lv_iinc (v := v2) (lv' := [(4, .int v2), (0, .ref (ad 0)), (1, .int l1), (2, .int l2), (3, .int l3)]) hx hb dX12_bestBehind_69 hl (k := 4) rfl ev2.symm (by decide) rfl (fun ls hl => ?_)
  refine lv_goto (tgt := 5) hx hb dX12_bestBehind_72 (by decide) ?_
  have hl := lv_sub hl [1, 2, 3, 4, 0] rfl
  exact hk5 _ _ _ _ _ _ _ _ h G hl
def fr_bestBehind_b66 (k5 : MS → Int32 → Int32 → Int32 → Int32 → Option (Int32 × MS)) (S : MS) (l1 : Int32) (l2 : Int32) (l4 : Int32) : Option (Int32 × MS) := fr_bestBehind_b69 k5 S l1 l2 l4 l4
set_option maxHeartbeats 4000000 in
set_option maxRecDepth 100000 in
theorem tr_bestBehind_b66 {p : Program} {l : Launch} {e : Env} {s : State} {m : MethodId} {args : Array Value} {below : List Frame} {meth : Method} {c : Code} {Q : State → Prop} {D : va_G} {A : Nat → Prop} {H0 : Heap} {cI cJ cZ : ClassId} {ad : Nat → Nat} {r1 : Int32} {S1 : MS} (E : mE p c cX12_bestBehind s m args (Cond.code yX12_bestBehind cX12_bestBehind 5 (some .int) :: wsM) D cI cJ cZ) (hA : ∀ q : Nat, H0.size ≤ q → A q) (hR : sR s) (hml : c.maxLocals = 5) (kr76 : ∀ (H : Heap) (locs : List Loc) (ls : Array Slot), mG D cI cJ cZ ad A H0 H locs S1 → W p l e { frames := 2, cells := 0, slots := 0, locals := 37 } s m args below meth c H locs 0 0 Q (F0 m 76 ls [.int r1])) {k5 : MS → Int32 → Int32 → Int32 → Int32 → Option (Int32 × MS)} (hk5 : ∀ (S : MS) (H : Heap) (locs : List Loc) (ls : Array Slot) (l1 : Int32) (l2 : Int32) (l3 : Int32) (l4 : Int32), k5 S l1 l2 l3 l4 = some (r1, S1) → mG D cI cJ cZ ad A H0 H locs S → lv_has ls 5 [(0, .ref (ad 0)), (1, .int l1), (2, .int l2), (3, .int l3), (4, .int l4)] → W p l e { frames := 2, cells := 0, slots := 0, locals := 37 } s m args below meth c H locs 0 0 Q (F0 m 5 ls [])) : ∀ (S : MS) (H : Heap) (locs : List Loc) (ls : Array Slot) (l1 : Int32) (l2 : Int32) (l4 : Int32), fr_bestBehind_b66 k5 S l1 l2 l4 = some (r1, S1) → mG D cI cJ cZ ad A H0 H locs S → lv_has ls 5 [(0, .ref (ad 0)), (1, .int l1), (2, .int l2), (4, .int l4)] → W p l e { frames := 2, cells := 0, slots := 0, locals := 37 } s m args below meth c H locs 0 0 Q (F0 m 66 ls []) := by
  have hx := E.1
  have hb := E.2.1
  have hts := E.2.2.1
  have hown := E.2.2.2.1
  have hK := E.2.2.2.2.1
  intro S H locs ls l1 l2 l4 h G hl
  unfold fr_bestBehind_b66 at h
  refine lv_iload hx hb dX12_bestBehind_66 (lv_at hl 3 rfl) ?_
  refine lv_istore_n (lv' := [(3, .int l4), (0, .ref (ad 0)), (1, .int l1), (2, .int l2), (4, .int l4)]) hx hb dX12_bestBehind_68 rfl hl (by decide) rfl (fun ls hl => ?_)
  have hl := lv_sub hl [1, 2, 3, 0, 4] rfl
  exact tr_bestBehind_b69 E hA hR hml kr76 hk5 _ _ _ _ _ _ _ _ h G hl
def fr_bestBehind_b29 (k5 : MS → Int32 → Int32 → Int32 → Int32 → Option (Int32 × MS)) (S : MS) (l1 : Int32) (l2 : Int32) (l3 : Int32) (l4 : Int32) : Option (Int32 × MS) := if l3 = (-1) then (fr_bestBehind_b66 k5 S l1 l2 l4) else (elet (144 * l1) fun v3 => elet (v3 + l4) fun v4 => oif (inb v4 7200 = true) <| elet (S.2.2 26 v4.toNatClampNeg) fun v6 => elet (144 * l1) fun v7 => elet (v7 + l3) fun v8 => oif (inb v8 7200 = true) <| elet (S.2.2 26 v8.toNatClampNeg) fun v10 => elet (lg_cmp v6 v10) fun v11 => if 0 < v11 then (fr_bestBehind_b66 k5 S l1 l2 l4) else (fr_bestBehind_b69 k5 S l1 l2 l3 l4))
set_option maxHeartbeats 4000000 in
set_option maxRecDepth 100000 in
theorem tr_bestBehind_b29 {p : Program} {l : Launch} {e : Env} {s : State} {m : MethodId} {args : Array Value} {below : List Frame} {meth : Method} {c : Code} {Q : State → Prop} {D : va_G} {A : Nat → Prop} {H0 : Heap} {cI cJ cZ : ClassId} {ad : Nat → Nat} {r1 : Int32} {S1 : MS} (E : mE p c cX12_bestBehind s m args (Cond.code yX12_bestBehind cX12_bestBehind 5 (some .int) :: wsM) D cI cJ cZ) (hA : ∀ q : Nat, H0.size ≤ q → A q) (hR : sR s) (hml : c.maxLocals = 5) (kr76 : ∀ (H : Heap) (locs : List Loc) (ls : Array Slot), mG D cI cJ cZ ad A H0 H locs S1 → W p l e { frames := 2, cells := 0, slots := 0, locals := 37 } s m args below meth c H locs 0 0 Q (F0 m 76 ls [.int r1])) {k5 : MS → Int32 → Int32 → Int32 → Int32 → Option (Int32 × MS)} (hk5 : ∀ (S : MS) (H : Heap) (locs : List Loc) (ls : Array Slot) (l1 : Int32) (l2 : Int32) (l3 : Int32) (l4 : Int32), k5 S l1 l2 l3 l4 = some (r1, S1) → mG D cI cJ cZ ad A H0 H locs S → lv_has ls 5 [(0, .ref (ad 0)), (1, .int l1), (2, .int l2), (3, .int l3), (4, .int l4)] → W p l e { frames := 2, cells := 0, slots := 0, locals := 37 } s m args below meth c H locs 0 0 Q (F0 m 5 ls [])) : ∀ (S : MS) (H : Heap) (locs : List Loc) (ls : Array Slot) (l1 : Int32) (l2 : Int32) (l3 : Int32) (l4 : Int32), fr_bestBehind_b29 k5 S l1 l2 l3 l4 = some (r1, S1) → mG D cI cJ cZ ad A H0 H locs S → lv_has ls 5 [(0, .ref (ad 0)), (1, .int l1), (2, .int l2), (3, .int l3), (4, .int l4)] → W p l e { frames := 2, cells := 0, slots := 0, locals := 37 } s m args below meth c H locs 0 0 Q (F0 m 29 ls []) := by
  have hx := E.1
  have hb := E.2.1
  have hts := E.2.2.1
  have hown := E.2.2.2.1
  have hK := E.2.2.2.2.1
  intro S H locs ls l1 l2 l3 l4 h G hl
  unfold fr_bestBehind_b29 at h
  refine lv_iload_n hx hb dX12_bestBehind_29 rfl (lv_at hl 3 rfl) ?_
  refine lv_iconst (v := (-1)) hx hb dX12_bestBehind_30 (by decide) ?_
  refine lv_icmp_eq (tgt := 66) hx hb dX12_bestBehind_31 (by decide) (fun c2 => ?_) (fun c2 => ?_)
  · have h := oif_pos c2 h
    have hl := lv_sub hl [0, 1, 2, 4] rfl
    exact tr_bestBehind_b66 E hA hR hml kr76 hk5 _ _ _ _ _ _ _ h G hl
  · have h := oif_neg c2 h
    refine lv_aload_n hx hb dX12_bestBehind_34 rfl (lv_at hl 0 rfl) ?_
    refine m_get E G 26 (v := .ref (ad 26)) (by decide) (.tail _ qM_22) rfl dX12_bestBehind_35 rfl ?_
    refine lv_sipush (v := 144) hx hb dX12_bestBehind_38 (by decide) ?_
    refine lv_iload_n hx hb dX12_bestBehind_41 rfl (lv_at hl 1 rfl) ?_
    refine lv_imul hx hb dX12_bestBehind_42 ?_
    refine lv_topi (fun v3 ev3 => ?_)
    have h := elet_at ev3 h
    clear ev3
    refine lv_iload hx hb dX12_bestBehind_43 (lv_at hl 4 rfl) ?_
    refine lv_iadd hx hb dX12_bestBehind_45 ?_
    refine lv_topi (fun v4 ev4 => ?_)
    have h := elet_at ev4 h
    clear ev4
    obtain ⟨g5, h⟩ := oif_some h
    refine m_lald E G 26 14 (n := 7200) (k := v4.toNatClampNeg) rfl (inb_k g5).1 (inb_k g5).2 (by decide) dX12_bestBehind_46 ?_
    refine lv_topl (fun v6 ev6 => ?_)
    have h := elet_at ev6 h
    clear ev6
    refine lv_aload_n hx hb dX12_bestBehind_47 rfl (lv_at hl 0 rfl) ?_
    refine m_get E G 26 (v := .ref (ad 26)) (by decide) (.tail _ qM_22) rfl dX12_bestBehind_48 rfl ?_
    refine lv_sipush (v := 144) hx hb dX12_bestBehind_51 (by decide) ?_
    refine lv_iload_n hx hb dX12_bestBehind_54 rfl (lv_at hl 1 rfl) ?_
    refine lv_imul hx hb dX12_bestBehind_55 ?_
    refine lv_topi (fun v7 ev7 => ?_)
    have h := elet_at ev7 h
    clear ev7
    refine lv_iload_n hx hb dX12_bestBehind_56 rfl (lv_at hl 3 rfl) ?_
    refine lv_iadd hx hb dX12_bestBehind_57 ?_
    refine lv_topi (fun v8 ev8 => ?_)
    have h := elet_at ev8 h
    clear ev8
    obtain ⟨g9, h⟩ := oif_some h
    refine m_lald E G 26 14 (n := 7200) (k := v8.toNatClampNeg) rfl (inb_k g9).1 (inb_k g9).2 (by decide) dX12_bestBehind_58 ?_
    refine lv_topl (fun v10 ev10 => ?_)
    have h := elet_at ev10 h
    clear ev10
    refine W.lcmp hx hb dX12_bestBehind_59 ?_
    refine lv_topi (fun v11 ev11 => ?_)
    have h := elet_at ev11 h
    clear ev11
    refine lv_if_gt (tgt := 66) hx hb dX12_bestBehind_60 (by decide) (fun c12 => ?_) (fun c12 => ?_)
    · have h := oif_pos c12 h
      have hl := lv_sub hl [0, 1, 2, 4] rfl
      exact tr_bestBehind_b66 E hA hR hml kr76 hk5 _ _ _ _ _ _ _ h G hl
    · have h := oif_neg c12 h
      refine lv_goto (tgt := 69) hx hb dX12_bestBehind_63 (by decide) ?_
      have hl := lv_sub hl [0, 1, 2, 3, 4] rfl
      exact tr_bestBehind_b69 E hA hR hml kr76 hk5 _ _ _ _ _ _ _ _ h G hl
def fr_bestBehind_b5  : Nat → MS → Int32 → Int32 → Int32 → Int32 → Option (Int32 × MS)
  | 0, _, _, _, _, _ => none
  | n + 1, S, l1, l2, l3, l4 => obind2 (fr_cellCount S) fun r5 S2 => if r5 ≤ l4 then (some (l3, S2)) else (if l2 = (-1) then (fr_bestBehind_b29 (fr_bestBehind_b5 n) S2 l1 l2 l3 l4) else (obind2 (fr_areNear S2 l2 l4) fun r11 S8 => if r11 = 0 then (fr_bestBehind_b69 (fr_bestBehind_b5 n) S8 l1 l2 l3 l4) else (fr_bestBehind_b29 (fr_bestBehind_b5 n) S8 l1 l2 l3 l4)))
set_option maxHeartbeats 4000000 in
set_option maxRecDepth 100000 in
theorem tr_bestBehind_b5 {p : Program} {l : Launch} {e : Env} {s : State} {m : MethodId} {args : Array Value} {below : List Frame} {meth : Method} {c : Code} {Q : State → Prop} {D : va_G} {A : Nat → Prop} {H0 : Heap} {cI cJ cZ : ClassId} {ad : Nat → Nat} {r1 : Int32} {S1 : MS} (E : mE p c cX12_bestBehind s m args (Cond.code yX12_bestBehind cX12_bestBehind 5 (some .int) :: wsM) D cI cJ cZ) (hA : ∀ q : Nat, H0.size ≤ q → A q) (hR : sR s) (hml : c.maxLocals = 5) (kr76 : ∀ (H : Heap) (locs : List Loc) (ls : Array Slot), mG D cI cJ cZ ad A H0 H locs S1 → W p l e { frames := 2, cells := 0, slots := 0, locals := 37 } s m args below meth c H locs 0 0 Q (F0 m 76 ls [.int r1])) : ∀ n : Nat, ∀ (S : MS) (H : Heap) (locs : List Loc) (ls : Array Slot) (l1 : Int32) (l2 : Int32) (l3 : Int32) (l4 : Int32), fr_bestBehind_b5 n S l1 l2 l3 l4 = some (r1, S1) → mG D cI cJ cZ ad A H0 H locs S → lv_has ls 5 [(0, .ref (ad 0)), (1, .int l1), (2, .int l2), (3, .int l3), (4, .int l4)] → W p l e { frames := 2, cells := 0, slots := 0, locals := 37 } s m args below meth c H locs 0 0 Q (F0 m 5 ls []) := by
  have hx := E.1
  have hb := E.2.1
  have hts := E.2.2.1
  have hown := E.2.2.2.1
  have hK := E.2.2.2.2.1
  intro n
  induction n with
  | zero =>
    intro S H locs ls l1 l2 l3 l4 h
    have h : (none : Option (Int32 × MS)) = some (r1, S1) := h
    cases h
  | succ n ih =>
    intro S H locs ls l1 l2 l3 l4 h G hl
    unfold fr_bestBehind_b5 at h
    refine lv_iload hx hb dX12_bestBehind_5 (lv_at hl 4 rfl) ?_
    refine lv_aload_n hx hb dX12_bestBehind_7 rfl (lv_at hl 0 rfl) ?_
    obtain ⟨r5, S2, eS2, h⟩ := obind2_some h
    refine m_calli (As := []) (rest := [.int l4]) E G hA hR hml (tr_cellCount l D cI cJ cZ ad S eS2) (cwV 0 hts (gmV qM_204 qM_205 qM_206 qM_35 qM_207) rfl rfl rfl (by decide +kernel) ⟨Nat.le_of_ble_eq_true rfl, Nat.le_of_ble_eq_true rfl⟩) rfl hl.1 rfl (lv_room (Nat.le_of_ble_eq_true rfl)) dX12_bestBehind_8 ⟨Nat.zero_le _, Nat.zero_le _⟩ (fun q3 S4 H locs hq G => ?_)
    obtain ⟨hq1, hq2⟩ := hq
    rw [hq2] at G
    refine lv_to hq1 ?_
    clear hq1 hq2 eS2
    refine lv_icmp_ge (tgt := 75) hx hb dX12_bestBehind_11 (by decide) (fun c6 => ?_) (fun c6 => ?_)
    · have h := oif_pos c6 h
      refine lv_iload_n hx hb dX12_bestBehind_75 rfl (lv_at hl 3 rfl) ?_
      rw [(osome2 h).2] at G
      refine lv_to (osome2 h).1 ?_
      exact kr76 _ _ _ G
    · have h := oif_neg c6 h
      refine lv_iload_n hx hb dX12_bestBehind_14 rfl (lv_at hl 2 rfl) ?_
      refine lv_iconst (v := (-1)) hx hb dX12_bestBehind_15 (by decide) ?_
      refine lv_icmp_eq (tgt := 29) hx hb dX12_bestBehind_16 (by decide) (fun c7 => ?_) (fun c7 => ?_)
      · have h := oif_pos c7 h
        have hl := lv_sub hl [0, 1, 2, 3, 4] rfl
        exact tr_bestBehind_b29 E hA hR hml kr76 ih _ _ _ _ _ _ _ _ h G hl
      · have h := oif_neg c7 h
        refine lv_aload_n hx hb dX12_bestBehind_19 rfl (lv_at hl 0 rfl) ?_
        refine lv_iload_n hx hb dX12_bestBehind_20 rfl (lv_at hl 2 rfl) ?_
        refine lv_iload hx hb dX12_bestBehind_21 (lv_at hl 4 rfl) ?_
        obtain ⟨r11, S8, eS8, h⟩ := obind2_some h
        refine m_calli (As := [.int l2, .int l4]) (rest := []) E G hA hR hml (tr_areNear l D cI cJ cZ ad S2 l2 l4 eS8) (cwV 2 hts (gmV qM_418 qM_419 qM_420 qM_35 qM_416) rfl rfl rfl (by decide +kernel) ⟨Nat.le_of_ble_eq_true rfl, Nat.le_of_ble_eq_true rfl⟩) rfl hl.1 rfl (lv_room (Nat.le_of_ble_eq_true rfl)) dX12_bestBehind_23 ⟨Nat.zero_le _, Nat.zero_le _⟩ (fun q9 S10 H locs hq G => ?_)
        obtain ⟨hq1, hq2⟩ := hq
        rw [hq2] at G
        refine lv_to hq1 ?_
        clear hq1 hq2 eS8
        refine lv_if_eq (tgt := 69) hx hb dX12_bestBehind_26 (by decide) (fun c12 => ?_) (fun c12 => ?_)
        · have h := oif_pos c12 h
          have hl := lv_sub hl [0, 1, 2, 3, 4] rfl
          exact tr_bestBehind_b69 E hA hR hml kr76 ih _ _ _ _ _ _ _ _ h G hl
        · have h := oif_neg c12 h
          have hl := lv_sub hl [0, 1, 2, 3, 4] rfl
          exact tr_bestBehind_b29 E hA hR hml kr76 ih _ _ _ _ _ _ _ _ h G hl
def fr_bestBehind (S : MS) (a0 : Int32) (a1 : Int32) : Option (Int32 × MS) := fr_bestBehind_b5 16384 S a0 a1 (-1) 0
set_option maxHeartbeats 4000000 in
set_option maxRecDepth 100000 in
theorem tr_bestBehind (l : Launch) (D : va_G) (cI cJ cZ : ClassId) (ad : Nat → Nat) (S : MS) (a0 : Int32) (a1 : Int32) {r1 : Int32} {S1 : MS} (h : fr_bestBehind S a0 a1 = some (r1, S1)) : mCi l yX12_bestBehind (Cond.code yX12_bestBehind cX12_bestBehind 5 (some .int) :: wsM) 2 37 D cI cJ cZ ad S [.int a0, .int a1] (fun r S9 => r = r1 ∧ S9 = S1) := by
  intro sz
  refine Met.ofW (cc := cX12_bestBehind) (maxL := 5) (ret := (some .int)) (by decide) rfl ?_
  intro p e s m args below meth c s₁ B hml hv
  obtain ⟨rfl, hsz, hP, hK, hD0, hR⟩ := hv
  have hx := B.exec
  have hb := B.bytes
  have hr := B.returns
  have hts := atoms_spec (ws := (Cond.code yX12_bestBehind cX12_bestBehind 5 (some .int) :: wsM)) B.pre
  have hown : s.vm.findClass RX12 = some m.cls := findClass_of_methodNamed B.named
  have hlocks := B.notSynchronized
  subst hsz
  have hD := hD0.self (sz := s.heap.size)
  generalize hAe : va_A (MW cI cJ cZ ad S) s.heap.size = A at hD ⊢
  have hA : ∀ q : Nat, s.heap.size ≤ q → A q := fun q h => by rw [← hAe]; exact Or.inr h
  have G : mG D cI cJ cZ ad A s.heap s.heap [] S := ⟨hP, hD, va_S.rf⟩
  have E : mE p c cX12_bestBehind s m ([.ref (ad 0), .int a0, .int a1] : List Value).toArray (Cond.code yX12_bestBehind cX12_bestBehind 5 (some .int) :: wsM) D cI cJ cZ := ⟨hx, hb, hts, hown, hK, fun w h => .tail _ (iM_x h)⟩
  have hl := lv_entry ([.ref (ad 0), .int a0, .int a1]) (n := 5) (Nat.le_of_ble_eq_true rfl)
  rw [lg_entry_eq]
  generalize (lg_sl ([.ref (ad 0), .int a0, .int a1]) ++ List.replicate (5 - (lg_sl ([.ref (ad 0), .int a0, .int a1])).length) Slot.unset).toArray = ls at hl ⊢
  have hl : lv_has ls 5 [(0, .ref (ad 0)), (1, .int a0), (2, .int a1)] := hl
  unfold fr_bestBehind at h
  refine lv_iconst (v := (-1)) hx hb dX12_bestBehind_0 (by decide) ?_
  refine lv_istore_n (lv' := [(3, .int (-1)), (0, .ref (ad 0)), (1, .int a0), (2, .int a1)]) hx hb dX12_bestBehind_1 rfl hl (by decide) rfl (fun ls hl => ?_)
  refine lv_iconst (v := 0) hx hb dX12_bestBehind_2 (by decide) ?_
  refine lv_istore (lv' := [(4, .int 0), (3, .int (-1)), (0, .ref (ad 0)), (1, .int a0), (2, .int a1)]) hx hb dX12_bestBehind_3 hl (by decide) rfl (fun ls hl => ?_)
  have hl := lv_sub hl [2, 3, 4, 1, 0] rfl
  exact tr_bestBehind_b5 E hA hR hml (fun H locs ls G => W.iret (v := r1) hx hb hr (fun t ht hW => ⟨⟨r1, S1, rfl, ⟨rfl, rfl⟩, ⟨by rw [ht]; exact G.1, va_K.moved hW.alike hK, G.2.1⟩⟩, G.2.2.F ht⟩) G.2.2.2.2 dX12_bestBehind_76) _ _ _ _ _ _ _ _ _ h G hl
def fr_laysScores_b93 (k8 : MS → Int32 → Int32 → Option (MS)) (k32 : MS → Int32 → Int32 → Int32 → Int32 → Option (MS)) (S : MS) (s0 : Int64) (s1 : Int64) (s2 : Int32) (l1 : Int32) (l2 : Int32) (l3 : Int32) (l4 : Int32) : Option (MS) := elet (s1 + s0) fun v2 => oif (inb s2 7200 = true) <| elet (mg S 26 (vp_updL (S.2.2 26) s2.toNatClampNeg v2)) fun S4 => elet (l4 + Int32.ofInt (1)) fun v5 => k32 S4 l1 l2 l3 v5
set_option maxHeartbeats 4000000 in
set_option maxRecDepth 100000 in
theorem tr_laysScores_b93 {p : Program} {l : Launch} {e : Env} {s : State} {m : MethodId} {args : Array Value} {below : List Frame} {meth : Method} {c : Code} {Q : State → Prop} {D : va_G} {A : Nat → Prop} {H0 : Heap} {cI cJ cZ : ClassId} {ad : Nat → Nat} {S1 : MS} (E : mE p c cX12_laysScores s m args (Cond.code yX12_laysScores cX12_laysScores 5 none :: wsM) D cI cJ cZ) (hA : ∀ q : Nat, H0.size ≤ q → A q) (hR : sR s) (hml : c.maxLocals = 5) (kr107 : ∀ (H : Heap) (locs : List Loc) (ls : Array Slot), mG D cI cJ cZ ad A H0 H locs S1 → W p l e { frames := 5, cells := 0, slots := 0, locals := 97 } s m args below meth c H locs 0 0 Q (F0 m 107 ls [])) {k8 : MS → Int32 → Int32 → Option (MS)} {k32 : MS → Int32 → Int32 → Int32 → Int32 → Option (MS)} (hk8 : ∀ (S : MS) (H : Heap) (locs : List Loc) (ls : Array Slot) (l1 : Int32) (l2 : Int32), k8 S l1 l2 = some S1 → mG D cI cJ cZ ad A H0 H locs S → lv_has ls 5 [(0, .ref (ad 0)), (1, .int l1), (2, .int l2)] → W p l e { frames := 5, cells := 0, slots := 0, locals := 97 } s m args below meth c H locs 0 0 Q (F0 m 8 ls [])) (hk32 : ∀ (S : MS) (H : Heap) (locs : List Loc) (ls : Array Slot) (l1 : Int32) (l2 : Int32) (l3 : Int32) (l4 : Int32), k32 S l1 l2 l3 l4 = some S1 → mG D cI cJ cZ ad A H0 H locs S → lv_has ls 5 [(0, .ref (ad 0)), (1, .int l1), (2, .int l2), (3, .int l3), (4, .int l4)] → W p l e { frames := 5, cells := 0, slots := 0, locals := 97 } s m args below meth c H locs 0 0 Q (F0 m 32 ls [])) : ∀ (S : MS) (H : Heap) (locs : List Loc) (ls : Array Slot) (s0 : Int64) (s1 : Int64) (s2 : Int32) (l1 : Int32) (l2 : Int32) (l3 : Int32) (l4 : Int32), fr_laysScores_b93 k8 k32 S s0 s1 s2 l1 l2 l3 l4 = some S1 → mG D cI cJ cZ ad A H0 H locs S → lv_has ls 5 [(0, .ref (ad 0)), (1, .int l1), (2, .int l2), (3, .int l3), (4, .int l4)] → W p l e { frames := 5, cells := 0, slots := 0, locals := 97 } s m args below meth c H locs 0 0 Q (F0 m 93 ls [.long s0, .long s1, .int s2, .ref (ad 26)]) := by
  have hx := E.1
  have hb := E.2.1
  have hts := E.2.2.1
  have hown := E.2.2.2.1
  have hK := E.2.2.2.2.1
  intro S H locs ls s0 s1 s2 l1 l2 l3 l4 h G hl
  unfold fr_laysScores_b93 at h
  refine lv_ladd hx hb dX12_laysScores_93 ?_
  refine lv_topl (fun v2 ev2 => ?_)
  have h := elet_at ev2 h
  clear ev2
  obtain ⟨g3, h⟩ := oif_some h
  refine m_last E G 26 14 (k := s2.toNatClampNeg) (v := v2) rfl (fun _ => rfl) (inb_k g3).1 (inb_k g3).2 (by decide) dX12_laysScores_94 (fun H locs G => ?_)
  obtain ⟨S4, eS4, h⟩ := elet_some h
  rw [← eS4] at G
  clear eS4
  obtain ⟨v5, ev5, h⟩ := elet_some h
  refine lv_iinc (v := v5) (lv' := [(4, .int v5), (0, .ref (ad 0)), (1, .int l1), (2, .int l2), (3, .int l3)]) hx hb dX12_laysScores_95 hl (k := 4) rfl ev5.symm (by decide) rfl (fun ls hl => ?_)
  refine lv_goto (tgt := 32) hx hb dX12_laysScores_98 (by decide) ?_
  have hl := lv_sub hl [1, 2, 3, 4, 0] rfl
  exact hk32 _ _ _ _ _ _ _ _ h G hl
def fr_laysScores_b32 (k8 : MS → Int32 → Int32 → Option (MS)) : Nat → MS → Int32 → Int32 → Int32 → Int32 → Option (MS)
  | 0, _, _, _, _, _ => none
  | n + 1, S, l1, l2, l3, l4 => obind2 (fr_cellCount S) fun r5 S2 => if r5 ≤ l4 then (elet (l2 + Int32.ofInt (-1)) fun v7 => k8 S2 l1 v7) else (elet (144 * l2) fun v8 => elet (v8 + l4) fun v9 => elet (l1 * l2) fun v10 => obind2 (fr_blockOf S2 l4 v10 l1) fun r14 S11 => if l3 = 0 then (elet (l2 + 1) fun v16 => elet (144 * v16) fun v17 => elet (l2 + 1) fun v18 => obind2 (fr_bestBehind S11 v18 l4) fun r22 S19 => elet (v17 + r22) fun v23 => oif (inb v23 7200 = true) <| elet (S19.2.2 26 v23.toNatClampNeg) fun v25 => fr_laysScores_b93 k8 (fr_laysScores_b32 k8 n) S19 v25 r14 v9 l1 l2 l3 l4) else (fr_laysScores_b93 k8 (fr_laysScores_b32 k8 n) S11 (0 : Int64) r14 v9 l1 l2 l3 l4))
set_option maxHeartbeats 4000000 in
set_option maxRecDepth 100000 in
theorem tr_laysScores_b32 {p : Program} {l : Launch} {e : Env} {s : State} {m : MethodId} {args : Array Value} {below : List Frame} {meth : Method} {c : Code} {Q : State → Prop} {D : va_G} {A : Nat → Prop} {H0 : Heap} {cI cJ cZ : ClassId} {ad : Nat → Nat} {S1 : MS} (E : mE p c cX12_laysScores s m args (Cond.code yX12_laysScores cX12_laysScores 5 none :: wsM) D cI cJ cZ) (hA : ∀ q : Nat, H0.size ≤ q → A q) (hR : sR s) (hml : c.maxLocals = 5) (kr107 : ∀ (H : Heap) (locs : List Loc) (ls : Array Slot), mG D cI cJ cZ ad A H0 H locs S1 → W p l e { frames := 5, cells := 0, slots := 0, locals := 97 } s m args below meth c H locs 0 0 Q (F0 m 107 ls [])) {k8 : MS → Int32 → Int32 → Option (MS)} (hk8 : ∀ (S : MS) (H : Heap) (locs : List Loc) (ls : Array Slot) (l1 : Int32) (l2 : Int32), k8 S l1 l2 = some S1 → mG D cI cJ cZ ad A H0 H locs S → lv_has ls 5 [(0, .ref (ad 0)), (1, .int l1), (2, .int l2)] → W p l e { frames := 5, cells := 0, slots := 0, locals := 97 } s m args below meth c H locs 0 0 Q (F0 m 8 ls [])) : ∀ n : Nat, ∀ (S : MS) (H : Heap) (locs : List Loc) (ls : Array Slot) (l1 : Int32) (l2 : Int32) (l3 : Int32) (l4 : Int32), fr_laysScores_b32 k8 n S l1 l2 l3 l4 = some S1 → mG D cI cJ cZ ad A H0 H locs S → lv_has ls 5 [(0, .ref (ad 0)), (1, .int l1), (2, .int l2), (3, .int l3), (4, .int l4)] → W p l e { frames := 5, cells := 0, slots := 0, locals := 97 } s m args below meth c H locs 0 0 Q (F0 m 32 ls []) := by
  have hx := E.1
  have hb := E.2.1
  have hts := E.2.2.1
  have hown := E.2.2.2.1
  have hK := E.2.2.2.2.1
  intro n
  induction n with
  | zero =>
    intro S H locs ls l1 l2 l3 l4 h
    have h : (none : Option (MS)) = some S1 := h
    cases h
  | succ n ih =>
    intro S H locs ls l1 l2 l3 l4 h G hl
    unfold fr_laysScores_b32 at h
    refine lv_iload hx hb dX12_laysScores_32 (lv_at hl 4 rfl) ?_
    refine lv_aload_n hx hb dX12_laysScores_34 rfl (lv_at hl 0 rfl) ?_
    obtain ⟨r5, S2, eS2, h⟩ := obind2_some h
    refine m_calli (As := []) (rest := [.int l4]) E G hA hR hml (tr_cellCount l D cI cJ cZ ad S eS2) (cwV 0 hts (gmV qM_204 qM_205 qM_206 qM_35 qM_207) rfl rfl rfl (by decide +kernel) ⟨Nat.le_of_ble_eq_true rfl, Nat.le_of_ble_eq_true rfl⟩) rfl hl.1 rfl (lv_room (Nat.le_of_ble_eq_true rfl)) dX12_laysScores_35 ⟨Nat.zero_le _, Nat.zero_le _⟩ (fun q3 S4 H locs hq G => ?_)
    obtain ⟨hq1, hq2⟩ := hq
    rw [hq2] at G
    refine lv_to hq1 ?_
    clear hq1 hq2 eS2
    refine lv_icmp_ge (tgt := 101) hx hb dX12_laysScores_38 (by decide) (fun c6 => ?_) (fun c6 => ?_)
    · have h := oif_pos c6 h
      obtain ⟨v7, ev7, h⟩ := elet_some h
      refine lv_iinc (v := v7) (lv' := [(2, .int v7), (0, .ref (ad 0)), (1, .int l1), (3, .int l3), (4, .int l4)]) hx hb dX12_laysScores_101 hl (k := 2) rfl ev7.symm (by decide) rfl (fun ls hl => ?_)
      refine lv_goto (tgt := 8) hx hb dX12_laysScores_104 (by decide) ?_
      have hl := lv_sub hl [1, 2, 0] rfl
      exact hk8 _ _ _ _ _ _ h G hl
    · have h := oif_neg c6 h
      refine lv_aload_n hx hb dX12_laysScores_41 rfl (lv_at hl 0 rfl) ?_
      refine m_get E G 26 (v := .ref (ad 26)) (by decide) (.tail _ qM_22) rfl dX12_laysScores_42 rfl ?_
      refine lv_sipush (v := 144) hx hb dX12_laysScores_45 (by decide) ?_
      refine lv_iload_n hx hb dX12_laysScores_48 rfl (lv_at hl 2 rfl) ?_
      refine lv_imul hx hb dX12_laysScores_49 ?_
      refine lv_topi (fun v8 ev8 => ?_)
      have h := elet_at ev8 h
      clear ev8
      refine lv_iload hx hb dX12_laysScores_50 (lv_at hl 4 rfl) ?_
      refine lv_iadd hx hb dX12_laysScores_52 ?_
      refine lv_topi (fun v9 ev9 => ?_)
      have h := elet_at ev9 h
      clear ev9
      refine lv_aload_n hx hb dX12_laysScores_53 rfl (lv_at hl 0 rfl) ?_
      refine lv_iload hx hb dX12_laysScores_54 (lv_at hl 4 rfl) ?_
      refine lv_iload_n hx hb dX12_laysScores_56 rfl (lv_at hl 1 rfl) ?_
      refine lv_iload_n hx hb dX12_laysScores_57 rfl (lv_at hl 2 rfl) ?_
      refine lv_imul hx hb dX12_laysScores_58 ?_
      refine lv_topi (fun v10 ev10 => ?_)
      have h := elet_at ev10 h
      clear ev10
      refine lv_iload_n hx hb dX12_laysScores_59 rfl (lv_at hl 1 rfl) ?_
      obtain ⟨r14, S11, eS11, h⟩ := obind2_some h
      refine m_calll (As := [.int l4, .int v10, .int l1]) (rest := [.int v9, .ref (ad 26)]) E G hA hR hml (tr_blockOf l D cI cJ cZ ad S2 l4 v10 l1 eS11) (cwV 3 hts (gmV qM_406 qM_407 qM_408 qM_35 qM_400) rfl rfl rfl (by decide +kernel) ⟨Nat.le_of_ble_eq_true rfl, Nat.le_of_ble_eq_true rfl⟩) rfl hl.1 rfl (lv_room (Nat.le_of_ble_eq_true rfl)) dX12_laysScores_60 ⟨Nat.zero_le _, Nat.zero_le _⟩ (fun q12 S13 H locs hq G => ?_)
      obtain ⟨hq1, hq2⟩ := hq
      rw [hq2] at G
      refine lv_tol hq1 ?_
      clear hq1 hq2 eS11
      refine lv_iload_n hx hb dX12_laysScores_63 rfl (lv_at hl 3 rfl) ?_
      refine lv_if_eq (tgt := 71) hx hb dX12_laysScores_64 (by decide) (fun c15 => ?_) (fun c15 => ?_)
      · have h := oif_pos c15 h
        refine lv_aload_n hx hb dX12_laysScores_71 rfl (lv_at hl 0 rfl) ?_
        refine m_get E G 26 (v := .ref (ad 26)) (by decide) (.tail _ qM_22) rfl dX12_laysScores_72 rfl ?_
        refine lv_sipush (v := 144) hx hb dX12_laysScores_75 (by decide) ?_
        refine lv_iload_n hx hb dX12_laysScores_78 rfl (lv_at hl 2 rfl) ?_
        refine lv_iconst (v := 1) hx hb dX12_laysScores_79 (by decide) ?_
        refine lv_iadd hx hb dX12_laysScores_80 ?_
        refine lv_topi (fun v16 ev16 => ?_)
        have h := elet_at ev16 h
        clear ev16
        refine lv_imul hx hb dX12_laysScores_81 ?_
        refine lv_topi (fun v17 ev17 => ?_)
        have h := elet_at ev17 h
        clear ev17
        refine lv_aload_n hx hb dX12_laysScores_82 rfl (lv_at hl 0 rfl) ?_
        refine lv_iload_n hx hb dX12_laysScores_83 rfl (lv_at hl 2 rfl) ?_
        refine lv_iconst (v := 1) hx hb dX12_laysScores_84 (by decide) ?_
        refine lv_iadd hx hb dX12_laysScores_85 ?_
        refine lv_topi (fun v18 ev18 => ?_)
        have h := elet_at ev18 h
        clear ev18
        refine lv_iload hx hb dX12_laysScores_86 (lv_at hl 4 rfl) ?_
        obtain ⟨r22, S19, eS19, h⟩ := obind2_some h
        refine m_calli (As := [.int v18, .int l4]) (rest := [.int v17, .ref (ad 26), .long r14, .int v9, .ref (ad 26)]) E G hA hR hml (tr_bestBehind l D cI cJ cZ ad S11 v18 l4 eS19) (cwV 2 hts (gmV qM_425 qM_426 qM_427 qM_35 qM_417) rfl rfl rfl (by decide +kernel) ⟨Nat.le_of_ble_eq_true rfl, Nat.le_of_ble_eq_true rfl⟩) rfl hl.1 rfl (lv_room (Nat.le_of_ble_eq_true rfl)) dX12_laysScores_88 ⟨Nat.zero_le _, Nat.zero_le _⟩ (fun q20 S21 H locs hq G => ?_)
        obtain ⟨hq1, hq2⟩ := hq
        rw [hq2] at G
        refine lv_to hq1 ?_
        clear hq1 hq2 eS19
        refine lv_iadd hx hb dX12_laysScores_91 ?_
        refine lv_topi (fun v23 ev23 => ?_)
        have h := elet_at ev23 h
        clear ev23
        obtain ⟨g24, h⟩ := oif_some h
        refine m_lald E G 26 14 (n := 7200) (k := v23.toNatClampNeg) rfl (inb_k g24).1 (inb_k g24).2 (by decide) dX12_laysScores_92 ?_
        refine lv_topl (fun v25 ev25 => ?_)
        have h := elet_at ev25 h
        clear ev25
        have hl := lv_sub hl [0, 1, 2, 3, 4] rfl
        exact tr_laysScores_b93 E hA hR hml kr107 hk8 ih _ _ _ _ _ _ _ _ _ _ _ h G hl
      · have h := oif_neg c15 h
        refine lv_lconst (v := 0) hx hb dX12_laysScores_67 (by decide) ?_
        refine lv_goto (tgt := 93) hx hb dX12_laysScores_68 (by decide) ?_
        have hl := lv_sub hl [0, 1, 2, 3, 4] rfl
        exact tr_laysScores_b93 E hA hR hml kr107 hk8 ih _ _ _ _ _ _ _ _ _ _ _ h G hl
def fr_laysScores_b28 (k8 : MS → Int32 → Int32 → Option (MS)) (S : MS) (s0 : Int32) (l1 : Int32) (l2 : Int32) : Option (MS) := fr_laysScores_b32 k8 16384 S l1 l2 s0 0
set_option maxHeartbeats 4000000 in
set_option maxRecDepth 100000 in
theorem tr_laysScores_b28 {p : Program} {l : Launch} {e : Env} {s : State} {m : MethodId} {args : Array Value} {below : List Frame} {meth : Method} {c : Code} {Q : State → Prop} {D : va_G} {A : Nat → Prop} {H0 : Heap} {cI cJ cZ : ClassId} {ad : Nat → Nat} {S1 : MS} (E : mE p c cX12_laysScores s m args (Cond.code yX12_laysScores cX12_laysScores 5 none :: wsM) D cI cJ cZ) (hA : ∀ q : Nat, H0.size ≤ q → A q) (hR : sR s) (hml : c.maxLocals = 5) (kr107 : ∀ (H : Heap) (locs : List Loc) (ls : Array Slot), mG D cI cJ cZ ad A H0 H locs S1 → W p l e { frames := 5, cells := 0, slots := 0, locals := 97 } s m args below meth c H locs 0 0 Q (F0 m 107 ls [])) {k8 : MS → Int32 → Int32 → Option (MS)} (hk8 : ∀ (S : MS) (H : Heap) (locs : List Loc) (ls : Array Slot) (l1 : Int32) (l2 : Int32), k8 S l1 l2 = some S1 → mG D cI cJ cZ ad A H0 H locs S → lv_has ls 5 [(0, .ref (ad 0)), (1, .int l1), (2, .int l2)] → W p l e { frames := 5, cells := 0, slots := 0, locals := 97 } s m args below meth c H locs 0 0 Q (F0 m 8 ls [])) : ∀ (S : MS) (H : Heap) (locs : List Loc) (ls : Array Slot) (s0 : Int32) (l1 : Int32) (l2 : Int32), fr_laysScores_b28 k8 S s0 l1 l2 = some S1 → mG D cI cJ cZ ad A H0 H locs S → lv_has ls 5 [(0, .ref (ad 0)), (1, .int l1), (2, .int l2)] → W p l e { frames := 5, cells := 0, slots := 0, locals := 97 } s m args below meth c H locs 0 0 Q (F0 m 28 ls [.int s0]) := by
  have hx := E.1
  have hb := E.2.1
  have hts := E.2.2.1
  have hown := E.2.2.2.1
  have hK := E.2.2.2.2.1
  intro S H locs ls s0 l1 l2 h G hl
  unfold fr_laysScores_b28 at h
  refine lv_istore_n (lv' := [(3, .int s0), (0, .ref (ad 0)), (1, .int l1), (2, .int l2)]) hx hb dX12_laysScores_28 rfl hl (by decide) rfl (fun ls hl => ?_)
  refine lv_iconst (v := 0) hx hb dX12_laysScores_29 (by decide) ?_
  refine lv_istore (lv' := [(4, .int 0), (3, .int s0), (0, .ref (ad 0)), (1, .int l1), (2, .int l2)]) hx hb dX12_laysScores_30 hl (by decide) rfl (fun ls hl => ?_)
  have hl := lv_sub hl [2, 3, 4, 1, 0] rfl
  exact tr_laysScores_b32 E hA hR hml kr107 hk8 _ _ _ _ _ _ _ _ _ h G hl
def fr_laysScores_b8  : Nat → MS → Int32 → Int32 → Option (MS)
  | 0, _, _, _ => none
  | n + 1, S, l1, l2 => if l2 < 0 then (some S) else (obind2 (fr_blockCount S l1) fun r6 S3 => elet (r6 - 1) fun v7 => if l2 = v7 then (fr_laysScores_b28 (fr_laysScores_b8 n) S3 1 l1 l2) else (fr_laysScores_b28 (fr_laysScores_b8 n) S3 0 l1 l2))
set_option maxHeartbeats 4000000 in
set_option maxRecDepth 100000 in
theorem tr_laysScores_b8 {p : Program} {l : Launch} {e : Env} {s : State} {m : MethodId} {args : Array Value} {below : List Frame} {meth : Method} {c : Code} {Q : State → Prop} {D : va_G} {A : Nat → Prop} {H0 : Heap} {cI cJ cZ : ClassId} {ad : Nat → Nat} {S1 : MS} (E : mE p c cX12_laysScores s m args (Cond.code yX12_laysScores cX12_laysScores 5 none :: wsM) D cI cJ cZ) (hA : ∀ q : Nat, H0.size ≤ q → A q) (hR : sR s) (hml : c.maxLocals = 5) (kr107 : ∀ (H : Heap) (locs : List Loc) (ls : Array Slot), mG D cI cJ cZ ad A H0 H locs S1 → W p l e { frames := 5, cells := 0, slots := 0, locals := 97 } s m args below meth c H locs 0 0 Q (F0 m 107 ls [])) : ∀ n : Nat, ∀ (S : MS) (H : Heap) (locs : List Loc) (ls : Array Slot) (l1 : Int32) (l2 : Int32), fr_laysScores_b8 n S l1 l2 = some S1 → mG D cI cJ cZ ad A H0 H locs S → lv_has ls 5 [(0, .ref (ad 0)), (1, .int l1), (2, .int l2)] → W p l e { frames := 5, cells := 0, slots := 0, locals := 97 } s m args below meth c H locs 0 0 Q (F0 m 8 ls []) := by
  have hx := E.1
  have hb := E.2.1
  have hts := E.2.2.1
  have hown := E.2.2.2.1
  have hK := E.2.2.2.2.1
  intro n
  induction n with
  | zero =>
    intro S H locs ls l1 l2 h
    have h : (none : Option (MS)) = some S1 := h
    cases h
  | succ n ih =>
    intro S H locs ls l1 l2 h G hl
    unfold fr_laysScores_b8 at h
    refine lv_iload_n hx hb dX12_laysScores_8 rfl (lv_at hl 2 rfl) ?_
    refine lv_if_lt (tgt := 107) hx hb dX12_laysScores_9 (by decide) (fun c2 => ?_) (fun c2 => ?_)
    · have h := oif_pos c2 h
      rw [osome1 h] at G
      exact kr107 _ _ _ G
    · have h := oif_neg c2 h
      refine lv_iload_n hx hb dX12_laysScores_12 rfl (lv_at hl 2 rfl) ?_
      refine lv_aload_n hx hb dX12_laysScores_13 rfl (lv_at hl 0 rfl) ?_
      refine lv_iload_n hx hb dX12_laysScores_14 rfl (lv_at hl 1 rfl) ?_
      obtain ⟨r6, S3, eS3, h⟩ := obind2_some h
      refine m_calli (As := [.int l1]) (rest := [.int l2]) E G hA hR hml (tr_blockCount l D cI cJ cZ ad S l1 eS3) (cwV 1 hts (gmV qM_422 qM_423 qM_424 qM_35 qM_415) rfl rfl rfl (by decide +kernel) ⟨Nat.le_of_ble_eq_true rfl, Nat.le_of_ble_eq_true rfl⟩) rfl hl.1 rfl (lv_room (Nat.le_of_ble_eq_true rfl)) dX12_laysScores_15 ⟨Nat.zero_le _, Nat.zero_le _⟩ (fun q4 S5 H locs hq G => ?_)
      obtain ⟨hq1, hq2⟩ := hq
      rw [hq2] at G
      refine lv_to hq1 ?_
      clear hq1 hq2 eS3
      refine lv_iconst (v := 1) hx hb dX12_laysScores_18 (by decide) ?_
      refine lv_isub hx hb dX12_laysScores_19 ?_
      refine lv_topi (fun v7 ev7 => ?_)
      have h := elet_at ev7 h
      clear ev7
      refine lv_icmp_ne (tgt := 27) hx hb dX12_laysScores_20 (by decide) (fun c8 => ?_) (fun c8 => ?_)
      · have h := oif_neg c8 h
        refine lv_iconst (v := 0) hx hb dX12_laysScores_27 (by decide) ?_
        have hl := lv_sub hl [0, 1, 2] rfl
        exact tr_laysScores_b28 E hA hR hml kr107 ih _ _ _ _ _ _ _ h G hl
      · have h := oif_pos c8 h
        refine lv_iconst (v := 1) hx hb dX12_laysScores_23 (by decide) ?_
        refine lv_goto (tgt := 28) hx hb dX12_laysScores_24 (by decide) ?_
        have hl := lv_sub hl [0, 1, 2] rfl
        exact tr_laysScores_b28 E hA hR hml kr107 ih _ _ _ _ _ _ _ h G hl
def fr_laysScores (S : MS) (a0 : Int32) : Option (MS) := obind2 (fr_blockCount S a0) fun r5 S2 => elet (r5 - 1) fun v6 => fr_laysScores_b8 16384 S2 a0 v6
set_option maxHeartbeats 4000000 in
set_option maxRecDepth 100000 in
theorem tr_laysScores (l : Launch) (D : va_G) (cI cJ cZ : ClassId) (ad : Nat → Nat) (S : MS) (a0 : Int32) {S1 : MS} (h : fr_laysScores S a0 = some S1) : mCv l yX12_laysScores (Cond.code yX12_laysScores cX12_laysScores 5 none :: wsM) 5 97 D cI cJ cZ ad S [.int a0] (fun S9 => S9 = S1) := by
  intro sz
  refine Met.ofW (cc := cX12_laysScores) (maxL := 5) (ret := none) (by decide) rfl ?_
  intro p e s m args below meth c s₁ B hml hv
  obtain ⟨rfl, hsz, hP, hK, hD0, hR⟩ := hv
  have hx := B.exec
  have hb := B.bytes
  have hr := B.returns
  have hts := atoms_spec (ws := (Cond.code yX12_laysScores cX12_laysScores 5 none :: wsM)) B.pre
  have hown : s.vm.findClass RX12 = some m.cls := findClass_of_methodNamed B.named
  have hlocks := B.notSynchronized
  subst hsz
  have hD := hD0.self (sz := s.heap.size)
  generalize hAe : va_A (MW cI cJ cZ ad S) s.heap.size = A at hD ⊢
  have hA : ∀ q : Nat, s.heap.size ≤ q → A q := fun q h => by rw [← hAe]; exact Or.inr h
  have G : mG D cI cJ cZ ad A s.heap s.heap [] S := ⟨hP, hD, va_S.rf⟩
  have E : mE p c cX12_laysScores s m ([.ref (ad 0), .int a0] : List Value).toArray (Cond.code yX12_laysScores cX12_laysScores 5 none :: wsM) D cI cJ cZ := ⟨hx, hb, hts, hown, hK, fun w h => .tail _ (iM_x h)⟩
  have hl := lv_entry ([.ref (ad 0), .int a0]) (n := 5) (Nat.le_of_ble_eq_true rfl)
  rw [lg_entry_eq]
  generalize (lg_sl ([.ref (ad 0), .int a0]) ++ List.replicate (5 - (lg_sl ([.ref (ad 0), .int a0])).length) Slot.unset).toArray = ls at hl ⊢
  have hl : lv_has ls 5 [(0, .ref (ad 0)), (1, .int a0)] := hl
  unfold fr_laysScores at h
  refine lv_aload_n hx hb dX12_laysScores_0 rfl (lv_at hl 0 rfl) ?_
  refine lv_iload_n hx hb dX12_laysScores_1 rfl (lv_at hl 1 rfl) ?_
  obtain ⟨r5, S2, eS2, h⟩ := obind2_some h
  refine m_calli (As := [.int a0]) (rest := []) E G hA hR hml (tr_blockCount l D cI cJ cZ ad S a0 eS2) (cwV 1 hts (gmV qM_422 qM_423 qM_424 qM_35 qM_415) rfl rfl rfl (by decide +kernel) ⟨Nat.le_of_ble_eq_true rfl, Nat.le_of_ble_eq_true rfl⟩) rfl hl.1 rfl (lv_room (Nat.le_of_ble_eq_true rfl)) dX12_laysScores_2 ⟨Nat.zero_le _, Nat.zero_le _⟩ (fun q3 S4 H locs hq G => ?_)
  obtain ⟨hq1, hq2⟩ := hq
  rw [hq2] at G
  refine lv_to hq1 ?_
  clear hq1 hq2 eS2
  refine lv_iconst (v := 1) hx hb dX12_laysScores_5 (by decide) ?_
  refine lv_isub hx hb dX12_laysScores_6 ?_
  refine lv_topi (fun v6 ev6 => ?_)
  have h := elet_at ev6 h
  clear ev6
  refine lv_istore_n (lv' := [(2, .int v6), (0, .ref (ad 0)), (1, .int a0)]) hx hb dX12_laysScores_7 rfl hl (by decide) rfl (fun ls hl => ?_)
  have hl := lv_sub hl [1, 2, 0] rfl
  exact tr_laysScores_b8 E hA hR hml (fun H locs ls G => W.vret hx hb hr (fun t ht hW => ⟨⟨S1, rfl, rfl, ⟨by rw [ht]; exact G.1, va_K.moved hW.alike hK, G.2.1⟩⟩, G.2.2.F ht⟩) G.2.2.2.2 dX12_laysScores_107) _ _ _ _ _ _ _ h G hl
def fr_isLength (S : MS) (a0 : Int32) : Option (Int32 × MS) := elet (S.2.1 10 2) fun v2 => obind (fr_in a0 4 v2) fun r3 => oif (r3 = 0 ∨ r3 = 1) <| some (r3, S)
set_option maxHeartbeats 4000000 in
set_option maxRecDepth 100000 in
theorem tr_isLength (l : Launch) (D : va_G) (cI cJ cZ : ClassId) (ad : Nat → Nat) (S : MS) (a0 : Int32) {r1 : Int32} {S1 : MS} (h : fr_isLength S a0 = some (r1, S1)) : mCi l yX12_isLength (Cond.code yX12_isLength cX12_isLength 2 (some .boolean) :: wsM) 2 22 D cI cJ cZ ad S [.int a0] (fun r S9 => r = r1 ∧ S9 = S1) := by
  intro sz
  refine Met.ofW (cc := cX12_isLength) (maxL := 2) (ret := (some .boolean)) (by decide) rfl ?_
  intro p e s m args below meth c s₁ B hml hv
  obtain ⟨rfl, hsz, hP, hK, hD0, hR⟩ := hv
  have hx := B.exec
  have hb := B.bytes
  have hr := B.returns
  have hts := atoms_spec (ws := (Cond.code yX12_isLength cX12_isLength 2 (some .boolean) :: wsM)) B.pre
  have hown : s.vm.findClass RX12 = some m.cls := findClass_of_methodNamed B.named
  have hlocks := B.notSynchronized
  subst hsz
  have hD := hD0.self (sz := s.heap.size)
  generalize hAe : va_A (MW cI cJ cZ ad S) s.heap.size = A at hD ⊢
  have hA : ∀ q : Nat, s.heap.size ≤ q → A q := fun q h => by rw [← hAe]; exact Or.inr h
  have G : mG D cI cJ cZ ad A s.heap s.heap [] S := ⟨hP, hD, va_S.rf⟩
  have E : mE p c cX12_isLength s m ([.ref (ad 0), .int a0] : List Value).toArray (Cond.code yX12_isLength cX12_isLength 2 (some .boolean) :: wsM) D cI cJ cZ := ⟨hx, hb, hts, hown, hK, fun w h => .tail _ (iM_x h)⟩
  have hl := lv_entry ([.ref (ad 0), .int a0]) (n := 2) (Nat.le_of_ble_eq_true rfl)
  rw [lg_entry_eq]
  generalize (lg_sl ([.ref (ad 0), .int a0]) ++ List.replicate (2 - (lg_sl ([.ref (ad 0), .int a0])).length) Slot.unset).toArray = ls at hl ⊢
  have hl : lv_has ls 2 [(0, .ref (ad 0)), (1, .int a0)] := hl
  unfold fr_isLength at h
  refine lv_iload_n hx hb dX12_isLength_0 rfl (lv_at hl 1 rfl) ?_
  refine lv_iconst (v := 4) hx hb dX12_isLength_1 (by decide) ?_
  refine lv_aload_n hx hb dX12_isLength_2 rfl (lv_at hl 0 rfl) ?_
  refine m_get E G 10 (v := .ref (ad 10)) (by decide) (.tail _ qM_7) rfl dX12_isLength_3 rfl ?_
  refine lv_iconst (v := 2) hx hb dX12_isLength_6 (by decide) ?_
  refine m_iald E G 10 2 (n := 131) (k := 2) rfl rfl (by decide) (by decide) dX12_isLength_7 ?_
  refine lv_topi (fun v2 ev2 => ?_)
  have h := elet_at ev2 h
  clear ev2
  obtain ⟨r3, er3, h⟩ := obind_some h
  refine m_stat (As := [.int a0, .int 4, .int v2]) (rest := []) ⟨hx, hb, hml, hown, hts⟩ (tr_in l a0 4 v2 er3) (cwS 3 hts (gmS qM_52 qM_53 qM_35 qM_27) rfl rfl rfl (by decide +kernel) ⟨Nat.le_of_ble_eq_true rfl, Nat.le_of_ble_eq_true rfl⟩) rfl hl.1 rfl (lv_room (Nat.le_of_ble_eq_true rfl)) dX12_isLength_8 ⟨Nat.zero_le _, Nat.zero_le _⟩ (fun q4 hq => ?_)
  refine lv_to hq ?_
  clear hq er3
  obtain ⟨gz, h⟩ := oif_some h
  exact W.zret (v := r3) hx hb hr (nar01 gz) (fun t ht hW => ⟨⟨r3, S, rfl, osome2 h, ⟨by rw [ht]; exact G.1, va_K.moved hW.alike hK, G.2.1⟩⟩, G.2.2.F ht⟩) G.2.2.2.2 dX12_isLength_11
def fr_trackScore (S : MS) (a0 : Int32) : Option (Int64 × MS) := obind2 (fr_isLength S a0) fun r5 S2 => obind2 (fr_mayAsk S2 r5) fun r9 S6 => if r9 = 0 then (some ((0 : Int64), S6)) else (obind (fr_laysScores S6 a0) fun S11 => obind2 (fr_bestBehind S11 0 (-1)) fun r17 S14 => oif (inb r17 7200 = true) <| elet (S14.2.2 26 r17.toNatClampNeg) fun v19 => some (v19, S14))
set_option maxHeartbeats 4000000 in
set_option maxRecDepth 100000 in
theorem tr_trackScore (l : Launch) (D : va_G) (cI cJ cZ : ClassId) (ad : Nat → Nat) (S : MS) (a0 : Int32) {r1 : Int64} {S1 : MS} (h : fr_trackScore S a0 = some (r1, S1)) : mCl l yX12_trackScore (Cond.code yX12_trackScore cX12_trackScore 2 (some .long) :: wsM) 6 121 D cI cJ cZ ad S [.int a0] (fun r S9 => r = r1 ∧ S9 = S1) := by
  intro sz
  refine Met.ofW (cc := cX12_trackScore) (maxL := 2) (ret := (some .long)) (by decide) rfl ?_
  intro p e s m args below meth c s₁ B hml hv
  obtain ⟨rfl, hsz, hP, hK, hD0, hR⟩ := hv
  have hx := B.exec
  have hb := B.bytes
  have hr := B.returns
  have hts := atoms_spec (ws := (Cond.code yX12_trackScore cX12_trackScore 2 (some .long) :: wsM)) B.pre
  have hown : s.vm.findClass RX12 = some m.cls := findClass_of_methodNamed B.named
  have hlocks := B.notSynchronized
  subst hsz
  have hD := hD0.self (sz := s.heap.size)
  generalize hAe : va_A (MW cI cJ cZ ad S) s.heap.size = A at hD ⊢
  have hA : ∀ q : Nat, s.heap.size ≤ q → A q := fun q h => by rw [← hAe]; exact Or.inr h
  have G : mG D cI cJ cZ ad A s.heap s.heap [] S := ⟨hP, hD, va_S.rf⟩
  have E : mE p c cX12_trackScore s m ([.ref (ad 0), .int a0] : List Value).toArray (Cond.code yX12_trackScore cX12_trackScore 2 (some .long) :: wsM) D cI cJ cZ := ⟨hx, hb, hts, hown, hK, fun w h => .tail _ (iM_x h)⟩
  have hl := lv_entry ([.ref (ad 0), .int a0]) (n := 2) (Nat.le_of_ble_eq_true rfl)
  rw [lg_entry_eq]
  generalize (lg_sl ([.ref (ad 0), .int a0]) ++ List.replicate (2 - (lg_sl ([.ref (ad 0), .int a0])).length) Slot.unset).toArray = ls at hl ⊢
  have hl : lv_has ls 2 [(0, .ref (ad 0)), (1, .int a0)] := hl
  unfold fr_trackScore at h
  refine lv_aload_n hx hb dX12_trackScore_0 rfl (lv_at hl 0 rfl) ?_
  refine lv_aload_n hx hb dX12_trackScore_1 rfl (lv_at hl 0 rfl) ?_
  refine lv_iload_n hx hb dX12_trackScore_2 rfl (lv_at hl 1 rfl) ?_
  obtain ⟨r5, S2, eS2, h⟩ := obind2_some h
  refine m_calli (As := [.int a0]) (rest := [.ref (ad 0)]) E G hA hR hml (tr_isLength l D cI cJ cZ ad S a0 eS2) (cwV 1 hts (gmV qM_430 qM_431 qM_432 qM_35 qM_428) rfl rfl rfl (by decide +kernel) ⟨Nat.le_of_ble_eq_true rfl, Nat.le_of_ble_eq_true rfl⟩) rfl hl.1 rfl (lv_room (Nat.le_of_ble_eq_true rfl)) dX12_trackScore_3 ⟨Nat.zero_le _, Nat.zero_le _⟩ (fun q3 S4 H locs hq G => ?_)
  obtain ⟨hq1, hq2⟩ := hq
  rw [hq2] at G
  refine lv_to hq1 ?_
  clear hq1 hq2 eS2
  obtain ⟨r9, S6, eS6, h⟩ := obind2_some h
  refine m_calli (As := [.int r5]) (rest := []) E G hA hR hml (tr_mayAsk l D cI cJ cZ ad S2 r5 eS6) (cwV 1 hts (gmV qM_319 qM_320 qM_321 qM_35 qM_304) rfl rfl rfl (by decide +kernel) ⟨Nat.le_of_ble_eq_true rfl, Nat.le_of_ble_eq_true rfl⟩) rfl hl.1 rfl (lv_room (Nat.le_of_ble_eq_true rfl)) dX12_trackScore_6 ⟨Nat.zero_le _, Nat.zero_le _⟩ (fun q7 S8 H locs hq G => ?_)
  obtain ⟨hq1, hq2⟩ := hq
  rw [hq2] at G
  refine lv_to hq1 ?_
  clear hq1 hq2 eS6
  refine lv_if_ne (tgt := 14) hx hb dX12_trackScore_9 (by decide) (fun c10 => ?_) (fun c10 => ?_)
  · have h := oif_neg c10 h
    refine lv_aload_n hx hb dX12_trackScore_14 rfl (lv_at hl 0 rfl) ?_
    refine lv_iload_n hx hb dX12_trackScore_15 rfl (lv_at hl 1 rfl) ?_
    obtain ⟨S11, eS11, h⟩ := obind_some h
    refine m_callv (As := [.int a0]) (rest := []) E G hA hR hml (tr_laysScores l D cI cJ cZ ad S6 a0 eS11) (cwV 1 hts (gmV qM_433 qM_434 qM_435 qM_35 qM_421) rfl rfl rfl (by decide +kernel) ⟨Nat.le_of_ble_eq_true rfl, Nat.le_of_ble_eq_true rfl⟩) rfl hl.1 rfl (lv_room (Nat.le_of_ble_eq_true rfl)) dX12_trackScore_16 ⟨Nat.zero_le _, Nat.zero_le _⟩ (fun S13 H locs hq G => ?_)
    rw [hq] at G
    clear hq eS11
    refine lv_aload_n hx hb dX12_trackScore_19 rfl (lv_at hl 0 rfl) ?_
    refine m_get E G 26 (v := .ref (ad 26)) (by decide) (.tail _ qM_22) rfl dX12_trackScore_20 rfl ?_
    refine lv_aload_n hx hb dX12_trackScore_23 rfl (lv_at hl 0 rfl) ?_
    refine lv_iconst (v := 0) hx hb dX12_trackScore_24 (by decide) ?_
    refine lv_iconst (v := (-1)) hx hb dX12_trackScore_25 (by decide) ?_
    obtain ⟨r17, S14, eS14, h⟩ := obind2_some h
    refine m_calli (As := [.int 0, .int (-1)]) (rest := [.ref (ad 26)]) E G hA hR hml (tr_bestBehind l D cI cJ cZ ad S11 0 (-1) eS14) (cwV 2 hts (gmV qM_425 qM_426 qM_427 qM_35 qM_417) rfl rfl rfl (by decide +kernel) ⟨Nat.le_of_ble_eq_true rfl, Nat.le_of_ble_eq_true rfl⟩) rfl hl.1 rfl (lv_room (Nat.le_of_ble_eq_true rfl)) dX12_trackScore_26 ⟨Nat.zero_le _, Nat.zero_le _⟩ (fun q15 S16 H locs hq G => ?_)
    obtain ⟨hq1, hq2⟩ := hq
    rw [hq2] at G
    refine lv_to hq1 ?_
    clear hq1 hq2 eS14
    obtain ⟨g18, h⟩ := oif_some h
    refine m_lald E G 26 14 (n := 7200) (k := r17.toNatClampNeg) rfl (inb_k g18).1 (inb_k g18).2 (by decide) dX12_trackScore_29 ?_
    refine lv_topl (fun v19 ev19 => ?_)
    have h := elet_at ev19 h
    clear ev19
    exact W.lret (v := v19) hx hb hr (fun t ht hW => ⟨⟨v19, S14, rfl, osome2 h, ⟨by rw [ht]; exact G.1, va_K.moved hW.alike hK, G.2.1⟩⟩, G.2.2.F ht⟩) G.2.2.2.2 dX12_trackScore_30
  · have h := oif_pos c10 h
    refine lv_lconst (v := 0) hx hb dX12_trackScore_12 (by decide) ?_
    exact W.lret (v := (0 : Int64)) hx hb hr (fun t ht hW => ⟨⟨(0 : Int64), S6, rfl, osome2 h, ⟨by rw [ht]; exact G.1, va_K.moved hW.alike hK, G.2.1⟩⟩, G.2.2.F ht⟩) G.2.2.2.2 dX12_trackScore_13
def fr_trackCell_b61  : Nat → MS → Int32 → Int32 → Int32 → Option (Int32 × MS)
  | 0, _, _, _, _ => none
  | n + 1, S, l2, l3, l4 => if l2 < l4 then (some (l3, S)) else (obind2 (fr_bestBehind S l4 l3) fun r6 S3 => elet (l4 + Int32.ofInt (1)) fun v7 => fr_trackCell_b61 n S3 l2 r6 v7)
set_option maxHeartbeats 4000000 in
set_option maxRecDepth 100000 in
theorem tr_trackCell_b61 {p : Program} {l : Launch} {e : Env} {s : State} {m : MethodId} {args : Array Value} {below : List Frame} {meth : Method} {c : Code} {Q : State → Prop} {D : va_G} {A : Nat → Prop} {H0 : Heap} {cI cJ cZ : ClassId} {ad : Nat → Nat} {r1 : Int32} {S1 : MS} (E : mE p c cX12_trackCell s m args (Cond.code yX12_trackCell cX12_trackCell 5 (some .int) :: wsM) D cI cJ cZ) (hA : ∀ q : Nat, H0.size ≤ q → A q) (hR : sR s) (hml : c.maxLocals = 5) (kr36 : ∀ (H : Heap) (locs : List Loc) (ls : Array Slot), mG D cI cJ cZ ad A H0 H locs S1 → W p l e { frames := 6, cells := 0, slots := 0, locals := 121 } s m args below meth c H locs 0 0 Q (F0 m 36 ls [.int r1])) (kr50 : ∀ (H : Heap) (locs : List Loc) (ls : Array Slot), mG D cI cJ cZ ad A H0 H locs S1 → W p l e { frames := 6, cells := 0, slots := 0, locals := 121 } s m args below meth c H locs 0 0 Q (F0 m 50 ls [.int r1])) (kr82 : ∀ (H : Heap) (locs : List Loc) (ls : Array Slot), mG D cI cJ cZ ad A H0 H locs S1 → W p l e { frames := 6, cells := 0, slots := 0, locals := 121 } s m args below meth c H locs 0 0 Q (F0 m 82 ls [.int r1])) : ∀ n : Nat, ∀ (S : MS) (H : Heap) (locs : List Loc) (ls : Array Slot) (l2 : Int32) (l3 : Int32) (l4 : Int32), fr_trackCell_b61 n S l2 l3 l4 = some (r1, S1) → mG D cI cJ cZ ad A H0 H locs S → lv_has ls 5 [(0, .ref (ad 0)), (2, .int l2), (3, .int l3), (4, .int l4)] → W p l e { frames := 6, cells := 0, slots := 0, locals := 121 } s m args below meth c H locs 0 0 Q (F0 m 61 ls []) := by
  have hx := E.1
  have hb := E.2.1
  have hts := E.2.2.1
  have hown := E.2.2.2.1
  have hK := E.2.2.2.2.1
  intro n
  induction n with
  | zero =>
    intro S H locs ls l2 l3 l4 h
    have h : (none : Option (Int32 × MS)) = some (r1, S1) := h
    cases h
  | succ n ih =>
    intro S H locs ls l2 l3 l4 h G hl
    unfold fr_trackCell_b61 at h
    refine lv_iload hx hb dX12_trackCell_61 (lv_at hl 3 rfl) ?_
    refine lv_iload_n hx hb dX12_trackCell_63 rfl (lv_at hl 1 rfl) ?_
    refine lv_icmp_gt (tgt := 81) hx hb dX12_trackCell_64 (by decide) (fun c2 => ?_) (fun c2 => ?_)
    · have h := oif_pos c2 h
      refine lv_iload_n hx hb dX12_trackCell_81 rfl (lv_at hl 2 rfl) ?_
      rw [(osome2 h).2] at G
      refine lv_to (osome2 h).1 ?_
      exact kr82 _ _ _ G
    · have h := oif_neg c2 h
      refine lv_aload_n hx hb dX12_trackCell_67 rfl (lv_at hl 0 rfl) ?_
      refine lv_iload hx hb dX12_trackCell_68 (lv_at hl 3 rfl) ?_
      refine lv_iload_n hx hb dX12_trackCell_70 rfl (lv_at hl 2 rfl) ?_
      obtain ⟨r6, S3, eS3, h⟩ := obind2_some h
      refine m_calli (As := [.int l4, .int l3]) (rest := []) E G hA hR hml (tr_bestBehind l D cI cJ cZ ad S l4 l3 eS3) (cwV 2 hts (gmV qM_425 qM_426 qM_427 qM_35 qM_417) rfl rfl rfl (by decide +kernel) ⟨Nat.le_of_ble_eq_true rfl, Nat.le_of_ble_eq_true rfl⟩) rfl hl.1 rfl (lv_room (Nat.le_of_ble_eq_true rfl)) dX12_trackCell_71 ⟨Nat.zero_le _, Nat.zero_le _⟩ (fun q4 S5 H locs hq G => ?_)
      obtain ⟨hq1, hq2⟩ := hq
      rw [hq2] at G
      refine lv_to hq1 ?_
      clear hq1 hq2 eS3
      refine lv_istore_n (lv' := [(3, .int r6), (0, .ref (ad 0)), (2, .int l2), (4, .int l4)]) hx hb dX12_trackCell_74 rfl hl (by decide) rfl (fun ls hl => ?_)
      obtain ⟨v7, ev7, h⟩ := elet_some h
      refine lv_iinc (v := v7) (lv' := [(4, .int v7), (3, .int r6), (0, .ref (ad 0)), (2, .int l2)]) hx hb dX12_trackCell_75 hl (k := 3) rfl ev7.symm (by decide) rfl (fun ls hl => ?_)
      refine lv_goto (tgt := 61) hx hb dX12_trackCell_78 (by decide) ?_
      have hl := lv_sub hl [2, 3, 1, 0] rfl
      exact ih _ _ _ _ _ _ _ h G hl
def fr_trackCell_b29  (S : MS) (s0 : Int32) (l1 : Int32) (l2 : Int32) : Option (Int32 × MS) := obind2 (fr_mayAsk S s0) fun r5 S2 => if r5 = 0 then (some (0, S2)) else (obind2 (fr_isLength S2 l1) fun r10 S7 => if r10 = 0 then (obind2 (fr_throwsAt S7 3) fun r15 S12 => some (r15, S12)) else (obind (fr_laysScores S7 l1) fun S16 => fr_trackCell_b61 16384 S16 l2 (-1) 0))
set_option maxHeartbeats 4000000 in
set_option maxRecDepth 100000 in
theorem tr_trackCell_b29 {p : Program} {l : Launch} {e : Env} {s : State} {m : MethodId} {args : Array Value} {below : List Frame} {meth : Method} {c : Code} {Q : State → Prop} {D : va_G} {A : Nat → Prop} {H0 : Heap} {cI cJ cZ : ClassId} {ad : Nat → Nat} {r1 : Int32} {S1 : MS} (E : mE p c cX12_trackCell s m args (Cond.code yX12_trackCell cX12_trackCell 5 (some .int) :: wsM) D cI cJ cZ) (hA : ∀ q : Nat, H0.size ≤ q → A q) (hR : sR s) (hml : c.maxLocals = 5) (kr36 : ∀ (H : Heap) (locs : List Loc) (ls : Array Slot), mG D cI cJ cZ ad A H0 H locs S1 → W p l e { frames := 6, cells := 0, slots := 0, locals := 121 } s m args below meth c H locs 0 0 Q (F0 m 36 ls [.int r1])) (kr50 : ∀ (H : Heap) (locs : List Loc) (ls : Array Slot), mG D cI cJ cZ ad A H0 H locs S1 → W p l e { frames := 6, cells := 0, slots := 0, locals := 121 } s m args below meth c H locs 0 0 Q (F0 m 50 ls [.int r1])) (kr82 : ∀ (H : Heap) (locs : List Loc) (ls : Array Slot), mG D cI cJ cZ ad A H0 H locs S1 → W p l e { frames := 6, cells := 0, slots := 0, locals := 121 } s m args below meth c H locs 0 0 Q (F0 m 82 ls [.int r1])) : ∀ (S : MS) (H : Heap) (locs : List Loc) (ls : Array Slot) (s0 : Int32) (l1 : Int32) (l2 : Int32), fr_trackCell_b29 S s0 l1 l2 = some (r1, S1) → mG D cI cJ cZ ad A H0 H locs S → lv_has ls 5 [(0, .ref (ad 0)), (1, .int l1), (2, .int l2)] → W p l e { frames := 6, cells := 0, slots := 0, locals := 121 } s m args below meth c H locs 0 0 Q (F0 m 29 ls [.int s0, .ref (ad 0)]) := by
  have hx := E.1
  have hb := E.2.1
  have hts := E.2.2.1
  have hown := E.2.2.2.1
  have hK := E.2.2.2.2.1
  intro S H locs ls s0 l1 l2 h G hl
  unfold fr_trackCell_b29 at h
  obtain ⟨r5, S2, eS2, h⟩ := obind2_some h
  refine m_calli (As := [.int s0]) (rest := []) E G hA hR hml (tr_mayAsk l D cI cJ cZ ad S s0 eS2) (cwV 1 hts (gmV qM_319 qM_320 qM_321 qM_35 qM_304) rfl rfl rfl (by decide +kernel) ⟨Nat.le_of_ble_eq_true rfl, Nat.le_of_ble_eq_true rfl⟩) rfl hl.1 rfl (lv_room (Nat.le_of_ble_eq_true rfl)) dX12_trackCell_29 ⟨Nat.zero_le _, Nat.zero_le _⟩ (fun q3 S4 H locs hq G => ?_)
  obtain ⟨hq1, hq2⟩ := hq
  rw [hq2] at G
  refine lv_to hq1 ?_
  clear hq1 hq2 eS2
  refine lv_if_ne (tgt := 37) hx hb dX12_trackCell_32 (by decide) (fun c6 => ?_) (fun c6 => ?_)
  · have h := oif_neg c6 h
    refine lv_aload_n hx hb dX12_trackCell_37 rfl (lv_at hl 0 rfl) ?_
    refine lv_iload_n hx hb dX12_trackCell_38 rfl (lv_at hl 1 rfl) ?_
    obtain ⟨r10, S7, eS7, h⟩ := obind2_some h
    refine m_calli (As := [.int l1]) (rest := []) E G hA hR hml (tr_isLength l D cI cJ cZ ad S2 l1 eS7) (cwV 1 hts (gmV qM_430 qM_431 qM_432 qM_35 qM_428) rfl rfl rfl (by decide +kernel) ⟨Nat.le_of_ble_eq_true rfl, Nat.le_of_ble_eq_true rfl⟩) rfl hl.1 rfl (lv_room (Nat.le_of_ble_eq_true rfl)) dX12_trackCell_39 ⟨Nat.zero_le _, Nat.zero_le _⟩ (fun q8 S9 H locs hq G => ?_)
    obtain ⟨hq1, hq2⟩ := hq
    rw [hq2] at G
    refine lv_to hq1 ?_
    clear hq1 hq2 eS7
    refine lv_if_ne (tgt := 51) hx hb dX12_trackCell_42 (by decide) (fun c11 => ?_) (fun c11 => ?_)
    · have h := oif_neg c11 h
      refine lv_aload_n hx hb dX12_trackCell_51 rfl (lv_at hl 0 rfl) ?_
      refine lv_iload_n hx hb dX12_trackCell_52 rfl (lv_at hl 1 rfl) ?_
      obtain ⟨S16, eS16, h⟩ := obind_some h
      refine m_callv (As := [.int l1]) (rest := []) E G hA hR hml (tr_laysScores l D cI cJ cZ ad S7 l1 eS16) (cwV 1 hts (gmV qM_433 qM_434 qM_435 qM_35 qM_421) rfl rfl rfl (by decide +kernel) ⟨Nat.le_of_ble_eq_true rfl, Nat.le_of_ble_eq_true rfl⟩) rfl hl.1 rfl (lv_room (Nat.le_of_ble_eq_true rfl)) dX12_trackCell_53 ⟨Nat.zero_le _, Nat.zero_le _⟩ (fun S18 H locs hq G => ?_)
      rw [hq] at G
      clear hq eS16
      refine lv_iconst (v := (-1)) hx hb dX12_trackCell_56 (by decide) ?_
      refine lv_istore_n (lv' := [(3, .int (-1)), (0, .ref (ad 0)), (1, .int l1), (2, .int l2)]) hx hb dX12_trackCell_57 rfl hl (by decide) rfl (fun ls hl => ?_)
      refine lv_iconst (v := 0) hx hb dX12_trackCell_58 (by decide) ?_
      refine lv_istore (lv' := [(4, .int 0), (3, .int (-1)), (0, .ref (ad 0)), (1, .int l1), (2, .int l2)]) hx hb dX12_trackCell_59 hl (by decide) rfl (fun ls hl => ?_)
      have hl := lv_sub hl [2, 4, 1, 0] rfl
      exact tr_trackCell_b61 E hA hR hml kr36 kr50 kr82 _ _ _ _ _ _ _ _ h G hl
    · have h := oif_pos c11 h
      refine lv_aload_n hx hb dX12_trackCell_45 rfl (lv_at hl 0 rfl) ?_
      refine lv_iconst (v := 3) hx hb dX12_trackCell_46 (by decide) ?_
      obtain ⟨r15, S12, eS12, h⟩ := obind2_some h
      refine m_calli (As := [.int 3]) (rest := []) E G hA hR hml (tr_throwsAt l D cI cJ cZ ad S7 3 eS12) (cwV 1 hts (gmV qM_195 qM_196 qM_197 qM_35 qM_28) rfl rfl rfl (by decide +kernel) ⟨Nat.le_of_ble_eq_true rfl, Nat.le_of_ble_eq_true rfl⟩) rfl hl.1 rfl (lv_room (Nat.le_of_ble_eq_true rfl)) dX12_trackCell_47 ⟨Nat.zero_le _, Nat.zero_le _⟩ (fun q13 S14 H locs hq G => ?_)
      obtain ⟨hq1, hq2⟩ := hq
      rw [hq2] at G
      refine lv_to hq1 ?_
      clear hq1 hq2 eS12
      rw [(osome2 h).2] at G
      refine lv_to (osome2 h).1 ?_
      exact kr50 _ _ _ G
  · have h := oif_pos c6 h
    refine lv_iconst (v := 0) hx hb dX12_trackCell_35 (by decide) ?_
    rw [(osome2 h).2] at G
    refine lv_to (osome2 h).1 ?_
    exact kr36 _ _ _ G
def fr_trackCell_b24  (S : MS) (l1 : Int32) (l2 : Int32) : Option (Int32 × MS) := fr_trackCell_b29 S 1 l1 l2
set_option maxHeartbeats 4000000 in
set_option maxRecDepth 100000 in
theorem tr_trackCell_b24 {p : Program} {l : Launch} {e : Env} {s : State} {m : MethodId} {args : Array Value} {below : List Frame} {meth : Method} {c : Code} {Q : State → Prop} {D : va_G} {A : Nat → Prop} {H0 : Heap} {cI cJ cZ : ClassId} {ad : Nat → Nat} {r1 : Int32} {S1 : MS} (E : mE p c cX12_trackCell s m args (Cond.code yX12_trackCell cX12_trackCell 5 (some .int) :: wsM) D cI cJ cZ) (hA : ∀ q : Nat, H0.size ≤ q → A q) (hR : sR s) (hml : c.maxLocals = 5) (kr36 : ∀ (H : Heap) (locs : List Loc) (ls : Array Slot), mG D cI cJ cZ ad A H0 H locs S1 → W p l e { frames := 6, cells := 0, slots := 0, locals := 121 } s m args below meth c H locs 0 0 Q (F0 m 36 ls [.int r1])) (kr50 : ∀ (H : Heap) (locs : List Loc) (ls : Array Slot), mG D cI cJ cZ ad A H0 H locs S1 → W p l e { frames := 6, cells := 0, slots := 0, locals := 121 } s m args below meth c H locs 0 0 Q (F0 m 50 ls [.int r1])) (kr82 : ∀ (H : Heap) (locs : List Loc) (ls : Array Slot), mG D cI cJ cZ ad A H0 H locs S1 → W p l e { frames := 6, cells := 0, slots := 0, locals := 121 } s m args below meth c H locs 0 0 Q (F0 m 82 ls [.int r1])) : ∀ (S : MS) (H : Heap) (locs : List Loc) (ls : Array Slot) (l1 : Int32) (l2 : Int32), fr_trackCell_b24 S l1 l2 = some (r1, S1) → mG D cI cJ cZ ad A H0 H locs S → lv_has ls 5 [(0, .ref (ad 0)), (1, .int l1), (2, .int l2)] → W p l e { frames := 6, cells := 0, slots := 0, locals := 121 } s m args below meth c H locs 0 0 Q (F0 m 24 ls [.ref (ad 0)]) := by
  have hx := E.1
  have hb := E.2.1
  have hts := E.2.2.1
  have hown := E.2.2.2.1
  have hK := E.2.2.2.2.1
  intro S H locs ls l1 l2 h G hl
  unfold fr_trackCell_b24 at h
  refine lv_iconst (v := 1) hx hb dX12_trackCell_24 (by decide) ?_
  refine lv_goto (tgt := 29) hx hb dX12_trackCell_25 (by decide) ?_
  have hl := lv_sub hl [0, 1, 2] rfl
  exact tr_trackCell_b29 E hA hR hml kr36 kr50 kr82 _ _ _ _ _ _ _ h G hl
def fr_trackCell (S : MS) (a0 : Int32) (a1 : Int32) : Option (Int32 × MS) := obind2 (fr_isLength S a0) fun r5 S2 => if r5 = 0 then (fr_trackCell_b24 S2 a0 a1) else (obind2 (fr_blockCount S2 a0) fun r10 S7 => elet (r10 - 1) fun v11 => obind (fr_in a1 0 v11) fun r12 => if r12 = 0 then (fr_trackCell_b29 S7 0 a0 a1) else (fr_trackCell_b24 S7 a0 a1))
set_option maxHeartbeats 4000000 in
set_option maxRecDepth 100000 in
theorem tr_trackCell (l : Launch) (D : va_G) (cI cJ cZ : ClassId) (ad : Nat → Nat) (S : MS) (a0 : Int32) (a1 : Int32) {r1 : Int32} {S1 : MS} (h : fr_trackCell S a0 a1 = some (r1, S1)) : mCi l yX12_trackCell (Cond.code yX12_trackCell cX12_trackCell 5 (some .int) :: wsM) 6 121 D cI cJ cZ ad S [.int a0, .int a1] (fun r S9 => r = r1 ∧ S9 = S1) := by
  intro sz
  refine Met.ofW (cc := cX12_trackCell) (maxL := 5) (ret := (some .int)) (by decide) rfl ?_
  intro p e s m args below meth c s₁ B hml hv
  obtain ⟨rfl, hsz, hP, hK, hD0, hR⟩ := hv
  have hx := B.exec
  have hb := B.bytes
  have hr := B.returns
  have hts := atoms_spec (ws := (Cond.code yX12_trackCell cX12_trackCell 5 (some .int) :: wsM)) B.pre
  have hown : s.vm.findClass RX12 = some m.cls := findClass_of_methodNamed B.named
  have hlocks := B.notSynchronized
  subst hsz
  have hD := hD0.self (sz := s.heap.size)
  generalize hAe : va_A (MW cI cJ cZ ad S) s.heap.size = A at hD ⊢
  have hA : ∀ q : Nat, s.heap.size ≤ q → A q := fun q h => by rw [← hAe]; exact Or.inr h
  have G : mG D cI cJ cZ ad A s.heap s.heap [] S := ⟨hP, hD, va_S.rf⟩
  have E : mE p c cX12_trackCell s m ([.ref (ad 0), .int a0, .int a1] : List Value).toArray (Cond.code yX12_trackCell cX12_trackCell 5 (some .int) :: wsM) D cI cJ cZ := ⟨hx, hb, hts, hown, hK, fun w h => .tail _ (iM_x h)⟩
  have hl := lv_entry ([.ref (ad 0), .int a0, .int a1]) (n := 5) (Nat.le_of_ble_eq_true rfl)
  rw [lg_entry_eq]
  generalize (lg_sl ([.ref (ad 0), .int a0, .int a1]) ++ List.replicate (5 - (lg_sl ([.ref (ad 0), .int a0, .int a1])).length) Slot.unset).toArray = ls at hl ⊢
  have hl : lv_has ls 5 [(0, .ref (ad 0)), (1, .int a0), (2, .int a1)] := hl
  unfold fr_trackCell at h
  refine lv_aload_n hx hb dX12_trackCell_0 rfl (lv_at hl 0 rfl) ?_
  refine lv_aload_n hx hb dX12_trackCell_1 rfl (lv_at hl 0 rfl) ?_
  refine lv_iload_n hx hb dX12_trackCell_2 rfl (lv_at hl 1 rfl) ?_
  obtain ⟨r5, S2, eS2, h⟩ := obind2_some h
  refine m_calli (As := [.int a0]) (rest := [.ref (ad 0)]) E G hA hR hml (tr_isLength l D cI cJ cZ ad S a0 eS2) (cwV 1 hts (gmV qM_430 qM_431 qM_432 qM_35 qM_428) rfl rfl rfl (by decide +kernel) ⟨Nat.le_of_ble_eq_true rfl, Nat.le_of_ble_eq_true rfl⟩) rfl hl.1 rfl (lv_room (Nat.le_of_ble_eq_true rfl)) dX12_trackCell_3 ⟨Nat.zero_le _, Nat.zero_le _⟩ (fun q3 S4 H locs hq G => ?_)
  obtain ⟨hq1, hq2⟩ := hq
  rw [hq2] at G
  refine lv_to hq1 ?_
  clear hq1 hq2 eS2
  refine lv_if_eq (tgt := 24) hx hb dX12_trackCell_6 (by decide) (fun c6 => ?_) (fun c6 => ?_)
  · have h := oif_pos c6 h
    have hl := lv_sub hl [0, 1, 2] rfl
    exact tr_trackCell_b24 E hA hR hml (fun H locs ls G => W.iret (v := r1) hx hb hr (fun t ht hW => ⟨⟨r1, S1, rfl, ⟨rfl, rfl⟩, ⟨by rw [ht]; exact G.1, va_K.moved hW.alike hK, G.2.1⟩⟩, G.2.2.F ht⟩) G.2.2.2.2 dX12_trackCell_36) (fun H locs ls G => W.iret (v := r1) hx hb hr (fun t ht hW => ⟨⟨r1, S1, rfl, ⟨rfl, rfl⟩, ⟨by rw [ht]; exact G.1, va_K.moved hW.alike hK, G.2.1⟩⟩, G.2.2.F ht⟩) G.2.2.2.2 dX12_trackCell_50) (fun H locs ls G => W.iret (v := r1) hx hb hr (fun t ht hW => ⟨⟨r1, S1, rfl, ⟨rfl, rfl⟩, ⟨by rw [ht]; exact G.1, va_K.moved hW.alike hK, G.2.1⟩⟩, G.2.2.F ht⟩) G.2.2.2.2 dX12_trackCell_82) _ _ _ _ _ _ h G hl
  · have h := oif_neg c6 h
    refine lv_iload_n hx hb dX12_trackCell_9 rfl (lv_at hl 2 rfl) ?_
    refine lv_iconst (v := 0) hx hb dX12_trackCell_10 (by decide) ?_
    refine lv_aload_n hx hb dX12_trackCell_11 rfl (lv_at hl 0 rfl) ?_
    refine lv_iload_n hx hb dX12_trackCell_12 rfl (lv_at hl 1 rfl) ?_
    obtain ⟨r10, S7, eS7, h⟩ := obind2_some h
    refine m_calli (As := [.int a0]) (rest := [.int 0, .int a1, .ref (ad 0)]) E G hA hR hml (tr_blockCount l D cI cJ cZ ad S2 a0 eS7) (cwV 1 hts (gmV qM_422 qM_423 qM_424 qM_35 qM_415) rfl rfl rfl (by decide +kernel) ⟨Nat.le_of_ble_eq_true rfl, Nat.le_of_ble_eq_true rfl⟩) rfl hl.1 rfl (lv_room (Nat.le_of_ble_eq_true rfl)) dX12_trackCell_13 ⟨Nat.zero_le _, Nat.zero_le _⟩ (fun q8 S9 H locs hq G => ?_)
    obtain ⟨hq1, hq2⟩ := hq
    rw [hq2] at G
    refine lv_to hq1 ?_
    clear hq1 hq2 eS7
    refine lv_iconst (v := 1) hx hb dX12_trackCell_16 (by decide) ?_
    refine lv_isub hx hb dX12_trackCell_17 ?_
    refine lv_topi (fun v11 ev11 => ?_)
    have h := elet_at ev11 h
    clear ev11
    obtain ⟨r12, er12, h⟩ := obind_some h
    refine m_stat (As := [.int a1, .int 0, .int v11]) (rest := [.ref (ad 0)]) ⟨hx, hb, hml, hown, hts⟩ (tr_in l a1 0 v11 er12) (cwS 3 hts (gmS qM_52 qM_53 qM_35 qM_27) rfl rfl rfl (by decide +kernel) ⟨Nat.le_of_ble_eq_true rfl, Nat.le_of_ble_eq_true rfl⟩) rfl hl.1 rfl (lv_room (Nat.le_of_ble_eq_true rfl)) dX12_trackCell_18 ⟨Nat.zero_le _, Nat.zero_le _⟩ (fun q13 hq => ?_)
    refine lv_to hq ?_
    clear hq er12
    refine lv_if_eq (tgt := 28) hx hb dX12_trackCell_21 (by decide) (fun c14 => ?_) (fun c14 => ?_)
    · have h := oif_pos c14 h
      refine lv_iconst (v := 0) hx hb dX12_trackCell_28 (by decide) ?_
      have hl := lv_sub hl [0, 1, 2] rfl
      exact tr_trackCell_b29 E hA hR hml (fun H locs ls G => W.iret (v := r1) hx hb hr (fun t ht hW => ⟨⟨r1, S1, rfl, ⟨rfl, rfl⟩, ⟨by rw [ht]; exact G.1, va_K.moved hW.alike hK, G.2.1⟩⟩, G.2.2.F ht⟩) G.2.2.2.2 dX12_trackCell_36) (fun H locs ls G => W.iret (v := r1) hx hb hr (fun t ht hW => ⟨⟨r1, S1, rfl, ⟨rfl, rfl⟩, ⟨by rw [ht]; exact G.1, va_K.moved hW.alike hK, G.2.1⟩⟩, G.2.2.F ht⟩) G.2.2.2.2 dX12_trackCell_50) (fun H locs ls G => W.iret (v := r1) hx hb hr (fun t ht hW => ⟨⟨r1, S1, rfl, ⟨rfl, rfl⟩, ⟨by rw [ht]; exact G.1, va_K.moved hW.alike hK, G.2.1⟩⟩, G.2.2.F ht⟩) G.2.2.2.2 dX12_trackCell_82) _ _ _ _ _ _ _ h G hl
    · have h := oif_neg c14 h
      have hl := lv_sub hl [0, 1, 2] rfl
      exact tr_trackCell_b24 E hA hR hml (fun H locs ls G => W.iret (v := r1) hx hb hr (fun t ht hW => ⟨⟨r1, S1, rfl, ⟨rfl, rfl⟩, ⟨by rw [ht]; exact G.1, va_K.moved hW.alike hK, G.2.1⟩⟩, G.2.2.F ht⟩) G.2.2.2.2 dX12_trackCell_36) (fun H locs ls G => W.iret (v := r1) hx hb hr (fun t ht hW => ⟨⟨r1, S1, rfl, ⟨rfl, rfl⟩, ⟨by rw [ht]; exact G.1, va_K.moved hW.alike hK, G.2.1⟩⟩, G.2.2.F ht⟩) G.2.2.2.2 dX12_trackCell_50) (fun H locs ls G => W.iret (v := r1) hx hb hr (fun t ht hW => ⟨⟨r1, S1, rfl, ⟨rfl, rfl⟩, ⟨by rw [ht]; exact G.1, va_K.moved hW.alike hK, G.2.1⟩⟩, G.2.2.F ht⟩) G.2.2.2.2 dX12_trackCell_82) _ _ _ _ _ _ h G hl
def fr_isZone (S : MS) (a0 : Int32) : Option (Int32 × MS) := elet (S.2.1 10 101) fun v2 => elet (v2 - 1) fun v3 => obind (fr_in a0 0 v3) fun r4 => oif (r4 = 0 ∨ r4 = 1) <| some (r4, S)
set_option maxHeartbeats 4000000 in
set_option maxRecDepth 100000 in
theorem tr_isZone (l : Launch) (D : va_G) (cI cJ cZ : ClassId) (ad : Nat → Nat) (S : MS) (a0 : Int32) {r1 : Int32} {S1 : MS} (h : fr_isZone S a0 = some (r1, S1)) : mCi l yX12_isZone (Cond.code yX12_isZone cX12_isZone 2 (some .boolean) :: wsM) 2 22 D cI cJ cZ ad S [.int a0] (fun r S9 => r = r1 ∧ S9 = S1) := by
  intro sz
  refine Met.ofW (cc := cX12_isZone) (maxL := 2) (ret := (some .boolean)) (by decide) rfl ?_
  intro p e s m args below meth c s₁ B hml hv
  obtain ⟨rfl, hsz, hP, hK, hD0, hR⟩ := hv
  have hx := B.exec
  have hb := B.bytes
  have hr := B.returns
  have hts := atoms_spec (ws := (Cond.code yX12_isZone cX12_isZone 2 (some .boolean) :: wsM)) B.pre
  have hown : s.vm.findClass RX12 = some m.cls := findClass_of_methodNamed B.named
  have hlocks := B.notSynchronized
  subst hsz
  have hD := hD0.self (sz := s.heap.size)
  generalize hAe : va_A (MW cI cJ cZ ad S) s.heap.size = A at hD ⊢
  have hA : ∀ q : Nat, s.heap.size ≤ q → A q := fun q h => by rw [← hAe]; exact Or.inr h
  have G : mG D cI cJ cZ ad A s.heap s.heap [] S := ⟨hP, hD, va_S.rf⟩
  have E : mE p c cX12_isZone s m ([.ref (ad 0), .int a0] : List Value).toArray (Cond.code yX12_isZone cX12_isZone 2 (some .boolean) :: wsM) D cI cJ cZ := ⟨hx, hb, hts, hown, hK, fun w h => .tail _ (iM_x h)⟩
  have hl := lv_entry ([.ref (ad 0), .int a0]) (n := 2) (Nat.le_of_ble_eq_true rfl)
  rw [lg_entry_eq]
  generalize (lg_sl ([.ref (ad 0), .int a0]) ++ List.replicate (2 - (lg_sl ([.ref (ad 0), .int a0])).length) Slot.unset).toArray = ls at hl ⊢
  have hl : lv_has ls 2 [(0, .ref (ad 0)), (1, .int a0)] := hl
  unfold fr_isZone at h
  refine lv_iload_n hx hb dX12_isZone_0 rfl (lv_at hl 1 rfl) ?_
  refine lv_iconst (v := 0) hx hb dX12_isZone_1 (by decide) ?_
  refine lv_aload_n hx hb dX12_isZone_2 rfl (lv_at hl 0 rfl) ?_
  refine m_get E G 10 (v := .ref (ad 10)) (by decide) (.tail _ qM_7) rfl dX12_isZone_3 rfl ?_
  refine lv_bipush (v := 101) hx hb dX12_isZone_6 (by decide) ?_
  refine m_iald E G 10 2 (n := 131) (k := 101) rfl rfl (by decide) (by decide) dX12_isZone_8 ?_
  refine lv_topi (fun v2 ev2 => ?_)
  have h := elet_at ev2 h
  clear ev2
  refine lv_iconst (v := 1) hx hb dX12_isZone_9 (by decide) ?_
  refine lv_isub hx hb dX12_isZone_10 ?_
  refine lv_topi (fun v3 ev3 => ?_)
  have h := elet_at ev3 h
  clear ev3
  obtain ⟨r4, er4, h⟩ := obind_some h
  refine m_stat (As := [.int a0, .int 0, .int v3]) (rest := []) ⟨hx, hb, hml, hown, hts⟩ (tr_in l a0 0 v3 er4) (cwS 3 hts (gmS qM_52 qM_53 qM_35 qM_27) rfl rfl rfl (by decide +kernel) ⟨Nat.le_of_ble_eq_true rfl, Nat.le_of_ble_eq_true rfl⟩) rfl hl.1 rfl (lv_room (Nat.le_of_ble_eq_true rfl)) dX12_isZone_11 ⟨Nat.zero_le _, Nat.zero_le _⟩ (fun q5 hq => ?_)
  refine lv_to hq ?_
  clear hq er4
  obtain ⟨gz, h⟩ := oif_some h
  exact W.zret (v := r4) hx hb hr (nar01 gz) (fun t ht hW => ⟨⟨r4, S, rfl, osome2 h, ⟨by rw [ht]; exact G.1, va_K.moved hW.alike hK, G.2.1⟩⟩, G.2.2.F ht⟩) G.2.2.2.2 dX12_isZone_14
def fr_isInZone_b72  (S : MS) (s0 : Int32) : Option (Int32 × MS) := oif (s0 = 0 ∨ s0 = 1) <| some (s0, S)
set_option maxHeartbeats 4000000 in
set_option maxRecDepth 100000 in
theorem tr_isInZone_b72 {p : Program} {l : Launch} {e : Env} {s : State} {m : MethodId} {args : Array Value} {below : List Frame} {meth : Method} {c : Code} {Q : State → Prop} {D : va_G} {A : Nat → Prop} {H0 : Heap} {cI cJ cZ : ClassId} {ad : Nat → Nat} {r1 : Int32} {S1 : MS} (E : mE p c cX12_isInZone s m args (Cond.code yX12_isInZone cX12_isInZone 4 (some .boolean) :: wsM) D cI cJ cZ) (hA : ∀ q : Nat, H0.size ≤ q → A q) (hR : sR s) (hml : c.maxLocals = 4) (kr72 : ∀ (H : Heap) (locs : List Loc) (ls : Array Slot), (r1 = 0 ∨ r1 = 1) → mG D cI cJ cZ ad A H0 H locs S1 → W p l e { frames := 2, cells := 0, slots := 0, locals := 22 } s m args below meth c H locs 0 0 Q (F0 m 72 ls [.int r1])) : ∀ (S : MS) (H : Heap) (locs : List Loc) (ls : Array Slot) (s0 : Int32), fr_isInZone_b72 S s0 = some (r1, S1) → mG D cI cJ cZ ad A H0 H locs S → lv_has ls 4 [] → W p l e { frames := 2, cells := 0, slots := 0, locals := 22 } s m args below meth c H locs 0 0 Q (F0 m 72 ls [.int s0]) := by
  have hx := E.1
  have hb := E.2.1
  have hts := E.2.2.1
  have hown := E.2.2.2.1
  have hK := E.2.2.2.2.1
  intro S H locs ls s0 h G hl
  unfold fr_isInZone_b72 at h
  obtain ⟨gz, h⟩ := oif_some h
  have gr : r1 = 0 ∨ r1 = 1 := by rw [← (osome2 h).1]; exact gz
  rw [(osome2 h).2] at G
  refine lv_to (osome2 h).1 ?_
  exact kr72 _ _ _ gr G
def fr_isInZone_b71  (S : MS)  : Option (Int32 × MS) := fr_isInZone_b72 S 0
set_option maxHeartbeats 4000000 in
set_option maxRecDepth 100000 in
theorem tr_isInZone_b71 {p : Program} {l : Launch} {e : Env} {s : State} {m : MethodId} {args : Array Value} {below : List Frame} {meth : Method} {c : Code} {Q : State → Prop} {D : va_G} {A : Nat → Prop} {H0 : Heap} {cI cJ cZ : ClassId} {ad : Nat → Nat} {r1 : Int32} {S1 : MS} (E : mE p c cX12_isInZone s m args (Cond.code yX12_isInZone cX12_isInZone 4 (some .boolean) :: wsM) D cI cJ cZ) (hA : ∀ q : Nat, H0.size ≤ q → A q) (hR : sR s) (hml : c.maxLocals = 4) (kr72 : ∀ (H : Heap) (locs : List Loc) (ls : Array Slot), (r1 = 0 ∨ r1 = 1) → mG D cI cJ cZ ad A H0 H locs S1 → W p l e { frames := 2, cells := 0, slots := 0, locals := 22 } s m args below meth c H locs 0 0 Q (F0 m 72 ls [.int r1])) : ∀ (S : MS) (H : Heap) (locs : List Loc) (ls : Array Slot), fr_isInZone_b71 S = some (r1, S1) → mG D cI cJ cZ ad A H0 H locs S → lv_has ls 4 [] → W p l e { frames := 2, cells := 0, slots := 0, locals := 22 } s m args below meth c H locs 0 0 Q (F0 m 71 ls []) := by
  have hx := E.1
  have hb := E.2.1
  have hts := E.2.2.1
  have hown := E.2.2.2.1
  have hK := E.2.2.2.2.1
  intro S H locs ls h G hl
  unfold fr_isInZone_b71 at h
  refine lv_iconst (v := 0) hx hb dX12_isInZone_71 (by decide) ?_
  have hl := lv_sub hl [] rfl
  exact tr_isInZone_b72 E hA hR hml kr72 _ _ _ _ _ h G hl
def fr_isInZone (S : MS) (a0 : Int32) (a1 : Int32) : Option (Int32 × MS) := elet (4 * a0) fun v2 => elet (102 + v2) fun v3 => elet (S.2.1 10 9) fun v4 => oif (¬ v4 = 0) <| elet (a1 - a1 / v4 * v4) fun v6 => oif (inb v3 131 = true) <| elet (S.2.1 10 v3.toNatClampNeg) fun v8 => elet (v3 + 2) fun v9 => oif (inb v9 131 = true) <| elet (S.2.1 10 v9.toNatClampNeg) fun v11 => obind (fr_in v6 v8 v11) fun r12 => if r12 = 0 then (fr_isInZone_b71 S) else (elet (S.2.1 10 9) fun v15 => oif (¬ v15 = 0) <| elet (a1 / v15) fun v17 => elet (v3 + 1) fun v18 => oif (inb v18 131 = true) <| elet (S.2.1 10 v18.toNatClampNeg) fun v20 => elet (v3 + 3) fun v21 => oif (inb v21 131 = true) <| elet (S.2.1 10 v21.toNatClampNeg) fun v23 => obind (fr_in v17 v20 v23) fun r24 => if r24 = 0 then (fr_isInZone_b71 S) else (fr_isInZone_b72 S 1))
set_option maxHeartbeats 4000000 in
set_option maxRecDepth 100000 in
theorem tr_isInZone (l : Launch) (D : va_G) (cI cJ cZ : ClassId) (ad : Nat → Nat) (S : MS) (a0 : Int32) (a1 : Int32) {r1 : Int32} {S1 : MS} (h : fr_isInZone S a0 a1 = some (r1, S1)) : mCi l yX12_isInZone (Cond.code yX12_isInZone cX12_isInZone 4 (some .boolean) :: wsM) 2 22 D cI cJ cZ ad S [.int a0, .int a1] (fun r S9 => r = r1 ∧ S9 = S1) := by
  intro sz
  refine Met.ofW (cc := cX12_isInZone) (maxL := 4) (ret := (some .boolean)) (by decide) rfl ?_
  intro p e s m args below meth c s₁ B hml hv
  obtain ⟨rfl, hsz, hP, hK, hD0, hR⟩ := hv
  have hx := B.exec
  have hb := B.bytes
  have hr := B.returns
  have hts := atoms_spec (ws := (Cond.code yX12_isInZone cX12_isInZone 4 (some .boolean) :: wsM)) B.pre
  have hown : s.vm.findClass RX12 = some m.cls := findClass_of_methodNamed B.named
  have hlocks := B.notSynchronized
  subst hsz
  have hD := hD0.self (sz := s.heap.size)
  generalize hAe : va_A (MW cI cJ cZ ad S) s.heap.size = A at hD ⊢
  have hA : ∀ q : Nat, s.heap.size ≤ q → A q := fun q h => by rw [← hAe]; exact Or.inr h
  have G : mG D cI cJ cZ ad A s.heap s.heap [] S := ⟨hP, hD, va_S.rf⟩
  have E : mE p c cX12_isInZone s m ([.ref (ad 0), .int a0, .int a1] : List Value).toArray (Cond.code yX12_isInZone cX12_isInZone 4 (some .boolean) :: wsM) D cI cJ cZ := ⟨hx, hb, hts, hown, hK, fun w h => .tail _ (iM_x h)⟩
  have hl := lv_entry ([.ref (ad 0), .int a0, .int a1]) (n := 4) (Nat.le_of_ble_eq_true rfl)
  rw [lg_entry_eq]
  generalize (lg_sl ([.ref (ad 0), .int a0, .int a1]) ++ List.replicate (4 - (lg_sl ([.ref (ad 0), .int a0, .int a1])).length) Slot.unset).toArray = ls at hl ⊢
  have hl : lv_has ls 4 [(0, .ref (ad 0)), (1, .int a0), (2, .int a1)] := hl
  unfold fr_isInZone at h
  refine lv_bipush (v := 102) hx hb dX12_isInZone_0 (by decide) ?_
  refine lv_iconst (v := 4) hx hb dX12_isInZone_2 (by decide) ?_
  refine lv_iload_n hx hb dX12_isInZone_3 rfl (lv_at hl 1 rfl) ?_
  refine lv_imul hx hb dX12_isInZone_4 ?_
  refine lv_topi (fun v2 ev2 => ?_)
  have h := elet_at ev2 h
  clear ev2
  refine lv_iadd hx hb dX12_isInZone_5 ?_
  refine lv_topi (fun v3 ev3 => ?_)
  have h := elet_at ev3 h
  clear ev3
  refine lv_istore_n (lv' := [(3, .int v3), (0, .ref (ad 0)), (1, .int a0), (2, .int a1)]) hx hb dX12_isInZone_6 rfl hl (by decide) rfl (fun ls hl => ?_)
  refine lv_iload_n hx hb dX12_isInZone_7 rfl (lv_at hl 3 rfl) ?_
  refine lv_aload_n hx hb dX12_isInZone_8 rfl (lv_at hl 1 rfl) ?_
  refine m_get E G 10 (v := .ref (ad 10)) (by decide) (.tail _ qM_7) rfl dX12_isInZone_9 rfl ?_
  refine lv_bipush (v := 9) hx hb dX12_isInZone_12 (by decide) ?_
  refine m_iald E G 10 2 (n := 131) (k := 9) rfl rfl (by decide) (by decide) dX12_isInZone_14 ?_
  refine lv_topi (fun v4 ev4 => ?_)
  have h := elet_at ev4 h
  clear ev4
  obtain ⟨g5, h⟩ := oif_some h
  refine lv_irem hx hb dX12_isInZone_15 g5 ?_
  refine lv_topi (fun v6 ev6 => ?_)
  have h := elet_at ev6 h
  clear ev6
  refine lv_aload_n hx hb dX12_isInZone_16 rfl (lv_at hl 1 rfl) ?_
  refine m_get E G 10 (v := .ref (ad 10)) (by decide) (.tail _ qM_7) rfl dX12_isInZone_17 rfl ?_
  refine lv_iload_n hx hb dX12_isInZone_20 rfl (lv_at hl 0 rfl) ?_
  obtain ⟨g7, h⟩ := oif_some h
  refine m_iald E G 10 2 (n := 131) (k := v3.toNatClampNeg) rfl (inb_k g7).1 (inb_k g7).2 (by decide) dX12_isInZone_21 ?_
  refine lv_topi (fun v8 ev8 => ?_)
  have h := elet_at ev8 h
  clear ev8
  refine lv_aload_n hx hb dX12_isInZone_22 rfl (lv_at hl 1 rfl) ?_
  refine m_get E G 10 (v := .ref (ad 10)) (by decide) (.tail _ qM_7) rfl dX12_isInZone_23 rfl ?_
  refine lv_iload_n hx hb dX12_isInZone_26 rfl (lv_at hl 0 rfl) ?_
  refine lv_iconst (v := 2) hx hb dX12_isInZone_27 (by decide) ?_
  refine lv_iadd hx hb dX12_isInZone_28 ?_
  refine lv_topi (fun v9 ev9 => ?_)
  have h := elet_at ev9 h
  clear ev9
  obtain ⟨g10, h⟩ := oif_some h
  refine m_iald E G 10 2 (n := 131) (k := v9.toNatClampNeg) rfl (inb_k g10).1 (inb_k g10).2 (by decide) dX12_isInZone_29 ?_
  refine lv_topi (fun v11 ev11 => ?_)
  have h := elet_at ev11 h
  clear ev11
  obtain ⟨r12, er12, h⟩ := obind_some h
  refine m_stat (As := [.int v6, .int v8, .int v11]) (rest := []) ⟨hx, hb, hml, hown, hts⟩ (tr_in l v6 v8 v11 er12) (cwS 3 hts (gmS qM_52 qM_53 qM_35 qM_27) rfl rfl rfl (by decide +kernel) ⟨Nat.le_of_ble_eq_true rfl, Nat.le_of_ble_eq_true rfl⟩) rfl hl.1 rfl (lv_room (Nat.le_of_ble_eq_true rfl)) dX12_isInZone_30 ⟨Nat.zero_le _, Nat.zero_le _⟩ (fun q13 hq => ?_)
  refine lv_to hq ?_
  clear hq er12
  refine lv_if_eq (tgt := 71) hx hb dX12_isInZone_33 (by decide) (fun c14 => ?_) (fun c14 => ?_)
  · have h := oif_pos c14 h
    have hl := lv_sub hl [] rfl
    exact tr_isInZone_b71 E hA hR hml (fun H locs ls gz G => W.zret (v := r1) hx hb hr (nar01 gz) (fun t ht hW => ⟨⟨r1, S1, rfl, ⟨rfl, rfl⟩, ⟨by rw [ht]; exact G.1, va_K.moved hW.alike hK, G.2.1⟩⟩, G.2.2.F ht⟩) G.2.2.2.2 dX12_isInZone_72) _ _ _ _ h G hl
  · have h := oif_neg c14 h
    refine lv_iload_n hx hb dX12_isInZone_36 rfl (lv_at hl 3 rfl) ?_
    refine lv_aload_n hx hb dX12_isInZone_37 rfl (lv_at hl 1 rfl) ?_
    refine m_get E G 10 (v := .ref (ad 10)) (by decide) (.tail _ qM_7) rfl dX12_isInZone_38 rfl ?_
    refine lv_bipush (v := 9) hx hb dX12_isInZone_41 (by decide) ?_
    refine m_iald E G 10 2 (n := 131) (k := 9) rfl rfl (by decide) (by decide) dX12_isInZone_43 ?_
    refine lv_topi (fun v15 ev15 => ?_)
    have h := elet_at ev15 h
    clear ev15
    obtain ⟨g16, h⟩ := oif_some h
    refine lv_idiv hx hb dX12_isInZone_44 g16 ?_
    refine lv_topi (fun v17 ev17 => ?_)
    have h := elet_at ev17 h
    clear ev17
    refine lv_aload_n hx hb dX12_isInZone_45 rfl (lv_at hl 1 rfl) ?_
    refine m_get E G 10 (v := .ref (ad 10)) (by decide) (.tail _ qM_7) rfl dX12_isInZone_46 rfl ?_
    refine lv_iload_n hx hb dX12_isInZone_49 rfl (lv_at hl 0 rfl) ?_
    refine lv_iconst (v := 1) hx hb dX12_isInZone_50 (by decide) ?_
    refine lv_iadd hx hb dX12_isInZone_51 ?_
    refine lv_topi (fun v18 ev18 => ?_)
    have h := elet_at ev18 h
    clear ev18
    obtain ⟨g19, h⟩ := oif_some h
    refine m_iald E G 10 2 (n := 131) (k := v18.toNatClampNeg) rfl (inb_k g19).1 (inb_k g19).2 (by decide) dX12_isInZone_52 ?_
    refine lv_topi (fun v20 ev20 => ?_)
    have h := elet_at ev20 h
    clear ev20
    refine lv_aload_n hx hb dX12_isInZone_53 rfl (lv_at hl 1 rfl) ?_
    refine m_get E G 10 (v := .ref (ad 10)) (by decide) (.tail _ qM_7) rfl dX12_isInZone_54 rfl ?_
    refine lv_iload_n hx hb dX12_isInZone_57 rfl (lv_at hl 0 rfl) ?_
    refine lv_iconst (v := 3) hx hb dX12_isInZone_58 (by decide) ?_
    refine lv_iadd hx hb dX12_isInZone_59 ?_
    refine lv_topi (fun v21 ev21 => ?_)
    have h := elet_at ev21 h
    clear ev21
    obtain ⟨g22, h⟩ := oif_some h
    refine m_iald E G 10 2 (n := 131) (k := v21.toNatClampNeg) rfl (inb_k g22).1 (inb_k g22).2 (by decide) dX12_isInZone_60 ?_
    refine lv_topi (fun v23 ev23 => ?_)
    have h := elet_at ev23 h
    clear ev23
    obtain ⟨r24, er24, h⟩ := obind_some h
    refine m_stat (As := [.int v17, .int v20, .int v23]) (rest := []) ⟨hx, hb, hml, hown, hts⟩ (tr_in l v17 v20 v23 er24) (cwS 3 hts (gmS qM_52 qM_53 qM_35 qM_27) rfl rfl rfl (by decide +kernel) ⟨Nat.le_of_ble_eq_true rfl, Nat.le_of_ble_eq_true rfl⟩) rfl hl.1 rfl (lv_room (Nat.le_of_ble_eq_true rfl)) dX12_isInZone_61 ⟨Nat.zero_le _, Nat.zero_le _⟩ (fun q25 hq => ?_)
    refine lv_to hq ?_
    clear hq er24
    refine lv_if_eq (tgt := 71) hx hb dX12_isInZone_64 (by decide) (fun c26 => ?_) (fun c26 => ?_)
    · have h := oif_pos c26 h
      have hl := lv_sub hl [] rfl
      exact tr_isInZone_b71 E hA hR hml (fun H locs ls gz G => W.zret (v := r1) hx hb hr (nar01 gz) (fun t ht hW => ⟨⟨r1, S1, rfl, ⟨rfl, rfl⟩, ⟨by rw [ht]; exact G.1, va_K.moved hW.alike hK, G.2.1⟩⟩, G.2.2.F ht⟩) G.2.2.2.2 dX12_isInZone_72) _ _ _ _ h G hl
    · have h := oif_neg c26 h
      refine lv_iconst (v := 1) hx hb dX12_isInZone_67 (by decide) ?_
      refine lv_goto (tgt := 72) hx hb dX12_isInZone_68 (by decide) ?_
      have hl := lv_sub hl [] rfl
      exact tr_isInZone_b72 E hA hR hml (fun H locs ls gz G => W.zret (v := r1) hx hb hr (nar01 gz) (fun t ht hW => ⟨⟨r1, S1, rfl, ⟨rfl, rfl⟩, ⟨by rw [ht]; exact G.1, va_K.moved hW.alike hK, G.2.1⟩⟩, G.2.2.F ht⟩) G.2.2.2.2 dX12_isInZone_72) _ _ _ _ _ h G hl
def fr_zonePower_b53 (k19 : MS → Int32 → Int64 → Int32 → Option (Int64 × MS)) (S : MS) (s0 : Int64) (s1 : Int64) (l1 : Int32) (l4 : Int32) : Option (Int64 × MS) := elet (s1 + s0) fun v2 => elet (l4 + Int32.ofInt (1)) fun v3 => k19 S l1 v2 v3
set_option maxHeartbeats 4000000 in
set_option maxRecDepth 100000 in
theorem tr_zonePower_b53 {p : Program} {l : Launch} {e : Env} {s : State} {m : MethodId} {args : Array Value} {below : List Frame} {meth : Method} {c : Code} {Q : State → Prop} {D : va_G} {A : Nat → Prop} {H0 : Heap} {cI cJ cZ : ClassId} {ad : Nat → Nat} {r1 : Int64} {S1 : MS} (E : mE p c cX12_zonePower s m args (Cond.code yX12_zonePower cX12_zonePower 5 (some .long) :: wsM) D cI cJ cZ) (hA : ∀ q : Nat, H0.size ≤ q → A q) (hR : sR s) (hml : c.maxLocals = 5) (kr13 : ∀ (H : Heap) (locs : List Loc) (ls : Array Slot), mG D cI cJ cZ ad A H0 H locs S1 → W p l e { frames := 6, cells := 0, slots := 0, locals := 118 } s m args below meth c H locs 0 0 Q (F0 m 13 ls [.long r1])) (kr62 : ∀ (H : Heap) (locs : List Loc) (ls : Array Slot), mG D cI cJ cZ ad A H0 H locs S1 → W p l e { frames := 6, cells := 0, slots := 0, locals := 118 } s m args below meth c H locs 0 0 Q (F0 m 62 ls [.long r1])) {k19 : MS → Int32 → Int64 → Int32 → Option (Int64 × MS)} (hk19 : ∀ (S : MS) (H : Heap) (locs : List Loc) (ls : Array Slot) (l1 : Int32) (l2 : Int64) (l4 : Int32), k19 S l1 l2 l4 = some (r1, S1) → mG D cI cJ cZ ad A H0 H locs S → lv_has ls 5 [(0, .ref (ad 0)), (1, .int l1), (2, .long l2), (4, .int l4)] → W p l e { frames := 6, cells := 0, slots := 0, locals := 118 } s m args below meth c H locs 0 0 Q (F0 m 19 ls [])) : ∀ (S : MS) (H : Heap) (locs : List Loc) (ls : Array Slot) (s0 : Int64) (s1 : Int64) (l1 : Int32) (l4 : Int32), fr_zonePower_b53 k19 S s0 s1 l1 l4 = some (r1, S1) → mG D cI cJ cZ ad A H0 H locs S → lv_has ls 5 [(0, .ref (ad 0)), (1, .int l1), (4, .int l4)] → W p l e { frames := 6, cells := 0, slots := 0, locals := 118 } s m args below meth c H locs 0 0 Q (F0 m 53 ls [.long s0, .long s1]) := by
  have hx := E.1
  have hb := E.2.1
  have hts := E.2.2.1
  have hown := E.2.2.2.1
  have hK := E.2.2.2.2.1
  intro S H locs ls s0 s1 l1 l4 h G hl
  unfold fr_zonePower_b53 at h
  refine lv_ladd hx hb dX12_zonePower_53 ?_
  refine lv_topl (fun v2 ev2 => ?_)
  have h := elet_at ev2 h
  clear ev2
  refine lv_lstore_n (lv' := [(2, .long v2), (0, .ref (ad 0)), (1, .int l1), (4, .int l4)]) hx hb dX12_zonePower_54 rfl hl (by decide) rfl (fun ls hl => ?_)
  obtain ⟨v3, ev3, h⟩ := elet_some h
  refine lv_iinc (v := v3) (lv' := [(4, .int v3), (2, .long v2), (0, .ref (ad 0)), (1, .int l1)]) hx hb dX12_zonePower_55 hl (k := 3) rfl ev3.symm (by decide) rfl (fun ls hl => ?_)
  refine lv_goto (tgt := 19) hx hb dX12_zonePower_58 (by decide) ?_
  have hl := lv_sub hl [2, 3, 1, 0] rfl
  exact hk19 _ _ _ _ _ _ _ h G hl
def fr_zonePower_b19  : Nat → MS → Int32 → Int64 → Int32 → Option (Int64 × MS)
  | 0, _, _, _, _ => none
  | n + 1, S, l1, l2, l4 => obind2 (fr_cellCount S) fun r5 S2 => if r5 ≤ l4 then (some (l2, S2)) else (obind2 (fr_isInZone S2 l1 l4) fun r10 S7 => if r10 = 0 then (fr_zonePower_b53 (fr_zonePower_b19 n) S7 (0 : Int64) l2 l1 l4) else (obind2 (fr_powerOf_12 S7 l4) fun r15 S12 => fr_zonePower_b53 (fr_zonePower_b19 n) S12 r15 l2 l1 l4))
set_option maxHeartbeats 4000000 in
set_option maxRecDepth 100000 in
theorem tr_zonePower_b19 {p : Program} {l : Launch} {e : Env} {s : State} {m : MethodId} {args : Array Value} {below : List Frame} {meth : Method} {c : Code} {Q : State → Prop} {D : va_G} {A : Nat → Prop} {H0 : Heap} {cI cJ cZ : ClassId} {ad : Nat → Nat} {r1 : Int64} {S1 : MS} (E : mE p c cX12_zonePower s m args (Cond.code yX12_zonePower cX12_zonePower 5 (some .long) :: wsM) D cI cJ cZ) (hA : ∀ q : Nat, H0.size ≤ q → A q) (hR : sR s) (hml : c.maxLocals = 5) (kr13 : ∀ (H : Heap) (locs : List Loc) (ls : Array Slot), mG D cI cJ cZ ad A H0 H locs S1 → W p l e { frames := 6, cells := 0, slots := 0, locals := 118 } s m args below meth c H locs 0 0 Q (F0 m 13 ls [.long r1])) (kr62 : ∀ (H : Heap) (locs : List Loc) (ls : Array Slot), mG D cI cJ cZ ad A H0 H locs S1 → W p l e { frames := 6, cells := 0, slots := 0, locals := 118 } s m args below meth c H locs 0 0 Q (F0 m 62 ls [.long r1])) : ∀ n : Nat, ∀ (S : MS) (H : Heap) (locs : List Loc) (ls : Array Slot) (l1 : Int32) (l2 : Int64) (l4 : Int32), fr_zonePower_b19 n S l1 l2 l4 = some (r1, S1) → mG D cI cJ cZ ad A H0 H locs S → lv_has ls 5 [(0, .ref (ad 0)), (1, .int l1), (2, .long l2), (4, .int l4)] → W p l e { frames := 6, cells := 0, slots := 0, locals := 118 } s m args below meth c H locs 0 0 Q (F0 m 19 ls []) := by
  have hx := E.1
  have hb := E.2.1
  have hts := E.2.2.1
  have hown := E.2.2.2.1
  have hK := E.2.2.2.2.1
  intro n
  induction n with
  | zero =>
    intro S H locs ls l1 l2 l4 h
    have h : (none : Option (Int64 × MS)) = some (r1, S1) := h
    cases h
  | succ n ih =>
    intro S H locs ls l1 l2 l4 h G hl
    unfold fr_zonePower_b19 at h
    refine lv_iload hx hb dX12_zonePower_19 (lv_at hl 3 rfl) ?_
    refine lv_aload_n hx hb dX12_zonePower_21 rfl (lv_at hl 0 rfl) ?_
    obtain ⟨r5, S2, eS2, h⟩ := obind2_some h
    refine m_calli (As := []) (rest := [.int l4]) E G hA hR hml (tr_cellCount l D cI cJ cZ ad S eS2) (cwV 0 hts (gmV qM_204 qM_205 qM_206 qM_35 qM_207) rfl rfl rfl (by decide +kernel) ⟨Nat.le_of_ble_eq_true rfl, Nat.le_of_ble_eq_true rfl⟩) rfl hl.1 rfl (lv_room (Nat.le_of_ble_eq_true rfl)) dX12_zonePower_22 ⟨Nat.zero_le _, Nat.zero_le _⟩ (fun q3 S4 H locs hq G => ?_)
    obtain ⟨hq1, hq2⟩ := hq
    rw [hq2] at G
    refine lv_to hq1 ?_
    clear hq1 hq2 eS2
    refine lv_icmp_ge (tgt := 61) hx hb dX12_zonePower_25 (by decide) (fun c6 => ?_) (fun c6 => ?_)
    · have h := oif_pos c6 h
      refine lv_lload_n hx hb dX12_zonePower_61 rfl (lv_at hl 2 rfl) ?_
      rw [(osome2 h).2] at G
      refine lv_tol (osome2 h).1 ?_
      exact kr62 _ _ _ G
    · have h := oif_neg c6 h
      refine lv_lload_n hx hb dX12_zonePower_28 rfl (lv_at hl 2 rfl) ?_
      refine lv_aload_n hx hb dX12_zonePower_29 rfl (lv_at hl 0 rfl) ?_
      refine lv_iload_n hx hb dX12_zonePower_30 rfl (lv_at hl 1 rfl) ?_
      refine lv_iload hx hb dX12_zonePower_31 (lv_at hl 3 rfl) ?_
      obtain ⟨r10, S7, eS7, h⟩ := obind2_some h
      refine m_calli (As := [.int l1, .int l4]) (rest := [.long l2]) E G hA hR hml (tr_isInZone l D cI cJ cZ ad S2 l1 l4 eS7) (cwV 2 hts (gmV qM_443 qM_444 qM_445 qM_35 qM_438) rfl rfl rfl (by decide +kernel) ⟨Nat.le_of_ble_eq_true rfl, Nat.le_of_ble_eq_true rfl⟩) rfl hl.1 rfl (lv_room (Nat.le_of_ble_eq_true rfl)) dX12_zonePower_33 ⟨Nat.zero_le _, Nat.zero_le _⟩ (fun q8 S9 H locs hq G => ?_)
      obtain ⟨hq1, hq2⟩ := hq
      rw [hq2] at G
      refine lv_to hq1 ?_
      clear hq1 hq2 eS7
      refine lv_if_eq (tgt := 52) hx hb dX12_zonePower_36 (by decide) (fun c11 => ?_) (fun c11 => ?_)
      · have h := oif_pos c11 h
        refine lv_lconst (v := 0) hx hb dX12_zonePower_52 (by decide) ?_
        have hl := lv_sub hl [0, 1, 3] rfl
        exact tr_zonePower_b53 E hA hR hml kr13 kr62 ih _ _ _ _ _ _ _ _ h G hl
      · have h := oif_neg c11 h
        refine lv_aload_n hx hb dX12_zonePower_39 rfl (lv_at hl 0 rfl) ?_
        refine lv_aload_n hx hb dX12_zonePower_40 rfl (lv_at hl 0 rfl) ?_
        refine m_get E G 12 (v := .ref (ad 12)) (by decide) (.tail _ qM_9) rfl dX12_zonePower_41 rfl ?_
        refine lv_iload hx hb dX12_zonePower_44 (lv_at hl 3 rfl) ?_
        obtain ⟨r15, S12, eS12, h⟩ := obind2_some h
        refine m_calll (As := [.ref (ad 12), .int l4]) (rest := [.long l2]) E G hA hR hml (tr_powerOf_12 l D cI cJ cZ ad S7 l4 eS12) (cwV 2 hts (gmV qM_297 qM_298 qM_299 qM_35 qM_289) rfl rfl rfl (by decide +kernel) ⟨Nat.le_of_ble_eq_true rfl, Nat.le_of_ble_eq_true rfl⟩) rfl hl.1 rfl (lv_room (Nat.le_of_ble_eq_true rfl)) dX12_zonePower_46 ⟨Nat.zero_le _, Nat.zero_le _⟩ (fun q13 S14 H locs hq G => ?_)
        obtain ⟨hq1, hq2⟩ := hq
        rw [hq2] at G
        refine lv_tol hq1 ?_
        clear hq1 hq2 eS12
        refine lv_goto (tgt := 53) hx hb dX12_zonePower_49 (by decide) ?_
        have hl := lv_sub hl [0, 1, 3] rfl
        exact tr_zonePower_b53 E hA hR hml kr13 kr62 ih _ _ _ _ _ _ _ _ h G hl
def fr_zonePower (S : MS) (a0 : Int32) : Option (Int64 × MS) := obind2 (fr_isZone S a0) fun r5 S2 => obind2 (fr_mayAsk S2 r5) fun r9 S6 => if r9 = 0 then (some ((0 : Int64), S6)) else (fr_zonePower_b19 16384 S6 a0 (0 : Int64) 0)
set_option maxHeartbeats 4000000 in
set_option maxRecDepth 100000 in
theorem tr_zonePower (l : Launch) (D : va_G) (cI cJ cZ : ClassId) (ad : Nat → Nat) (S : MS) (a0 : Int32) {r1 : Int64} {S1 : MS} (h : fr_zonePower S a0 = some (r1, S1)) : mCl l yX12_zonePower (Cond.code yX12_zonePower cX12_zonePower 5 (some .long) :: wsM) 6 118 D cI cJ cZ ad S [.int a0] (fun r S9 => r = r1 ∧ S9 = S1) := by
  intro sz
  refine Met.ofW (cc := cX12_zonePower) (maxL := 5) (ret := (some .long)) (by decide) rfl ?_
  intro p e s m args below meth c s₁ B hml hv
  obtain ⟨rfl, hsz, hP, hK, hD0, hR⟩ := hv
  have hx := B.exec
  have hb := B.bytes
  have hr := B.returns
  have hts := atoms_spec (ws := (Cond.code yX12_zonePower cX12_zonePower 5 (some .long) :: wsM)) B.pre
  have hown : s.vm.findClass RX12 = some m.cls := findClass_of_methodNamed B.named
  have hlocks := B.notSynchronized
  subst hsz
  have hD := hD0.self (sz := s.heap.size)
  generalize hAe : va_A (MW cI cJ cZ ad S) s.heap.size = A at hD ⊢
  have hA : ∀ q : Nat, s.heap.size ≤ q → A q := fun q h => by rw [← hAe]; exact Or.inr h
  have G : mG D cI cJ cZ ad A s.heap s.heap [] S := ⟨hP, hD, va_S.rf⟩
  have E : mE p c cX12_zonePower s m ([.ref (ad 0), .int a0] : List Value).toArray (Cond.code yX12_zonePower cX12_zonePower 5 (some .long) :: wsM) D cI cJ cZ := ⟨hx, hb, hts, hown, hK, fun w h => .tail _ (iM_x h)⟩
  have hl := lv_entry ([.ref (ad 0), .int a0]) (n := 5) (Nat.le_of_ble_eq_true rfl)
  rw [lg_entry_eq]
  generalize (lg_sl ([.ref (ad 0), .int a0]) ++ List.replicate (5 - (lg_sl ([.ref (ad 0), .int a0])).length) Slot.unset).toArray = ls at hl ⊢
  have hl : lv_has ls 5 [(0, .ref (ad 0)), (1, .int a0)] := hl
  unfold fr_zonePower at h
  refine lv_aload_n hx hb dX12_zonePower_0 rfl (lv_at hl 0 rfl) ?_
  refine lv_aload_n hx hb dX12_zonePower_1 rfl (lv_at hl 0 rfl) ?_
  refine lv_iload_n hx hb dX12_zonePower_2 rfl (lv_at hl 1 rfl) ?_
  obtain ⟨r5, S2, eS2, h⟩ := obind2_some h
  refine m_calli (As := [.int a0]) (rest := [.ref (ad 0)]) E G hA hR hml (tr_isZone l D cI cJ cZ ad S a0 eS2) (cwV 1 hts (gmV qM_440 qM_441 qM_442 qM_35 qM_437) rfl rfl rfl (by decide +kernel) ⟨Nat.le_of_ble_eq_true rfl, Nat.le_of_ble_eq_true rfl⟩) rfl hl.1 rfl (lv_room (Nat.le_of_ble_eq_true rfl)) dX12_zonePower_3 ⟨Nat.zero_le _, Nat.zero_le _⟩ (fun q3 S4 H locs hq G => ?_)
  obtain ⟨hq1, hq2⟩ := hq
  rw [hq2] at G
  refine lv_to hq1 ?_
  clear hq1 hq2 eS2
  obtain ⟨r9, S6, eS6, h⟩ := obind2_some h
  refine m_calli (As := [.int r5]) (rest := []) E G hA hR hml (tr_mayAsk l D cI cJ cZ ad S2 r5 eS6) (cwV 1 hts (gmV qM_319 qM_320 qM_321 qM_35 qM_304) rfl rfl rfl (by decide +kernel) ⟨Nat.le_of_ble_eq_true rfl, Nat.le_of_ble_eq_true rfl⟩) rfl hl.1 rfl (lv_room (Nat.le_of_ble_eq_true rfl)) dX12_zonePower_6 ⟨Nat.zero_le _, Nat.zero_le _⟩ (fun q7 S8 H locs hq G => ?_)
  obtain ⟨hq1, hq2⟩ := hq
  rw [hq2] at G
  refine lv_to hq1 ?_
  clear hq1 hq2 eS6
  refine lv_if_ne (tgt := 14) hx hb dX12_zonePower_9 (by decide) (fun c10 => ?_) (fun c10 => ?_)
  · have h := oif_neg c10 h
    refine lv_lconst (v := 0) hx hb dX12_zonePower_14 (by decide) ?_
    refine lv_lstore_n (lv' := [(2, .long (0 : Int64)), (0, .ref (ad 0)), (1, .int a0)]) hx hb dX12_zonePower_15 rfl hl (by decide) rfl (fun ls hl => ?_)
    refine lv_iconst (v := 0) hx hb dX12_zonePower_16 (by decide) ?_
    refine lv_istore (lv' := [(4, .int 0), (2, .long (0 : Int64)), (0, .ref (ad 0)), (1, .int a0)]) hx hb dX12_zonePower_17 hl (by decide) rfl (fun ls hl => ?_)
    have hl := lv_sub hl [2, 3, 1, 0] rfl
    exact tr_zonePower_b19 E hA hR hml (fun H locs ls G => W.lret (v := r1) hx hb hr (fun t ht hW => ⟨⟨r1, S1, rfl, ⟨rfl, rfl⟩, ⟨by rw [ht]; exact G.1, va_K.moved hW.alike hK, G.2.1⟩⟩, G.2.2.F ht⟩) G.2.2.2.2 dX12_zonePower_13) (fun H locs ls G => W.lret (v := r1) hx hb hr (fun t ht hW => ⟨⟨r1, S1, rfl, ⟨rfl, rfl⟩, ⟨by rw [ht]; exact G.1, va_K.moved hW.alike hK, G.2.1⟩⟩, G.2.2.F ht⟩) G.2.2.2.2 dX12_zonePower_62) _ _ _ _ _ _ _ _ h G hl
  · have h := oif_pos c10 h
    refine lv_lconst (v := 0) hx hb dX12_zonePower_12 (by decide) ?_
    exact W.lret (v := (0 : Int64)) hx hb hr (fun t ht hW => ⟨⟨(0 : Int64), S6, rfl, osome2 h, ⟨by rw [ht]; exact G.1, va_K.moved hW.alike hK, G.2.1⟩⟩, G.2.2.F ht⟩) G.2.2.2.2 dX12_zonePower_13
def fr_zoneBest_b66 (k26 : MS → Int32 → Int32 → Int32 → Option (Int32 × MS)) (S : MS) (l1 : Int32) (l2 : Int32) (l3 : Int32) : Option (Int32 × MS) := elet (l3 + Int32.ofInt (1)) fun v2 => k26 S l1 l2 v2
set_option maxHeartbeats 4000000 in
set_option maxRecDepth 100000 in
theorem tr_zoneBest_b66 {p : Program} {l : Launch} {e : Env} {s : State} {m : MethodId} {args : Array Value} {below : List Frame} {meth : Method} {c : Code} {Q : State → Prop} {D : va_G} {A : Nat → Prop} {H0 : Heap} {cI cJ cZ : ClassId} {ad : Nat → Nat} {r1 : Int32} {S1 : MS} (E : mE p c cX12_zoneBest s m args (Cond.code yX12_zoneBest cX12_zoneBest 4 (some .int) :: wsM) D cI cJ cZ) (hA : ∀ q : Nat, H0.size ≤ q → A q) (hR : sR s) (hml : c.maxLocals = 4) (kr13 : ∀ (H : Heap) (locs : List Loc) (ls : Array Slot), mG D cI cJ cZ ad A H0 H locs S1 → W p l e { frames := 7, cells := 0, slots := 0, locals := 140 } s m args below meth c H locs 0 0 Q (F0 m 13 ls [.int r1])) (kr73 : ∀ (H : Heap) (locs : List Loc) (ls : Array Slot), mG D cI cJ cZ ad A H0 H locs S1 → W p l e { frames := 7, cells := 0, slots := 0, locals := 140 } s m args below meth c H locs 0 0 Q (F0 m 73 ls [.int r1])) {k26 : MS → Int32 → Int32 → Int32 → Option (Int32 × MS)} (hk26 : ∀ (S : MS) (H : Heap) (locs : List Loc) (ls : Array Slot) (l1 : Int32) (l2 : Int32) (l3 : Int32), k26 S l1 l2 l3 = some (r1, S1) → mG D cI cJ cZ ad A H0 H locs S → lv_has ls 4 [(0, .ref (ad 0)), (1, .int l1), (2, .int l2), (3, .int l3)] → W p l e { frames := 7, cells := 0, slots := 0, locals := 140 } s m args below meth c H locs 0 0 Q (F0 m 26 ls [])) : ∀ (S : MS) (H : Heap) (locs : List Loc) (ls : Array Slot) (l1 : Int32) (l2 : Int32) (l3 : Int32), fr_zoneBest_b66 k26 S l1 l2 l3 = some (r1, S1) → mG D cI cJ cZ ad A H0 H locs S → lv_has ls 4 [(0, .ref (ad 0)), (1, .int l1), (2, .int l2), (3, .int l3)] → W p l e { frames := 7, cells := 0, slots := 0, locals := 140 } s m args below meth c H locs 0 0 Q (F0 m 66 ls []) := by
  have hx := E.1
  have hb := E.2.1
  have hts := E.2.2.1
  have hown := E.2.2.2.1
  have hK := E.2.2.2.2.1
  intro S H locs ls l1 l2 l3 h G hl
  unfold fr_zoneBest_b66 at h
  obtain ⟨v2, ev2, h⟩ := elet_some h
  refine lv_iinc (v := v2) (lv' := [(3, .int v2), (0, .ref (ad 0)), (1, .int l1), (2, .int l2)]) hx hb dX12_zoneBest_66 hl (k := 3) rfl ev2.symm (by decide) rfl (fun ls hl => ?_)
  refine lv_goto (tgt := 26) hx hb dX12_zoneBest_69 (by decide) ?_
  have hl := lv_sub hl [1, 2, 3, 0] rfl
  exact hk26 _ _ _ _ _ _ _ h G hl
def fr_zoneBest_b64 (k26 : MS → Int32 → Int32 → Int32 → Option (Int32 × MS)) (S : MS) (l1 : Int32) (l3 : Int32) : Option (Int32 × MS) := fr_zoneBest_b66 k26 S l1 l3 l3
set_option maxHeartbeats 4000000 in
set_option maxRecDepth 100000 in
theorem tr_zoneBest_b64 {p : Program} {l : Launch} {e : Env} {s : State} {m : MethodId} {args : Array Value} {below : List Frame} {meth : Method} {c : Code} {Q : State → Prop} {D : va_G} {A : Nat → Prop} {H0 : Heap} {cI cJ cZ : ClassId} {ad : Nat → Nat} {r1 : Int32} {S1 : MS} (E : mE p c cX12_zoneBest s m args (Cond.code yX12_zoneBest cX12_zoneBest 4 (some .int) :: wsM) D cI cJ cZ) (hA : ∀ q : Nat, H0.size ≤ q → A q) (hR : sR s) (hml : c.maxLocals = 4) (kr13 : ∀ (H : Heap) (locs : List Loc) (ls : Array Slot), mG D cI cJ cZ ad A H0 H locs S1 → W p l e { frames := 7, cells := 0, slots := 0, locals := 140 } s m args below meth c H locs 0 0 Q (F0 m 13 ls [.int r1])) (kr73 : ∀ (H : Heap) (locs : List Loc) (ls : Array Slot), mG D cI cJ cZ ad A H0 H locs S1 → W p l e { frames := 7, cells := 0, slots := 0, locals := 140 } s m args below meth c H locs 0 0 Q (F0 m 73 ls [.int r1])) {k26 : MS → Int32 → Int32 → Int32 → Option (Int32 × MS)} (hk26 : ∀ (S : MS) (H : Heap) (locs : List Loc) (ls : Array Slot) (l1 : Int32) (l2 : Int32) (l3 : Int32), k26 S l1 l2 l3 = some (r1, S1) → mG D cI cJ cZ ad A H0 H locs S → lv_has ls 4 [(0, .ref (ad 0)), (1, .int l1), (2, .int l2), (3, .int l3)] → W p l e { frames := 7, cells := 0, slots := 0, locals := 140 } s m args below meth c H locs 0 0 Q (F0 m 26 ls [])) : ∀ (S : MS) (H : Heap) (locs : List Loc) (ls : Array Slot) (l1 : Int32) (l3 : Int32), fr_zoneBest_b64 k26 S l1 l3 = some (r1, S1) → mG D cI cJ cZ ad A H0 H locs S → lv_has ls 4 [(0, .ref (ad 0)), (1, .int l1), (3, .int l3)] → W p l e { frames := 7, cells := 0, slots := 0, locals := 140 } s m args below meth c H locs 0 0 Q (F0 m 64 ls []) := by
  have hx := E.1
  have hb := E.2.1
  have hts := E.2.2.1
  have hown := E.2.2.2.1
  have hK := E.2.2.2.2.1
  intro S H locs ls l1 l3 h G hl
  unfold fr_zoneBest_b64 at h
  refine lv_iload_n hx hb dX12_zoneBest_64 rfl (lv_at hl 2 rfl) ?_
  refine lv_istore_n (lv' := [(2, .int l3), (0, .ref (ad 0)), (1, .int l1), (3, .int l3)]) hx hb dX12_zoneBest_65 rfl hl (by decide) rfl (fun ls hl => ?_)
  have hl := lv_sub hl [1, 2, 0, 3] rfl
  exact tr_zoneBest_b66 E hA hR hml kr13 kr73 hk26 _ _ _ _ _ _ _ h G hl
def fr_zoneBest_b26  : Nat → MS → Int32 → Int32 → Int32 → Option (Int32 × MS)
  | 0, _, _, _, _ => none
  | n + 1, S, l1, l2, l3 => obind2 (fr_cellCount S) fun r5 S2 => if r5 ≤ l3 then (some (l2, S2)) else (obind2 (fr_isInZone S2 l1 l3) fun r10 S7 => if r10 = 0 then (fr_zoneBest_b66 (fr_zoneBest_b26 n) S7 l1 l2 l3) else (if l2 = (-1) then (fr_zoneBest_b64 (fr_zoneBest_b26 n) S7 l1 l3) else (oif (inb l3 144 = true) <| elet (S7.2.2 25 l3.toNatClampNeg) fun v14 => oif (inb l2 144 = true) <| elet (S7.2.2 25 l2.toNatClampNeg) fun v16 => elet (lg_cmp v14 v16) fun v17 => if v17 ≤ 0 then (fr_zoneBest_b66 (fr_zoneBest_b26 n) S7 l1 l2 l3) else (fr_zoneBest_b64 (fr_zoneBest_b26 n) S7 l1 l3))))
set_option maxHeartbeats 4000000 in
set_option maxRecDepth 100000 in
theorem tr_zoneBest_b26 {p : Program} {l : Launch} {e : Env} {s : State} {m : MethodId} {args : Array Value} {below : List Frame} {meth : Method} {c : Code} {Q : State → Prop} {D : va_G} {A : Nat → Prop} {H0 : Heap} {cI cJ cZ : ClassId} {ad : Nat → Nat} {r1 : Int32} {S1 : MS} (E : mE p c cX12_zoneBest s m args (Cond.code yX12_zoneBest cX12_zoneBest 4 (some .int) :: wsM) D cI cJ cZ) (hA : ∀ q : Nat, H0.size ≤ q → A q) (hR : sR s) (hml : c.maxLocals = 4) (kr13 : ∀ (H : Heap) (locs : List Loc) (ls : Array Slot), mG D cI cJ cZ ad A H0 H locs S1 → W p l e { frames := 7, cells := 0, slots := 0, locals := 140 } s m args below meth c H locs 0 0 Q (F0 m 13 ls [.int r1])) (kr73 : ∀ (H : Heap) (locs : List Loc) (ls : Array Slot), mG D cI cJ cZ ad A H0 H locs S1 → W p l e { frames := 7, cells := 0, slots := 0, locals := 140 } s m args below meth c H locs 0 0 Q (F0 m 73 ls [.int r1])) : ∀ n : Nat, ∀ (S : MS) (H : Heap) (locs : List Loc) (ls : Array Slot) (l1 : Int32) (l2 : Int32) (l3 : Int32), fr_zoneBest_b26 n S l1 l2 l3 = some (r1, S1) → mG D cI cJ cZ ad A H0 H locs S → lv_has ls 4 [(0, .ref (ad 0)), (1, .int l1), (2, .int l2), (3, .int l3)] → W p l e { frames := 7, cells := 0, slots := 0, locals := 140 } s m args below meth c H locs 0 0 Q (F0 m 26 ls []) := by
  have hx := E.1
  have hb := E.2.1
  have hts := E.2.2.1
  have hown := E.2.2.2.1
  have hK := E.2.2.2.2.1
  intro n
  induction n with
  | zero =>
    intro S H locs ls l1 l2 l3 h
    have h : (none : Option (Int32 × MS)) = some (r1, S1) := h
    cases h
  | succ n ih =>
    intro S H locs ls l1 l2 l3 h G hl
    unfold fr_zoneBest_b26 at h
    refine lv_iload_n hx hb dX12_zoneBest_26 rfl (lv_at hl 3 rfl) ?_
    refine lv_aload_n hx hb dX12_zoneBest_27 rfl (lv_at hl 0 rfl) ?_
    obtain ⟨r5, S2, eS2, h⟩ := obind2_some h
    refine m_calli (As := []) (rest := [.int l3]) E G hA hR hml (tr_cellCount l D cI cJ cZ ad S eS2) (cwV 0 hts (gmV qM_204 qM_205 qM_206 qM_35 qM_207) rfl rfl rfl (by decide +kernel) ⟨Nat.le_of_ble_eq_true rfl, Nat.le_of_ble_eq_true rfl⟩) rfl hl.1 rfl (lv_room (Nat.le_of_ble_eq_true rfl)) dX12_zoneBest_28 ⟨Nat.zero_le _, Nat.zero_le _⟩ (fun q3 S4 H locs hq G => ?_)
    obtain ⟨hq1, hq2⟩ := hq
    rw [hq2] at G
    refine lv_to hq1 ?_
    clear hq1 hq2 eS2
    refine lv_icmp_ge (tgt := 72) hx hb dX12_zoneBest_31 (by decide) (fun c6 => ?_) (fun c6 => ?_)
    · have h := oif_pos c6 h
      refine lv_iload_n hx hb dX12_zoneBest_72 rfl (lv_at hl 2 rfl) ?_
      rw [(osome2 h).2] at G
      refine lv_to (osome2 h).1 ?_
      exact kr73 _ _ _ G
    · have h := oif_neg c6 h
      refine lv_aload_n hx hb dX12_zoneBest_34 rfl (lv_at hl 0 rfl) ?_
      refine lv_iload_n hx hb dX12_zoneBest_35 rfl (lv_at hl 1 rfl) ?_
      refine lv_iload_n hx hb dX12_zoneBest_36 rfl (lv_at hl 3 rfl) ?_
      obtain ⟨r10, S7, eS7, h⟩ := obind2_some h
      refine m_calli (As := [.int l1, .int l3]) (rest := []) E G hA hR hml (tr_isInZone l D cI cJ cZ ad S2 l1 l3 eS7) (cwV 2 hts (gmV qM_443 qM_444 qM_445 qM_35 qM_438) rfl rfl rfl (by decide +kernel) ⟨Nat.le_of_ble_eq_true rfl, Nat.le_of_ble_eq_true rfl⟩) rfl hl.1 rfl (lv_room (Nat.le_of_ble_eq_true rfl)) dX12_zoneBest_37 ⟨Nat.zero_le _, Nat.zero_le _⟩ (fun q8 S9 H locs hq G => ?_)
      obtain ⟨hq1, hq2⟩ := hq
      rw [hq2] at G
      refine lv_to hq1 ?_
      clear hq1 hq2 eS7
      refine lv_if_eq (tgt := 66) hx hb dX12_zoneBest_40 (by decide) (fun c11 => ?_) (fun c11 => ?_)
      · have h := oif_pos c11 h
        have hl := lv_sub hl [0, 1, 2, 3] rfl
        exact tr_zoneBest_b66 E hA hR hml kr13 kr73 ih _ _ _ _ _ _ _ h G hl
      · have h := oif_neg c11 h
        refine lv_iload_n hx hb dX12_zoneBest_43 rfl (lv_at hl 2 rfl) ?_
        refine lv_iconst (v := (-1)) hx hb dX12_zoneBest_44 (by decide) ?_
        refine lv_icmp_eq (tgt := 64) hx hb dX12_zoneBest_45 (by decide) (fun c12 => ?_) (fun c12 => ?_)
        · have h := oif_pos c12 h
          have hl := lv_sub hl [0, 1, 3] rfl
          exact tr_zoneBest_b64 E hA hR hml kr13 kr73 ih _ _ _ _ _ _ h G hl
        · have h := oif_neg c12 h
          refine lv_aload_n hx hb dX12_zoneBest_48 rfl (lv_at hl 0 rfl) ?_
          refine m_get E G 25 (v := .ref (ad 25)) (by decide) (.tail _ qM_21) rfl dX12_zoneBest_49 rfl ?_
          refine lv_iload_n hx hb dX12_zoneBest_52 rfl (lv_at hl 3 rfl) ?_
          obtain ⟨g13, h⟩ := oif_some h
          refine m_lald E G 25 13 (n := 144) (k := l3.toNatClampNeg) rfl (inb_k g13).1 (inb_k g13).2 (by decide) dX12_zoneBest_53 ?_
          refine lv_topl (fun v14 ev14 => ?_)
          have h := elet_at ev14 h
          clear ev14
          refine lv_aload_n hx hb dX12_zoneBest_54 rfl (lv_at hl 0 rfl) ?_
          refine m_get E G 25 (v := .ref (ad 25)) (by decide) (.tail _ qM_21) rfl dX12_zoneBest_55 rfl ?_
          refine lv_iload_n hx hb dX12_zoneBest_58 rfl (lv_at hl 2 rfl) ?_
          obtain ⟨g15, h⟩ := oif_some h
          refine m_lald E G 25 13 (n := 144) (k := l2.toNatClampNeg) rfl (inb_k g15).1 (inb_k g15).2 (by decide) dX12_zoneBest_59 ?_
          refine lv_topl (fun v16 ev16 => ?_)
          have h := elet_at ev16 h
          clear ev16
          refine W.lcmp hx hb dX12_zoneBest_60 ?_
          refine lv_topi (fun v17 ev17 => ?_)
          have h := elet_at ev17 h
          clear ev17
          refine lv_if_le (tgt := 66) hx hb dX12_zoneBest_61 (by decide) (fun c18 => ?_) (fun c18 => ?_)
          · have h := oif_pos c18 h
            have hl := lv_sub hl [0, 1, 2, 3] rfl
            exact tr_zoneBest_b66 E hA hR hml kr13 kr73 ih _ _ _ _ _ _ _ h G hl
          · have h := oif_neg c18 h
            have hl := lv_sub hl [0, 1, 3] rfl
            exact tr_zoneBest_b64 E hA hR hml kr13 kr73 ih _ _ _ _ _ _ h G hl
def fr_zoneBest (S : MS) (a0 : Int32) : Option (Int32 × MS) := obind2 (fr_isZone S a0) fun r5 S2 => obind2 (fr_mayAsk S2 r5) fun r9 S6 => if r9 = 0 then (some (0, S6)) else (obind (fr_laysPowers_12 S6) fun S11 => fr_zoneBest_b26 16384 S11 a0 (-1) 0)
set_option maxHeartbeats 4000000 in
set_option maxRecDepth 100000 in
theorem tr_zoneBest (l : Launch) (D : va_G) (cI cJ cZ : ClassId) (ad : Nat → Nat) (S : MS) (a0 : Int32) {r1 : Int32} {S1 : MS} (h : fr_zoneBest S a0 = some (r1, S1)) : mCi l yX12_zoneBest (Cond.code yX12_zoneBest cX12_zoneBest 4 (some .int) :: wsM) 7 140 D cI cJ cZ ad S [.int a0] (fun r S9 => r = r1 ∧ S9 = S1) := by
  intro sz
  refine Met.ofW (cc := cX12_zoneBest) (maxL := 4) (ret := (some .int)) (by decide) rfl ?_
  intro p e s m args below meth c s₁ B hml hv
  obtain ⟨rfl, hsz, hP, hK, hD0, hR⟩ := hv
  have hx := B.exec
  have hb := B.bytes
  have hr := B.returns
  have hts := atoms_spec (ws := (Cond.code yX12_zoneBest cX12_zoneBest 4 (some .int) :: wsM)) B.pre
  have hown : s.vm.findClass RX12 = some m.cls := findClass_of_methodNamed B.named
  have hlocks := B.notSynchronized
  subst hsz
  have hD := hD0.self (sz := s.heap.size)
  generalize hAe : va_A (MW cI cJ cZ ad S) s.heap.size = A at hD ⊢
  have hA : ∀ q : Nat, s.heap.size ≤ q → A q := fun q h => by rw [← hAe]; exact Or.inr h
  have G : mG D cI cJ cZ ad A s.heap s.heap [] S := ⟨hP, hD, va_S.rf⟩
  have E : mE p c cX12_zoneBest s m ([.ref (ad 0), .int a0] : List Value).toArray (Cond.code yX12_zoneBest cX12_zoneBest 4 (some .int) :: wsM) D cI cJ cZ := ⟨hx, hb, hts, hown, hK, fun w h => .tail _ (iM_x h)⟩
  have hl := lv_entry ([.ref (ad 0), .int a0]) (n := 4) (Nat.le_of_ble_eq_true rfl)
  rw [lg_entry_eq]
  generalize (lg_sl ([.ref (ad 0), .int a0]) ++ List.replicate (4 - (lg_sl ([.ref (ad 0), .int a0])).length) Slot.unset).toArray = ls at hl ⊢
  have hl : lv_has ls 4 [(0, .ref (ad 0)), (1, .int a0)] := hl
  unfold fr_zoneBest at h
  refine lv_aload_n hx hb dX12_zoneBest_0 rfl (lv_at hl 0 rfl) ?_
  refine lv_aload_n hx hb dX12_zoneBest_1 rfl (lv_at hl 0 rfl) ?_
  refine lv_iload_n hx hb dX12_zoneBest_2 rfl (lv_at hl 1 rfl) ?_
  obtain ⟨r5, S2, eS2, h⟩ := obind2_some h
  refine m_calli (As := [.int a0]) (rest := [.ref (ad 0)]) E G hA hR hml (tr_isZone l D cI cJ cZ ad S a0 eS2) (cwV 1 hts (gmV qM_440 qM_441 qM_442 qM_35 qM_437) rfl rfl rfl (by decide +kernel) ⟨Nat.le_of_ble_eq_true rfl, Nat.le_of_ble_eq_true rfl⟩) rfl hl.1 rfl (lv_room (Nat.le_of_ble_eq_true rfl)) dX12_zoneBest_3 ⟨Nat.zero_le _, Nat.zero_le _⟩ (fun q3 S4 H locs hq G => ?_)
  obtain ⟨hq1, hq2⟩ := hq
  rw [hq2] at G
  refine lv_to hq1 ?_
  clear hq1 hq2 eS2
  obtain ⟨r9, S6, eS6, h⟩ := obind2_some h
  refine m_calli (As := [.int r5]) (rest := []) E G hA hR hml (tr_mayAsk l D cI cJ cZ ad S2 r5 eS6) (cwV 1 hts (gmV qM_319 qM_320 qM_321 qM_35 qM_304) rfl rfl rfl (by decide +kernel) ⟨Nat.le_of_ble_eq_true rfl, Nat.le_of_ble_eq_true rfl⟩) rfl hl.1 rfl (lv_room (Nat.le_of_ble_eq_true rfl)) dX12_zoneBest_6 ⟨Nat.zero_le _, Nat.zero_le _⟩ (fun q7 S8 H locs hq G => ?_)
  obtain ⟨hq1, hq2⟩ := hq
  rw [hq2] at G
  refine lv_to hq1 ?_
  clear hq1 hq2 eS6
  refine lv_if_ne (tgt := 14) hx hb dX12_zoneBest_9 (by decide) (fun c10 => ?_) (fun c10 => ?_)
  · have h := oif_neg c10 h
    refine lv_aload_n hx hb dX12_zoneBest_14 rfl (lv_at hl 0 rfl) ?_
    refine lv_aload_n hx hb dX12_zoneBest_15 rfl (lv_at hl 0 rfl) ?_
    refine m_get E G 12 (v := .ref (ad 12)) (by decide) (.tail _ qM_9) rfl dX12_zoneBest_16 rfl ?_
    obtain ⟨S11, eS11, h⟩ := obind_some h
    refine m_callv (As := [.ref (ad 12)]) (rest := []) E G hA hR hml (tr_laysPowers_12 l D cI cJ cZ ad S6 eS11) (cwV 1 hts (gmV qM_301 qM_302 qM_303 qM_35 qM_296) rfl rfl rfl (by decide +kernel) ⟨Nat.le_of_ble_eq_true rfl, Nat.le_of_ble_eq_true rfl⟩) rfl hl.1 rfl (lv_room (Nat.le_of_ble_eq_true rfl)) dX12_zoneBest_19 ⟨Nat.zero_le _, Nat.zero_le _⟩ (fun S13 H locs hq G => ?_)
    rw [hq] at G
    clear hq eS11
    refine lv_iconst (v := (-1)) hx hb dX12_zoneBest_22 (by decide) ?_
    refine lv_istore_n (lv' := [(2, .int (-1)), (0, .ref (ad 0)), (1, .int a0)]) hx hb dX12_zoneBest_23 rfl hl (by decide) rfl (fun ls hl => ?_)
    refine lv_iconst (v := 0) hx hb dX12_zoneBest_24 (by decide) ?_
    refine lv_istore_n (lv' := [(3, .int 0), (2, .int (-1)), (0, .ref (ad 0)), (1, .int a0)]) hx hb dX12_zoneBest_25 rfl hl (by decide) rfl (fun ls hl => ?_)
    have hl := lv_sub hl [2, 3, 1, 0] rfl
    exact tr_zoneBest_b26 E hA hR hml (fun H locs ls G => W.iret (v := r1) hx hb hr (fun t ht hW => ⟨⟨r1, S1, rfl, ⟨rfl, rfl⟩, ⟨by rw [ht]; exact G.1, va_K.moved hW.alike hK, G.2.1⟩⟩, G.2.2.F ht⟩) G.2.2.2.2 dX12_zoneBest_13) (fun H locs ls G => W.iret (v := r1) hx hb hr (fun t ht hW => ⟨⟨r1, S1, rfl, ⟨rfl, rfl⟩, ⟨by rw [ht]; exact G.1, va_K.moved hW.alike hK, G.2.1⟩⟩, G.2.2.F ht⟩) G.2.2.2.2 dX12_zoneBest_73) _ _ _ _ _ _ _ _ h G hl
  · have h := oif_pos c10 h
    refine lv_iconst (v := 0) hx hb dX12_zoneBest_12 (by decide) ?_
    exact W.iret (v := 0) hx hb hr (fun t ht hW => ⟨⟨0, S6, rfl, osome2 h, ⟨by rw [ht]; exact G.1, va_K.moved hW.alike hK, G.2.1⟩⟩, G.2.2.F ht⟩) G.2.2.2.2 dX12_zoneBest_13
def fr_movingOf_b6  : Nat → MS → Int32 → Int32 → Int32 → Int64 → Int32 → Option (Int64 × MS)
  | 0, _, _, _, _, _, _ => none
  | n + 1, S, l1, l2, l3, l4, l6 => elet (S.2.1 10 2) fun v2 => if v2 ≤ l6 then (elet (S.2.1 10 2) fun v4 => elet (v4.toInt64) fun v5 => oif (¬ v5 = 0) <| elet (l4 / v5) fun v7 => some (v7, S)) else (obind2 (fr_centre S l1 0) fun r11 S8 => elet (l2 * l6) fun v12 => elet (v12 / 100) fun v13 => elet (r11 + v13) fun v14 => obind2 (fr_centre S8 l1 1) fun r18 S15 => elet (l3 * l6) fun v19 => elet (v19 / 100) fun v20 => elet (r18 + v20) fun v21 => obind (fr_laysPoint S15 v14 v21) fun S22 => obind2 (fr_beamAt_12 S22 l6) fun r28 S25 => elet (r28.toInt64) fun v29 => elet (v29 * v29) fun v30 => elet (l4 + v30) fun v31 => elet (l6 + Int32.ofInt (1)) fun v32 => fr_movingOf_b6 n S25 l1 l2 l3 v31 v32)
set_option maxHeartbeats 4000000 in
set_option maxRecDepth 100000 in
theorem tr_movingOf_b6 {p : Program} {l : Launch} {e : Env} {s : State} {m : MethodId} {args : Array Value} {below : List Frame} {meth : Method} {c : Code} {Q : State → Prop} {D : va_G} {A : Nat → Prop} {H0 : Heap} {cI cJ cZ : ClassId} {ad : Nat → Nat} {r1 : Int64} {S1 : MS} (E : mE p c cX12_movingOf s m args (Cond.code yX12_movingOf cX12_movingOf 9 (some .long) :: wsM) D cI cJ cZ) (hA : ∀ q : Nat, H0.size ≤ q → A q) (hR : sR s) (hml : c.maxLocals = 9) (kr88 : ∀ (H : Heap) (locs : List Loc) (ls : Array Slot), mG D cI cJ cZ ad A H0 H locs S1 → W p l e { frames := 4, cells := 0, slots := 0, locals := 73 } s m args below meth c H locs 0 0 Q (F0 m 88 ls [.long r1])) : ∀ n : Nat, ∀ (S : MS) (H : Heap) (locs : List Loc) (ls : Array Slot) (l1 : Int32) (l2 : Int32) (l3 : Int32) (l4 : Int64) (l6 : Int32), fr_movingOf_b6 n S l1 l2 l3 l4 l6 = some (r1, S1) → mG D cI cJ cZ ad A H0 H locs S → lv_has ls 9 [(0, .ref (ad 0)), (1, .int l1), (2, .int l2), (3, .int l3), (4, .long l4), (6, .int l6)] → W p l e { frames := 4, cells := 0, slots := 0, locals := 73 } s m args below meth c H locs 0 0 Q (F0 m 6 ls []) := by
  have hx := E.1
  have hb := E.2.1
  have hts := E.2.2.1
  have hown := E.2.2.2.1
  have hK := E.2.2.2.2.1
  intro n
  induction n with
  | zero =>
    intro S H locs ls l1 l2 l3 l4 l6 h
    have h : (none : Option (Int64 × MS)) = some (r1, S1) := h
    cases h
  | succ n ih =>
    intro S H locs ls l1 l2 l3 l4 l6 h G hl
    unfold fr_movingOf_b6 at h
    refine lv_iload hx hb dX12_movingOf_6 (lv_at hl 5 rfl) ?_
    refine lv_aload_n hx hb dX12_movingOf_8 rfl (lv_at hl 0 rfl) ?_
    refine m_get E G 10 (v := .ref (ad 10)) (by decide) (.tail _ qM_7) rfl dX12_movingOf_9 rfl ?_
    refine lv_iconst (v := 2) hx hb dX12_movingOf_12 (by decide) ?_
    refine m_iald E G 10 2 (n := 131) (k := 2) rfl rfl (by decide) (by decide) dX12_movingOf_13 ?_
    refine lv_topi (fun v2 ev2 => ?_)
    have h := elet_at ev2 h
    clear ev2
    refine lv_icmp_ge (tgt := 78) hx hb dX12_movingOf_14 (by decide) (fun c3 => ?_) (fun c3 => ?_)
    · have h := oif_pos c3 h
      refine lv_lload hx hb dX12_movingOf_78 (lv_at hl 4 rfl) ?_
      refine lv_aload_n hx hb dX12_movingOf_80 rfl (lv_at hl 0 rfl) ?_
      refine m_get E G 10 (v := .ref (ad 10)) (by decide) (.tail _ qM_7) rfl dX12_movingOf_81 rfl ?_
      refine lv_iconst (v := 2) hx hb dX12_movingOf_84 (by decide) ?_
      refine m_iald E G 10 2 (n := 131) (k := 2) rfl rfl (by decide) (by decide) dX12_movingOf_85 ?_
      refine lv_topi (fun v4 ev4 => ?_)
      have h := elet_at ev4 h
      clear ev4
      refine lv_i2l (v := v4.toInt64) hx hb dX12_movingOf_86 rfl ?_
      refine lv_topl (fun v5 ev5 => ?_)
      have h := elet_at ev5 h
      clear ev5
      obtain ⟨g6, h⟩ := oif_some h
      refine lv_ldiv hx hb dX12_movingOf_87 g6 ?_
      refine lv_topl (fun v7 ev7 => ?_)
      have h := elet_at ev7 h
      clear ev7
      rw [(osome2 h).2] at G
      refine lv_tol (osome2 h).1 ?_
      exact kr88 _ _ _ G
    · have h := oif_neg c3 h
      refine lv_aload_n hx hb dX12_movingOf_17 rfl (lv_at hl 0 rfl) ?_
      refine lv_aload_n hx hb dX12_movingOf_18 rfl (lv_at hl 0 rfl) ?_
      refine lv_iload_n hx hb dX12_movingOf_19 rfl (lv_at hl 1 rfl) ?_
      refine lv_iconst (v := 0) hx hb dX12_movingOf_20 (by decide) ?_
      obtain ⟨r11, S8, eS8, h⟩ := obind2_some h
      refine m_calli (As := [.int l1, .int 0]) (rest := [.ref (ad 0)]) E G hA hR hml (tr_centre l D cI cJ cZ ad S l1 0 eS8) (cwV 2 hts (gmV qM_208 qM_209 qM_210 qM_35 qM_211) rfl rfl rfl (by decide +kernel) ⟨Nat.le_of_ble_eq_true rfl, Nat.le_of_ble_eq_true rfl⟩) rfl hl.1 rfl (lv_room (Nat.le_of_ble_eq_true rfl)) dX12_movingOf_21 ⟨Nat.zero_le _, Nat.zero_le _⟩ (fun q9 S10 H locs hq G => ?_)
      obtain ⟨hq1, hq2⟩ := hq
      rw [hq2] at G
      refine lv_to hq1 ?_
      clear hq1 hq2 eS8
      refine lv_iload_n hx hb dX12_movingOf_24 rfl (lv_at hl 2 rfl) ?_
      refine lv_iload hx hb dX12_movingOf_25 (lv_at hl 5 rfl) ?_
      refine lv_imul hx hb dX12_movingOf_27 ?_
      refine lv_topi (fun v12 ev12 => ?_)
      have h := elet_at ev12 h
      clear ev12
      refine lv_bipush (v := 100) hx hb dX12_movingOf_28 (by decide) ?_
      refine lv_idiv hx hb dX12_movingOf_30 (by decide) ?_
      refine lv_topi (fun v13 ev13 => ?_)
      have h := elet_at ev13 h
      clear ev13
      refine lv_iadd hx hb dX12_movingOf_31 ?_
      refine lv_topi (fun v14 ev14 => ?_)
      have h := elet_at ev14 h
      clear ev14
      refine lv_aload_n hx hb dX12_movingOf_32 rfl (lv_at hl 0 rfl) ?_
      refine lv_iload_n hx hb dX12_movingOf_33 rfl (lv_at hl 1 rfl) ?_
      refine lv_iconst (v := 1) hx hb dX12_movingOf_34 (by decide) ?_
      obtain ⟨r18, S15, eS15, h⟩ := obind2_some h
      refine m_calli (As := [.int l1, .int 1]) (rest := [.int v14, .ref (ad 0)]) E G hA hR hml (tr_centre l D cI cJ cZ ad S8 l1 1 eS15) (cwV 2 hts (gmV qM_208 qM_209 qM_210 qM_35 qM_211) rfl rfl rfl (by decide +kernel) ⟨Nat.le_of_ble_eq_true rfl, Nat.le_of_ble_eq_true rfl⟩) rfl hl.1 rfl (lv_room (Nat.le_of_ble_eq_true rfl)) dX12_movingOf_35 ⟨Nat.zero_le _, Nat.zero_le _⟩ (fun q16 S17 H locs hq G => ?_)
      obtain ⟨hq1, hq2⟩ := hq
      rw [hq2] at G
      refine lv_to hq1 ?_
      clear hq1 hq2 eS15
      refine lv_iload_n hx hb dX12_movingOf_38 rfl (lv_at hl 3 rfl) ?_
      refine lv_iload hx hb dX12_movingOf_39 (lv_at hl 5 rfl) ?_
      refine lv_imul hx hb dX12_movingOf_41 ?_
      refine lv_topi (fun v19 ev19 => ?_)
      have h := elet_at ev19 h
      clear ev19
      refine lv_bipush (v := 100) hx hb dX12_movingOf_42 (by decide) ?_
      refine lv_idiv hx hb dX12_movingOf_44 (by decide) ?_
      refine lv_topi (fun v20 ev20 => ?_)
      have h := elet_at ev20 h
      clear ev20
      refine lv_iadd hx hb dX12_movingOf_45 ?_
      refine lv_topi (fun v21 ev21 => ?_)
      have h := elet_at ev21 h
      clear ev21
      obtain ⟨S22, eS22, h⟩ := obind_some h
      refine m_callv (As := [.int v14, .int v21]) (rest := []) E G hA hR hml (tr_laysPoint l D cI cJ cZ ad S15 v14 v21 eS22) (cwV 2 hts (gmV qM_356 qM_357 qM_358 qM_35 qM_271) rfl rfl rfl (by decide +kernel) ⟨Nat.le_of_ble_eq_true rfl, Nat.le_of_ble_eq_true rfl⟩) rfl hl.1 rfl (lv_room (Nat.le_of_ble_eq_true rfl)) dX12_movingOf_46 ⟨Nat.zero_le _, Nat.zero_le _⟩ (fun S24 H locs hq G => ?_)
      rw [hq] at G
      clear hq eS22
      refine lv_aload_n hx hb dX12_movingOf_49 rfl (lv_at hl 0 rfl) ?_
      refine lv_aload_n hx hb dX12_movingOf_50 rfl (lv_at hl 0 rfl) ?_
      refine m_get E G 12 (v := .ref (ad 12)) (by decide) (.tail _ qM_9) rfl dX12_movingOf_51 rfl ?_
      refine lv_iload hx hb dX12_movingOf_54 (lv_at hl 5 rfl) ?_
      obtain ⟨r28, S25, eS25, h⟩ := obind2_some h
      refine m_calli (As := [.ref (ad 12), .int l6]) (rest := []) E G hA hR hml (tr_beamAt_12 l D cI cJ cZ ad S22 l6 eS25) (cwV 2 hts (gmV qM_279 qM_280 qM_281 qM_35 qM_277) rfl rfl rfl (by decide +kernel) ⟨Nat.le_of_ble_eq_true rfl, Nat.le_of_ble_eq_true rfl⟩) rfl hl.1 rfl (lv_room (Nat.le_of_ble_eq_true rfl)) dX12_movingOf_56 ⟨Nat.zero_le _, Nat.zero_le _⟩ (fun q26 S27 H locs hq G => ?_)
      obtain ⟨hq1, hq2⟩ := hq
      rw [hq2] at G
      refine lv_to hq1 ?_
      clear hq1 hq2 eS25
      refine lv_i2l (v := r28.toInt64) hx hb dX12_movingOf_59 rfl ?_
      refine lv_topl (fun v29 ev29 => ?_)
      have h := elet_at ev29 h
      clear ev29
      refine lv_lstore (lv' := [(7, .long v29), (0, .ref (ad 0)), (1, .int l1), (2, .int l2), (3, .int l3), (4, .long l4), (6, .int l6)]) hx hb dX12_movingOf_60 hl (by decide) rfl (fun ls hl => ?_)
      refine lv_lload hx hb dX12_movingOf_62 (lv_at hl 5 rfl) ?_
      refine lv_lload hx hb dX12_movingOf_64 (lv_at hl 0 rfl) ?_
      refine lv_lload hx hb dX12_movingOf_66 (lv_at hl 0 rfl) ?_
      refine lv_lmul hx hb dX12_movingOf_68 ?_
      refine lv_topl (fun v30 ev30 => ?_)
      have h := elet_at ev30 h
      clear ev30
      refine lv_ladd hx hb dX12_movingOf_69 ?_
      refine lv_topl (fun v31 ev31 => ?_)
      have h := elet_at ev31 h
      clear ev31
      refine lv_lstore (lv' := [(4, .long v31), (7, .long v29), (0, .ref (ad 0)), (1, .int l1), (2, .int l2), (3, .int l3), (6, .int l6)]) hx hb dX12_movingOf_70 hl (by decide) rfl (fun ls hl => ?_)
      obtain ⟨v32, ev32, h⟩ := elet_some h
      refine lv_iinc (v := v32) (lv' := [(6, .int v32), (4, .long v31), (7, .long v29), (0, .ref (ad 0)), (1, .int l1), (2, .int l2), (3, .int l3)]) hx hb dX12_movingOf_72 hl (k := 6) rfl ev32.symm (by decide) rfl (fun ls hl => ?_)
      refine lv_goto (tgt := 6) hx hb dX12_movingOf_75 (by decide) ?_
      have hl := lv_sub hl [3, 4, 5, 6, 1, 0] rfl
      exact ih _ _ _ _ _ _ _ _ _ h G hl
def fr_movingOf (S : MS) (a0 : Int32) (a1 : Int32) (a2 : Int32) : Option (Int64 × MS) := fr_movingOf_b6 16384 S a0 a1 a2 (0 : Int64) 0
set_option maxHeartbeats 4000000 in
set_option maxRecDepth 100000 in
theorem tr_movingOf (l : Launch) (D : va_G) (cI cJ cZ : ClassId) (ad : Nat → Nat) (S : MS) (a0 : Int32) (a1 : Int32) (a2 : Int32) {r1 : Int64} {S1 : MS} (h : fr_movingOf S a0 a1 a2 = some (r1, S1)) : mCl l yX12_movingOf (Cond.code yX12_movingOf cX12_movingOf 9 (some .long) :: wsM) 4 73 D cI cJ cZ ad S [.int a0, .int a1, .int a2] (fun r S9 => r = r1 ∧ S9 = S1) := by
  intro sz
  refine Met.ofW (cc := cX12_movingOf) (maxL := 9) (ret := (some .long)) (by decide) rfl ?_
  intro p e s m args below meth c s₁ B hml hv
  obtain ⟨rfl, hsz, hP, hK, hD0, hR⟩ := hv
  have hx := B.exec
  have hb := B.bytes
  have hr := B.returns
  have hts := atoms_spec (ws := (Cond.code yX12_movingOf cX12_movingOf 9 (some .long) :: wsM)) B.pre
  have hown : s.vm.findClass RX12 = some m.cls := findClass_of_methodNamed B.named
  have hlocks := B.notSynchronized
  subst hsz
  have hD := hD0.self (sz := s.heap.size)
  generalize hAe : va_A (MW cI cJ cZ ad S) s.heap.size = A at hD ⊢
  have hA : ∀ q : Nat, s.heap.size ≤ q → A q := fun q h => by rw [← hAe]; exact Or.inr h
  have G : mG D cI cJ cZ ad A s.heap s.heap [] S := ⟨hP, hD, va_S.rf⟩
  have E : mE p c cX12_movingOf s m ([.ref (ad 0), .int a0, .int a1, .int a2] : List Value).toArray (Cond.code yX12_movingOf cX12_movingOf 9 (some .long) :: wsM) D cI cJ cZ := ⟨hx, hb, hts, hown, hK, fun w h => .tail _ (iM_x h)⟩
  have hl := lv_entry ([.ref (ad 0), .int a0, .int a1, .int a2]) (n := 9) (Nat.le_of_ble_eq_true rfl)
  rw [lg_entry_eq]
  generalize (lg_sl ([.ref (ad 0), .int a0, .int a1, .int a2]) ++ List.replicate (9 - (lg_sl ([.ref (ad 0), .int a0, .int a1, .int a2])).length) Slot.unset).toArray = ls at hl ⊢
  have hl : lv_has ls 9 [(0, .ref (ad 0)), (1, .int a0), (2, .int a1), (3, .int a2)] := hl
  unfold fr_movingOf at h
  refine lv_lconst (v := 0) hx hb dX12_movingOf_0 (by decide) ?_
  refine lv_lstore (lv' := [(4, .long (0 : Int64)), (0, .ref (ad 0)), (1, .int a0), (2, .int a1), (3, .int a2)]) hx hb dX12_movingOf_1 hl (by decide) rfl (fun ls hl => ?_)
  refine lv_iconst (v := 0) hx hb dX12_movingOf_3 (by decide) ?_
  refine lv_istore (lv' := [(6, .int 0), (4, .long (0 : Int64)), (0, .ref (ad 0)), (1, .int a0), (2, .int a1), (3, .int a2)]) hx hb dX12_movingOf_4 hl (by decide) rfl (fun ls hl => ?_)
  have hl := lv_sub hl [2, 3, 4, 5, 1, 0] rfl
  exact tr_movingOf_b6 E hA hR hml (fun H locs ls G => W.lret (v := r1) hx hb hr (fun t ht hW => ⟨⟨r1, S1, rfl, ⟨rfl, rfl⟩, ⟨by rw [ht]; exact G.1, va_K.moved hW.alike hK, G.2.1⟩⟩, G.2.2.F ht⟩) G.2.2.2.2 dX12_movingOf_88) _ _ _ _ _ _ _ _ _ _ h G hl
def fr_isVelocity_b31   (s0 : Int32) : Option (Int32) := oif (s0 = 0 ∨ s0 = 1) <| some s0
set_option maxHeartbeats 4000000 in
set_option maxRecDepth 100000 in
theorem tr_isVelocity_b31 {p : Program} {l : Launch} {e : Env} {s : State} {m : MethodId} {args : Array Value} {below : List Frame} {meth : Method} {c : Code} {Q : State → Prop} {r1 : Int32} (E : p.tables.exec = Jvm.exec ∧ c.code = cX12_isVelocity ∧ (∀ w ∈ (Cond.code yX12_isVelocity cX12_isVelocity 2 (some .boolean) :: wsM), w.before args s = true) ∧ s.vm.findClass RX12 = some m.cls) (hml : c.maxLocals = 2) (kr31 : ∀ (ls : Array Slot), (r1 = 0 ∨ r1 = 1) → W p l e { frames := 2, cells := 0, slots := 0, locals := 22 } s m args below meth c s.heap [] 0 0 Q (F0 m 31 ls [.int r1])) : ∀ (ls : Array Slot) (s0 : Int32), fr_isVelocity_b31 s0 = some r1 → lv_has ls 2 [] → W p l e { frames := 2, cells := 0, slots := 0, locals := 22 } s m args below meth c s.heap [] 0 0 Q (F0 m 31 ls [.int s0]) := by
  have hx := E.1
  have hb := E.2.1
  have hts := E.2.2.1
  have hown := E.2.2.2
  intro ls s0 h hl
  unfold fr_isVelocity_b31 at h
  obtain ⟨gz, h⟩ := oif_some h
  have gr : r1 = 0 ∨ r1 = 1 := by rw [← osome1 h]; exact gz
  refine lv_to (osome1 h) ?_
  exact kr31 _ gr
def fr_isVelocity_b30    : Option (Int32) := fr_isVelocity_b31 0
set_option maxHeartbeats 4000000 in
set_option maxRecDepth 100000 in
theorem tr_isVelocity_b30 {p : Program} {l : Launch} {e : Env} {s : State} {m : MethodId} {args : Array Value} {below : List Frame} {meth : Method} {c : Code} {Q : State → Prop} {r1 : Int32} (E : p.tables.exec = Jvm.exec ∧ c.code = cX12_isVelocity ∧ (∀ w ∈ (Cond.code yX12_isVelocity cX12_isVelocity 2 (some .boolean) :: wsM), w.before args s = true) ∧ s.vm.findClass RX12 = some m.cls) (hml : c.maxLocals = 2) (kr31 : ∀ (ls : Array Slot), (r1 = 0 ∨ r1 = 1) → W p l e { frames := 2, cells := 0, slots := 0, locals := 22 } s m args below meth c s.heap [] 0 0 Q (F0 m 31 ls [.int r1])) : ∀ (ls : Array Slot), fr_isVelocity_b30 = some r1 → lv_has ls 2 [] → W p l e { frames := 2, cells := 0, slots := 0, locals := 22 } s m args below meth c s.heap [] 0 0 Q (F0 m 30 ls []) := by
  have hx := E.1
  have hb := E.2.1
  have hts := E.2.2.1
  have hown := E.2.2.2
  intro ls h hl
  unfold fr_isVelocity_b30 at h
  refine lv_iconst (v := 0) hx hb dX12_isVelocity_30 (by decide) ?_
  have hl := lv_sub hl [] rfl
  exact tr_isVelocity_b31 E hml kr31 _ _ h hl
def fr_isVelocity  (a0 : Int32) (a1 : Int32) : Option (Int32) := obind (fr_in a0 (-999) 999) fun r2 => if r2 = 0 then (fr_isVelocity_b30) else (obind (fr_in a1 (-999) 999) fun r5 => if r5 = 0 then (fr_isVelocity_b30) else (fr_isVelocity_b31 1))
set_option maxHeartbeats 4000000 in
set_option maxRecDepth 100000 in
theorem tr_isVelocity (l : Launch) (a0 : Int32) (a1 : Int32) {r1 : Int32} (h : fr_isVelocity a0 a1 = some r1) : Met l yX12_isVelocity (Cond.code yX12_isVelocity cX12_isVelocity 2 (some .boolean) :: wsM) { frames := 2, cells := 0, slots := 0, locals := 22 } (va_Pc [.int a0, .int a1] (fun _ => True)) (vp_Si (fun r => r = r1)) 0 0 (fun _ => False) := by
  refine Met.ofW (cc := cX12_isVelocity) (maxL := 2) (ret := (some .boolean)) (by decide) rfl ?_
  intro p e s m args below meth c s₁ B hml hv
  obtain ⟨rfl, -⟩ := hv
  have hx := B.exec
  have hb := B.bytes
  have hr := B.returns
  have hts := atoms_spec (ws := (Cond.code yX12_isVelocity cX12_isVelocity 2 (some .boolean) :: wsM)) B.pre
  have hown : s.vm.findClass RX12 = some m.cls := findClass_of_methodNamed B.named
  have hlocks := B.notSynchronized
  have E : p.tables.exec = Jvm.exec ∧ c.code = cX12_isVelocity ∧ (∀ w ∈ (Cond.code yX12_isVelocity cX12_isVelocity 2 (some .boolean) :: wsM), w.before ([.int a0, .int a1] : List Value).toArray s = true) ∧ s.vm.findClass RX12 = some m.cls := ⟨hx, hb, hts, hown⟩
  have hl := lv_entry ([.int a0, .int a1]) (n := 2) (Nat.le_of_ble_eq_true rfl)
  rw [lg_entry_eq]
  generalize (lg_sl ([.int a0, .int a1]) ++ List.replicate (2 - (lg_sl ([.int a0, .int a1])).length) Slot.unset).toArray = ls at hl ⊢
  have hl : lv_has ls 2 [(0, .int a0), (1, .int a1)] := hl
  unfold fr_isVelocity at h
  refine lv_iload_n hx hb dX12_isVelocity_0 rfl (lv_at hl 0 rfl) ?_
  refine lv_sipush (v := (-999)) hx hb dX12_isVelocity_1 (by decide) ?_
  refine lv_sipush (v := 999) hx hb dX12_isVelocity_4 (by decide) ?_
  obtain ⟨r2, er2, h⟩ := obind_some h
  refine m_stat (As := [.int a0, .int (-999), .int 999]) (rest := []) ⟨hx, hb, hml, hown, hts⟩ (tr_in l a0 (-999) 999 er2) (cwS 3 hts (gmS qM_52 qM_53 qM_35 qM_27) rfl rfl rfl (by decide +kernel) ⟨Nat.le_of_ble_eq_true rfl, Nat.le_of_ble_eq_true rfl⟩) rfl hl.1 rfl (lv_room (Nat.le_of_ble_eq_true rfl)) dX12_isVelocity_7 ⟨Nat.zero_le _, Nat.zero_le _⟩ (fun q3 hq => ?_)
  refine lv_to hq ?_
  clear hq er2
  refine lv_if_eq (tgt := 30) hx hb dX12_isVelocity_10 (by decide) (fun c4 => ?_) (fun c4 => ?_)
  · have h := oif_pos c4 h
    have hl := lv_sub hl [] rfl
    exact tr_isVelocity_b30 E hml (fun ls gz => W.zret (v := r1) hx hb hr (nar01 gz) (fun t ht hW => ⟨r1, rfl, rfl, ht⟩) (fun _ h => absurd h List.not_mem_nil) dX12_isVelocity_31) _ h hl
  · have h := oif_neg c4 h
    refine lv_iload_n hx hb dX12_isVelocity_13 rfl (lv_at hl 1 rfl) ?_
    refine lv_sipush (v := (-999)) hx hb dX12_isVelocity_14 (by decide) ?_
    refine lv_sipush (v := 999) hx hb dX12_isVelocity_17 (by decide) ?_
    obtain ⟨r5, er5, h⟩ := obind_some h
    refine m_stat (As := [.int a1, .int (-999), .int 999]) (rest := []) ⟨hx, hb, hml, hown, hts⟩ (tr_in l a1 (-999) 999 er5) (cwS 3 hts (gmS qM_52 qM_53 qM_35 qM_27) rfl rfl rfl (by decide +kernel) ⟨Nat.le_of_ble_eq_true rfl, Nat.le_of_ble_eq_true rfl⟩) rfl hl.1 rfl (lv_room (Nat.le_of_ble_eq_true rfl)) dX12_isVelocity_20 ⟨Nat.zero_le _, Nat.zero_le _⟩ (fun q6 hq => ?_)
    refine lv_to hq ?_
    clear hq er5
    refine lv_if_eq (tgt := 30) hx hb dX12_isVelocity_23 (by decide) (fun c7 => ?_) (fun c7 => ?_)
    · have h := oif_pos c7 h
      have hl := lv_sub hl [] rfl
      exact tr_isVelocity_b30 E hml (fun ls gz => W.zret (v := r1) hx hb hr (nar01 gz) (fun t ht hW => ⟨r1, rfl, rfl, ht⟩) (fun _ h => absurd h List.not_mem_nil) dX12_isVelocity_31) _ h hl
    · have h := oif_neg c7 h
      refine lv_iconst (v := 1) hx hb dX12_isVelocity_26 (by decide) ?_
      refine lv_goto (tgt := 31) hx hb dX12_isVelocity_27 (by decide) ?_
      have hl := lv_sub hl [] rfl
      exact tr_isVelocity_b31 E hml (fun ls gz => W.zret (v := r1) hx hb hr (nar01 gz) (fun t ht hW => ⟨r1, rfl, rfl, ht⟩) (fun _ h => absurd h List.not_mem_nil) dX12_isVelocity_31) _ _ h hl
def fr_movingPower_b38  (S : MS) (s0 : Int64) : Option (Int64 × MS) := some (s0, S)
set_option maxHeartbeats 4000000 in
set_option maxRecDepth 100000 in
theorem tr_movingPower_b38 {p : Program} {l : Launch} {e : Env} {s : State} {m : MethodId} {args : Array Value} {below : List Frame} {meth : Method} {c : Code} {Q : State → Prop} {D : va_G} {A : Nat → Prop} {H0 : Heap} {cI cJ cZ : ClassId} {ad : Nat → Nat} {r1 : Int64} {S1 : MS} (E : mE p c cX12_movingPower s m args (Cond.code yX12_movingPower cX12_movingPower 4 (some .long) :: wsM) D cI cJ cZ) (hA : ∀ q : Nat, H0.size ≤ q → A q) (hR : sR s) (hml : c.maxLocals = 4) (kr13 : ∀ (H : Heap) (locs : List Loc) (ls : Array Slot), mG D cI cJ cZ ad A H0 H locs S1 → W p l e { frames := 5, cells := 0, slots := 0, locals := 101 } s m args below meth c H locs 0 0 Q (F0 m 13 ls [.long r1])) (kr38 : ∀ (H : Heap) (locs : List Loc) (ls : Array Slot), mG D cI cJ cZ ad A H0 H locs S1 → W p l e { frames := 5, cells := 0, slots := 0, locals := 101 } s m args below meth c H locs 0 0 Q (F0 m 38 ls [.long r1])) : ∀ (S : MS) (H : Heap) (locs : List Loc) (ls : Array Slot) (s0 : Int64), fr_movingPower_b38 S s0 = some (r1, S1) → mG D cI cJ cZ ad A H0 H locs S → lv_has ls 4 [] → W p l e { frames := 5, cells := 0, slots := 0, locals := 101 } s m args below meth c H locs 0 0 Q (F0 m 38 ls [.long s0]) := by
  have hx := E.1
  have hb := E.2.1
  have hts := E.2.2.1
  have hown := E.2.2.2.1
  have hK := E.2.2.2.2.1
  intro S H locs ls s0 h G hl
  unfold fr_movingPower_b38 at h
  rw [(osome2 h).2] at G
  refine lv_tol (osome2 h).1 ?_
  exact kr38 _ _ _ G
def fr_movingPower (S : MS) (a0 : Int32) (a1 : Int32) (a2 : Int32) : Option (Int64 × MS) := obind2 (fr_isCell S a0) fun r5 S2 => obind2 (fr_mayAsk S2 r5) fun r9 S6 => if r9 = 0 then (some ((0 : Int64), S6)) else (obind (fr_isVelocity a1 a2) fun r11 => if r11 = 0 then (obind2 (fr_throwsAt S6 3) fun r17 S14 => elet (r17.toInt64) fun v18 => fr_movingPower_b38 S14 v18) else (obind2 (fr_movingOf S6 a0 a1 a2) fun r22 S19 => fr_movingPower_b38 S19 r22))
set_option maxHeartbeats 4000000 in
set_option maxRecDepth 100000 in
theorem tr_movingPower (l : Launch) (D : va_G) (cI cJ cZ : ClassId) (ad : Nat → Nat) (S : MS) (a0 : Int32) (a1 : Int32) (a2 : Int32) {r1 : Int64} {S1 : MS} (h : fr_movingPower S a0 a1 a2 = some (r1, S1)) : mCl l yX12_movingPower (Cond.code yX12_movingPower cX12_movingPower 4 (some .long) :: wsM) 5 101 D cI cJ cZ ad S [.int a0, .int a1, .int a2] (fun r S9 => r = r1 ∧ S9 = S1) := by
  intro sz
  refine Met.ofW (cc := cX12_movingPower) (maxL := 4) (ret := (some .long)) (by decide) rfl ?_
  intro p e s m args below meth c s₁ B hml hv
  obtain ⟨rfl, hsz, hP, hK, hD0, hR⟩ := hv
  have hx := B.exec
  have hb := B.bytes
  have hr := B.returns
  have hts := atoms_spec (ws := (Cond.code yX12_movingPower cX12_movingPower 4 (some .long) :: wsM)) B.pre
  have hown : s.vm.findClass RX12 = some m.cls := findClass_of_methodNamed B.named
  have hlocks := B.notSynchronized
  subst hsz
  have hD := hD0.self (sz := s.heap.size)
  generalize hAe : va_A (MW cI cJ cZ ad S) s.heap.size = A at hD ⊢
  have hA : ∀ q : Nat, s.heap.size ≤ q → A q := fun q h => by rw [← hAe]; exact Or.inr h
  have G : mG D cI cJ cZ ad A s.heap s.heap [] S := ⟨hP, hD, va_S.rf⟩
  have E : mE p c cX12_movingPower s m ([.ref (ad 0), .int a0, .int a1, .int a2] : List Value).toArray (Cond.code yX12_movingPower cX12_movingPower 4 (some .long) :: wsM) D cI cJ cZ := ⟨hx, hb, hts, hown, hK, fun w h => .tail _ (iM_x h)⟩
  have hl := lv_entry ([.ref (ad 0), .int a0, .int a1, .int a2]) (n := 4) (Nat.le_of_ble_eq_true rfl)
  rw [lg_entry_eq]
  generalize (lg_sl ([.ref (ad 0), .int a0, .int a1, .int a2]) ++ List.replicate (4 - (lg_sl ([.ref (ad 0), .int a0, .int a1, .int a2])).length) Slot.unset).toArray = ls at hl ⊢
  have hl : lv_has ls 4 [(0, .ref (ad 0)), (1, .int a0), (2, .int a1), (3, .int a2)] := hl
  unfold fr_movingPower at h
  refine lv_aload_n hx hb dX12_movingPower_0 rfl (lv_at hl 0 rfl) ?_
  refine lv_aload_n hx hb dX12_movingPower_1 rfl (lv_at hl 0 rfl) ?_
  refine lv_iload_n hx hb dX12_movingPower_2 rfl (lv_at hl 1 rfl) ?_
  obtain ⟨r5, S2, eS2, h⟩ := obind2_some h
  refine m_calli (As := [.int a0]) (rest := [.ref (ad 0)]) E G hA hR hml (tr_isCell l D cI cJ cZ ad S a0 eS2) (cwV 1 hts (gmV qM_326 qM_327 qM_328 qM_35 qM_307) rfl rfl rfl (by decide +kernel) ⟨Nat.le_of_ble_eq_true rfl, Nat.le_of_ble_eq_true rfl⟩) rfl hl.1 rfl (lv_room (Nat.le_of_ble_eq_true rfl)) dX12_movingPower_3 ⟨Nat.zero_le _, Nat.zero_le _⟩ (fun q3 S4 H locs hq G => ?_)
  obtain ⟨hq1, hq2⟩ := hq
  rw [hq2] at G
  refine lv_to hq1 ?_
  clear hq1 hq2 eS2
  obtain ⟨r9, S6, eS6, h⟩ := obind2_some h
  refine m_calli (As := [.int r5]) (rest := []) E G hA hR hml (tr_mayAsk l D cI cJ cZ ad S2 r5 eS6) (cwV 1 hts (gmV qM_319 qM_320 qM_321 qM_35 qM_304) rfl rfl rfl (by decide +kernel) ⟨Nat.le_of_ble_eq_true rfl, Nat.le_of_ble_eq_true rfl⟩) rfl hl.1 rfl (lv_room (Nat.le_of_ble_eq_true rfl)) dX12_movingPower_6 ⟨Nat.zero_le _, Nat.zero_le _⟩ (fun q7 S8 H locs hq G => ?_)
  obtain ⟨hq1, hq2⟩ := hq
  rw [hq2] at G
  refine lv_to hq1 ?_
  clear hq1 hq2 eS6
  refine lv_if_ne (tgt := 14) hx hb dX12_movingPower_9 (by decide) (fun c10 => ?_) (fun c10 => ?_)
  · have h := oif_neg c10 h
    refine lv_iload_n hx hb dX12_movingPower_14 rfl (lv_at hl 2 rfl) ?_
    refine lv_iload_n hx hb dX12_movingPower_15 rfl (lv_at hl 3 rfl) ?_
    obtain ⟨r11, er11, h⟩ := obind_some h
    refine m_stat (As := [.int a1, .int a2]) (rest := []) ⟨hx, hb, hml, hown, hts⟩ (tr_isVelocity l a1 a2 er11) (cwS 2 hts (gmS qM_450 qM_451 qM_35 qM_448) rfl rfl rfl (by decide +kernel) ⟨Nat.le_of_ble_eq_true rfl, Nat.le_of_ble_eq_true rfl⟩) rfl hl.1 rfl (lv_room (Nat.le_of_ble_eq_true rfl)) dX12_movingPower_16 ⟨Nat.zero_le _, Nat.zero_le _⟩ (fun q12 hq => ?_)
    refine lv_to hq ?_
    clear hq er11
    refine lv_if_eq (tgt := 32) hx hb dX12_movingPower_19 (by decide) (fun c13 => ?_) (fun c13 => ?_)
    · have h := oif_pos c13 h
      refine lv_aload_n hx hb dX12_movingPower_32 rfl (lv_at hl 0 rfl) ?_
      refine lv_iconst (v := 3) hx hb dX12_movingPower_33 (by decide) ?_
      obtain ⟨r17, S14, eS14, h⟩ := obind2_some h
      refine m_calli (As := [.int 3]) (rest := []) E G hA hR hml (tr_throwsAt l D cI cJ cZ ad S6 3 eS14) (cwV 1 hts (gmV qM_195 qM_196 qM_197 qM_35 qM_28) rfl rfl rfl (by decide +kernel) ⟨Nat.le_of_ble_eq_true rfl, Nat.le_of_ble_eq_true rfl⟩) rfl hl.1 rfl (lv_room (Nat.le_of_ble_eq_true rfl)) dX12_movingPower_34 ⟨Nat.zero_le _, Nat.zero_le _⟩ (fun q15 S16 H locs hq G => ?_)
      obtain ⟨hq1, hq2⟩ := hq
      rw [hq2] at G
      refine lv_to hq1 ?_
      clear hq1 hq2 eS14
      refine lv_i2l (v := r17.toInt64) hx hb dX12_movingPower_37 rfl ?_
      refine lv_topl (fun v18 ev18 => ?_)
      have h := elet_at ev18 h
      clear ev18
      have hl := lv_sub hl [] rfl
      exact tr_movingPower_b38 E hA hR hml (fun H locs ls G => W.lret (v := r1) hx hb hr (fun t ht hW => ⟨⟨r1, S1, rfl, ⟨rfl, rfl⟩, ⟨by rw [ht]; exact G.1, va_K.moved hW.alike hK, G.2.1⟩⟩, G.2.2.F ht⟩) G.2.2.2.2 dX12_movingPower_13) (fun H locs ls G => W.lret (v := r1) hx hb hr (fun t ht hW => ⟨⟨r1, S1, rfl, ⟨rfl, rfl⟩, ⟨by rw [ht]; exact G.1, va_K.moved hW.alike hK, G.2.1⟩⟩, G.2.2.F ht⟩) G.2.2.2.2 dX12_movingPower_38) _ _ _ _ _ h G hl
    · have h := oif_neg c13 h
      refine lv_aload_n hx hb dX12_movingPower_22 rfl (lv_at hl 0 rfl) ?_
      refine lv_iload_n hx hb dX12_movingPower_23 rfl (lv_at hl 1 rfl) ?_
      refine lv_iload_n hx hb dX12_movingPower_24 rfl (lv_at hl 2 rfl) ?_
      refine lv_iload_n hx hb dX12_movingPower_25 rfl (lv_at hl 3 rfl) ?_
      obtain ⟨r22, S19, eS19, h⟩ := obind2_some h
      refine m_calll (As := [.int a0, .int a1, .int a2]) (rest := []) E G hA hR hml (tr_movingOf l D cI cJ cZ ad S6 a0 a1 a2 eS19) (cwV 3 hts (gmV qM_452 qM_453 qM_454 qM_35 qM_447) rfl rfl rfl (by decide +kernel) ⟨Nat.le_of_ble_eq_true rfl, Nat.le_of_ble_eq_true rfl⟩) rfl hl.1 rfl (lv_room (Nat.le_of_ble_eq_true rfl)) dX12_movingPower_26 ⟨Nat.zero_le _, Nat.zero_le _⟩ (fun q20 S21 H locs hq G => ?_)
      obtain ⟨hq1, hq2⟩ := hq
      rw [hq2] at G
      refine lv_tol hq1 ?_
      clear hq1 hq2 eS19
      refine lv_goto (tgt := 38) hx hb dX12_movingPower_29 (by decide) ?_
      have hl := lv_sub hl [] rfl
      exact tr_movingPower_b38 E hA hR hml (fun H locs ls G => W.lret (v := r1) hx hb hr (fun t ht hW => ⟨⟨r1, S1, rfl, ⟨rfl, rfl⟩, ⟨by rw [ht]; exact G.1, va_K.moved hW.alike hK, G.2.1⟩⟩, G.2.2.F ht⟩) G.2.2.2.2 dX12_movingPower_13) (fun H locs ls G => W.lret (v := r1) hx hb hr (fun t ht hW => ⟨⟨r1, S1, rfl, ⟨rfl, rfl⟩, ⟨by rw [ht]; exact G.1, va_K.moved hW.alike hK, G.2.1⟩⟩, G.2.2.F ht⟩) G.2.2.2.2 dX12_movingPower_38) _ _ _ _ _ h G hl
  · have h := oif_pos c10 h
    refine lv_lconst (v := 0) hx hb dX12_movingPower_12 (by decide) ?_
    exact W.lret (v := (0 : Int64)) hx hb hr (fun t ht hW => ⟨⟨(0 : Int64), S6, rfl, osome2 h, ⟨by rw [ht]; exact G.1, va_K.moved hW.alike hK, G.2.1⟩⟩, G.2.2.F ht⟩) G.2.2.2.2 dX12_movingPower_13
def fr_bestVelocity_b33  (S : MS)  : Option (Int32 × MS) := obind2 (fr_throwsAt S 3) fun r5 S2 => some (r5, S2)
set_option maxHeartbeats 4000000 in
set_option maxRecDepth 100000 in
theorem tr_bestVelocity_b33 {p : Program} {l : Launch} {e : Env} {s : State} {m : MethodId} {args : Array Value} {below : List Frame} {meth : Method} {c : Code} {Q : State → Prop} {D : va_G} {A : Nat → Prop} {H0 : Heap} {cI cJ cZ : ClassId} {ad : Nat → Nat} {r1 : Int32} {S1 : MS} (E : mE p c cX12_bestVelocity s m args (Cond.code yX12_bestVelocity cX12_bestVelocity 11 (some .int) :: wsM) D cI cJ cZ) (hA : ∀ q : Nat, H0.size ≤ q → A q) (hR : sR s) (hml : c.maxLocals = 11) (kr13 : ∀ (H : Heap) (locs : List Loc) (ls : Array Slot), mG D cI cJ cZ ad A H0 H locs S1 → W p l e { frames := 5, cells := 0, slots := 0, locals := 101 } s m args below meth c H locs 0 0 Q (F0 m 13 ls [.int r1])) (kr38 : ∀ (H : Heap) (locs : List Loc) (ls : Array Slot), mG D cI cJ cZ ad A H0 H locs S1 → W p l e { frames := 5, cells := 0, slots := 0, locals := 101 } s m args below meth c H locs 0 0 Q (F0 m 38 ls [.int r1])) (kr129 : ∀ (H : Heap) (locs : List Loc) (ls : Array Slot), mG D cI cJ cZ ad A H0 H locs S1 → W p l e { frames := 5, cells := 0, slots := 0, locals := 101 } s m args below meth c H locs 0 0 Q (F0 m 129 ls [.int r1])) : ∀ (S : MS) (H : Heap) (locs : List Loc) (ls : Array Slot), fr_bestVelocity_b33 S = some (r1, S1) → mG D cI cJ cZ ad A H0 H locs S → lv_has ls 11 [(0, .ref (ad 0))] → W p l e { frames := 5, cells := 0, slots := 0, locals := 101 } s m args below meth c H locs 0 0 Q (F0 m 33 ls []) := by
  have hx := E.1
  have hb := E.2.1
  have hts := E.2.2.1
  have hown := E.2.2.2.1
  have hK := E.2.2.2.2.1
  intro S H locs ls h G hl
  unfold fr_bestVelocity_b33 at h
  refine lv_aload_n hx hb dX12_bestVelocity_33 rfl (lv_at hl 0 rfl) ?_
  refine lv_iconst (v := 3) hx hb dX12_bestVelocity_34 (by decide) ?_
  obtain ⟨r5, S2, eS2, h⟩ := obind2_some h
  refine m_calli (As := [.int 3]) (rest := []) E G hA hR hml (tr_throwsAt l D cI cJ cZ ad S 3 eS2) (cwV 1 hts (gmV qM_195 qM_196 qM_197 qM_35 qM_28) rfl rfl rfl (by decide +kernel) ⟨Nat.le_of_ble_eq_true rfl, Nat.le_of_ble_eq_true rfl⟩) rfl hl.1 rfl (lv_room (Nat.le_of_ble_eq_true rfl)) dX12_bestVelocity_35 ⟨Nat.zero_le _, Nat.zero_le _⟩ (fun q3 S4 H locs hq G => ?_)
  obtain ⟨hq1, hq2⟩ := hq
  rw [hq2] at G
  refine lv_to hq1 ?_
  clear hq1 hq2 eS2
  rw [(osome2 h).2] at G
  refine lv_to (osome2 h).1 ?_
  exact kr38 _ _ _ G
def fr_bestVelocity_b115 (k49 : MS → Int32 → Int32 → Int32 → Int32 → Int64 → Int32 → Option (Int32 × MS)) (k59 : MS → Int32 → Int32 → Int32 → Int32 → Int64 → Int32 → Int32 → Option (Int32 × MS)) (S : MS) (l1 : Int32) (l2 : Int32) (l3 : Int32) (l4 : Int32) (l5 : Int64) (l7 : Int32) (l8 : Int32) : Option (Int32 × MS) := elet (l8 + Int32.ofInt (1)) fun v2 => k59 S l1 l2 l3 l4 l5 l7 v2
set_option maxHeartbeats 4000000 in
set_option maxRecDepth 100000 in
theorem tr_bestVelocity_b115 {p : Program} {l : Launch} {e : Env} {s : State} {m : MethodId} {args : Array Value} {below : List Frame} {meth : Method} {c : Code} {Q : State → Prop} {D : va_G} {A : Nat → Prop} {H0 : Heap} {cI cJ cZ : ClassId} {ad : Nat → Nat} {r1 : Int32} {S1 : MS} (E : mE p c cX12_bestVelocity s m args (Cond.code yX12_bestVelocity cX12_bestVelocity 11 (some .int) :: wsM) D cI cJ cZ) (hA : ∀ q : Nat, H0.size ≤ q → A q) (hR : sR s) (hml : c.maxLocals = 11) (kr13 : ∀ (H : Heap) (locs : List Loc) (ls : Array Slot), mG D cI cJ cZ ad A H0 H locs S1 → W p l e { frames := 5, cells := 0, slots := 0, locals := 101 } s m args below meth c H locs 0 0 Q (F0 m 13 ls [.int r1])) (kr38 : ∀ (H : Heap) (locs : List Loc) (ls : Array Slot), mG D cI cJ cZ ad A H0 H locs S1 → W p l e { frames := 5, cells := 0, slots := 0, locals := 101 } s m args below meth c H locs 0 0 Q (F0 m 38 ls [.int r1])) (kr129 : ∀ (H : Heap) (locs : List Loc) (ls : Array Slot), mG D cI cJ cZ ad A H0 H locs S1 → W p l e { frames := 5, cells := 0, slots := 0, locals := 101 } s m args below meth c H locs 0 0 Q (F0 m 129 ls [.int r1])) {k49 : MS → Int32 → Int32 → Int32 → Int32 → Int64 → Int32 → Option (Int32 × MS)} {k59 : MS → Int32 → Int32 → Int32 → Int32 → Int64 → Int32 → Int32 → Option (Int32 × MS)} (hk49 : ∀ (S : MS) (H : Heap) (locs : List Loc) (ls : Array Slot) (l1 : Int32) (l2 : Int32) (l3 : Int32) (l4 : Int32) (l5 : Int64) (l7 : Int32), k49 S l1 l2 l3 l4 l5 l7 = some (r1, S1) → mG D cI cJ cZ ad A H0 H locs S → lv_has ls 11 [(0, .ref (ad 0)), (1, .int l1), (2, .int l2), (3, .int l3), (4, .int l4), (5, .long l5), (7, .int l7)] → W p l e { frames := 5, cells := 0, slots := 0, locals := 101 } s m args below meth c H locs 0 0 Q (F0 m 49 ls [])) (hk59 : ∀ (S : MS) (H : Heap) (locs : List Loc) (ls : Array Slot) (l1 : Int32) (l2 : Int32) (l3 : Int32) (l4 : Int32) (l5 : Int64) (l7 : Int32) (l8 : Int32), k59 S l1 l2 l3 l4 l5 l7 l8 = some (r1, S1) → mG D cI cJ cZ ad A H0 H locs S → lv_has ls 11 [(0, .ref (ad 0)), (1, .int l1), (2, .int l2), (3, .int l3), (4, .int l4), (5, .long l5), (7, .int l7), (8, .int l8)] → W p l e { frames := 5, cells := 0, slots := 0, locals := 101 } s m args below meth c H locs 0 0 Q (F0 m 59 ls [])) : ∀ (S : MS) (H : Heap) (locs : List Loc) (ls : Array Slot) (l1 : Int32) (l2 : Int32) (l3 : Int32) (l4 : Int32) (l5 : Int64) (l7 : Int32) (l8 : Int32), fr_bestVelocity_b115 k49 k59 S l1 l2 l3 l4 l5 l7 l8 = some (r1, S1) → mG D cI cJ cZ ad A H0 H locs S → lv_has ls 11 [(0, .ref (ad 0)), (1, .int l1), (2, .int l2), (3, .int l3), (4, .int l4), (5, .long l5), (7, .int l7), (8, .int l8)] → W p l e { frames := 5, cells := 0, slots := 0, locals := 101 } s m args below meth c H locs 0 0 Q (F0 m 115 ls []) := by
  have hx := E.1
  have hb := E.2.1
  have hts := E.2.2.1
  have hown := E.2.2.2.1
  have hK := E.2.2.2.2.1
  intro S H locs ls l1 l2 l3 l4 l5 l7 l8 h G hl
  unfold fr_bestVelocity_b115 at h
  obtain ⟨v2, ev2, h⟩ := elet_some h
  refine lv_iinc (v := v2) (lv' := [(8, .int v2), (0, .ref (ad 0)), (1, .int l1), (2, .int l2), (3, .int l3), (4, .int l4), (5, .long l5), (7, .int l7)]) hx hb dX12_bestVelocity_115 hl (k := 7) rfl ev2.symm (by decide) rfl (fun ls hl => ?_)
  refine lv_goto (tgt := 59) hx hb dX12_bestVelocity_118 (by decide) ?_
  have hl := lv_sub hl [1, 2, 3, 4, 5, 6, 7, 0] rfl
  exact hk59 _ _ _ _ _ _ _ _ _ _ _ h G hl
def fr_bestVelocity_b97 (k49 : MS → Int32 → Int32 → Int32 → Int32 → Int64 → Int32 → Option (Int32 × MS)) (k59 : MS → Int32 → Int32 → Int32 → Int32 → Int64 → Int32 → Int32 → Option (Int32 × MS)) (S : MS) (l1 : Int32) (l2 : Int32) (l3 : Int32) (l7 : Int32) (l8 : Int32) (l9 : Int64) : Option (Int32 × MS) := elet (l7 + l3) fun v2 => elet (100 * v2) fun v3 => elet (v3 + l8) fun v4 => elet (v4 + l3) fun v5 => fr_bestVelocity_b115 k49 k59 S l1 l2 l3 v5 l9 l7 l8
set_option maxHeartbeats 4000000 in
set_option maxRecDepth 100000 in
theorem tr_bestVelocity_b97 {p : Program} {l : Launch} {e : Env} {s : State} {m : MethodId} {args : Array Value} {below : List Frame} {meth : Method} {c : Code} {Q : State → Prop} {D : va_G} {A : Nat → Prop} {H0 : Heap} {cI cJ cZ : ClassId} {ad : Nat → Nat} {r1 : Int32} {S1 : MS} (E : mE p c cX12_bestVelocity s m args (Cond.code yX12_bestVelocity cX12_bestVelocity 11 (some .int) :: wsM) D cI cJ cZ) (hA : ∀ q : Nat, H0.size ≤ q → A q) (hR : sR s) (hml : c.maxLocals = 11) (kr13 : ∀ (H : Heap) (locs : List Loc) (ls : Array Slot), mG D cI cJ cZ ad A H0 H locs S1 → W p l e { frames := 5, cells := 0, slots := 0, locals := 101 } s m args below meth c H locs 0 0 Q (F0 m 13 ls [.int r1])) (kr38 : ∀ (H : Heap) (locs : List Loc) (ls : Array Slot), mG D cI cJ cZ ad A H0 H locs S1 → W p l e { frames := 5, cells := 0, slots := 0, locals := 101 } s m args below meth c H locs 0 0 Q (F0 m 38 ls [.int r1])) (kr129 : ∀ (H : Heap) (locs : List Loc) (ls : Array Slot), mG D cI cJ cZ ad A H0 H locs S1 → W p l e { frames := 5, cells := 0, slots := 0, locals := 101 } s m args below meth c H locs 0 0 Q (F0 m 129 ls [.int r1])) {k49 : MS → Int32 → Int32 → Int32 → Int32 → Int64 → Int32 → Option (Int32 × MS)} {k59 : MS → Int32 → Int32 → Int32 → Int32 → Int64 → Int32 → Int32 → Option (Int32 × MS)} (hk49 : ∀ (S : MS) (H : Heap) (locs : List Loc) (ls : Array Slot) (l1 : Int32) (l2 : Int32) (l3 : Int32) (l4 : Int32) (l5 : Int64) (l7 : Int32), k49 S l1 l2 l3 l4 l5 l7 = some (r1, S1) → mG D cI cJ cZ ad A H0 H locs S → lv_has ls 11 [(0, .ref (ad 0)), (1, .int l1), (2, .int l2), (3, .int l3), (4, .int l4), (5, .long l5), (7, .int l7)] → W p l e { frames := 5, cells := 0, slots := 0, locals := 101 } s m args below meth c H locs 0 0 Q (F0 m 49 ls [])) (hk59 : ∀ (S : MS) (H : Heap) (locs : List Loc) (ls : Array Slot) (l1 : Int32) (l2 : Int32) (l3 : Int32) (l4 : Int32) (l5 : Int64) (l7 : Int32) (l8 : Int32), k59 S l1 l2 l3 l4 l5 l7 l8 = some (r1, S1) → mG D cI cJ cZ ad A H0 H locs S → lv_has ls 11 [(0, .ref (ad 0)), (1, .int l1), (2, .int l2), (3, .int l3), (4, .int l4), (5, .long l5), (7, .int l7), (8, .int l8)] → W p l e { frames := 5, cells := 0, slots := 0, locals := 101 } s m args below meth c H locs 0 0 Q (F0 m 59 ls [])) : ∀ (S : MS) (H : Heap) (locs : List Loc) (ls : Array Slot) (l1 : Int32) (l2 : Int32) (l3 : Int32) (l7 : Int32) (l8 : Int32) (l9 : Int64), fr_bestVelocity_b97 k49 k59 S l1 l2 l3 l7 l8 l9 = some (r1, S1) → mG D cI cJ cZ ad A H0 H locs S → lv_has ls 11 [(0, .ref (ad 0)), (1, .int l1), (2, .int l2), (3, .int l3), (7, .int l7), (8, .int l8), (9, .long l9)] → W p l e { frames := 5, cells := 0, slots := 0, locals := 101 } s m args below meth c H locs 0 0 Q (F0 m 97 ls []) := by
  have hx := E.1
  have hb := E.2.1
  have hts := E.2.2.1
  have hown := E.2.2.2.1
  have hK := E.2.2.2.2.1
  intro S H locs ls l1 l2 l3 l7 l8 l9 h G hl
  unfold fr_bestVelocity_b97 at h
  refine lv_bipush (v := 100) hx hb dX12_bestVelocity_97 (by decide) ?_
  refine lv_iload hx hb dX12_bestVelocity_99 (lv_at hl 4 rfl) ?_
  refine lv_iload_n hx hb dX12_bestVelocity_101 rfl (lv_at hl 3 rfl) ?_
  refine lv_iadd hx hb dX12_bestVelocity_102 ?_
  refine lv_topi (fun v2 ev2 => ?_)
  have h := elet_at ev2 h
  clear ev2
  refine lv_imul hx hb dX12_bestVelocity_103 ?_
  refine lv_topi (fun v3 ev3 => ?_)
  have h := elet_at ev3 h
  clear ev3
  refine lv_iload hx hb dX12_bestVelocity_104 (lv_at hl 5 rfl) ?_
  refine lv_iadd hx hb dX12_bestVelocity_106 ?_
  refine lv_topi (fun v4 ev4 => ?_)
  have h := elet_at ev4 h
  clear ev4
  refine lv_iload_n hx hb dX12_bestVelocity_107 rfl (lv_at hl 3 rfl) ?_
  refine lv_iadd hx hb dX12_bestVelocity_108 ?_
  refine lv_topi (fun v5 ev5 => ?_)
  have h := elet_at ev5 h
  clear ev5
  refine lv_istore (lv' := [(4, .int v5), (0, .ref (ad 0)), (1, .int l1), (2, .int l2), (3, .int l3), (7, .int l7), (8, .int l8), (9, .long l9)]) hx hb dX12_bestVelocity_109 hl (by decide) rfl (fun ls hl => ?_)
  refine lv_lload hx hb dX12_bestVelocity_111 (lv_at hl 7 rfl) ?_
  refine lv_lstore (lv' := [(5, .long l9), (4, .int v5), (0, .ref (ad 0)), (1, .int l1), (2, .int l2), (3, .int l3), (7, .int l7), (8, .int l8), (9, .long l9)]) hx hb dX12_bestVelocity_113 hl (by decide) rfl (fun ls hl => ?_)
  have hl := lv_sub hl [2, 3, 4, 5, 1, 0, 6, 7] rfl
  exact tr_bestVelocity_b115 E hA hR hml kr13 kr38 kr129 hk49 hk59 _ _ _ _ _ _ _ _ _ _ _ h G hl
def fr_bestVelocity_b59 (k49 : MS → Int32 → Int32 → Int32 → Int32 → Int64 → Int32 → Option (Int32 × MS)) : Nat → MS → Int32 → Int32 → Int32 → Int32 → Int64 → Int32 → Int32 → Option (Int32 × MS)
  | 0, _, _, _, _, _, _, _, _ => none
  | n + 1, S, l1, l2, l3, l4, l5, l7, l8 => if l3 < l8 then (elet (l7 + Int32.ofInt (1)) fun v3 => k49 S l1 l2 l3 l4 l5 v3) else (elet (l2 * l7) fun v4 => elet (l2 * l8) fun v5 => obind2 (fr_movingOf S l1 v4 v5) fun r9 S6 => if l4 = (-1) then (fr_bestVelocity_b97 k49 (fr_bestVelocity_b59 k49 n) S6 l1 l2 l3 l7 l8 r9) else (elet (lg_cmp r9 l5) fun v11 => if 0 < v11 then (fr_bestVelocity_b97 k49 (fr_bestVelocity_b59 k49 n) S6 l1 l2 l3 l7 l8 r9) else (fr_bestVelocity_b115 k49 (fr_bestVelocity_b59 k49 n) S6 l1 l2 l3 l4 l5 l7 l8)))
set_option maxHeartbeats 4000000 in
set_option maxRecDepth 100000 in
theorem tr_bestVelocity_b59 {p : Program} {l : Launch} {e : Env} {s : State} {m : MethodId} {args : Array Value} {below : List Frame} {meth : Method} {c : Code} {Q : State → Prop} {D : va_G} {A : Nat → Prop} {H0 : Heap} {cI cJ cZ : ClassId} {ad : Nat → Nat} {r1 : Int32} {S1 : MS} (E : mE p c cX12_bestVelocity s m args (Cond.code yX12_bestVelocity cX12_bestVelocity 11 (some .int) :: wsM) D cI cJ cZ) (hA : ∀ q : Nat, H0.size ≤ q → A q) (hR : sR s) (hml : c.maxLocals = 11) (kr13 : ∀ (H : Heap) (locs : List Loc) (ls : Array Slot), mG D cI cJ cZ ad A H0 H locs S1 → W p l e { frames := 5, cells := 0, slots := 0, locals := 101 } s m args below meth c H locs 0 0 Q (F0 m 13 ls [.int r1])) (kr38 : ∀ (H : Heap) (locs : List Loc) (ls : Array Slot), mG D cI cJ cZ ad A H0 H locs S1 → W p l e { frames := 5, cells := 0, slots := 0, locals := 101 } s m args below meth c H locs 0 0 Q (F0 m 38 ls [.int r1])) (kr129 : ∀ (H : Heap) (locs : List Loc) (ls : Array Slot), mG D cI cJ cZ ad A H0 H locs S1 → W p l e { frames := 5, cells := 0, slots := 0, locals := 101 } s m args below meth c H locs 0 0 Q (F0 m 129 ls [.int r1])) {k49 : MS → Int32 → Int32 → Int32 → Int32 → Int64 → Int32 → Option (Int32 × MS)} (hk49 : ∀ (S : MS) (H : Heap) (locs : List Loc) (ls : Array Slot) (l1 : Int32) (l2 : Int32) (l3 : Int32) (l4 : Int32) (l5 : Int64) (l7 : Int32), k49 S l1 l2 l3 l4 l5 l7 = some (r1, S1) → mG D cI cJ cZ ad A H0 H locs S → lv_has ls 11 [(0, .ref (ad 0)), (1, .int l1), (2, .int l2), (3, .int l3), (4, .int l4), (5, .long l5), (7, .int l7)] → W p l e { frames := 5, cells := 0, slots := 0, locals := 101 } s m args below meth c H locs 0 0 Q (F0 m 49 ls [])) : ∀ n : Nat, ∀ (S : MS) (H : Heap) (locs : List Loc) (ls : Array Slot) (l1 : Int32) (l2 : Int32) (l3 : Int32) (l4 : Int32) (l5 : Int64) (l7 : Int32) (l8 : Int32), fr_bestVelocity_b59 k49 n S l1 l2 l3 l4 l5 l7 l8 = some (r1, S1) → mG D cI cJ cZ ad A H0 H locs S → lv_has ls 11 [(0, .ref (ad 0)), (1, .int l1), (2, .int l2), (3, .int l3), (4, .int l4), (5, .long l5), (7, .int l7), (8, .int l8)] → W p l e { frames := 5, cells := 0, slots := 0, locals := 101 } s m args below meth c H locs 0 0 Q (F0 m 59 ls []) := by
  have hx := E.1
  have hb := E.2.1
  have hts := E.2.2.1
  have hown := E.2.2.2.1
  have hK := E.2.2.2.2.1
  intro n
  induction n with
  | zero =>
    intro S H locs ls l1 l2 l3 l4 l5 l7 l8 h
    have h : (none : Option (Int32 × MS)) = some (r1, S1) := h
    cases h
  | succ n ih =>
    intro S H locs ls l1 l2 l3 l4 l5 l7 l8 h G hl
    unfold fr_bestVelocity_b59 at h
    refine lv_iload hx hb dX12_bestVelocity_59 (lv_at hl 7 rfl) ?_
    refine lv_iload_n hx hb dX12_bestVelocity_61 rfl (lv_at hl 3 rfl) ?_
    refine lv_icmp_gt (tgt := 121) hx hb dX12_bestVelocity_62 (by decide) (fun c2 => ?_) (fun c2 => ?_)
    · have h := oif_pos c2 h
      obtain ⟨v3, ev3, h⟩ := elet_some h
      refine lv_iinc (v := v3) (lv' := [(7, .int v3), (0, .ref (ad 0)), (1, .int l1), (2, .int l2), (3, .int l3), (4, .int l4), (5, .long l5), (8, .int l8)]) hx hb dX12_bestVelocity_121 hl (k := 6) rfl ev3.symm (by decide) rfl (fun ls hl => ?_)
      refine lv_goto (tgt := 49) hx hb dX12_bestVelocity_124 (by decide) ?_
      have hl := lv_sub hl [1, 2, 3, 4, 5, 6, 0] rfl
      exact hk49 _ _ _ _ _ _ _ _ _ _ h G hl
    · have h := oif_neg c2 h
      refine lv_aload_n hx hb dX12_bestVelocity_65 rfl (lv_at hl 0 rfl) ?_
      refine lv_iload_n hx hb dX12_bestVelocity_66 rfl (lv_at hl 1 rfl) ?_
      refine lv_iload_n hx hb dX12_bestVelocity_67 rfl (lv_at hl 2 rfl) ?_
      refine lv_iload hx hb dX12_bestVelocity_68 (lv_at hl 6 rfl) ?_
      refine lv_imul hx hb dX12_bestVelocity_70 ?_
      refine lv_topi (fun v4 ev4 => ?_)
      have h := elet_at ev4 h
      clear ev4
      refine lv_iload_n hx hb dX12_bestVelocity_71 rfl (lv_at hl 2 rfl) ?_
      refine lv_iload hx hb dX12_bestVelocity_72 (lv_at hl 7 rfl) ?_
      refine lv_imul hx hb dX12_bestVelocity_74 ?_
      refine lv_topi (fun v5 ev5 => ?_)
      have h := elet_at ev5 h
      clear ev5
      obtain ⟨r9, S6, eS6, h⟩ := obind2_some h
      refine m_calll (As := [.int l1, .int v4, .int v5]) (rest := []) E G hA hR hml (tr_movingOf l D cI cJ cZ ad S l1 v4 v5 eS6) (cwV 3 hts (gmV qM_452 qM_453 qM_454 qM_35 qM_447) rfl rfl rfl (by decide +kernel) ⟨Nat.le_of_ble_eq_true rfl, Nat.le_of_ble_eq_true rfl⟩) rfl hl.1 rfl (lv_room (Nat.le_of_ble_eq_true rfl)) dX12_bestVelocity_75 ⟨Nat.zero_le _, Nat.zero_le _⟩ (fun q7 S8 H locs hq G => ?_)
      obtain ⟨hq1, hq2⟩ := hq
      rw [hq2] at G
      refine lv_tol hq1 ?_
      clear hq1 hq2 eS6
      refine lv_lstore (lv' := [(9, .long r9), (0, .ref (ad 0)), (1, .int l1), (2, .int l2), (3, .int l3), (4, .int l4), (5, .long l5), (7, .int l7), (8, .int l8)]) hx hb dX12_bestVelocity_78 hl (by decide) rfl (fun ls hl => ?_)
      refine lv_iload hx hb dX12_bestVelocity_80 (lv_at hl 5 rfl) ?_
      refine lv_iconst (v := (-1)) hx hb dX12_bestVelocity_82 (by decide) ?_
      refine lv_icmp_eq (tgt := 97) hx hb dX12_bestVelocity_83 (by decide) (fun c10 => ?_) (fun c10 => ?_)
      · have h := oif_pos c10 h
        have hl := lv_sub hl [1, 2, 3, 4, 7, 8, 0] rfl
        exact tr_bestVelocity_b97 E hA hR hml kr13 kr38 kr129 hk49 ih _ _ _ _ _ _ _ _ _ _ h G hl
      · have h := oif_neg c10 h
        refine lv_lload hx hb dX12_bestVelocity_86 (lv_at hl 0 rfl) ?_
        refine lv_lload hx hb dX12_bestVelocity_88 (lv_at hl 6 rfl) ?_
        refine W.lcmp hx hb dX12_bestVelocity_90 ?_
        refine lv_topi (fun v11 ev11 => ?_)
        have h := elet_at ev11 h
        clear ev11
        refine lv_if_gt (tgt := 97) hx hb dX12_bestVelocity_91 (by decide) (fun c12 => ?_) (fun c12 => ?_)
        · have h := oif_pos c12 h
          have hl := lv_sub hl [1, 2, 3, 4, 7, 8, 0] rfl
          exact tr_bestVelocity_b97 E hA hR hml kr13 kr38 kr129 hk49 ih _ _ _ _ _ _ _ _ _ _ h G hl
        · have h := oif_neg c12 h
          refine lv_goto (tgt := 115) hx hb dX12_bestVelocity_94 (by decide) ?_
          have hl := lv_sub hl [1, 2, 3, 4, 5, 6, 7, 8] rfl
          exact tr_bestVelocity_b115 E hA hR hml kr13 kr38 kr129 hk49 ih _ _ _ _ _ _ _ _ _ _ _ h G hl
def fr_bestVelocity_b49  : Nat → MS → Int32 → Int32 → Int32 → Int32 → Int64 → Int32 → Option (Int32 × MS)
  | 0, _, _, _, _, _, _, _ => none
  | n + 1, S, l1, l2, l3, l4, l5, l7 => if l3 < l7 then (some (l4, S)) else (elet (-l3) fun v3 => fr_bestVelocity_b59 (fr_bestVelocity_b49 n) 16384 S l1 l2 l3 l4 l5 l7 v3)
set_option maxHeartbeats 4000000 in
set_option maxRecDepth 100000 in
theorem tr_bestVelocity_b49 {p : Program} {l : Launch} {e : Env} {s : State} {m : MethodId} {args : Array Value} {below : List Frame} {meth : Method} {c : Code} {Q : State → Prop} {D : va_G} {A : Nat → Prop} {H0 : Heap} {cI cJ cZ : ClassId} {ad : Nat → Nat} {r1 : Int32} {S1 : MS} (E : mE p c cX12_bestVelocity s m args (Cond.code yX12_bestVelocity cX12_bestVelocity 11 (some .int) :: wsM) D cI cJ cZ) (hA : ∀ q : Nat, H0.size ≤ q → A q) (hR : sR s) (hml : c.maxLocals = 11) (kr13 : ∀ (H : Heap) (locs : List Loc) (ls : Array Slot), mG D cI cJ cZ ad A H0 H locs S1 → W p l e { frames := 5, cells := 0, slots := 0, locals := 101 } s m args below meth c H locs 0 0 Q (F0 m 13 ls [.int r1])) (kr38 : ∀ (H : Heap) (locs : List Loc) (ls : Array Slot), mG D cI cJ cZ ad A H0 H locs S1 → W p l e { frames := 5, cells := 0, slots := 0, locals := 101 } s m args below meth c H locs 0 0 Q (F0 m 38 ls [.int r1])) (kr129 : ∀ (H : Heap) (locs : List Loc) (ls : Array Slot), mG D cI cJ cZ ad A H0 H locs S1 → W p l e { frames := 5, cells := 0, slots := 0, locals := 101 } s m args below meth c H locs 0 0 Q (F0 m 129 ls [.int r1])) : ∀ n : Nat, ∀ (S : MS) (H : Heap) (locs : List Loc) (ls : Array Slot) (l1 : Int32) (l2 : Int32) (l3 : Int32) (l4 : Int32) (l5 : Int64) (l7 : Int32), fr_bestVelocity_b49 n S l1 l2 l3 l4 l5 l7 = some (r1, S1) → mG D cI cJ cZ ad A H0 H locs S → lv_has ls 11 [(0, .ref (ad 0)), (1, .int l1), (2, .int l2), (3, .int l3), (4, .int l4), (5, .long l5), (7, .int l7)] → W p l e { frames := 5, cells := 0, slots := 0, locals := 101 } s m args below meth c H locs 0 0 Q (F0 m 49 ls []) := by
  have hx := E.1
  have hb := E.2.1
  have hts := E.2.2.1
  have hown := E.2.2.2.1
  have hK := E.2.2.2.2.1
  intro n
  induction n with
  | zero =>
    intro S H locs ls l1 l2 l3 l4 l5 l7 h
    have h : (none : Option (Int32 × MS)) = some (r1, S1) := h
    cases h
  | succ n ih =>
    intro S H locs ls l1 l2 l3 l4 l5 l7 h G hl
    unfold fr_bestVelocity_b49 at h
    refine lv_iload hx hb dX12_bestVelocity_49 (lv_at hl 6 rfl) ?_
    refine lv_iload_n hx hb dX12_bestVelocity_51 rfl (lv_at hl 3 rfl) ?_
    refine lv_icmp_gt (tgt := 127) hx hb dX12_bestVelocity_52 (by decide) (fun c2 => ?_) (fun c2 => ?_)
    · have h := oif_pos c2 h
      refine lv_iload hx hb dX12_bestVelocity_127 (lv_at hl 4 rfl) ?_
      rw [(osome2 h).2] at G
      refine lv_to (osome2 h).1 ?_
      exact kr129 _ _ _ G
    · have h := oif_neg c2 h
      refine lv_iload_n hx hb dX12_bestVelocity_55 rfl (lv_at hl 3 rfl) ?_
      refine lv_ineg hx hb dX12_bestVelocity_56 ?_
      refine lv_topi (fun v3 ev3 => ?_)
      have h := elet_at ev3 h
      clear ev3
      refine lv_istore (lv' := [(8, .int v3), (0, .ref (ad 0)), (1, .int l1), (2, .int l2), (3, .int l3), (4, .int l4), (5, .long l5), (7, .int l7)]) hx hb dX12_bestVelocity_57 hl (by decide) rfl (fun ls hl => ?_)
      have hl := lv_sub hl [1, 2, 3, 4, 5, 6, 7, 0] rfl
      exact tr_bestVelocity_b59 E hA hR hml kr13 kr38 kr129 ih _ _ _ _ _ _ _ _ _ _ _ _ h G hl
def fr_bestVelocity (S : MS) (a0 : Int32) (a1 : Int32) (a2 : Int32) : Option (Int32 × MS) := obind2 (fr_isCell S a0) fun r5 S2 => obind2 (fr_mayAsk S2 r5) fun r9 S6 => if r9 = 0 then (some (0, S6)) else (obind (fr_in a1 1 99) fun r11 => if r11 = 0 then (fr_bestVelocity_b33 S6) else (obind (fr_in a2 0 4) fun r14 => if r14 = 0 then (fr_bestVelocity_b33 S6) else (elet (-a2) fun v17 => fr_bestVelocity_b49 16384 S6 a0 a1 a2 (-1) (0 : Int64) v17)))
set_option maxHeartbeats 4000000 in
set_option maxRecDepth 100000 in
theorem tr_bestVelocity (l : Launch) (D : va_G) (cI cJ cZ : ClassId) (ad : Nat → Nat) (S : MS) (a0 : Int32) (a1 : Int32) (a2 : Int32) {r1 : Int32} {S1 : MS} (h : fr_bestVelocity S a0 a1 a2 = some (r1, S1)) : mCi l yX12_bestVelocity (Cond.code yX12_bestVelocity cX12_bestVelocity 11 (some .int) :: wsM) 5 101 D cI cJ cZ ad S [.int a0, .int a1, .int a2] (fun r S9 => r = r1 ∧ S9 = S1) := by
  intro sz
  refine Met.ofW (cc := cX12_bestVelocity) (maxL := 11) (ret := (some .int)) (by decide) rfl ?_
  intro p e s m args below meth c s₁ B hml hv
  obtain ⟨rfl, hsz, hP, hK, hD0, hR⟩ := hv
  have hx := B.exec
  have hb := B.bytes
  have hr := B.returns
  have hts := atoms_spec (ws := (Cond.code yX12_bestVelocity cX12_bestVelocity 11 (some .int) :: wsM)) B.pre
  have hown : s.vm.findClass RX12 = some m.cls := findClass_of_methodNamed B.named
  have hlocks := B.notSynchronized
  subst hsz
  have hD := hD0.self (sz := s.heap.size)
  generalize hAe : va_A (MW cI cJ cZ ad S) s.heap.size = A at hD ⊢
  have hA : ∀ q : Nat, s.heap.size ≤ q → A q := fun q h => by rw [← hAe]; exact Or.inr h
  have G : mG D cI cJ cZ ad A s.heap s.heap [] S := ⟨hP, hD, va_S.rf⟩
  have E : mE p c cX12_bestVelocity s m ([.ref (ad 0), .int a0, .int a1, .int a2] : List Value).toArray (Cond.code yX12_bestVelocity cX12_bestVelocity 11 (some .int) :: wsM) D cI cJ cZ := ⟨hx, hb, hts, hown, hK, fun w h => .tail _ (iM_x h)⟩
  have hl := lv_entry ([.ref (ad 0), .int a0, .int a1, .int a2]) (n := 11) (Nat.le_of_ble_eq_true rfl)
  rw [lg_entry_eq]
  generalize (lg_sl ([.ref (ad 0), .int a0, .int a1, .int a2]) ++ List.replicate (11 - (lg_sl ([.ref (ad 0), .int a0, .int a1, .int a2])).length) Slot.unset).toArray = ls at hl ⊢
  have hl : lv_has ls 11 [(0, .ref (ad 0)), (1, .int a0), (2, .int a1), (3, .int a2)] := hl
  unfold fr_bestVelocity at h
  refine lv_aload_n hx hb dX12_bestVelocity_0 rfl (lv_at hl 0 rfl) ?_
  refine lv_aload_n hx hb dX12_bestVelocity_1 rfl (lv_at hl 0 rfl) ?_
  refine lv_iload_n hx hb dX12_bestVelocity_2 rfl (lv_at hl 1 rfl) ?_
  obtain ⟨r5, S2, eS2, h⟩ := obind2_some h
  refine m_calli (As := [.int a0]) (rest := [.ref (ad 0)]) E G hA hR hml (tr_isCell l D cI cJ cZ ad S a0 eS2) (cwV 1 hts (gmV qM_326 qM_327 qM_328 qM_35 qM_307) rfl rfl rfl (by decide +kernel) ⟨Nat.le_of_ble_eq_true rfl, Nat.le_of_ble_eq_true rfl⟩) rfl hl.1 rfl (lv_room (Nat.le_of_ble_eq_true rfl)) dX12_bestVelocity_3 ⟨Nat.zero_le _, Nat.zero_le _⟩ (fun q3 S4 H locs hq G => ?_)
  obtain ⟨hq1, hq2⟩ := hq
  rw [hq2] at G
  refine lv_to hq1 ?_
  clear hq1 hq2 eS2
  obtain ⟨r9, S6, eS6, h⟩ := obind2_some h
  refine m_calli (As := [.int r5]) (rest := []) E G hA hR hml (tr_mayAsk l D cI cJ cZ ad S2 r5 eS6) (cwV 1 hts (gmV qM_319 qM_320 qM_321 qM_35 qM_304) rfl rfl rfl (by decide +kernel) ⟨Nat.le_of_ble_eq_true rfl, Nat.le_of_ble_eq_true rfl⟩) rfl hl.1 rfl (lv_room (Nat.le_of_ble_eq_true rfl)) dX12_bestVelocity_6 ⟨Nat.zero_le _, Nat.zero_le _⟩ (fun q7 S8 H locs hq G => ?_)
  obtain ⟨hq1, hq2⟩ := hq
  rw [hq2] at G
  refine lv_to hq1 ?_
  clear hq1 hq2 eS6
  refine lv_if_ne (tgt := 14) hx hb dX12_bestVelocity_9 (by decide) (fun c10 => ?_) (fun c10 => ?_)
  · have h := oif_neg c10 h
    refine lv_iload_n hx hb dX12_bestVelocity_14 rfl (lv_at hl 2 rfl) ?_
    refine lv_iconst (v := 1) hx hb dX12_bestVelocity_15 (by decide) ?_
    refine lv_bipush (v := 99) hx hb dX12_bestVelocity_16 (by decide) ?_
    obtain ⟨r11, er11, h⟩ := obind_some h
    refine m_stat (As := [.int a1, .int 1, .int 99]) (rest := []) ⟨hx, hb, hml, hown, hts⟩ (tr_in l a1 1 99 er11) (cwS 3 hts (gmS qM_52 qM_53 qM_35 qM_27) rfl rfl rfl (by decide +kernel) ⟨Nat.le_of_ble_eq_true rfl, Nat.le_of_ble_eq_true rfl⟩) rfl hl.1 rfl (lv_room (Nat.le_of_ble_eq_true rfl)) dX12_bestVelocity_18 ⟨Nat.zero_le _, Nat.zero_le _⟩ (fun q12 hq => ?_)
    refine lv_to hq ?_
    clear hq er11
    refine lv_if_eq (tgt := 33) hx hb dX12_bestVelocity_21 (by decide) (fun c13 => ?_) (fun c13 => ?_)
    · have h := oif_pos c13 h
      have hl := lv_sub hl [0] rfl
      exact tr_bestVelocity_b33 E hA hR hml (fun H locs ls G => W.iret (v := r1) hx hb hr (fun t ht hW => ⟨⟨r1, S1, rfl, ⟨rfl, rfl⟩, ⟨by rw [ht]; exact G.1, va_K.moved hW.alike hK, G.2.1⟩⟩, G.2.2.F ht⟩) G.2.2.2.2 dX12_bestVelocity_13) (fun H locs ls G => W.iret (v := r1) hx hb hr (fun t ht hW => ⟨⟨r1, S1, rfl, ⟨rfl, rfl⟩, ⟨by rw [ht]; exact G.1, va_K.moved hW.alike hK, G.2.1⟩⟩, G.2.2.F ht⟩) G.2.2.2.2 dX12_bestVelocity_38) (fun H locs ls G => W.iret (v := r1) hx hb hr (fun t ht hW => ⟨⟨r1, S1, rfl, ⟨rfl, rfl⟩, ⟨by rw [ht]; exact G.1, va_K.moved hW.alike hK, G.2.1⟩⟩, G.2.2.F ht⟩) G.2.2.2.2 dX12_bestVelocity_129) _ _ _ _ h G hl
    · have h := oif_neg c13 h
      refine lv_iload_n hx hb dX12_bestVelocity_24 rfl (lv_at hl 3 rfl) ?_
      refine lv_iconst (v := 0) hx hb dX12_bestVelocity_25 (by decide) ?_
      refine lv_iconst (v := 4) hx hb dX12_bestVelocity_26 (by decide) ?_
      obtain ⟨r14, er14, h⟩ := obind_some h
      refine m_stat (As := [.int a2, .int 0, .int 4]) (rest := []) ⟨hx, hb, hml, hown, hts⟩ (tr_in l a2 0 4 er14) (cwS 3 hts (gmS qM_52 qM_53 qM_35 qM_27) rfl rfl rfl (by decide +kernel) ⟨Nat.le_of_ble_eq_true rfl, Nat.le_of_ble_eq_true rfl⟩) rfl hl.1 rfl (lv_room (Nat.le_of_ble_eq_true rfl)) dX12_bestVelocity_27 ⟨Nat.zero_le _, Nat.zero_le _⟩ (fun q15 hq => ?_)
      refine lv_to hq ?_
      clear hq er14
      refine lv_if_ne (tgt := 39) hx hb dX12_bestVelocity_30 (by decide) (fun c16 => ?_) (fun c16 => ?_)
      · have h := oif_neg c16 h
        refine lv_iconst (v := (-1)) hx hb dX12_bestVelocity_39 (by decide) ?_
        refine lv_istore (lv' := [(4, .int (-1)), (0, .ref (ad 0)), (1, .int a0), (2, .int a1), (3, .int a2)]) hx hb dX12_bestVelocity_40 hl (by decide) rfl (fun ls hl => ?_)
        refine lv_lconst (v := 0) hx hb dX12_bestVelocity_42 (by decide) ?_
        refine lv_lstore (lv' := [(5, .long (0 : Int64)), (4, .int (-1)), (0, .ref (ad 0)), (1, .int a0), (2, .int a1), (3, .int a2)]) hx hb dX12_bestVelocity_43 hl (by decide) rfl (fun ls hl => ?_)
        refine lv_iload_n hx hb dX12_bestVelocity_45 rfl (lv_at hl 5 rfl) ?_
        refine lv_ineg hx hb dX12_bestVelocity_46 ?_
        refine lv_topi (fun v17 ev17 => ?_)
        have h := elet_at ev17 h
        clear ev17
        refine lv_istore (lv' := [(7, .int v17), (5, .long (0 : Int64)), (4, .int (-1)), (0, .ref (ad 0)), (1, .int a0), (2, .int a1), (3, .int a2)]) hx hb dX12_bestVelocity_47 hl (by decide) rfl (fun ls hl => ?_)
        have hl := lv_sub hl [3, 4, 5, 6, 2, 1, 0] rfl
        exact tr_bestVelocity_b49 E hA hR hml (fun H locs ls G => W.iret (v := r1) hx hb hr (fun t ht hW => ⟨⟨r1, S1, rfl, ⟨rfl, rfl⟩, ⟨by rw [ht]; exact G.1, va_K.moved hW.alike hK, G.2.1⟩⟩, G.2.2.F ht⟩) G.2.2.2.2 dX12_bestVelocity_13) (fun H locs ls G => W.iret (v := r1) hx hb hr (fun t ht hW => ⟨⟨r1, S1, rfl, ⟨rfl, rfl⟩, ⟨by rw [ht]; exact G.1, va_K.moved hW.alike hK, G.2.1⟩⟩, G.2.2.F ht⟩) G.2.2.2.2 dX12_bestVelocity_38) (fun H locs ls G => W.iret (v := r1) hx hb hr (fun t ht hW => ⟨⟨r1, S1, rfl, ⟨rfl, rfl⟩, ⟨by rw [ht]; exact G.1, va_K.moved hW.alike hK, G.2.1⟩⟩, G.2.2.F ht⟩) G.2.2.2.2 dX12_bestVelocity_129) _ _ _ _ _ _ _ _ _ _ _ h G hl
      · have h := oif_pos c16 h
        have hl := lv_sub hl [0] rfl
        exact tr_bestVelocity_b33 E hA hR hml (fun H locs ls G => W.iret (v := r1) hx hb hr (fun t ht hW => ⟨⟨r1, S1, rfl, ⟨rfl, rfl⟩, ⟨by rw [ht]; exact G.1, va_K.moved hW.alike hK, G.2.1⟩⟩, G.2.2.F ht⟩) G.2.2.2.2 dX12_bestVelocity_13) (fun H locs ls G => W.iret (v := r1) hx hb hr (fun t ht hW => ⟨⟨r1, S1, rfl, ⟨rfl, rfl⟩, ⟨by rw [ht]; exact G.1, va_K.moved hW.alike hK, G.2.1⟩⟩, G.2.2.F ht⟩) G.2.2.2.2 dX12_bestVelocity_38) (fun H locs ls G => W.iret (v := r1) hx hb hr (fun t ht hW => ⟨⟨r1, S1, rfl, ⟨rfl, rfl⟩, ⟨by rw [ht]; exact G.1, va_K.moved hW.alike hK, G.2.1⟩⟩, G.2.2.F ht⟩) G.2.2.2.2 dX12_bestVelocity_129) _ _ _ _ h G hl
  · have h := oif_pos c10 h
    refine lv_iconst (v := 0) hx hb dX12_bestVelocity_12 (by decide) ?_
    exact W.iret (v := 0) hx hb hr (fun t ht hW => ⟨⟨0, S6, rfl, osome2 h, ⟨by rw [ht]; exact G.1, va_K.moved hW.alike hK, G.2.1⟩⟩, G.2.2.F ht⟩) G.2.2.2.2 dX12_bestVelocity_13
def fr_together_b6  : Nat → MS → Int32 → Int32 → Int32 → Int64 → Int32 → Option (Int64 × MS)
  | 0, _, _, _, _, _, _ => none
  | n + 1, S, l1, l2, l3, l4, l6 => elet (l6 + l3) fun v2 => elet (S.2.1 10 2) fun v3 => if v3 ≤ v2 then (some (l4, S)) else (elet (200 * l1) fun v5 => elet (55 + v5) fun v6 => elet (v6 + l6) fun v7 => oif (inb v7 2455 = true) <| elet (S.2.1 12 v7.toNatClampNeg) fun v9 => elet (v9.toInt64) fun v10 => elet (200 * l2) fun v11 => elet (55 + v11) fun v12 => elet (v12 + l6) fun v13 => elet (v13 + l3) fun v14 => oif (inb v14 2455 = true) <| elet (S.2.1 12 v14.toNatClampNeg) fun v16 => elet (v16.toInt64) fun v17 => elet (v10 * v17) fun v18 => elet (l4 + v18) fun v19 => elet (l6 + Int32.ofInt (1)) fun v20 => fr_together_b6 n S l1 l2 l3 v19 v20)
set_option maxHeartbeats 4000000 in
set_option maxRecDepth 100000 in
theorem tr_together_b6 {p : Program} {l : Launch} {e : Env} {s : State} {m : MethodId} {args : Array Value} {below : List Frame} {meth : Method} {c : Code} {Q : State → Prop} {D : va_G} {A : Nat → Prop} {H0 : Heap} {cI cJ cZ : ClassId} {ad : Nat → Nat} {r1 : Int64} {S1 : MS} (E : mE p c cX12_together s m args (Cond.code yX12_together cX12_together 7 (some .long) :: wsM) D cI cJ cZ) (hA : ∀ q : Nat, H0.size ≤ q → A q) (hR : sR s) (hml : c.maxLocals = 7) (kr69 : ∀ (H : Heap) (locs : List Loc) (ls : Array Slot), mG D cI cJ cZ ad A H0 H locs S1 → W p l e { frames := 1, cells := 0, slots := 0, locals := 0 } s m args below meth c H locs 0 0 Q (F0 m 69 ls [.long r1])) : ∀ n : Nat, ∀ (S : MS) (H : Heap) (locs : List Loc) (ls : Array Slot) (l1 : Int32) (l2 : Int32) (l3 : Int32) (l4 : Int64) (l6 : Int32), fr_together_b6 n S l1 l2 l3 l4 l6 = some (r1, S1) → mG D cI cJ cZ ad A H0 H locs S → lv_has ls 7 [(0, .ref (ad 0)), (1, .int l1), (2, .int l2), (3, .int l3), (4, .long l4), (6, .int l6)] → W p l e { frames := 1, cells := 0, slots := 0, locals := 0 } s m args below meth c H locs 0 0 Q (F0 m 6 ls []) := by
  have hx := E.1
  have hb := E.2.1
  have hts := E.2.2.1
  have hown := E.2.2.2.1
  have hK := E.2.2.2.2.1
  intro n
  induction n with
  | zero =>
    intro S H locs ls l1 l2 l3 l4 l6 h
    have h : (none : Option (Int64 × MS)) = some (r1, S1) := h
    cases h
  | succ n ih =>
    intro S H locs ls l1 l2 l3 l4 l6 h G hl
    unfold fr_together_b6 at h
    refine lv_iload hx hb dX12_together_6 (lv_at hl 5 rfl) ?_
    refine lv_iload_n hx hb dX12_together_8 rfl (lv_at hl 3 rfl) ?_
    refine lv_iadd hx hb dX12_together_9 ?_
    refine lv_topi (fun v2 ev2 => ?_)
    have h := elet_at ev2 h
    clear ev2
    refine lv_aload_n hx hb dX12_together_10 rfl (lv_at hl 0 rfl) ?_
    refine m_get E G 10 (v := .ref (ad 10)) (by decide) (.tail _ qM_7) rfl dX12_together_11 rfl ?_
    refine lv_iconst (v := 2) hx hb dX12_together_14 (by decide) ?_
    refine m_iald E G 10 2 (n := 131) (k := 2) rfl rfl (by decide) (by decide) dX12_together_15 ?_
    refine lv_topi (fun v3 ev3 => ?_)
    have h := elet_at ev3 h
    clear ev3
    refine lv_icmp_ge (tgt := 67) hx hb dX12_together_16 (by decide) (fun c4 => ?_) (fun c4 => ?_)
    · have h := oif_pos c4 h
      refine lv_lload hx hb dX12_together_67 (lv_at hl 4 rfl) ?_
      rw [(osome2 h).2] at G
      refine lv_tol (osome2 h).1 ?_
      exact kr69 _ _ _ G
    · have h := oif_neg c4 h
      refine lv_lload hx hb dX12_together_19 (lv_at hl 4 rfl) ?_
      refine lv_aload_n hx hb dX12_together_21 rfl (lv_at hl 0 rfl) ?_
      refine m_get E G 12 (v := .ref (ad 12)) (by decide) (.tail _ qM_9) rfl dX12_together_22 rfl ?_
      refine lv_bipush (v := 55) hx hb dX12_together_25 (by decide) ?_
      refine lv_sipush (v := 200) hx hb dX12_together_27 (by decide) ?_
      refine lv_iload_n hx hb dX12_together_30 rfl (lv_at hl 1 rfl) ?_
      refine lv_imul hx hb dX12_together_31 ?_
      refine lv_topi (fun v5 ev5 => ?_)
      have h := elet_at ev5 h
      clear ev5
      refine lv_iadd hx hb dX12_together_32 ?_
      refine lv_topi (fun v6 ev6 => ?_)
      have h := elet_at ev6 h
      clear ev6
      refine lv_iload hx hb dX12_together_33 (lv_at hl 5 rfl) ?_
      refine lv_iadd hx hb dX12_together_35 ?_
      refine lv_topi (fun v7 ev7 => ?_)
      have h := elet_at ev7 h
      clear ev7
      obtain ⟨g8, h⟩ := oif_some h
      refine m_iald E G 12 4 (n := 2455) (k := v7.toNatClampNeg) rfl (inb_k g8).1 (inb_k g8).2 (by decide) dX12_together_36 ?_
      refine lv_topi (fun v9 ev9 => ?_)
      have h := elet_at ev9 h
      clear ev9
      refine lv_i2l (v := v9.toInt64) hx hb dX12_together_37 rfl ?_
      refine lv_topl (fun v10 ev10 => ?_)
      have h := elet_at ev10 h
      clear ev10
      refine lv_aload_n hx hb dX12_together_38 rfl (lv_at hl 0 rfl) ?_
      refine m_get E G 12 (v := .ref (ad 12)) (by decide) (.tail _ qM_9) rfl dX12_together_39 rfl ?_
      refine lv_bipush (v := 55) hx hb dX12_together_42 (by decide) ?_
      refine lv_sipush (v := 200) hx hb dX12_together_44 (by decide) ?_
      refine lv_iload_n hx hb dX12_together_47 rfl (lv_at hl 2 rfl) ?_
      refine lv_imul hx hb dX12_together_48 ?_
      refine lv_topi (fun v11 ev11 => ?_)
      have h := elet_at ev11 h
      clear ev11
      refine lv_iadd hx hb dX12_together_49 ?_
      refine lv_topi (fun v12 ev12 => ?_)
      have h := elet_at ev12 h
      clear ev12
      refine lv_iload hx hb dX12_together_50 (lv_at hl 5 rfl) ?_
      refine lv_iadd hx hb dX12_together_52 ?_
      refine lv_topi (fun v13 ev13 => ?_)
      have h := elet_at ev13 h
      clear ev13
      refine lv_iload_n hx hb dX12_together_53 rfl (lv_at hl 3 rfl) ?_
      refine lv_iadd hx hb dX12_together_54 ?_
      refine lv_topi (fun v14 ev14 => ?_)
      have h := elet_at ev14 h
      clear ev14
      obtain ⟨g15, h⟩ := oif_some h
      refine m_iald E G 12 4 (n := 2455) (k := v14.toNatClampNeg) rfl (inb_k g15).1 (inb_k g15).2 (by decide) dX12_together_55 ?_
      refine lv_topi (fun v16 ev16 => ?_)
      have h := elet_at ev16 h
      clear ev16
      refine lv_i2l (v := v16.toInt64) hx hb dX12_together_56 rfl ?_
      refine lv_topl (fun v17 ev17 => ?_)
      have h := elet_at ev17 h
      clear ev17
      refine lv_lmul hx hb dX12_together_57 ?_
      refine lv_topl (fun v18 ev18 => ?_)
      have h := elet_at ev18 h
      clear ev18
      refine lv_ladd hx hb dX12_together_58 ?_
      refine lv_topl (fun v19 ev19 => ?_)
      have h := elet_at ev19 h
      clear ev19
      refine lv_lstore (lv' := [(4, .long v19), (0, .ref (ad 0)), (1, .int l1), (2, .int l2), (3, .int l3), (6, .int l6)]) hx hb dX12_together_59 hl (by decide) rfl (fun ls hl => ?_)
      obtain ⟨v20, ev20, h⟩ := elet_some h
      refine lv_iinc (v := v20) (lv' := [(6, .int v20), (4, .long v19), (0, .ref (ad 0)), (1, .int l1), (2, .int l2), (3, .int l3)]) hx hb dX12_together_61 hl (k := 5) rfl ev20.symm (by decide) rfl (fun ls hl => ?_)
      refine lv_goto (tgt := 6) hx hb dX12_together_64 (by decide) ?_
      have hl := lv_sub hl [2, 3, 4, 5, 1, 0] rfl
      exact ih _ _ _ _ _ _ _ _ _ h G hl
def fr_together (S : MS) (a0 : Int32) (a1 : Int32) (a2 : Int32) : Option (Int64 × MS) := fr_together_b6 16384 S a0 a1 a2 (0 : Int64) 0
set_option maxHeartbeats 4000000 in
set_option maxRecDepth 100000 in
theorem tr_together (l : Launch) (D : va_G) (cI cJ cZ : ClassId) (ad : Nat → Nat) (S : MS) (a0 : Int32) (a1 : Int32) (a2 : Int32) {r1 : Int64} {S1 : MS} (h : fr_together S a0 a1 a2 = some (r1, S1)) : mCl l yX12_together (Cond.code yX12_together cX12_together 7 (some .long) :: wsM) 1 0 D cI cJ cZ ad S [.int a0, .int a1, .int a2] (fun r S9 => r = r1 ∧ S9 = S1) := by
  intro sz
  refine Met.ofW (cc := cX12_together) (maxL := 7) (ret := (some .long)) (by decide) rfl ?_
  intro p e s m args below meth c s₁ B hml hv
  obtain ⟨rfl, hsz, hP, hK, hD0, hR⟩ := hv
  have hx := B.exec
  have hb := B.bytes
  have hr := B.returns
  have hts := atoms_spec (ws := (Cond.code yX12_together cX12_together 7 (some .long) :: wsM)) B.pre
  have hown : s.vm.findClass RX12 = some m.cls := findClass_of_methodNamed B.named
  have hlocks := B.notSynchronized
  subst hsz
  have hD := hD0.self (sz := s.heap.size)
  generalize hAe : va_A (MW cI cJ cZ ad S) s.heap.size = A at hD ⊢
  have hA : ∀ q : Nat, s.heap.size ≤ q → A q := fun q h => by rw [← hAe]; exact Or.inr h
  have G : mG D cI cJ cZ ad A s.heap s.heap [] S := ⟨hP, hD, va_S.rf⟩
  have E : mE p c cX12_together s m ([.ref (ad 0), .int a0, .int a1, .int a2] : List Value).toArray (Cond.code yX12_together cX12_together 7 (some .long) :: wsM) D cI cJ cZ := ⟨hx, hb, hts, hown, hK, fun w h => .tail _ (iM_x h)⟩
  have hl := lv_entry ([.ref (ad 0), .int a0, .int a1, .int a2]) (n := 7) (Nat.le_of_ble_eq_true rfl)
  rw [lg_entry_eq]
  generalize (lg_sl ([.ref (ad 0), .int a0, .int a1, .int a2]) ++ List.replicate (7 - (lg_sl ([.ref (ad 0), .int a0, .int a1, .int a2])).length) Slot.unset).toArray = ls at hl ⊢
  have hl : lv_has ls 7 [(0, .ref (ad 0)), (1, .int a0), (2, .int a1), (3, .int a2)] := hl
  unfold fr_together at h
  refine lv_lconst (v := 0) hx hb dX12_together_0 (by decide) ?_
  refine lv_lstore (lv' := [(4, .long (0 : Int64)), (0, .ref (ad 0)), (1, .int a0), (2, .int a1), (3, .int a2)]) hx hb dX12_together_1 hl (by decide) rfl (fun ls hl => ?_)
  refine lv_iconst (v := 0) hx hb dX12_together_3 (by decide) ?_
  refine lv_istore (lv' := [(6, .int 0), (4, .long (0 : Int64)), (0, .ref (ad 0)), (1, .int a0), (2, .int a1), (3, .int a2)]) hx hb dX12_together_4 hl (by decide) rfl (fun ls hl => ?_)
  have hl := lv_sub hl [2, 3, 4, 5, 1, 0] rfl
  exact tr_together_b6 E hA hR hml (fun H locs ls G => W.lret (v := r1) hx hb hr (fun t ht hW => ⟨⟨r1, S1, rfl, ⟨rfl, rfl⟩, ⟨by rw [ht]; exact G.1, va_K.moved hW.alike hK, G.2.1⟩⟩, G.2.2.F ht⟩) G.2.2.2.2 dX12_together_69) _ _ _ _ _ _ _ _ _ _ h G hl
def fr_correlation_b54  (S : MS) (s0 : Int64) : Option (Int64 × MS) := some (s0, S)
set_option maxHeartbeats 4000000 in
set_option maxRecDepth 100000 in
theorem tr_correlation_b54 {p : Program} {l : Launch} {e : Env} {s : State} {m : MethodId} {args : Array Value} {below : List Frame} {meth : Method} {c : Code} {Q : State → Prop} {D : va_G} {A : Nat → Prop} {H0 : Heap} {cI cJ cZ : ClassId} {ad : Nat → Nat} {r1 : Int64} {S1 : MS} (E : mE p c cX12_correlation s m args (Cond.code yX12_correlation cX12_correlation 4 (some .long) :: wsM) D cI cJ cZ) (hA : ∀ q : Nat, H0.size ≤ q → A q) (hR : sR s) (hml : c.maxLocals = 4) (kr29 : ∀ (H : Heap) (locs : List Loc) (ls : Array Slot), mG D cI cJ cZ ad A H0 H locs S1 → W p l e { frames := 3, cells := 0, slots := 0, locals := 43 } s m args below meth c H locs 0 0 Q (F0 m 29 ls [.long r1])) (kr54 : ∀ (H : Heap) (locs : List Loc) (ls : Array Slot), mG D cI cJ cZ ad A H0 H locs S1 → W p l e { frames := 3, cells := 0, slots := 0, locals := 43 } s m args below meth c H locs 0 0 Q (F0 m 54 ls [.long r1])) : ∀ (S : MS) (H : Heap) (locs : List Loc) (ls : Array Slot) (s0 : Int64), fr_correlation_b54 S s0 = some (r1, S1) → mG D cI cJ cZ ad A H0 H locs S → lv_has ls 4 [] → W p l e { frames := 3, cells := 0, slots := 0, locals := 43 } s m args below meth c H locs 0 0 Q (F0 m 54 ls [.long s0]) := by
  have hx := E.1
  have hb := E.2.1
  have hts := E.2.2.1
  have hown := E.2.2.2.1
  have hK := E.2.2.2.2.1
  intro S H locs ls s0 h G hl
  unfold fr_correlation_b54 at h
  rw [(osome2 h).2] at G
  refine lv_tol (osome2 h).1 ?_
  exact kr54 _ _ _ G
def fr_correlation_b22  (S : MS) (s0 : Int32) (l1 : Int32) (l2 : Int32) (l3 : Int32) : Option (Int64 × MS) := obind2 (fr_mayAsk S s0) fun r5 S2 => if r5 = 0 then (some ((0 : Int64), S2)) else (obind2 (fr_isTime S2 l3) fun r10 S7 => if r10 = 0 then (obind2 (fr_throwsAt S7 3) fun r15 S12 => elet (r15.toInt64) fun v16 => fr_correlation_b54 S12 v16) else (obind2 (fr_together S7 l1 l2 l3) fun r20 S17 => fr_correlation_b54 S17 r20))
set_option maxHeartbeats 4000000 in
set_option maxRecDepth 100000 in
theorem tr_correlation_b22 {p : Program} {l : Launch} {e : Env} {s : State} {m : MethodId} {args : Array Value} {below : List Frame} {meth : Method} {c : Code} {Q : State → Prop} {D : va_G} {A : Nat → Prop} {H0 : Heap} {cI cJ cZ : ClassId} {ad : Nat → Nat} {r1 : Int64} {S1 : MS} (E : mE p c cX12_correlation s m args (Cond.code yX12_correlation cX12_correlation 4 (some .long) :: wsM) D cI cJ cZ) (hA : ∀ q : Nat, H0.size ≤ q → A q) (hR : sR s) (hml : c.maxLocals = 4) (kr29 : ∀ (H : Heap) (locs : List Loc) (ls : Array Slot), mG D cI cJ cZ ad A H0 H locs S1 → W p l e { frames := 3, cells := 0, slots := 0, locals := 43 } s m args below meth c H locs 0 0 Q (F0 m 29 ls [.long r1])) (kr54 : ∀ (H : Heap) (locs : List Loc) (ls : Array Slot), mG D cI cJ cZ ad A H0 H locs S1 → W p l e { frames := 3, cells := 0, slots := 0, locals := 43 } s m args below meth c H locs 0 0 Q (F0 m 54 ls [.long r1])) : ∀ (S : MS) (H : Heap) (locs : List Loc) (ls : Array Slot) (s0 : Int32) (l1 : Int32) (l2 : Int32) (l3 : Int32), fr_correlation_b22 S s0 l1 l2 l3 = some (r1, S1) → mG D cI cJ cZ ad A H0 H locs S → lv_has ls 4 [(0, .ref (ad 0)), (1, .int l1), (2, .int l2), (3, .int l3)] → W p l e { frames := 3, cells := 0, slots := 0, locals := 43 } s m args below meth c H locs 0 0 Q (F0 m 22 ls [.int s0, .ref (ad 0)]) := by
  have hx := E.1
  have hb := E.2.1
  have hts := E.2.2.1
  have hown := E.2.2.2.1
  have hK := E.2.2.2.2.1
  intro S H locs ls s0 l1 l2 l3 h G hl
  unfold fr_correlation_b22 at h
  obtain ⟨r5, S2, eS2, h⟩ := obind2_some h
  refine m_calli (As := [.int s0]) (rest := []) E G hA hR hml (tr_mayAsk l D cI cJ cZ ad S s0 eS2) (cwV 1 hts (gmV qM_319 qM_320 qM_321 qM_35 qM_304) rfl rfl rfl (by decide +kernel) ⟨Nat.le_of_ble_eq_true rfl, Nat.le_of_ble_eq_true rfl⟩) rfl hl.1 rfl (lv_room (Nat.le_of_ble_eq_true rfl)) dX12_correlation_22 ⟨Nat.zero_le _, Nat.zero_le _⟩ (fun q3 S4 H locs hq G => ?_)
  obtain ⟨hq1, hq2⟩ := hq
  rw [hq2] at G
  refine lv_to hq1 ?_
  clear hq1 hq2 eS2
  refine lv_if_ne (tgt := 30) hx hb dX12_correlation_25 (by decide) (fun c6 => ?_) (fun c6 => ?_)
  · have h := oif_neg c6 h
    refine lv_aload_n hx hb dX12_correlation_30 rfl (lv_at hl 0 rfl) ?_
    refine lv_iload_n hx hb dX12_correlation_31 rfl (lv_at hl 3 rfl) ?_
    obtain ⟨r10, S7, eS7, h⟩ := obind2_some h
    refine m_calli (As := [.int l3]) (rest := []) E G hA hR hml (tr_isTime l D cI cJ cZ ad S2 l3 eS7) (cwV 1 hts (gmV qM_334 qM_335 qM_336 qM_35 qM_309) rfl rfl rfl (by decide +kernel) ⟨Nat.le_of_ble_eq_true rfl, Nat.le_of_ble_eq_true rfl⟩) rfl hl.1 rfl (lv_room (Nat.le_of_ble_eq_true rfl)) dX12_correlation_32 ⟨Nat.zero_le _, Nat.zero_le _⟩ (fun q8 S9 H locs hq G => ?_)
    obtain ⟨hq1, hq2⟩ := hq
    rw [hq2] at G
    refine lv_to hq1 ?_
    clear hq1 hq2 eS7
    refine lv_if_eq (tgt := 48) hx hb dX12_correlation_35 (by decide) (fun c11 => ?_) (fun c11 => ?_)
    · have h := oif_pos c11 h
      refine lv_aload_n hx hb dX12_correlation_48 rfl (lv_at hl 0 rfl) ?_
      refine lv_iconst (v := 3) hx hb dX12_correlation_49 (by decide) ?_
      obtain ⟨r15, S12, eS12, h⟩ := obind2_some h
      refine m_calli (As := [.int 3]) (rest := []) E G hA hR hml (tr_throwsAt l D cI cJ cZ ad S7 3 eS12) (cwV 1 hts (gmV qM_195 qM_196 qM_197 qM_35 qM_28) rfl rfl rfl (by decide +kernel) ⟨Nat.le_of_ble_eq_true rfl, Nat.le_of_ble_eq_true rfl⟩) rfl hl.1 rfl (lv_room (Nat.le_of_ble_eq_true rfl)) dX12_correlation_50 ⟨Nat.zero_le _, Nat.zero_le _⟩ (fun q13 S14 H locs hq G => ?_)
      obtain ⟨hq1, hq2⟩ := hq
      rw [hq2] at G
      refine lv_to hq1 ?_
      clear hq1 hq2 eS12
      refine lv_i2l (v := r15.toInt64) hx hb dX12_correlation_53 rfl ?_
      refine lv_topl (fun v16 ev16 => ?_)
      have h := elet_at ev16 h
      clear ev16
      have hl := lv_sub hl [] rfl
      exact tr_correlation_b54 E hA hR hml kr29 kr54 _ _ _ _ _ h G hl
    · have h := oif_neg c11 h
      refine lv_aload_n hx hb dX12_correlation_38 rfl (lv_at hl 0 rfl) ?_
      refine lv_iload_n hx hb dX12_correlation_39 rfl (lv_at hl 1 rfl) ?_
      refine lv_iload_n hx hb dX12_correlation_40 rfl (lv_at hl 2 rfl) ?_
      refine lv_iload_n hx hb dX12_correlation_41 rfl (lv_at hl 3 rfl) ?_
      obtain ⟨r20, S17, eS17, h⟩ := obind2_some h
      refine m_calll (As := [.int l1, .int l2, .int l3]) (rest := []) E G hA hR hml (tr_together l D cI cJ cZ ad S7 l1 l2 l3 eS17) (cwV 3 hts (gmV qM_458 qM_459 qM_460 qM_35 qM_456) rfl rfl rfl (by decide +kernel) ⟨Nat.le_of_ble_eq_true rfl, Nat.le_of_ble_eq_true rfl⟩) rfl hl.1 rfl (lv_room (Nat.le_of_ble_eq_true rfl)) dX12_correlation_42 ⟨Nat.zero_le _, Nat.zero_le _⟩ (fun q18 S19 H locs hq G => ?_)
      obtain ⟨hq1, hq2⟩ := hq
      rw [hq2] at G
      refine lv_tol hq1 ?_
      clear hq1 hq2 eS17
      refine lv_goto (tgt := 54) hx hb dX12_correlation_45 (by decide) ?_
      have hl := lv_sub hl [] rfl
      exact tr_correlation_b54 E hA hR hml kr29 kr54 _ _ _ _ _ h G hl
  · have h := oif_pos c6 h
    refine lv_lconst (v := 0) hx hb dX12_correlation_28 (by decide) ?_
    rw [(osome2 h).2] at G
    refine lv_tol (osome2 h).1 ?_
    exact kr29 _ _ _ G
def fr_correlation_b21  (S : MS) (l1 : Int32) (l2 : Int32) (l3 : Int32) : Option (Int64 × MS) := fr_correlation_b22 S 0 l1 l2 l3
set_option maxHeartbeats 4000000 in
set_option maxRecDepth 100000 in
theorem tr_correlation_b21 {p : Program} {l : Launch} {e : Env} {s : State} {m : MethodId} {args : Array Value} {below : List Frame} {meth : Method} {c : Code} {Q : State → Prop} {D : va_G} {A : Nat → Prop} {H0 : Heap} {cI cJ cZ : ClassId} {ad : Nat → Nat} {r1 : Int64} {S1 : MS} (E : mE p c cX12_correlation s m args (Cond.code yX12_correlation cX12_correlation 4 (some .long) :: wsM) D cI cJ cZ) (hA : ∀ q : Nat, H0.size ≤ q → A q) (hR : sR s) (hml : c.maxLocals = 4) (kr29 : ∀ (H : Heap) (locs : List Loc) (ls : Array Slot), mG D cI cJ cZ ad A H0 H locs S1 → W p l e { frames := 3, cells := 0, slots := 0, locals := 43 } s m args below meth c H locs 0 0 Q (F0 m 29 ls [.long r1])) (kr54 : ∀ (H : Heap) (locs : List Loc) (ls : Array Slot), mG D cI cJ cZ ad A H0 H locs S1 → W p l e { frames := 3, cells := 0, slots := 0, locals := 43 } s m args below meth c H locs 0 0 Q (F0 m 54 ls [.long r1])) : ∀ (S : MS) (H : Heap) (locs : List Loc) (ls : Array Slot) (l1 : Int32) (l2 : Int32) (l3 : Int32), fr_correlation_b21 S l1 l2 l3 = some (r1, S1) → mG D cI cJ cZ ad A H0 H locs S → lv_has ls 4 [(0, .ref (ad 0)), (1, .int l1), (2, .int l2), (3, .int l3)] → W p l e { frames := 3, cells := 0, slots := 0, locals := 43 } s m args below meth c H locs 0 0 Q (F0 m 21 ls [.ref (ad 0)]) := by
  have hx := E.1
  have hb := E.2.1
  have hts := E.2.2.1
  have hown := E.2.2.2.1
  have hK := E.2.2.2.2.1
  intro S H locs ls l1 l2 l3 h G hl
  unfold fr_correlation_b21 at h
  refine lv_iconst (v := 0) hx hb dX12_correlation_21 (by decide) ?_
  have hl := lv_sub hl [0, 1, 2, 3] rfl
  exact tr_correlation_b22 E hA hR hml kr29 kr54 _ _ _ _ _ _ _ _ h G hl
def fr_correlation (S : MS) (a0 : Int32) (a1 : Int32) (a2 : Int32) : Option (Int64 × MS) := obind2 (fr_isMic S a0) fun r5 S2 => if r5 = 0 then (fr_correlation_b21 S2 a0 a1 a2) else (obind2 (fr_isMic S2 a1) fun r10 S7 => if r10 = 0 then (fr_correlation_b21 S7 a0 a1 a2) else (fr_correlation_b22 S7 1 a0 a1 a2))
set_option maxHeartbeats 4000000 in
set_option maxRecDepth 100000 in
theorem tr_correlation (l : Launch) (D : va_G) (cI cJ cZ : ClassId) (ad : Nat → Nat) (S : MS) (a0 : Int32) (a1 : Int32) (a2 : Int32) {r1 : Int64} {S1 : MS} (h : fr_correlation S a0 a1 a2 = some (r1, S1)) : mCl l yX12_correlation (Cond.code yX12_correlation cX12_correlation 4 (some .long) :: wsM) 3 43 D cI cJ cZ ad S [.int a0, .int a1, .int a2] (fun r S9 => r = r1 ∧ S9 = S1) := by
  intro sz
  refine Met.ofW (cc := cX12_correlation) (maxL := 4) (ret := (some .long)) (by decide) rfl ?_
  intro p e s m args below meth c s₁ B hml hv
  obtain ⟨rfl, hsz, hP, hK, hD0, hR⟩ := hv
  have hx := B.exec
  have hb := B.bytes
  have hr := B.returns
  have hts := atoms_spec (ws := (Cond.code yX12_correlation cX12_correlation 4 (some .long) :: wsM)) B.pre
  have hown : s.vm.findClass RX12 = some m.cls := findClass_of_methodNamed B.named
  have hlocks := B.notSynchronized
  subst hsz
  have hD := hD0.self (sz := s.heap.size)
  generalize hAe : va_A (MW cI cJ cZ ad S) s.heap.size = A at hD ⊢
  have hA : ∀ q : Nat, s.heap.size ≤ q → A q := fun q h => by rw [← hAe]; exact Or.inr h
  have G : mG D cI cJ cZ ad A s.heap s.heap [] S := ⟨hP, hD, va_S.rf⟩
  have E : mE p c cX12_correlation s m ([.ref (ad 0), .int a0, .int a1, .int a2] : List Value).toArray (Cond.code yX12_correlation cX12_correlation 4 (some .long) :: wsM) D cI cJ cZ := ⟨hx, hb, hts, hown, hK, fun w h => .tail _ (iM_x h)⟩
  have hl := lv_entry ([.ref (ad 0), .int a0, .int a1, .int a2]) (n := 4) (Nat.le_of_ble_eq_true rfl)
  rw [lg_entry_eq]
  generalize (lg_sl ([.ref (ad 0), .int a0, .int a1, .int a2]) ++ List.replicate (4 - (lg_sl ([.ref (ad 0), .int a0, .int a1, .int a2])).length) Slot.unset).toArray = ls at hl ⊢
  have hl : lv_has ls 4 [(0, .ref (ad 0)), (1, .int a0), (2, .int a1), (3, .int a2)] := hl
  unfold fr_correlation at h
  refine lv_aload_n hx hb dX12_correlation_0 rfl (lv_at hl 0 rfl) ?_
  refine lv_aload_n hx hb dX12_correlation_1 rfl (lv_at hl 0 rfl) ?_
  refine lv_iload_n hx hb dX12_correlation_2 rfl (lv_at hl 1 rfl) ?_
  obtain ⟨r5, S2, eS2, h⟩ := obind2_some h
  refine m_calli (As := [.int a0]) (rest := [.ref (ad 0)]) E G hA hR hml (tr_isMic l D cI cJ cZ ad S a0 eS2) (cwV 1 hts (gmV qM_316 qM_317 qM_318 qM_35 qM_306) rfl rfl rfl (by decide +kernel) ⟨Nat.le_of_ble_eq_true rfl, Nat.le_of_ble_eq_true rfl⟩) rfl hl.1 rfl (lv_room (Nat.le_of_ble_eq_true rfl)) dX12_correlation_3 ⟨Nat.zero_le _, Nat.zero_le _⟩ (fun q3 S4 H locs hq G => ?_)
  obtain ⟨hq1, hq2⟩ := hq
  rw [hq2] at G
  refine lv_to hq1 ?_
  clear hq1 hq2 eS2
  refine lv_if_eq (tgt := 21) hx hb dX12_correlation_6 (by decide) (fun c6 => ?_) (fun c6 => ?_)
  · have h := oif_pos c6 h
    have hl := lv_sub hl [0, 1, 2, 3] rfl
    exact tr_correlation_b21 E hA hR hml (fun H locs ls G => W.lret (v := r1) hx hb hr (fun t ht hW => ⟨⟨r1, S1, rfl, ⟨rfl, rfl⟩, ⟨by rw [ht]; exact G.1, va_K.moved hW.alike hK, G.2.1⟩⟩, G.2.2.F ht⟩) G.2.2.2.2 dX12_correlation_29) (fun H locs ls G => W.lret (v := r1) hx hb hr (fun t ht hW => ⟨⟨r1, S1, rfl, ⟨rfl, rfl⟩, ⟨by rw [ht]; exact G.1, va_K.moved hW.alike hK, G.2.1⟩⟩, G.2.2.F ht⟩) G.2.2.2.2 dX12_correlation_54) _ _ _ _ _ _ _ h G hl
  · have h := oif_neg c6 h
    refine lv_aload_n hx hb dX12_correlation_9 rfl (lv_at hl 0 rfl) ?_
    refine lv_iload_n hx hb dX12_correlation_10 rfl (lv_at hl 2 rfl) ?_
    obtain ⟨r10, S7, eS7, h⟩ := obind2_some h
    refine m_calli (As := [.int a1]) (rest := [.ref (ad 0)]) E G hA hR hml (tr_isMic l D cI cJ cZ ad S2 a1 eS7) (cwV 1 hts (gmV qM_316 qM_317 qM_318 qM_35 qM_306) rfl rfl rfl (by decide +kernel) ⟨Nat.le_of_ble_eq_true rfl, Nat.le_of_ble_eq_true rfl⟩) rfl hl.1 rfl (lv_room (Nat.le_of_ble_eq_true rfl)) dX12_correlation_11 ⟨Nat.zero_le _, Nat.zero_le _⟩ (fun q8 S9 H locs hq G => ?_)
    obtain ⟨hq1, hq2⟩ := hq
    rw [hq2] at G
    refine lv_to hq1 ?_
    clear hq1 hq2 eS7
    refine lv_if_eq (tgt := 21) hx hb dX12_correlation_14 (by decide) (fun c11 => ?_) (fun c11 => ?_)
    · have h := oif_pos c11 h
      have hl := lv_sub hl [0, 1, 2, 3] rfl
      exact tr_correlation_b21 E hA hR hml (fun H locs ls G => W.lret (v := r1) hx hb hr (fun t ht hW => ⟨⟨r1, S1, rfl, ⟨rfl, rfl⟩, ⟨by rw [ht]; exact G.1, va_K.moved hW.alike hK, G.2.1⟩⟩, G.2.2.F ht⟩) G.2.2.2.2 dX12_correlation_29) (fun H locs ls G => W.lret (v := r1) hx hb hr (fun t ht hW => ⟨⟨r1, S1, rfl, ⟨rfl, rfl⟩, ⟨by rw [ht]; exact G.1, va_K.moved hW.alike hK, G.2.1⟩⟩, G.2.2.F ht⟩) G.2.2.2.2 dX12_correlation_54) _ _ _ _ _ _ _ h G hl
    · have h := oif_neg c11 h
      refine lv_iconst (v := 1) hx hb dX12_correlation_17 (by decide) ?_
      refine lv_goto (tgt := 22) hx hb dX12_correlation_18 (by decide) ?_
      have hl := lv_sub hl [0, 1, 2, 3] rfl
      exact tr_correlation_b22 E hA hR hml (fun H locs ls G => W.lret (v := r1) hx hb hr (fun t ht hW => ⟨⟨r1, S1, rfl, ⟨rfl, rfl⟩, ⟨by rw [ht]; exact G.1, va_K.moved hW.alike hK, G.2.1⟩⟩, G.2.2.F ht⟩) G.2.2.2.2 dX12_correlation_29) (fun H locs ls G => W.lret (v := r1) hx hb hr (fun t ht hW => ⟨⟨r1, S1, rfl, ⟨rfl, rfl⟩, ⟨by rw [ht]; exact G.1, va_K.moved hW.alike hK, G.2.1⟩⟩, G.2.2.F ht⟩) G.2.2.2.2 dX12_correlation_54) _ _ _ _ _ _ _ _ h G hl
end
