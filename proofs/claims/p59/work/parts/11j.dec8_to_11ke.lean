section
/-! 11j.dec8.lean.txt -/
def fr_pointPower_b22  (S : MS) (s0 : Int32) (l1 : Int32) (l2 : Int32) (l3 : Int32) : Option (Int64 × MS) := obind2 (fr_mayAsk S s0) fun r5 S2 => if r5 = 0 then (some ((0 : Int64), S2)) else (obind (fr_isPeriod l3) fun r7 => if r7 = 0 then (obind2 (fr_throwsAt S2 3) fun r13 S10 => elet (r13.toInt64) fun v14 => some (v14, S10)) else (obind (fr_copy_12_14 S2 0 0) fun S15 => obind (fr_recordsPoint_14 S15 l1 l3) fun S18 => obind2 (fr_powerOf_14 S18 l2) fun r24 S21 => some (r24, S21)))
set_option maxHeartbeats 4000000 in
set_option maxRecDepth 100000 in
theorem tr_pointPower_b22 {p : Program} {l : Launch} {e : Env} {s : State} {m : MethodId} {args : Array Value} {below : List Frame} {meth : Method} {c : Code} {Q : State → Prop} {D : va_G} {A : Nat → Prop} {H0 : Heap} {cI cJ cZ : ClassId} {ad : Nat → Nat} {r1 : Int64} {S1 : MS} (E : mE p c cX12_pointPower s m args (Cond.code yX12_pointPower cX12_pointPower 4 (some .long) :: wsM) D cI cJ cZ) (hA : ∀ q : Nat, H0.size ≤ q → A q) (hR : sR s) (hml : c.maxLocals = 4) (kr29 : ∀ (H : Heap) (locs : List Loc) (ls : Array Slot), mG D cI cJ cZ ad A H0 H locs S1 → W p l e { frames := 8, cells := 0, slots := 0, locals := 192 } s m args below meth c H locs 0 0 Q (F0 m 29 ls [.long r1])) (kr43 : ∀ (H : Heap) (locs : List Loc) (ls : Array Slot), mG D cI cJ cZ ad A H0 H locs S1 → W p l e { frames := 8, cells := 0, slots := 0, locals := 192 } s m args below meth c H locs 0 0 Q (F0 m 43 ls [.long r1])) (kr76 : ∀ (H : Heap) (locs : List Loc) (ls : Array Slot), mG D cI cJ cZ ad A H0 H locs S1 → W p l e { frames := 8, cells := 0, slots := 0, locals := 192 } s m args below meth c H locs 0 0 Q (F0 m 76 ls [.long r1])) : ∀ (S : MS) (H : Heap) (locs : List Loc) (ls : Array Slot) (s0 : Int32) (l1 : Int32) (l2 : Int32) (l3 : Int32), fr_pointPower_b22 S s0 l1 l2 l3 = some (r1, S1) → mG D cI cJ cZ ad A H0 H locs S → lv_has ls 4 [(0, .ref (ad 0)), (1, .int l1), (2, .int l2), (3, .int l3)] → W p l e { frames := 8, cells := 0, slots := 0, locals := 192 } s m args below meth c H locs 0 0 Q (F0 m 22 ls [.int s0, .ref (ad 0)]) := by
  have hx := E.1
  have hb := E.2.1
  have hts := E.2.2.1
  have hown := E.2.2.2.1
  have hK := E.2.2.2.2.1
  intro S H locs ls s0 l1 l2 l3 h G hl
  unfold fr_pointPower_b22 at h
  obtain ⟨r5, S2, eS2, h⟩ := obind2_some h
  refine m_calli (As := [.int s0]) (rest := []) E G hA hR hml (tr_mayAsk l D cI cJ cZ ad S s0 eS2) (cwV 1 hts (gmV qM_319 qM_320 qM_321 qM_35 qM_304) rfl rfl rfl (by decide +kernel) ⟨Nat.le_of_ble_eq_true rfl, Nat.le_of_ble_eq_true rfl⟩) rfl hl.1 rfl (lv_room (Nat.le_of_ble_eq_true rfl)) dX12_pointPower_22 ⟨Nat.zero_le _, Nat.zero_le _⟩ (fun q3 S4 H locs hq G => ?_)
  obtain ⟨hq1, hq2⟩ := hq
  rw [hq2] at G
  refine lv_to hq1 ?_
  clear hq1 hq2 eS2
  refine lv_if_ne (tgt := 30) hx hb dX12_pointPower_25 (by decide) (fun c6 => ?_) (fun c6 => ?_)
  · have h := oif_neg c6 h
    refine lv_iload_n hx hb dX12_pointPower_30 rfl (lv_at hl 3 rfl) ?_
    obtain ⟨r7, er7, h⟩ := obind_some h
    refine m_stat (As := [.int l3]) (rest := []) ⟨hx, hb, hml, hown, hts⟩ (tr_isPeriod l l3 er7) (cwS 1 hts (gmS qM_386 qM_387 qM_35 qM_310) rfl rfl rfl (by decide +kernel) ⟨Nat.le_of_ble_eq_true rfl, Nat.le_of_ble_eq_true rfl⟩) rfl hl.1 rfl (lv_room (Nat.le_of_ble_eq_true rfl)) dX12_pointPower_31 ⟨Nat.zero_le _, Nat.zero_le _⟩ (fun q8 hq => ?_)
    refine lv_to hq ?_
    clear hq er7
    refine lv_if_ne (tgt := 44) hx hb dX12_pointPower_34 (by decide) (fun c9 => ?_) (fun c9 => ?_)
    · have h := oif_neg c9 h
      refine lv_aload_n hx hb dX12_pointPower_44 rfl (lv_at hl 0 rfl) ?_
      refine m_get E G 12 (v := .ref (ad 12)) (by decide) (.tail _ qM_9) rfl dX12_pointPower_45 rfl ?_
      refine lv_iconst (v := 0) hx hb dX12_pointPower_48 (by decide) ?_
      refine lv_aload_n hx hb dX12_pointPower_49 rfl (lv_at hl 0 rfl) ?_
      refine m_get E G 14 (v := .ref (ad 14)) (by decide) (.tail _ qM_11) rfl dX12_pointPower_50 rfl ?_
      refine lv_iconst (v := 0) hx hb dX12_pointPower_53 (by decide) ?_
      obtain ⟨S15, eS15, h⟩ := obind_some h
      refine m_calls (As := [.ref (ad 12), .int 0, .ref (ad 14), .int 0]) (rest := []) E G hA hR hml (tr_copy_12_14 l D cI cJ cZ ad S2 0 0 eS15) (cwS 4 hts (gmS qM_201 qM_202 qM_35 qM_203) rfl rfl rfl (by decide +kernel) ⟨Nat.le_of_ble_eq_true rfl, Nat.le_of_ble_eq_true rfl⟩) rfl hl.1 rfl (lv_room (Nat.le_of_ble_eq_true rfl)) dX12_pointPower_54 ⟨Nat.zero_le _, Nat.zero_le _⟩ (fun S17 H locs hq G => ?_)
      rw [hq] at G
      clear hq eS15
      refine lv_aload_n hx hb dX12_pointPower_57 rfl (lv_at hl 0 rfl) ?_
      refine lv_aload_n hx hb dX12_pointPower_58 rfl (lv_at hl 0 rfl) ?_
      refine m_get E G 14 (v := .ref (ad 14)) (by decide) (.tail _ qM_11) rfl dX12_pointPower_59 rfl ?_
      refine lv_iload_n hx hb dX12_pointPower_62 rfl (lv_at hl 1 rfl) ?_
      refine lv_iload_n hx hb dX12_pointPower_63 rfl (lv_at hl 3 rfl) ?_
      obtain ⟨S18, eS18, h⟩ := obind_some h
      refine m_callv (As := [.ref (ad 14), .int l1, .int l3]) (rest := []) E G hA hR hml (tr_recordsPoint_14 l D cI cJ cZ ad S15 l1 l3 eS18) (cwV 3 hts (gmV qM_473 qM_474 qM_475 qM_35 qM_269) rfl rfl rfl (by decide +kernel) ⟨Nat.le_of_ble_eq_true rfl, Nat.le_of_ble_eq_true rfl⟩) rfl hl.1 rfl (lv_room (Nat.le_of_ble_eq_true rfl)) dX12_pointPower_64 ⟨Nat.zero_le _, Nat.zero_le _⟩ (fun S20 H locs hq G => ?_)
      rw [hq] at G
      clear hq eS18
      refine lv_aload_n hx hb dX12_pointPower_67 rfl (lv_at hl 0 rfl) ?_
      refine lv_aload_n hx hb dX12_pointPower_68 rfl (lv_at hl 0 rfl) ?_
      refine m_get E G 14 (v := .ref (ad 14)) (by decide) (.tail _ qM_11) rfl dX12_pointPower_69 rfl ?_
      refine lv_iload_n hx hb dX12_pointPower_72 rfl (lv_at hl 2 rfl) ?_
      obtain ⟨r24, S21, eS21, h⟩ := obind2_some h
      refine m_calll (As := [.ref (ad 14), .int l2]) (rest := []) E G hA hR hml (tr_powerOf_14 l D cI cJ cZ ad S18 l2 eS21) (cwV 2 hts (gmV qM_297 qM_298 qM_299 qM_35 qM_289) rfl rfl rfl (by decide +kernel) ⟨Nat.le_of_ble_eq_true rfl, Nat.le_of_ble_eq_true rfl⟩) rfl hl.1 rfl (lv_room (Nat.le_of_ble_eq_true rfl)) dX12_pointPower_73 ⟨Nat.zero_le _, Nat.zero_le _⟩ (fun q22 S23 H locs hq G => ?_)
      obtain ⟨hq1, hq2⟩ := hq
      rw [hq2] at G
      refine lv_tol hq1 ?_
      clear hq1 hq2 eS21
      rw [(osome2 h).2] at G
      refine lv_tol (osome2 h).1 ?_
      exact kr76 _ _ _ G
    · have h := oif_pos c9 h
      refine lv_aload_n hx hb dX12_pointPower_37 rfl (lv_at hl 0 rfl) ?_
      refine lv_iconst (v := 3) hx hb dX12_pointPower_38 (by decide) ?_
      obtain ⟨r13, S10, eS10, h⟩ := obind2_some h
      refine m_calli (As := [.int 3]) (rest := []) E G hA hR hml (tr_throwsAt l D cI cJ cZ ad S2 3 eS10) (cwV 1 hts (gmV qM_195 qM_196 qM_197 qM_35 qM_28) rfl rfl rfl (by decide +kernel) ⟨Nat.le_of_ble_eq_true rfl, Nat.le_of_ble_eq_true rfl⟩) rfl hl.1 rfl (lv_room (Nat.le_of_ble_eq_true rfl)) dX12_pointPower_39 ⟨Nat.zero_le _, Nat.zero_le _⟩ (fun q11 S12 H locs hq G => ?_)
      obtain ⟨hq1, hq2⟩ := hq
      rw [hq2] at G
      refine lv_to hq1 ?_
      clear hq1 hq2 eS10
      refine lv_i2l (v := r13.toInt64) hx hb dX12_pointPower_42 rfl ?_
      refine lv_topl (fun v14 ev14 => ?_)
      have h := elet_at ev14 h
      clear ev14
      rw [(osome2 h).2] at G
      refine lv_tol (osome2 h).1 ?_
      exact kr43 _ _ _ G
  · have h := oif_pos c6 h
    refine lv_lconst (v := 0) hx hb dX12_pointPower_28 (by decide) ?_
    rw [(osome2 h).2] at G
    refine lv_tol (osome2 h).1 ?_
    exact kr29 _ _ _ G
def fr_pointPower_b21  (S : MS) (l1 : Int32) (l2 : Int32) (l3 : Int32) : Option (Int64 × MS) := fr_pointPower_b22 S 0 l1 l2 l3
set_option maxHeartbeats 4000000 in
set_option maxRecDepth 100000 in
theorem tr_pointPower_b21 {p : Program} {l : Launch} {e : Env} {s : State} {m : MethodId} {args : Array Value} {below : List Frame} {meth : Method} {c : Code} {Q : State → Prop} {D : va_G} {A : Nat → Prop} {H0 : Heap} {cI cJ cZ : ClassId} {ad : Nat → Nat} {r1 : Int64} {S1 : MS} (E : mE p c cX12_pointPower s m args (Cond.code yX12_pointPower cX12_pointPower 4 (some .long) :: wsM) D cI cJ cZ) (hA : ∀ q : Nat, H0.size ≤ q → A q) (hR : sR s) (hml : c.maxLocals = 4) (kr29 : ∀ (H : Heap) (locs : List Loc) (ls : Array Slot), mG D cI cJ cZ ad A H0 H locs S1 → W p l e { frames := 8, cells := 0, slots := 0, locals := 192 } s m args below meth c H locs 0 0 Q (F0 m 29 ls [.long r1])) (kr43 : ∀ (H : Heap) (locs : List Loc) (ls : Array Slot), mG D cI cJ cZ ad A H0 H locs S1 → W p l e { frames := 8, cells := 0, slots := 0, locals := 192 } s m args below meth c H locs 0 0 Q (F0 m 43 ls [.long r1])) (kr76 : ∀ (H : Heap) (locs : List Loc) (ls : Array Slot), mG D cI cJ cZ ad A H0 H locs S1 → W p l e { frames := 8, cells := 0, slots := 0, locals := 192 } s m args below meth c H locs 0 0 Q (F0 m 76 ls [.long r1])) : ∀ (S : MS) (H : Heap) (locs : List Loc) (ls : Array Slot) (l1 : Int32) (l2 : Int32) (l3 : Int32), fr_pointPower_b21 S l1 l2 l3 = some (r1, S1) → mG D cI cJ cZ ad A H0 H locs S → lv_has ls 4 [(0, .ref (ad 0)), (1, .int l1), (2, .int l2), (3, .int l3)] → W p l e { frames := 8, cells := 0, slots := 0, locals := 192 } s m args below meth c H locs 0 0 Q (F0 m 21 ls [.ref (ad 0)]) := by
  have hx := E.1
  have hb := E.2.1
  have hts := E.2.2.1
  have hown := E.2.2.2.1
  have hK := E.2.2.2.2.1
  intro S H locs ls l1 l2 l3 h G hl
  unfold fr_pointPower_b21 at h
  refine lv_iconst (v := 0) hx hb dX12_pointPower_21 (by decide) ?_
  have hl := lv_sub hl [0, 1, 2, 3] rfl
  exact tr_pointPower_b22 E hA hR hml kr29 kr43 kr76 _ _ _ _ _ _ _ _ h G hl
def fr_pointPower (S : MS) (a0 : Int32) (a1 : Int32) (a2 : Int32) : Option (Int64 × MS) := obind2 (fr_isCell S a0) fun r5 S2 => if r5 = 0 then (fr_pointPower_b21 S2 a0 a1 a2) else (obind2 (fr_isCell S2 a1) fun r10 S7 => if r10 = 0 then (fr_pointPower_b21 S7 a0 a1 a2) else (fr_pointPower_b22 S7 1 a0 a1 a2))
set_option maxHeartbeats 4000000 in
set_option maxRecDepth 100000 in
theorem tr_pointPower (l : Launch) (D : va_G) (cI cJ cZ : ClassId) (ad : Nat → Nat) (S : MS) (a0 : Int32) (a1 : Int32) (a2 : Int32) {r1 : Int64} {S1 : MS} (h : fr_pointPower S a0 a1 a2 = some (r1, S1)) : mCl l yX12_pointPower (Cond.code yX12_pointPower cX12_pointPower 4 (some .long) :: wsM) 8 192 D cI cJ cZ ad S [.int a0, .int a1, .int a2] (fun r S9 => r = r1 ∧ S9 = S1) := by
  intro sz
  refine pro_in (cc := cX12_pointPower) (maxL := 4) (ret := (some .long)) (by exact pn_RX12) rfl (by exact Nat.le_of_ble_eq_true rfl) (fun p e s m below meth c ls hx hb hr hts hown hlocks hml hv hl => ?_)
  obtain ⟨hsz, hP, hK, hD0, hR⟩ := hv
  subst hsz
  have hD := hD0.self (sz := s.heap.size)
  generalize hAe : va_A (MW cI cJ cZ ad S) s.heap.size = A at hD ⊢
  have hA : ∀ q : Nat, s.heap.size ≤ q → A q := fun q h => by rw [← hAe]; exact Or.inr h
  have G : mG D cI cJ cZ ad A s.heap s.heap [] S := ⟨hP, hD, va_S.rf⟩
  have E : mE p c cX12_pointPower s m ([.ref (ad 0), .int a0, .int a1, .int a2] : List Value).toArray (Cond.code yX12_pointPower cX12_pointPower 4 (some .long) :: wsM) D cI cJ cZ := ⟨hx, hb, hts, hown, hK, fun w h => .tail _ (iM_x h)⟩
  have hl : lv_has ls 4 [(0, .ref (ad 0)), (1, .int a0), (2, .int a1), (3, .int a2)] := hl
  unfold fr_pointPower at h
  refine lv_aload_n hx hb dX12_pointPower_0 rfl (lv_at hl 0 rfl) ?_
  refine lv_aload_n hx hb dX12_pointPower_1 rfl (lv_at hl 0 rfl) ?_
  refine lv_iload_n hx hb dX12_pointPower_2 rfl (lv_at hl 1 rfl) ?_
  obtain ⟨r5, S2, eS2, h⟩ := obind2_some h
  refine m_calli (As := [.int a0]) (rest := [.ref (ad 0)]) E G hA hR hml (tr_isCell l D cI cJ cZ ad S a0 eS2) (cwV 1 hts (gmV qM_326 qM_327 qM_328 qM_35 qM_307) rfl rfl rfl (by decide +kernel) ⟨Nat.le_of_ble_eq_true rfl, Nat.le_of_ble_eq_true rfl⟩) rfl hl.1 rfl (lv_room (Nat.le_of_ble_eq_true rfl)) dX12_pointPower_3 ⟨Nat.zero_le _, Nat.zero_le _⟩ (fun q3 S4 H locs hq G => ?_)
  obtain ⟨hq1, hq2⟩ := hq
  rw [hq2] at G
  refine lv_to hq1 ?_
  clear hq1 hq2 eS2
  refine lv_if_eq (tgt := 21) hx hb dX12_pointPower_6 (by decide) (fun c6 => ?_) (fun c6 => ?_)
  · have h := oif_pos c6 h
    have hl := lv_sub hl [0, 1, 2, 3] rfl
    exact tr_pointPower_b21 E hA hR hml (fun H locs ls G => W.lret (v := r1) hx hb hr (fun t ht hW => ⟨⟨r1, S1, rfl, ⟨rfl, rfl⟩, ⟨by rw [ht]; exact G.1, va_K.moved hW.alike hK, G.2.1⟩⟩, G.2.2.F ht⟩) G.2.2.2.2 dX12_pointPower_29) (fun H locs ls G => W.lret (v := r1) hx hb hr (fun t ht hW => ⟨⟨r1, S1, rfl, ⟨rfl, rfl⟩, ⟨by rw [ht]; exact G.1, va_K.moved hW.alike hK, G.2.1⟩⟩, G.2.2.F ht⟩) G.2.2.2.2 dX12_pointPower_43) (fun H locs ls G => W.lret (v := r1) hx hb hr (fun t ht hW => ⟨⟨r1, S1, rfl, ⟨rfl, rfl⟩, ⟨by rw [ht]; exact G.1, va_K.moved hW.alike hK, G.2.1⟩⟩, G.2.2.F ht⟩) G.2.2.2.2 dX12_pointPower_76) _ _ _ _ _ _ _ h G hl
  · have h := oif_neg c6 h
    refine lv_aload_n hx hb dX12_pointPower_9 rfl (lv_at hl 0 rfl) ?_
    refine lv_iload_n hx hb dX12_pointPower_10 rfl (lv_at hl 2 rfl) ?_
    obtain ⟨r10, S7, eS7, h⟩ := obind2_some h
    refine m_calli (As := [.int a1]) (rest := [.ref (ad 0)]) E G hA hR hml (tr_isCell l D cI cJ cZ ad S2 a1 eS7) (cwV 1 hts (gmV qM_326 qM_327 qM_328 qM_35 qM_307) rfl rfl rfl (by decide +kernel) ⟨Nat.le_of_ble_eq_true rfl, Nat.le_of_ble_eq_true rfl⟩) rfl hl.1 rfl (lv_room (Nat.le_of_ble_eq_true rfl)) dX12_pointPower_11 ⟨Nat.zero_le _, Nat.zero_le _⟩ (fun q8 S9 H locs hq G => ?_)
    obtain ⟨hq1, hq2⟩ := hq
    rw [hq2] at G
    refine lv_to hq1 ?_
    clear hq1 hq2 eS7
    refine lv_if_eq (tgt := 21) hx hb dX12_pointPower_14 (by decide) (fun c11 => ?_) (fun c11 => ?_)
    · have h := oif_pos c11 h
      have hl := lv_sub hl [0, 1, 2, 3] rfl
      exact tr_pointPower_b21 E hA hR hml (fun H locs ls G => W.lret (v := r1) hx hb hr (fun t ht hW => ⟨⟨r1, S1, rfl, ⟨rfl, rfl⟩, ⟨by rw [ht]; exact G.1, va_K.moved hW.alike hK, G.2.1⟩⟩, G.2.2.F ht⟩) G.2.2.2.2 dX12_pointPower_29) (fun H locs ls G => W.lret (v := r1) hx hb hr (fun t ht hW => ⟨⟨r1, S1, rfl, ⟨rfl, rfl⟩, ⟨by rw [ht]; exact G.1, va_K.moved hW.alike hK, G.2.1⟩⟩, G.2.2.F ht⟩) G.2.2.2.2 dX12_pointPower_43) (fun H locs ls G => W.lret (v := r1) hx hb hr (fun t ht hW => ⟨⟨r1, S1, rfl, ⟨rfl, rfl⟩, ⟨by rw [ht]; exact G.1, va_K.moved hW.alike hK, G.2.1⟩⟩, G.2.2.F ht⟩) G.2.2.2.2 dX12_pointPower_76) _ _ _ _ _ _ _ h G hl
    · have h := oif_neg c11 h
      refine lv_iconst (v := 1) hx hb dX12_pointPower_17 (by decide) ?_
      refine lv_goto (tgt := 22) hx hb dX12_pointPower_18 (by decide) ?_
      have hl := lv_sub hl [0, 1, 2, 3] rfl
      exact tr_pointPower_b22 E hA hR hml (fun H locs ls G => W.lret (v := r1) hx hb hr (fun t ht hW => ⟨⟨r1, S1, rfl, ⟨rfl, rfl⟩, ⟨by rw [ht]; exact G.1, va_K.moved hW.alike hK, G.2.1⟩⟩, G.2.2.F ht⟩) G.2.2.2.2 dX12_pointPower_29) (fun H locs ls G => W.lret (v := r1) hx hb hr (fun t ht hW => ⟨⟨r1, S1, rfl, ⟨rfl, rfl⟩, ⟨by rw [ht]; exact G.1, va_K.moved hW.alike hK, G.2.1⟩⟩, G.2.2.F ht⟩) G.2.2.2.2 dX12_pointPower_43) (fun H locs ls G => W.lret (v := r1) hx hb hr (fun t ht hW => ⟨⟨r1, S1, rfl, ⟨rfl, rfl⟩, ⟨by rw [ht]; exact G.1, va_K.moved hW.alike hK, G.2.1⟩⟩, G.2.2.F ht⟩) G.2.2.2.2 dX12_pointPower_76) _ _ _ _ _ _ _ _ h G hl
def fr_bestWithout (S : MS) (a0 : Int32) : Option (Int32 × MS) := obind2 (fr_isMic S a0) fun r5 S2 => obind2 (fr_mayAsk S2 r5) fun r9 S6 => if r9 = 0 then (some (0, S6)) else (obind (fr_copy_12_14 S6 0 0) fun S11 => elet (1 + a0) fun v14 => oif (inb v14 2455 = true) <| elet (mf S11 14 (upd (S11.2.1 14) v14.toNatClampNeg 1)) fun S16 => obind2 (fr_bestIn_14 S16) fun r20 S17 => some (r20, S17))
set_option maxHeartbeats 4000000 in
set_option maxRecDepth 100000 in
theorem tr_bestWithout (l : Launch) (D : va_G) (cI cJ cZ : ClassId) (ad : Nat → Nat) (S : MS) (a0 : Int32) {r1 : Int32} {S1 : MS} (h : fr_bestWithout S a0 = some (r1, S1)) : mCi l yX12_bestWithout (Cond.code yX12_bestWithout cX12_bestWithout 2 (some .int) :: wsM) 8 163 D cI cJ cZ ad S [.int a0] (fun r S9 => r = r1 ∧ S9 = S1) := by
  intro sz
  refine pro_in (cc := cX12_bestWithout) (maxL := 2) (ret := (some .int)) (by exact pn_RX12) rfl (by exact Nat.le_of_ble_eq_true rfl) (fun p e s m below meth c ls hx hb hr hts hown hlocks hml hv hl => ?_)
  obtain ⟨hsz, hP, hK, hD0, hR⟩ := hv
  subst hsz
  have hD := hD0.self (sz := s.heap.size)
  generalize hAe : va_A (MW cI cJ cZ ad S) s.heap.size = A at hD ⊢
  have hA : ∀ q : Nat, s.heap.size ≤ q → A q := fun q h => by rw [← hAe]; exact Or.inr h
  have G : mG D cI cJ cZ ad A s.heap s.heap [] S := ⟨hP, hD, va_S.rf⟩
  have E : mE p c cX12_bestWithout s m ([.ref (ad 0), .int a0] : List Value).toArray (Cond.code yX12_bestWithout cX12_bestWithout 2 (some .int) :: wsM) D cI cJ cZ := ⟨hx, hb, hts, hown, hK, fun w h => .tail _ (iM_x h)⟩
  have hl : lv_has ls 2 [(0, .ref (ad 0)), (1, .int a0)] := hl
  unfold fr_bestWithout at h
  refine lv_aload_n hx hb dX12_bestWithout_0 rfl (lv_at hl 0 rfl) ?_
  refine lv_aload_n hx hb dX12_bestWithout_1 rfl (lv_at hl 0 rfl) ?_
  refine lv_iload_n hx hb dX12_bestWithout_2 rfl (lv_at hl 1 rfl) ?_
  obtain ⟨r5, S2, eS2, h⟩ := obind2_some h
  refine m_calli (As := [.int a0]) (rest := [.ref (ad 0)]) E G hA hR hml (tr_isMic l D cI cJ cZ ad S a0 eS2) (cwV 1 hts (gmV qM_316 qM_317 qM_318 qM_35 qM_306) rfl rfl rfl (by decide +kernel) ⟨Nat.le_of_ble_eq_true rfl, Nat.le_of_ble_eq_true rfl⟩) rfl hl.1 rfl (lv_room (Nat.le_of_ble_eq_true rfl)) dX12_bestWithout_3 ⟨Nat.zero_le _, Nat.zero_le _⟩ (fun q3 S4 H locs hq G => ?_)
  obtain ⟨hq1, hq2⟩ := hq
  rw [hq2] at G
  refine lv_to hq1 ?_
  clear hq1 hq2 eS2
  obtain ⟨r9, S6, eS6, h⟩ := obind2_some h
  refine m_calli (As := [.int r5]) (rest := []) E G hA hR hml (tr_mayAsk l D cI cJ cZ ad S2 r5 eS6) (cwV 1 hts (gmV qM_319 qM_320 qM_321 qM_35 qM_304) rfl rfl rfl (by decide +kernel) ⟨Nat.le_of_ble_eq_true rfl, Nat.le_of_ble_eq_true rfl⟩) rfl hl.1 rfl (lv_room (Nat.le_of_ble_eq_true rfl)) dX12_bestWithout_6 ⟨Nat.zero_le _, Nat.zero_le _⟩ (fun q7 S8 H locs hq G => ?_)
  obtain ⟨hq1, hq2⟩ := hq
  rw [hq2] at G
  refine lv_to hq1 ?_
  clear hq1 hq2 eS6
  refine lv_if_ne (tgt := 14) hx hb dX12_bestWithout_9 (by decide) (fun c10 => ?_) (fun c10 => ?_)
  · have h := oif_neg c10 h
    refine lv_aload_n hx hb dX12_bestWithout_14 rfl (lv_at hl 0 rfl) ?_
    refine m_get E G 12 (v := .ref (ad 12)) (by decide) (.tail _ qM_9) rfl dX12_bestWithout_15 rfl ?_
    refine lv_iconst (v := 0) hx hb dX12_bestWithout_18 (by decide) ?_
    refine lv_aload_n hx hb dX12_bestWithout_19 rfl (lv_at hl 0 rfl) ?_
    refine m_get E G 14 (v := .ref (ad 14)) (by decide) (.tail _ qM_11) rfl dX12_bestWithout_20 rfl ?_
    refine lv_iconst (v := 0) hx hb dX12_bestWithout_23 (by decide) ?_
    obtain ⟨S11, eS11, h⟩ := obind_some h
    refine m_calls (As := [.ref (ad 12), .int 0, .ref (ad 14), .int 0]) (rest := []) E G hA hR hml (tr_copy_12_14 l D cI cJ cZ ad S6 0 0 eS11) (cwS 4 hts (gmS qM_201 qM_202 qM_35 qM_203) rfl rfl rfl (by decide +kernel) ⟨Nat.le_of_ble_eq_true rfl, Nat.le_of_ble_eq_true rfl⟩) rfl hl.1 rfl (lv_room (Nat.le_of_ble_eq_true rfl)) dX12_bestWithout_24 ⟨Nat.zero_le _, Nat.zero_le _⟩ (fun S13 H locs hq G => ?_)
    rw [hq] at G
    clear hq eS11
    refine lv_aload_n hx hb dX12_bestWithout_27 rfl (lv_at hl 0 rfl) ?_
    refine m_get E G 14 (v := .ref (ad 14)) (by decide) (.tail _ qM_11) rfl dX12_bestWithout_28 rfl ?_
    refine lv_iconst (v := 1) hx hb dX12_bestWithout_31 (by decide) ?_
    refine lv_iload_n hx hb dX12_bestWithout_32 rfl (lv_at hl 1 rfl) ?_
    refine lv_iadd hx hb dX12_bestWithout_33 ?_
    refine lv_topi (fun v14 ev14 => ?_)
    have h := elet_at ev14 h
    clear ev14
    refine lv_iconst (v := 1) hx hb dX12_bestWithout_34 (by decide) ?_
    obtain ⟨g15, h⟩ := oif_some h
    refine m_iast E G 14 6 (k := v14.toNatClampNeg) (v := 1) rfl (fun _ => rfl) (inb_k g15).1 (inb_k g15).2 (by decide) dX12_bestWithout_35 (fun H locs G => ?_)
    obtain ⟨S16, eS16, h⟩ := elet_some h
    rw [← eS16] at G
    clear eS16
    refine lv_aload_n hx hb dX12_bestWithout_36 rfl (lv_at hl 0 rfl) ?_
    refine lv_aload_n hx hb dX12_bestWithout_37 rfl (lv_at hl 0 rfl) ?_
    refine m_get E G 14 (v := .ref (ad 14)) (by decide) (.tail _ qM_11) rfl dX12_bestWithout_38 rfl ?_
    obtain ⟨r20, S17, eS17, h⟩ := obind2_some h
    refine m_calli (As := [.ref (ad 14)]) (rest := []) E G hA hR hml (tr_bestIn_14 l D cI cJ cZ ad S16 eS17) (cwV 1 hts (gmV qM_360 qM_361 qM_362 qM_35 qM_300) rfl rfl rfl (by decide +kernel) ⟨Nat.le_of_ble_eq_true rfl, Nat.le_of_ble_eq_true rfl⟩) rfl hl.1 rfl (lv_room (Nat.le_of_ble_eq_true rfl)) dX12_bestWithout_41 ⟨Nat.zero_le _, Nat.zero_le _⟩ (fun q18 S19 H locs hq G => ?_)
    obtain ⟨hq1, hq2⟩ := hq
    rw [hq2] at G
    refine lv_to hq1 ?_
    clear hq1 hq2 eS17
    exact W.iret (v := r20) hx hb hr (fun t ht hW => ⟨⟨r20, S17, rfl, osome2 h, ⟨by rw [ht]; exact G.1, va_K.moved hW.alike hK, G.2.1⟩⟩, G.2.2.F ht⟩) G.2.2.2.2 dX12_bestWithout_44
  · have h := oif_pos c10 h
    refine lv_iconst (v := 0) hx hb dX12_bestWithout_12 (by decide) ?_
    exact W.iret (v := 0) hx hb hr (fun t ht hW => ⟨⟨0, S6, rfl, osome2 h, ⟨by rw [ht]; exact G.1, va_K.moved hW.alike hK, G.2.1⟩⟩, G.2.2.F ht⟩) G.2.2.2.2 dX12_bestWithout_13
def fr_bestIfOff (S : MS) (a0 : Int32) : Option (Int32 × MS) := obind2 (fr_isSource S a0) fun r5 S2 => obind2 (fr_mayAsk S2 r5) fun r9 S6 => if r9 = 0 then (some (0, S6)) else (obind (fr_copy_12_14 S6 0 0) fun S11 => elet (25 + a0) fun v14 => oif (inb v14 2455 = true) <| elet (mf S11 14 (upd (S11.2.1 14) v14.toNatClampNeg 0)) fun S16 => obind (fr_records_14 S16) fun S17 => obind2 (fr_bestIn_14 S17) fun r23 S20 => some (r23, S20))
set_option maxHeartbeats 4000000 in
set_option maxRecDepth 100000 in
theorem tr_bestIfOff (l : Launch) (D : va_G) (cI cJ cZ : ClassId) (ad : Nat → Nat) (S : MS) (a0 : Int32) {r1 : Int32} {S1 : MS} (h : fr_bestIfOff S a0 = some (r1, S1)) : mCi l yX12_bestIfOff (Cond.code yX12_bestIfOff cX12_bestIfOff 2 (some .int) :: wsM) 8 169 D cI cJ cZ ad S [.int a0] (fun r S9 => r = r1 ∧ S9 = S1) := by
  intro sz
  refine pro_in (cc := cX12_bestIfOff) (maxL := 2) (ret := (some .int)) (by exact pn_RX12) rfl (by exact Nat.le_of_ble_eq_true rfl) (fun p e s m below meth c ls hx hb hr hts hown hlocks hml hv hl => ?_)
  obtain ⟨hsz, hP, hK, hD0, hR⟩ := hv
  subst hsz
  have hD := hD0.self (sz := s.heap.size)
  generalize hAe : va_A (MW cI cJ cZ ad S) s.heap.size = A at hD ⊢
  have hA : ∀ q : Nat, s.heap.size ≤ q → A q := fun q h => by rw [← hAe]; exact Or.inr h
  have G : mG D cI cJ cZ ad A s.heap s.heap [] S := ⟨hP, hD, va_S.rf⟩
  have E : mE p c cX12_bestIfOff s m ([.ref (ad 0), .int a0] : List Value).toArray (Cond.code yX12_bestIfOff cX12_bestIfOff 2 (some .int) :: wsM) D cI cJ cZ := ⟨hx, hb, hts, hown, hK, fun w h => .tail _ (iM_x h)⟩
  have hl : lv_has ls 2 [(0, .ref (ad 0)), (1, .int a0)] := hl
  unfold fr_bestIfOff at h
  refine lv_aload_n hx hb dX12_bestIfOff_0 rfl (lv_at hl 0 rfl) ?_
  refine lv_aload_n hx hb dX12_bestIfOff_1 rfl (lv_at hl 0 rfl) ?_
  refine lv_iload_n hx hb dX12_bestIfOff_2 rfl (lv_at hl 1 rfl) ?_
  obtain ⟨r5, S2, eS2, h⟩ := obind2_some h
  refine m_calli (As := [.int a0]) (rest := [.ref (ad 0)]) E G hA hR hml (tr_isSource l D cI cJ cZ ad S a0 eS2) (cwV 1 hts (gmV qM_331 qM_332 qM_333 qM_35 qM_308) rfl rfl rfl (by decide +kernel) ⟨Nat.le_of_ble_eq_true rfl, Nat.le_of_ble_eq_true rfl⟩) rfl hl.1 rfl (lv_room (Nat.le_of_ble_eq_true rfl)) dX12_bestIfOff_3 ⟨Nat.zero_le _, Nat.zero_le _⟩ (fun q3 S4 H locs hq G => ?_)
  obtain ⟨hq1, hq2⟩ := hq
  rw [hq2] at G
  refine lv_to hq1 ?_
  clear hq1 hq2 eS2
  obtain ⟨r9, S6, eS6, h⟩ := obind2_some h
  refine m_calli (As := [.int r5]) (rest := []) E G hA hR hml (tr_mayAsk l D cI cJ cZ ad S2 r5 eS6) (cwV 1 hts (gmV qM_319 qM_320 qM_321 qM_35 qM_304) rfl rfl rfl (by decide +kernel) ⟨Nat.le_of_ble_eq_true rfl, Nat.le_of_ble_eq_true rfl⟩) rfl hl.1 rfl (lv_room (Nat.le_of_ble_eq_true rfl)) dX12_bestIfOff_6 ⟨Nat.zero_le _, Nat.zero_le _⟩ (fun q7 S8 H locs hq G => ?_)
  obtain ⟨hq1, hq2⟩ := hq
  rw [hq2] at G
  refine lv_to hq1 ?_
  clear hq1 hq2 eS6
  refine lv_if_ne (tgt := 14) hx hb dX12_bestIfOff_9 (by decide) (fun c10 => ?_) (fun c10 => ?_)
  · have h := oif_neg c10 h
    refine lv_aload_n hx hb dX12_bestIfOff_14 rfl (lv_at hl 0 rfl) ?_
    refine m_get E G 12 (v := .ref (ad 12)) (by decide) (.tail _ qM_9) rfl dX12_bestIfOff_15 rfl ?_
    refine lv_iconst (v := 0) hx hb dX12_bestIfOff_18 (by decide) ?_
    refine lv_aload_n hx hb dX12_bestIfOff_19 rfl (lv_at hl 0 rfl) ?_
    refine m_get E G 14 (v := .ref (ad 14)) (by decide) (.tail _ qM_11) rfl dX12_bestIfOff_20 rfl ?_
    refine lv_iconst (v := 0) hx hb dX12_bestIfOff_23 (by decide) ?_
    obtain ⟨S11, eS11, h⟩ := obind_some h
    refine m_calls (As := [.ref (ad 12), .int 0, .ref (ad 14), .int 0]) (rest := []) E G hA hR hml (tr_copy_12_14 l D cI cJ cZ ad S6 0 0 eS11) (cwS 4 hts (gmS qM_201 qM_202 qM_35 qM_203) rfl rfl rfl (by decide +kernel) ⟨Nat.le_of_ble_eq_true rfl, Nat.le_of_ble_eq_true rfl⟩) rfl hl.1 rfl (lv_room (Nat.le_of_ble_eq_true rfl)) dX12_bestIfOff_24 ⟨Nat.zero_le _, Nat.zero_le _⟩ (fun S13 H locs hq G => ?_)
    rw [hq] at G
    clear hq eS11
    refine lv_aload_n hx hb dX12_bestIfOff_27 rfl (lv_at hl 0 rfl) ?_
    refine m_get E G 14 (v := .ref (ad 14)) (by decide) (.tail _ qM_11) rfl dX12_bestIfOff_28 rfl ?_
    refine lv_bipush (v := 25) hx hb dX12_bestIfOff_31 (by decide) ?_
    refine lv_iload_n hx hb dX12_bestIfOff_33 rfl (lv_at hl 1 rfl) ?_
    refine lv_iadd hx hb dX12_bestIfOff_34 ?_
    refine lv_topi (fun v14 ev14 => ?_)
    have h := elet_at ev14 h
    clear ev14
    refine lv_iconst (v := 0) hx hb dX12_bestIfOff_35 (by decide) ?_
    obtain ⟨g15, h⟩ := oif_some h
    refine m_iast E G 14 6 (k := v14.toNatClampNeg) (v := 0) rfl (fun _ => rfl) (inb_k g15).1 (inb_k g15).2 (by decide) dX12_bestIfOff_36 (fun H locs G => ?_)
    obtain ⟨S16, eS16, h⟩ := elet_some h
    rw [← eS16] at G
    clear eS16
    refine lv_aload_n hx hb dX12_bestIfOff_37 rfl (lv_at hl 0 rfl) ?_
    refine lv_aload_n hx hb dX12_bestIfOff_38 rfl (lv_at hl 0 rfl) ?_
    refine m_get E G 14 (v := .ref (ad 14)) (by decide) (.tail _ qM_11) rfl dX12_bestIfOff_39 rfl ?_
    obtain ⟨S17, eS17, h⟩ := obind_some h
    refine m_callv (As := [.ref (ad 14)]) (rest := []) E G hA hR hml (tr_records_14 l D cI cJ cZ ad S16 eS17) (cwV 1 hts (gmV qM_220 qM_221 qM_222 qM_35 qM_223) rfl rfl rfl (by decide +kernel) ⟨Nat.le_of_ble_eq_true rfl, Nat.le_of_ble_eq_true rfl⟩) rfl hl.1 rfl (lv_room (Nat.le_of_ble_eq_true rfl)) dX12_bestIfOff_42 ⟨Nat.zero_le _, Nat.zero_le _⟩ (fun S19 H locs hq G => ?_)
    rw [hq] at G
    clear hq eS17
    refine lv_aload_n hx hb dX12_bestIfOff_45 rfl (lv_at hl 0 rfl) ?_
    refine lv_aload_n hx hb dX12_bestIfOff_46 rfl (lv_at hl 0 rfl) ?_
    refine m_get E G 14 (v := .ref (ad 14)) (by decide) (.tail _ qM_11) rfl dX12_bestIfOff_47 rfl ?_
    obtain ⟨r23, S20, eS20, h⟩ := obind2_some h
    refine m_calli (As := [.ref (ad 14)]) (rest := []) E G hA hR hml (tr_bestIn_14 l D cI cJ cZ ad S17 eS20) (cwV 1 hts (gmV qM_360 qM_361 qM_362 qM_35 qM_300) rfl rfl rfl (by decide +kernel) ⟨Nat.le_of_ble_eq_true rfl, Nat.le_of_ble_eq_true rfl⟩) rfl hl.1 rfl (lv_room (Nat.le_of_ble_eq_true rfl)) dX12_bestIfOff_50 ⟨Nat.zero_le _, Nat.zero_le _⟩ (fun q21 S22 H locs hq G => ?_)
    obtain ⟨hq1, hq2⟩ := hq
    rw [hq2] at G
    refine lv_to hq1 ?_
    clear hq1 hq2 eS20
    exact W.iret (v := r23) hx hb hr (fun t ht hW => ⟨⟨r23, S20, rfl, osome2 h, ⟨by rw [ht]; exact G.1, va_K.moved hW.alike hK, G.2.1⟩⟩, G.2.2.F ht⟩) G.2.2.2.2 dX12_bestIfOff_53
  · have h := oif_pos c10 h
    refine lv_iconst (v := 0) hx hb dX12_bestIfOff_12 (by decide) ?_
    exact W.iret (v := 0) hx hb hr (fun t ht hW => ⟨⟨0, S6, rfl, osome2 h, ⟨by rw [ht]; exact G.1, va_K.moved hW.alike hK, G.2.1⟩⟩, G.2.2.F ht⟩) G.2.2.2.2 dX12_bestIfOff_13
def fr_sets (S : MS) (a0 : Int32) (a1 : Int32) : Option (Int32 × MS) := obind (fr_remember S) fun S2 => oif (inb a0 2455 = true) <| elet (S2.2.1 12 a0.toNatClampNeg) fun v6 => oif (inb a0 2455 = true) <| elet (mf S2 12 (upd (S2.2.1 12) a0.toNatClampNeg a1)) fun S8 => some (v6, S8)
set_option maxHeartbeats 4000000 in
set_option maxRecDepth 100000 in
theorem tr_sets (l : Launch) (D : va_G) (cI cJ cZ : ClassId) (ad : Nat → Nat) (S : MS) (a0 : Int32) (a1 : Int32) {r1 : Int32} {S1 : MS} (h : fr_sets S a0 a1 = some (r1, S1)) : mCi l yX12_sets (Cond.code yX12_sets cX12_sets 4 (some .int) :: wsM) 3 45 D cI cJ cZ ad S [.int a0, .int a1] (fun r S9 => r = r1 ∧ S9 = S1) := by
  intro sz
  refine pro_in (cc := cX12_sets) (maxL := 4) (ret := (some .int)) (by exact pn_RX12) rfl (by exact Nat.le_of_ble_eq_true rfl) (fun p e s m below meth c ls hx hb hr hts hown hlocks hml hv hl => ?_)
  obtain ⟨hsz, hP, hK, hD0, hR⟩ := hv
  subst hsz
  have hD := hD0.self (sz := s.heap.size)
  generalize hAe : va_A (MW cI cJ cZ ad S) s.heap.size = A at hD ⊢
  have hA : ∀ q : Nat, s.heap.size ≤ q → A q := fun q h => by rw [← hAe]; exact Or.inr h
  have G : mG D cI cJ cZ ad A s.heap s.heap [] S := ⟨hP, hD, va_S.rf⟩
  have E : mE p c cX12_sets s m ([.ref (ad 0), .int a0, .int a1] : List Value).toArray (Cond.code yX12_sets cX12_sets 4 (some .int) :: wsM) D cI cJ cZ := ⟨hx, hb, hts, hown, hK, fun w h => .tail _ (iM_x h)⟩
  have hl : lv_has ls 4 [(0, .ref (ad 0)), (1, .int a0), (2, .int a1)] := hl
  unfold fr_sets at h
  refine lv_aload_n hx hb dX12_sets_0 rfl (lv_at hl 0 rfl) ?_
  obtain ⟨S2, eS2, h⟩ := obind_some h
  refine m_callv (As := []) (rest := []) E G hA hR hml (tr_remember l D cI cJ cZ ad S eS2) (cwV 0 hts (gmV qM_480 qM_481 qM_482 qM_35 qM_268) rfl rfl rfl (by decide +kernel) ⟨Nat.le_of_ble_eq_true rfl, Nat.le_of_ble_eq_true rfl⟩) rfl hl.1 rfl (lv_room (Nat.le_of_ble_eq_true rfl)) dX12_sets_1 ⟨Nat.zero_le _, Nat.zero_le _⟩ (fun S4 H locs hq G => ?_)
  rw [hq] at G
  clear hq eS2
  refine lv_aload_n hx hb dX12_sets_4 rfl (lv_at hl 0 rfl) ?_
  refine m_get E G 12 (v := .ref (ad 12)) (by decide) (.tail _ qM_9) rfl dX12_sets_5 rfl ?_
  refine lv_iload_n hx hb dX12_sets_8 rfl (lv_at hl 1 rfl) ?_
  obtain ⟨g5, h⟩ := oif_some h
  refine m_iald E G 12 4 (n := 2455) (k := a0.toNatClampNeg) rfl (inb_k g5).1 (inb_k g5).2 (by decide) dX12_sets_9 ?_
  refine lv_topi (fun v6 ev6 => ?_)
  have h := elet_at ev6 h
  clear ev6
  refine lv_istore_n (lv' := [(3, .int v6), (0, .ref (ad 0)), (1, .int a0), (2, .int a1)]) hx hb dX12_sets_10 rfl hl (by decide) rfl (fun ls hl => ?_)
  refine lv_aload_n hx hb dX12_sets_11 rfl (lv_at hl 1 rfl) ?_
  refine m_get E G 12 (v := .ref (ad 12)) (by decide) (.tail _ qM_9) rfl dX12_sets_12 rfl ?_
  refine lv_iload_n hx hb dX12_sets_15 rfl (lv_at hl 2 rfl) ?_
  refine lv_iload_n hx hb dX12_sets_16 rfl (lv_at hl 3 rfl) ?_
  obtain ⟨g7, h⟩ := oif_some h
  refine m_iast E G 12 4 (k := a0.toNatClampNeg) (v := a1) rfl (fun _ => rfl) (inb_k g7).1 (inb_k g7).2 (by decide) dX12_sets_17 (fun H locs G => ?_)
  obtain ⟨S8, eS8, h⟩ := elet_some h
  rw [← eS8] at G
  clear eS8
  refine lv_iload_n hx hb dX12_sets_18 rfl (lv_at hl 0 rfl) ?_
  exact W.iret (v := v6) hx hb hr (fun t ht hW => ⟨⟨v6, S8, rfl, osome2 h, ⟨by rw [ht]; exact G.1, va_K.moved hW.alike hK, G.2.1⟩⟩, G.2.2.F ht⟩) G.2.2.2.2 dX12_sets_19
def fr_mute_b37  (S : MS) (s0 : Int32) : Option (Int32 × MS) := oif (s0 = 0 ∨ s0 = 1) <| some (s0, S)
set_option maxHeartbeats 4000000 in
set_option maxRecDepth 100000 in
theorem tr_mute_b37 {p : Program} {l : Launch} {e : Env} {s : State} {m : MethodId} {args : Array Value} {below : List Frame} {meth : Method} {c : Code} {Q : State → Prop} {D : va_G} {A : Nat → Prop} {H0 : Heap} {cI cJ cZ : ClassId} {ad : Nat → Nat} {r1 : Int32} {S1 : MS} (E : mE p c cX12_mute s m args (Cond.code yX12_mute cX12_mute 3 (some .boolean) :: wsM) D cI cJ cZ) (hA : ∀ q : Nat, H0.size ≤ q → A q) (hR : sR s) (hml : c.maxLocals = 3) (kr37 : ∀ (H : Heap) (locs : List Loc) (ls : Array Slot), (r1 = 0 ∨ r1 = 1) → mG D cI cJ cZ ad A H0 H locs S1 → W p l e { frames := 4, cells := 0, slots := 0, locals := 68 } s m args below meth c H locs 0 0 Q (F0 m 37 ls [.int r1])) : ∀ (S : MS) (H : Heap) (locs : List Loc) (ls : Array Slot) (s0 : Int32), fr_mute_b37 S s0 = some (r1, S1) → mG D cI cJ cZ ad A H0 H locs S → lv_has ls 3 [] → W p l e { frames := 4, cells := 0, slots := 0, locals := 68 } s m args below meth c H locs 0 0 Q (F0 m 37 ls [.int s0]) := by
  have hx := E.1
  have hb := E.2.1
  have hts := E.2.2.1
  have hown := E.2.2.2.1
  have hK := E.2.2.2.2.1
  intro S H locs ls s0 h G hl
  unfold fr_mute_b37 at h
  obtain ⟨gz, h⟩ := oif_some h
  have gr : r1 = 0 ∨ r1 = 1 := by rw [← (osome2 h).1]; exact gz
  rw [(osome2 h).2] at G
  refine lv_to (osome2 h).1 ?_
  exact kr37 _ _ _ gr G
def fr_mute_b36  (S : MS)  : Option (Int32 × MS) := fr_mute_b37 S 0
set_option maxHeartbeats 4000000 in
set_option maxRecDepth 100000 in
theorem tr_mute_b36 {p : Program} {l : Launch} {e : Env} {s : State} {m : MethodId} {args : Array Value} {below : List Frame} {meth : Method} {c : Code} {Q : State → Prop} {D : va_G} {A : Nat → Prop} {H0 : Heap} {cI cJ cZ : ClassId} {ad : Nat → Nat} {r1 : Int32} {S1 : MS} (E : mE p c cX12_mute s m args (Cond.code yX12_mute cX12_mute 3 (some .boolean) :: wsM) D cI cJ cZ) (hA : ∀ q : Nat, H0.size ≤ q → A q) (hR : sR s) (hml : c.maxLocals = 3) (kr37 : ∀ (H : Heap) (locs : List Loc) (ls : Array Slot), (r1 = 0 ∨ r1 = 1) → mG D cI cJ cZ ad A H0 H locs S1 → W p l e { frames := 4, cells := 0, slots := 0, locals := 68 } s m args below meth c H locs 0 0 Q (F0 m 37 ls [.int r1])) : ∀ (S : MS) (H : Heap) (locs : List Loc) (ls : Array Slot), fr_mute_b36 S = some (r1, S1) → mG D cI cJ cZ ad A H0 H locs S → lv_has ls 3 [] → W p l e { frames := 4, cells := 0, slots := 0, locals := 68 } s m args below meth c H locs 0 0 Q (F0 m 36 ls []) := by
  have hx := E.1
  have hb := E.2.1
  have hts := E.2.2.1
  have hown := E.2.2.2.1
  have hK := E.2.2.2.2.1
  intro S H locs ls h G hl
  unfold fr_mute_b36 at h
  refine lv_iconst (v := 0) hx hb dX12_mute_36 (by decide) ?_
  have hl := lv_sub hl [] rfl
  exact tr_mute_b37 E hA hR hml kr37 _ _ _ _ _ h G hl
def fr_mute_b25  (S : MS) (s0 : Int32) (s1 : Int32) : Option (Int32 × MS) := obind2 (fr_sets S s1 s0) fun r5 S2 => if r5 = 1 then (fr_mute_b37 S2 1) else (fr_mute_b36 S2)
set_option maxHeartbeats 4000000 in
set_option maxRecDepth 100000 in
theorem tr_mute_b25 {p : Program} {l : Launch} {e : Env} {s : State} {m : MethodId} {args : Array Value} {below : List Frame} {meth : Method} {c : Code} {Q : State → Prop} {D : va_G} {A : Nat → Prop} {H0 : Heap} {cI cJ cZ : ClassId} {ad : Nat → Nat} {r1 : Int32} {S1 : MS} (E : mE p c cX12_mute s m args (Cond.code yX12_mute cX12_mute 3 (some .boolean) :: wsM) D cI cJ cZ) (hA : ∀ q : Nat, H0.size ≤ q → A q) (hR : sR s) (hml : c.maxLocals = 3) (kr37 : ∀ (H : Heap) (locs : List Loc) (ls : Array Slot), (r1 = 0 ∨ r1 = 1) → mG D cI cJ cZ ad A H0 H locs S1 → W p l e { frames := 4, cells := 0, slots := 0, locals := 68 } s m args below meth c H locs 0 0 Q (F0 m 37 ls [.int r1])) : ∀ (S : MS) (H : Heap) (locs : List Loc) (ls : Array Slot) (s0 : Int32) (s1 : Int32), fr_mute_b25 S s0 s1 = some (r1, S1) → mG D cI cJ cZ ad A H0 H locs S → lv_has ls 3 [] → W p l e { frames := 4, cells := 0, slots := 0, locals := 68 } s m args below meth c H locs 0 0 Q (F0 m 25 ls [.int s0, .int s1, .ref (ad 0)]) := by
  have hx := E.1
  have hb := E.2.1
  have hts := E.2.2.1
  have hown := E.2.2.2.1
  have hK := E.2.2.2.2.1
  intro S H locs ls s0 s1 h G hl
  unfold fr_mute_b25 at h
  obtain ⟨r5, S2, eS2, h⟩ := obind2_some h
  refine m_calli (As := [.int s1, .int s0]) (rest := []) E G hA hR hml (tr_sets l D cI cJ cZ ad S s1 s0 eS2) (cwV 2 hts (gmV qM_484 qM_485 qM_486 qM_35 qM_479) rfl rfl rfl (by decide +kernel) ⟨Nat.le_of_ble_eq_true rfl, Nat.le_of_ble_eq_true rfl⟩) rfl hl.1 rfl (lv_room (Nat.le_of_ble_eq_true rfl)) dX12_mute_25 ⟨Nat.zero_le _, Nat.zero_le _⟩ (fun q3 S4 H locs hq G => ?_)
  obtain ⟨hq1, hq2⟩ := hq
  rw [hq2] at G
  refine lv_to hq1 ?_
  clear hq1 hq2 eS2
  refine lv_iconst (v := 1) hx hb dX12_mute_28 (by decide) ?_
  refine lv_icmp_ne (tgt := 36) hx hb dX12_mute_29 (by decide) (fun c6 => ?_) (fun c6 => ?_)
  · have h := oif_neg c6 h
    have hl := lv_sub hl [] rfl
    exact tr_mute_b36 E hA hR hml kr37 _ _ _ _ h G hl
  · have h := oif_pos c6 h
    refine lv_iconst (v := 1) hx hb dX12_mute_32 (by decide) ?_
    refine lv_goto (tgt := 37) hx hb dX12_mute_33 (by decide) ?_
    have hl := lv_sub hl [] rfl
    exact tr_mute_b37 E hA hR hml kr37 _ _ _ _ _ h G hl
def fr_mute (S : MS) (a0 : Int32) (a1 : Int32) : Option (Int32 × MS) := obind2 (fr_isMic S a0) fun r5 S2 => obind2 (fr_mayAsk S2 r5) fun r9 S6 => if r9 = 0 then (fr_mute_b36 S6) else (elet (1 + a0) fun v11 => if a1 = 0 then (fr_mute_b25 S6 0 v11) else (fr_mute_b25 S6 1 v11))
set_option maxHeartbeats 4000000 in
set_option maxRecDepth 100000 in
theorem tr_mute (l : Launch) (D : va_G) (cI cJ cZ : ClassId) (ad : Nat → Nat) (S : MS) (a0 : Int32) (a1 : Int32) {r1 : Int32} {S1 : MS} (h : fr_mute S a0 a1 = some (r1, S1)) : mCi l yX12_mute (Cond.code yX12_mute cX12_mute 3 (some .boolean) :: wsM) 4 68 D cI cJ cZ ad S [.int a0, .int a1] (fun r S9 => r = r1 ∧ S9 = S1) := by
  intro sz
  refine pro_in (cc := cX12_mute) (maxL := 3) (ret := (some .boolean)) (by exact pn_RX12) rfl (by exact Nat.le_of_ble_eq_true rfl) (fun p e s m below meth c ls hx hb hr hts hown hlocks hml hv hl => ?_)
  obtain ⟨hsz, hP, hK, hD0, hR⟩ := hv
  subst hsz
  have hD := hD0.self (sz := s.heap.size)
  generalize hAe : va_A (MW cI cJ cZ ad S) s.heap.size = A at hD ⊢
  have hA : ∀ q : Nat, s.heap.size ≤ q → A q := fun q h => by rw [← hAe]; exact Or.inr h
  have G : mG D cI cJ cZ ad A s.heap s.heap [] S := ⟨hP, hD, va_S.rf⟩
  have E : mE p c cX12_mute s m ([.ref (ad 0), .int a0, .int a1] : List Value).toArray (Cond.code yX12_mute cX12_mute 3 (some .boolean) :: wsM) D cI cJ cZ := ⟨hx, hb, hts, hown, hK, fun w h => .tail _ (iM_x h)⟩
  have hl : lv_has ls 3 [(0, .ref (ad 0)), (1, .int a0), (2, .int a1)] := hl
  unfold fr_mute at h
  refine lv_aload_n hx hb dX12_mute_0 rfl (lv_at hl 0 rfl) ?_
  refine lv_aload_n hx hb dX12_mute_1 rfl (lv_at hl 0 rfl) ?_
  refine lv_iload_n hx hb dX12_mute_2 rfl (lv_at hl 1 rfl) ?_
  obtain ⟨r5, S2, eS2, h⟩ := obind2_some h
  refine m_calli (As := [.int a0]) (rest := [.ref (ad 0)]) E G hA hR hml (tr_isMic l D cI cJ cZ ad S a0 eS2) (cwV 1 hts (gmV qM_316 qM_317 qM_318 qM_35 qM_306) rfl rfl rfl (by decide +kernel) ⟨Nat.le_of_ble_eq_true rfl, Nat.le_of_ble_eq_true rfl⟩) rfl hl.1 rfl (lv_room (Nat.le_of_ble_eq_true rfl)) dX12_mute_3 ⟨Nat.zero_le _, Nat.zero_le _⟩ (fun q3 S4 H locs hq G => ?_)
  obtain ⟨hq1, hq2⟩ := hq
  rw [hq2] at G
  refine lv_to hq1 ?_
  clear hq1 hq2 eS2
  obtain ⟨r9, S6, eS6, h⟩ := obind2_some h
  refine m_calli (As := [.int r5]) (rest := []) E G hA hR hml (tr_mayAsk l D cI cJ cZ ad S2 r5 eS6) (cwV 1 hts (gmV qM_319 qM_320 qM_321 qM_35 qM_304) rfl rfl rfl (by decide +kernel) ⟨Nat.le_of_ble_eq_true rfl, Nat.le_of_ble_eq_true rfl⟩) rfl hl.1 rfl (lv_room (Nat.le_of_ble_eq_true rfl)) dX12_mute_6 ⟨Nat.zero_le _, Nat.zero_le _⟩ (fun q7 S8 H locs hq G => ?_)
  obtain ⟨hq1, hq2⟩ := hq
  rw [hq2] at G
  refine lv_to hq1 ?_
  clear hq1 hq2 eS6
  refine lv_if_eq (tgt := 36) hx hb dX12_mute_9 (by decide) (fun c10 => ?_) (fun c10 => ?_)
  · have h := oif_pos c10 h
    have hl := lv_sub hl [] rfl
    exact tr_mute_b36 E hA hR hml (fun H locs ls gz G => W.zret (v := r1) hx hb hr (nar01 gz) (fun t ht hW => ⟨⟨r1, S1, rfl, ⟨rfl, rfl⟩, ⟨by rw [ht]; exact G.1, va_K.moved hW.alike hK, G.2.1⟩⟩, G.2.2.F ht⟩) G.2.2.2.2 dX12_mute_37) _ _ _ _ h G hl
  · have h := oif_neg c10 h
    refine lv_aload_n hx hb dX12_mute_12 rfl (lv_at hl 0 rfl) ?_
    refine lv_iconst (v := 1) hx hb dX12_mute_13 (by decide) ?_
    refine lv_iload_n hx hb dX12_mute_14 rfl (lv_at hl 1 rfl) ?_
    refine lv_iadd hx hb dX12_mute_15 ?_
    refine lv_topi (fun v11 ev11 => ?_)
    have h := elet_at ev11 h
    clear ev11
    refine lv_iload_n hx hb dX12_mute_16 rfl (lv_at hl 2 rfl) ?_
    refine lv_if_eq (tgt := 24) hx hb dX12_mute_17 (by decide) (fun c12 => ?_) (fun c12 => ?_)
    · have h := oif_pos c12 h
      refine lv_iconst (v := 0) hx hb dX12_mute_24 (by decide) ?_
      have hl := lv_sub hl [] rfl
      exact tr_mute_b25 E hA hR hml (fun H locs ls gz G => W.zret (v := r1) hx hb hr (nar01 gz) (fun t ht hW => ⟨⟨r1, S1, rfl, ⟨rfl, rfl⟩, ⟨by rw [ht]; exact G.1, va_K.moved hW.alike hK, G.2.1⟩⟩, G.2.2.F ht⟩) G.2.2.2.2 dX12_mute_37) _ _ _ _ _ _ h G hl
    · have h := oif_neg c12 h
      refine lv_iconst (v := 1) hx hb dX12_mute_20 (by decide) ?_
      refine lv_goto (tgt := 25) hx hb dX12_mute_21 (by decide) ?_
      have hl := lv_sub hl [] rfl
      exact tr_mute_b25 E hA hR hml (fun H locs ls gz G => W.zret (v := r1) hx hb hr (nar01 gz) (fun t ht hW => ⟨⟨r1, S1, rfl, ⟨rfl, rfl⟩, ⟨by rw [ht]; exact G.1, va_K.moved hW.alike hK, G.2.1⟩⟩, G.2.2.F ht⟩) G.2.2.2.2 dX12_mute_37) _ _ _ _ _ _ h G hl
def fr_setWeight_b41  (S : MS) (s0 : Int32) : Option (Int32 × MS) := some (s0, S)
set_option maxHeartbeats 4000000 in
set_option maxRecDepth 100000 in
theorem tr_setWeight_b41 {p : Program} {l : Launch} {e : Env} {s : State} {m : MethodId} {args : Array Value} {below : List Frame} {meth : Method} {c : Code} {Q : State → Prop} {D : va_G} {A : Nat → Prop} {H0 : Heap} {cI cJ cZ : ClassId} {ad : Nat → Nat} {r1 : Int32} {S1 : MS} (E : mE p c cX12_setWeight s m args (Cond.code yX12_setWeight cX12_setWeight 3 (some .int) :: wsM) D cI cJ cZ) (hA : ∀ q : Nat, H0.size ≤ q → A q) (hR : sR s) (hml : c.maxLocals = 3) (kr13 : ∀ (H : Heap) (locs : List Loc) (ls : Array Slot), mG D cI cJ cZ ad A H0 H locs S1 → W p l e { frames := 4, cells := 0, slots := 0, locals := 68 } s m args below meth c H locs 0 0 Q (F0 m 13 ls [.int r1])) (kr41 : ∀ (H : Heap) (locs : List Loc) (ls : Array Slot), mG D cI cJ cZ ad A H0 H locs S1 → W p l e { frames := 4, cells := 0, slots := 0, locals := 68 } s m args below meth c H locs 0 0 Q (F0 m 41 ls [.int r1])) : ∀ (S : MS) (H : Heap) (locs : List Loc) (ls : Array Slot) (s0 : Int32), fr_setWeight_b41 S s0 = some (r1, S1) → mG D cI cJ cZ ad A H0 H locs S → lv_has ls 3 [] → W p l e { frames := 4, cells := 0, slots := 0, locals := 68 } s m args below meth c H locs 0 0 Q (F0 m 41 ls [.int s0]) := by
  have hx := E.1
  have hb := E.2.1
  have hts := E.2.2.1
  have hown := E.2.2.2.1
  have hK := E.2.2.2.2.1
  intro S H locs ls s0 h G hl
  unfold fr_setWeight_b41 at h
  rw [(osome2 h).2] at G
  refine lv_to (osome2 h).1 ?_
  exact kr41 _ _ _ G
def fr_setWeight (S : MS) (a0 : Int32) (a1 : Int32) : Option (Int32 × MS) := obind2 (fr_isMic S a0) fun r5 S2 => obind2 (fr_mayAsk S2 r5) fun r9 S6 => if r9 = 0 then (some (0, S6)) else (obind (fr_in a1 0 9) fun r11 => if r11 = 0 then (obind2 (fr_throwsAt S6 3) fun r17 S14 => fr_setWeight_b41 S14 r17) else (elet (13 + a0) fun v18 => obind2 (fr_sets S6 v18 a1) fun r22 S19 => fr_setWeight_b41 S19 r22))
set_option maxHeartbeats 4000000 in
set_option maxRecDepth 100000 in
theorem tr_setWeight (l : Launch) (D : va_G) (cI cJ cZ : ClassId) (ad : Nat → Nat) (S : MS) (a0 : Int32) (a1 : Int32) {r1 : Int32} {S1 : MS} (h : fr_setWeight S a0 a1 = some (r1, S1)) : mCi l yX12_setWeight (Cond.code yX12_setWeight cX12_setWeight 3 (some .int) :: wsM) 4 68 D cI cJ cZ ad S [.int a0, .int a1] (fun r S9 => r = r1 ∧ S9 = S1) := by
  intro sz
  refine pro_in (cc := cX12_setWeight) (maxL := 3) (ret := (some .int)) (by exact pn_RX12) rfl (by exact Nat.le_of_ble_eq_true rfl) (fun p e s m below meth c ls hx hb hr hts hown hlocks hml hv hl => ?_)
  obtain ⟨hsz, hP, hK, hD0, hR⟩ := hv
  subst hsz
  have hD := hD0.self (sz := s.heap.size)
  generalize hAe : va_A (MW cI cJ cZ ad S) s.heap.size = A at hD ⊢
  have hA : ∀ q : Nat, s.heap.size ≤ q → A q := fun q h => by rw [← hAe]; exact Or.inr h
  have G : mG D cI cJ cZ ad A s.heap s.heap [] S := ⟨hP, hD, va_S.rf⟩
  have E : mE p c cX12_setWeight s m ([.ref (ad 0), .int a0, .int a1] : List Value).toArray (Cond.code yX12_setWeight cX12_setWeight 3 (some .int) :: wsM) D cI cJ cZ := ⟨hx, hb, hts, hown, hK, fun w h => .tail _ (iM_x h)⟩
  have hl : lv_has ls 3 [(0, .ref (ad 0)), (1, .int a0), (2, .int a1)] := hl
  unfold fr_setWeight at h
  refine lv_aload_n hx hb dX12_setWeight_0 rfl (lv_at hl 0 rfl) ?_
  refine lv_aload_n hx hb dX12_setWeight_1 rfl (lv_at hl 0 rfl) ?_
  refine lv_iload_n hx hb dX12_setWeight_2 rfl (lv_at hl 1 rfl) ?_
  obtain ⟨r5, S2, eS2, h⟩ := obind2_some h
  refine m_calli (As := [.int a0]) (rest := [.ref (ad 0)]) E G hA hR hml (tr_isMic l D cI cJ cZ ad S a0 eS2) (cwV 1 hts (gmV qM_316 qM_317 qM_318 qM_35 qM_306) rfl rfl rfl (by decide +kernel) ⟨Nat.le_of_ble_eq_true rfl, Nat.le_of_ble_eq_true rfl⟩) rfl hl.1 rfl (lv_room (Nat.le_of_ble_eq_true rfl)) dX12_setWeight_3 ⟨Nat.zero_le _, Nat.zero_le _⟩ (fun q3 S4 H locs hq G => ?_)
  obtain ⟨hq1, hq2⟩ := hq
  rw [hq2] at G
  refine lv_to hq1 ?_
  clear hq1 hq2 eS2
  obtain ⟨r9, S6, eS6, h⟩ := obind2_some h
  refine m_calli (As := [.int r5]) (rest := []) E G hA hR hml (tr_mayAsk l D cI cJ cZ ad S2 r5 eS6) (cwV 1 hts (gmV qM_319 qM_320 qM_321 qM_35 qM_304) rfl rfl rfl (by decide +kernel) ⟨Nat.le_of_ble_eq_true rfl, Nat.le_of_ble_eq_true rfl⟩) rfl hl.1 rfl (lv_room (Nat.le_of_ble_eq_true rfl)) dX12_setWeight_6 ⟨Nat.zero_le _, Nat.zero_le _⟩ (fun q7 S8 H locs hq G => ?_)
  obtain ⟨hq1, hq2⟩ := hq
  rw [hq2] at G
  refine lv_to hq1 ?_
  clear hq1 hq2 eS6
  refine lv_if_ne (tgt := 14) hx hb dX12_setWeight_9 (by decide) (fun c10 => ?_) (fun c10 => ?_)
  · have h := oif_neg c10 h
    refine lv_iload_n hx hb dX12_setWeight_14 rfl (lv_at hl 2 rfl) ?_
    refine lv_iconst (v := 0) hx hb dX12_setWeight_15 (by decide) ?_
    refine lv_bipush (v := 9) hx hb dX12_setWeight_16 (by decide) ?_
    obtain ⟨r11, er11, h⟩ := obind_some h
    refine m_stat (As := [.int a1, .int 0, .int 9]) (rest := []) ⟨hx, hb, hml, hown, hts⟩ (tr_in l a1 0 9 er11) (cwS 3 hts (gmS qM_52 qM_53 qM_35 qM_27) rfl rfl rfl (by decide +kernel) ⟨Nat.le_of_ble_eq_true rfl, Nat.le_of_ble_eq_true rfl⟩) rfl hl.1 rfl (lv_room (Nat.le_of_ble_eq_true rfl)) dX12_setWeight_18 ⟨Nat.zero_le _, Nat.zero_le _⟩ (fun q12 hq => ?_)
    refine lv_to hq ?_
    clear hq er11
    refine lv_if_eq (tgt := 36) hx hb dX12_setWeight_21 (by decide) (fun c13 => ?_) (fun c13 => ?_)
    · have h := oif_pos c13 h
      refine lv_aload_n hx hb dX12_setWeight_36 rfl (lv_at hl 0 rfl) ?_
      refine lv_iconst (v := 3) hx hb dX12_setWeight_37 (by decide) ?_
      obtain ⟨r17, S14, eS14, h⟩ := obind2_some h
      refine m_calli (As := [.int 3]) (rest := []) E G hA hR hml (tr_throwsAt l D cI cJ cZ ad S6 3 eS14) (cwV 1 hts (gmV qM_195 qM_196 qM_197 qM_35 qM_28) rfl rfl rfl (by decide +kernel) ⟨Nat.le_of_ble_eq_true rfl, Nat.le_of_ble_eq_true rfl⟩) rfl hl.1 rfl (lv_room (Nat.le_of_ble_eq_true rfl)) dX12_setWeight_38 ⟨Nat.zero_le _, Nat.zero_le _⟩ (fun q15 S16 H locs hq G => ?_)
      obtain ⟨hq1, hq2⟩ := hq
      rw [hq2] at G
      refine lv_to hq1 ?_
      clear hq1 hq2 eS14
      have hl := lv_sub hl [] rfl
      exact tr_setWeight_b41 E hA hR hml (fun H locs ls G => W.iret (v := r1) hx hb hr (fun t ht hW => ⟨⟨r1, S1, rfl, ⟨rfl, rfl⟩, ⟨by rw [ht]; exact G.1, va_K.moved hW.alike hK, G.2.1⟩⟩, G.2.2.F ht⟩) G.2.2.2.2 dX12_setWeight_13) (fun H locs ls G => W.iret (v := r1) hx hb hr (fun t ht hW => ⟨⟨r1, S1, rfl, ⟨rfl, rfl⟩, ⟨by rw [ht]; exact G.1, va_K.moved hW.alike hK, G.2.1⟩⟩, G.2.2.F ht⟩) G.2.2.2.2 dX12_setWeight_41) _ _ _ _ _ h G hl
    · have h := oif_neg c13 h
      refine lv_aload_n hx hb dX12_setWeight_24 rfl (lv_at hl 0 rfl) ?_
      refine lv_bipush (v := 13) hx hb dX12_setWeight_25 (by decide) ?_
      refine lv_iload_n hx hb dX12_setWeight_27 rfl (lv_at hl 1 rfl) ?_
      refine lv_iadd hx hb dX12_setWeight_28 ?_
      refine lv_topi (fun v18 ev18 => ?_)
      have h := elet_at ev18 h
      clear ev18
      refine lv_iload_n hx hb dX12_setWeight_29 rfl (lv_at hl 2 rfl) ?_
      obtain ⟨r22, S19, eS19, h⟩ := obind2_some h
      refine m_calli (As := [.int v18, .int a1]) (rest := []) E G hA hR hml (tr_sets l D cI cJ cZ ad S6 v18 a1 eS19) (cwV 2 hts (gmV qM_484 qM_485 qM_486 qM_35 qM_479) rfl rfl rfl (by decide +kernel) ⟨Nat.le_of_ble_eq_true rfl, Nat.le_of_ble_eq_true rfl⟩) rfl hl.1 rfl (lv_room (Nat.le_of_ble_eq_true rfl)) dX12_setWeight_30 ⟨Nat.zero_le _, Nat.zero_le _⟩ (fun q20 S21 H locs hq G => ?_)
      obtain ⟨hq1, hq2⟩ := hq
      rw [hq2] at G
      refine lv_to hq1 ?_
      clear hq1 hq2 eS19
      refine lv_goto (tgt := 41) hx hb dX12_setWeight_33 (by decide) ?_
      have hl := lv_sub hl [] rfl
      exact tr_setWeight_b41 E hA hR hml (fun H locs ls G => W.iret (v := r1) hx hb hr (fun t ht hW => ⟨⟨r1, S1, rfl, ⟨rfl, rfl⟩, ⟨by rw [ht]; exact G.1, va_K.moved hW.alike hK, G.2.1⟩⟩, G.2.2.F ht⟩) G.2.2.2.2 dX12_setWeight_13) (fun H locs ls G => W.iret (v := r1) hx hb hr (fun t ht hW => ⟨⟨r1, S1, rfl, ⟨rfl, rfl⟩, ⟨by rw [ht]; exact G.1, va_K.moved hW.alike hK, G.2.1⟩⟩, G.2.2.F ht⟩) G.2.2.2.2 dX12_setWeight_41) _ _ _ _ _ h G hl
  · have h := oif_pos c10 h
    refine lv_iconst (v := 0) hx hb dX12_setWeight_12 (by decide) ?_
    exact W.iret (v := 0) hx hb hr (fun t ht hW => ⟨⟨0, S6, rfl, osome2 h, ⟨by rw [ht]; exact G.1, va_K.moved hW.alike hK, G.2.1⟩⟩, G.2.2.F ht⟩) G.2.2.2.2 dX12_setWeight_13
def fr_setOn_b50  (S : MS) (s0 : Int32) : Option (Int32 × MS) := oif (s0 = 0 ∨ s0 = 1) <| some (s0, S)
set_option maxHeartbeats 4000000 in
set_option maxRecDepth 100000 in
theorem tr_setOn_b50 {p : Program} {l : Launch} {e : Env} {s : State} {m : MethodId} {args : Array Value} {below : List Frame} {meth : Method} {c : Code} {Q : State → Prop} {D : va_G} {A : Nat → Prop} {H0 : Heap} {cI cJ cZ : ClassId} {ad : Nat → Nat} {r1 : Int32} {S1 : MS} (E : mE p c cX12_setOn s m args (Cond.code yX12_setOn cX12_setOn 4 (some .boolean) :: wsM) D cI cJ cZ) (hA : ∀ q : Nat, H0.size ≤ q → A q) (hR : sR s) (hml : c.maxLocals = 4) (kr13 : ∀ (H : Heap) (locs : List Loc) (ls : Array Slot), (r1 = 0 ∨ r1 = 1) → mG D cI cJ cZ ad A H0 H locs S1 → W p l e { frames := 7, cells := 0, slots := 0, locals := 169 } s m args below meth c H locs 0 0 Q (F0 m 13 ls [.int r1])) (kr50 : ∀ (H : Heap) (locs : List Loc) (ls : Array Slot), (r1 = 0 ∨ r1 = 1) → mG D cI cJ cZ ad A H0 H locs S1 → W p l e { frames := 7, cells := 0, slots := 0, locals := 169 } s m args below meth c H locs 0 0 Q (F0 m 50 ls [.int r1])) : ∀ (S : MS) (H : Heap) (locs : List Loc) (ls : Array Slot) (s0 : Int32), fr_setOn_b50 S s0 = some (r1, S1) → mG D cI cJ cZ ad A H0 H locs S → lv_has ls 4 [] → W p l e { frames := 7, cells := 0, slots := 0, locals := 169 } s m args below meth c H locs 0 0 Q (F0 m 50 ls [.int s0]) := by
  have hx := E.1
  have hb := E.2.1
  have hts := E.2.2.1
  have hown := E.2.2.2.1
  have hK := E.2.2.2.2.1
  intro S H locs ls s0 h G hl
  unfold fr_setOn_b50 at h
  obtain ⟨gz, h⟩ := oif_some h
  have gr : r1 = 0 ∨ r1 = 1 := by rw [← (osome2 h).1]; exact gz
  rw [(osome2 h).2] at G
  refine lv_to (osome2 h).1 ?_
  exact kr50 _ _ _ gr G
def fr_setOn_b28  (S : MS) (s0 : Int32) (s1 : Int32) : Option (Int32 × MS) := obind2 (fr_sets S s1 s0) fun r5 S2 => obind (fr_records_12 S2) fun S6 => if r5 = 1 then (fr_setOn_b50 S6 1) else (fr_setOn_b50 S6 0)
set_option maxHeartbeats 4000000 in
set_option maxRecDepth 100000 in
theorem tr_setOn_b28 {p : Program} {l : Launch} {e : Env} {s : State} {m : MethodId} {args : Array Value} {below : List Frame} {meth : Method} {c : Code} {Q : State → Prop} {D : va_G} {A : Nat → Prop} {H0 : Heap} {cI cJ cZ : ClassId} {ad : Nat → Nat} {r1 : Int32} {S1 : MS} (E : mE p c cX12_setOn s m args (Cond.code yX12_setOn cX12_setOn 4 (some .boolean) :: wsM) D cI cJ cZ) (hA : ∀ q : Nat, H0.size ≤ q → A q) (hR : sR s) (hml : c.maxLocals = 4) (kr13 : ∀ (H : Heap) (locs : List Loc) (ls : Array Slot), (r1 = 0 ∨ r1 = 1) → mG D cI cJ cZ ad A H0 H locs S1 → W p l e { frames := 7, cells := 0, slots := 0, locals := 169 } s m args below meth c H locs 0 0 Q (F0 m 13 ls [.int r1])) (kr50 : ∀ (H : Heap) (locs : List Loc) (ls : Array Slot), (r1 = 0 ∨ r1 = 1) → mG D cI cJ cZ ad A H0 H locs S1 → W p l e { frames := 7, cells := 0, slots := 0, locals := 169 } s m args below meth c H locs 0 0 Q (F0 m 50 ls [.int r1])) : ∀ (S : MS) (H : Heap) (locs : List Loc) (ls : Array Slot) (s0 : Int32) (s1 : Int32), fr_setOn_b28 S s0 s1 = some (r1, S1) → mG D cI cJ cZ ad A H0 H locs S → lv_has ls 4 [(0, .ref (ad 0))] → W p l e { frames := 7, cells := 0, slots := 0, locals := 169 } s m args below meth c H locs 0 0 Q (F0 m 28 ls [.int s0, .int s1, .ref (ad 0)]) := by
  have hx := E.1
  have hb := E.2.1
  have hts := E.2.2.1
  have hown := E.2.2.2.1
  have hK := E.2.2.2.2.1
  intro S H locs ls s0 s1 h G hl
  unfold fr_setOn_b28 at h
  obtain ⟨r5, S2, eS2, h⟩ := obind2_some h
  refine m_calli (As := [.int s1, .int s0]) (rest := []) E G hA hR hml (tr_sets l D cI cJ cZ ad S s1 s0 eS2) (cwV 2 hts (gmV qM_484 qM_485 qM_486 qM_35 qM_479) rfl rfl rfl (by decide +kernel) ⟨Nat.le_of_ble_eq_true rfl, Nat.le_of_ble_eq_true rfl⟩) rfl hl.1 rfl (lv_room (Nat.le_of_ble_eq_true rfl)) dX12_setOn_28 ⟨Nat.zero_le _, Nat.zero_le _⟩ (fun q3 S4 H locs hq G => ?_)
  obtain ⟨hq1, hq2⟩ := hq
  rw [hq2] at G
  refine lv_to hq1 ?_
  clear hq1 hq2 eS2
  refine lv_istore_n (lv' := [(3, .int r5), (0, .ref (ad 0))]) hx hb dX12_setOn_31 rfl hl (by decide) rfl (fun ls hl => ?_)
  refine lv_aload_n hx hb dX12_setOn_32 rfl (lv_at hl 1 rfl) ?_
  refine lv_aload_n hx hb dX12_setOn_33 rfl (lv_at hl 1 rfl) ?_
  refine m_get E G 12 (v := .ref (ad 12)) (by decide) (.tail _ qM_9) rfl dX12_setOn_34 rfl ?_
  obtain ⟨S6, eS6, h⟩ := obind_some h
  refine m_callv (As := [.ref (ad 12)]) (rest := []) E G hA hR hml (tr_records_12 l D cI cJ cZ ad S2 eS6) (cwV 1 hts (gmV qM_220 qM_221 qM_222 qM_35 qM_223) rfl rfl rfl (by decide +kernel) ⟨Nat.le_of_ble_eq_true rfl, Nat.le_of_ble_eq_true rfl⟩) rfl hl.1 rfl (lv_room (Nat.le_of_ble_eq_true rfl)) dX12_setOn_37 ⟨Nat.zero_le _, Nat.zero_le _⟩ (fun S8 H locs hq G => ?_)
  rw [hq] at G
  clear hq eS6
  refine lv_iload_n hx hb dX12_setOn_40 rfl (lv_at hl 0 rfl) ?_
  refine lv_iconst (v := 1) hx hb dX12_setOn_41 (by decide) ?_
  refine lv_icmp_ne (tgt := 49) hx hb dX12_setOn_42 (by decide) (fun c9 => ?_) (fun c9 => ?_)
  · have h := oif_neg c9 h
    refine lv_iconst (v := 0) hx hb dX12_setOn_49 (by decide) ?_
    have hl := lv_sub hl [] rfl
    exact tr_setOn_b50 E hA hR hml kr13 kr50 _ _ _ _ _ h G hl
  · have h := oif_pos c9 h
    refine lv_iconst (v := 1) hx hb dX12_setOn_45 (by decide) ?_
    refine lv_goto (tgt := 50) hx hb dX12_setOn_46 (by decide) ?_
    have hl := lv_sub hl [] rfl
    exact tr_setOn_b50 E hA hR hml kr13 kr50 _ _ _ _ _ h G hl
def fr_setOn (S : MS) (a0 : Int32) (a1 : Int32) : Option (Int32 × MS) := obind2 (fr_isSource S a0) fun r5 S2 => obind2 (fr_mayAsk S2 r5) fun r9 S6 => if r9 = 0 then (some (0, S6)) else (elet (25 + a0) fun v11 => if a1 = 0 then (fr_setOn_b28 S6 0 v11) else (fr_setOn_b28 S6 1 v11))
set_option maxHeartbeats 4000000 in
set_option maxRecDepth 100000 in
theorem tr_setOn (l : Launch) (D : va_G) (cI cJ cZ : ClassId) (ad : Nat → Nat) (S : MS) (a0 : Int32) (a1 : Int32) {r1 : Int32} {S1 : MS} (h : fr_setOn S a0 a1 = some (r1, S1)) : mCi l yX12_setOn (Cond.code yX12_setOn cX12_setOn 4 (some .boolean) :: wsM) 7 169 D cI cJ cZ ad S [.int a0, .int a1] (fun r S9 => r = r1 ∧ S9 = S1) := by
  intro sz
  refine pro_in (cc := cX12_setOn) (maxL := 4) (ret := (some .boolean)) (by exact pn_RX12) rfl (by exact Nat.le_of_ble_eq_true rfl) (fun p e s m below meth c ls hx hb hr hts hown hlocks hml hv hl => ?_)
  obtain ⟨hsz, hP, hK, hD0, hR⟩ := hv
  subst hsz
  have hD := hD0.self (sz := s.heap.size)
  generalize hAe : va_A (MW cI cJ cZ ad S) s.heap.size = A at hD ⊢
  have hA : ∀ q : Nat, s.heap.size ≤ q → A q := fun q h => by rw [← hAe]; exact Or.inr h
  have G : mG D cI cJ cZ ad A s.heap s.heap [] S := ⟨hP, hD, va_S.rf⟩
  have E : mE p c cX12_setOn s m ([.ref (ad 0), .int a0, .int a1] : List Value).toArray (Cond.code yX12_setOn cX12_setOn 4 (some .boolean) :: wsM) D cI cJ cZ := ⟨hx, hb, hts, hown, hK, fun w h => .tail _ (iM_x h)⟩
  have hl : lv_has ls 4 [(0, .ref (ad 0)), (1, .int a0), (2, .int a1)] := hl
  unfold fr_setOn at h
  refine lv_aload_n hx hb dX12_setOn_0 rfl (lv_at hl 0 rfl) ?_
  refine lv_aload_n hx hb dX12_setOn_1 rfl (lv_at hl 0 rfl) ?_
  refine lv_iload_n hx hb dX12_setOn_2 rfl (lv_at hl 1 rfl) ?_
  obtain ⟨r5, S2, eS2, h⟩ := obind2_some h
  refine m_calli (As := [.int a0]) (rest := [.ref (ad 0)]) E G hA hR hml (tr_isSource l D cI cJ cZ ad S a0 eS2) (cwV 1 hts (gmV qM_331 qM_332 qM_333 qM_35 qM_308) rfl rfl rfl (by decide +kernel) ⟨Nat.le_of_ble_eq_true rfl, Nat.le_of_ble_eq_true rfl⟩) rfl hl.1 rfl (lv_room (Nat.le_of_ble_eq_true rfl)) dX12_setOn_3 ⟨Nat.zero_le _, Nat.zero_le _⟩ (fun q3 S4 H locs hq G => ?_)
  obtain ⟨hq1, hq2⟩ := hq
  rw [hq2] at G
  refine lv_to hq1 ?_
  clear hq1 hq2 eS2
  obtain ⟨r9, S6, eS6, h⟩ := obind2_some h
  refine m_calli (As := [.int r5]) (rest := []) E G hA hR hml (tr_mayAsk l D cI cJ cZ ad S2 r5 eS6) (cwV 1 hts (gmV qM_319 qM_320 qM_321 qM_35 qM_304) rfl rfl rfl (by decide +kernel) ⟨Nat.le_of_ble_eq_true rfl, Nat.le_of_ble_eq_true rfl⟩) rfl hl.1 rfl (lv_room (Nat.le_of_ble_eq_true rfl)) dX12_setOn_6 ⟨Nat.zero_le _, Nat.zero_le _⟩ (fun q7 S8 H locs hq G => ?_)
  obtain ⟨hq1, hq2⟩ := hq
  rw [hq2] at G
  refine lv_to hq1 ?_
  clear hq1 hq2 eS6
  refine lv_if_ne (tgt := 14) hx hb dX12_setOn_9 (by decide) (fun c10 => ?_) (fun c10 => ?_)
  · have h := oif_neg c10 h
    refine lv_aload_n hx hb dX12_setOn_14 rfl (lv_at hl 0 rfl) ?_
    refine lv_bipush (v := 25) hx hb dX12_setOn_15 (by decide) ?_
    refine lv_iload_n hx hb dX12_setOn_17 rfl (lv_at hl 1 rfl) ?_
    refine lv_iadd hx hb dX12_setOn_18 ?_
    refine lv_topi (fun v11 ev11 => ?_)
    have h := elet_at ev11 h
    clear ev11
    refine lv_iload_n hx hb dX12_setOn_19 rfl (lv_at hl 2 rfl) ?_
    refine lv_if_eq (tgt := 27) hx hb dX12_setOn_20 (by decide) (fun c12 => ?_) (fun c12 => ?_)
    · have h := oif_pos c12 h
      refine lv_iconst (v := 0) hx hb dX12_setOn_27 (by decide) ?_
      have hl := lv_sub hl [0] rfl
      exact tr_setOn_b28 E hA hR hml (fun H locs ls gz G => W.zret (v := r1) hx hb hr (nar01 gz) (fun t ht hW => ⟨⟨r1, S1, rfl, ⟨rfl, rfl⟩, ⟨by rw [ht]; exact G.1, va_K.moved hW.alike hK, G.2.1⟩⟩, G.2.2.F ht⟩) G.2.2.2.2 dX12_setOn_13) (fun H locs ls gz G => W.zret (v := r1) hx hb hr (nar01 gz) (fun t ht hW => ⟨⟨r1, S1, rfl, ⟨rfl, rfl⟩, ⟨by rw [ht]; exact G.1, va_K.moved hW.alike hK, G.2.1⟩⟩, G.2.2.F ht⟩) G.2.2.2.2 dX12_setOn_50) _ _ _ _ _ _ h G hl
    · have h := oif_neg c12 h
      refine lv_iconst (v := 1) hx hb dX12_setOn_23 (by decide) ?_
      refine lv_goto (tgt := 28) hx hb dX12_setOn_24 (by decide) ?_
      have hl := lv_sub hl [0] rfl
      exact tr_setOn_b28 E hA hR hml (fun H locs ls gz G => W.zret (v := r1) hx hb hr (nar01 gz) (fun t ht hW => ⟨⟨r1, S1, rfl, ⟨rfl, rfl⟩, ⟨by rw [ht]; exact G.1, va_K.moved hW.alike hK, G.2.1⟩⟩, G.2.2.F ht⟩) G.2.2.2.2 dX12_setOn_13) (fun H locs ls gz G => W.zret (v := r1) hx hb hr (nar01 gz) (fun t ht hW => ⟨⟨r1, S1, rfl, ⟨rfl, rfl⟩, ⟨by rw [ht]; exact G.1, va_K.moved hW.alike hK, G.2.1⟩⟩, G.2.2.F ht⟩) G.2.2.2.2 dX12_setOn_50) _ _ _ _ _ _ h G hl
  · have h := oif_pos c10 h
    refine lv_iconst (v := 0) hx hb dX12_setOn_12 (by decide) ?_
    exact W.zret (v := 0) hx hb hr rfl (fun t ht hW => ⟨⟨0, S6, rfl, osome2 h, ⟨by rw [ht]; exact G.1, va_K.moved hW.alike hK, G.2.1⟩⟩, G.2.2.F ht⟩) G.2.2.2.2 dX12_setOn_13
def fr_setsTwo (S : MS) (a0 : Int32) (a1 : Int32) (a2 : Int32) : Option (Int32 × MS) := obind2 (fr_sets S a0 a1) fun r5 S2 => elet (a0 + 6) fun v6 => oif (inb v6 2455 = true) <| elet (mf S2 12 (upd (S2.2.1 12) v6.toNatClampNeg a2)) fun S8 => obind (fr_records_12 S8) fun S9 => obind2 (fr_bestIn_12 S9) fun r15 S12 => some (r15, S12)
set_option maxHeartbeats 4000000 in
set_option maxRecDepth 100000 in
theorem tr_setsTwo (l : Launch) (D : va_G) (cI cJ cZ : ClassId) (ad : Nat → Nat) (S : MS) (a0 : Int32) (a1 : Int32) (a2 : Int32) {r1 : Int32} {S1 : MS} (h : fr_setsTwo S a0 a1 a2 = some (r1, S1)) : mCi l yX12_setsTwo (Cond.code yX12_setsTwo cX12_setsTwo 5 (some .int) :: wsM) 8 169 D cI cJ cZ ad S [.int a0, .int a1, .int a2] (fun r S9 => r = r1 ∧ S9 = S1) := by
  intro sz
  refine pro_in (cc := cX12_setsTwo) (maxL := 5) (ret := (some .int)) (by exact pn_RX12) rfl (by exact Nat.le_of_ble_eq_true rfl) (fun p e s m below meth c ls hx hb hr hts hown hlocks hml hv hl => ?_)
  obtain ⟨hsz, hP, hK, hD0, hR⟩ := hv
  subst hsz
  have hD := hD0.self (sz := s.heap.size)
  generalize hAe : va_A (MW cI cJ cZ ad S) s.heap.size = A at hD ⊢
  have hA : ∀ q : Nat, s.heap.size ≤ q → A q := fun q h => by rw [← hAe]; exact Or.inr h
  have G : mG D cI cJ cZ ad A s.heap s.heap [] S := ⟨hP, hD, va_S.rf⟩
  have E : mE p c cX12_setsTwo s m ([.ref (ad 0), .int a0, .int a1, .int a2] : List Value).toArray (Cond.code yX12_setsTwo cX12_setsTwo 5 (some .int) :: wsM) D cI cJ cZ := ⟨hx, hb, hts, hown, hK, fun w h => .tail _ (iM_x h)⟩
  have hl : lv_has ls 5 [(0, .ref (ad 0)), (1, .int a0), (2, .int a1), (3, .int a2)] := hl
  unfold fr_setsTwo at h
  refine lv_aload_n hx hb dX12_setsTwo_0 rfl (lv_at hl 0 rfl) ?_
  refine lv_iload_n hx hb dX12_setsTwo_1 rfl (lv_at hl 1 rfl) ?_
  refine lv_iload_n hx hb dX12_setsTwo_2 rfl (lv_at hl 2 rfl) ?_
  obtain ⟨r5, S2, eS2, h⟩ := obind2_some h
  refine m_calli (As := [.int a0, .int a1]) (rest := []) E G hA hR hml (tr_sets l D cI cJ cZ ad S a0 a1 eS2) (cwV 2 hts (gmV qM_484 qM_485 qM_486 qM_35 qM_479) rfl rfl rfl (by decide +kernel) ⟨Nat.le_of_ble_eq_true rfl, Nat.le_of_ble_eq_true rfl⟩) rfl hl.1 rfl (lv_room (Nat.le_of_ble_eq_true rfl)) dX12_setsTwo_3 ⟨Nat.zero_le _, Nat.zero_le _⟩ (fun q3 S4 H locs hq G => ?_)
  obtain ⟨hq1, hq2⟩ := hq
  rw [hq2] at G
  refine lv_to hq1 ?_
  clear hq1 hq2 eS2
  refine lv_istore (lv' := [(4, .int r5), (0, .ref (ad 0)), (1, .int a0), (2, .int a1), (3, .int a2)]) hx hb dX12_setsTwo_6 hl (by decide) rfl (fun ls hl => ?_)
  refine lv_aload_n hx hb dX12_setsTwo_8 rfl (lv_at hl 1 rfl) ?_
  refine m_get E G 12 (v := .ref (ad 12)) (by decide) (.tail _ qM_9) rfl dX12_setsTwo_9 rfl ?_
  refine lv_iload_n hx hb dX12_setsTwo_12 rfl (lv_at hl 2 rfl) ?_
  refine lv_bipush (v := 6) hx hb dX12_setsTwo_13 (by decide) ?_
  refine lv_iadd hx hb dX12_setsTwo_15 ?_
  refine lv_topi (fun v6 ev6 => ?_)
  have h := elet_at ev6 h
  clear ev6
  refine lv_iload_n hx hb dX12_setsTwo_16 rfl (lv_at hl 4 rfl) ?_
  obtain ⟨g7, h⟩ := oif_some h
  refine m_iast E G 12 4 (k := v6.toNatClampNeg) (v := a2) rfl (fun _ => rfl) (inb_k g7).1 (inb_k g7).2 (by decide) dX12_setsTwo_17 (fun H locs G => ?_)
  obtain ⟨S8, eS8, h⟩ := elet_some h
  rw [← eS8] at G
  clear eS8
  refine lv_aload_n hx hb dX12_setsTwo_18 rfl (lv_at hl 1 rfl) ?_
  refine lv_aload_n hx hb dX12_setsTwo_19 rfl (lv_at hl 1 rfl) ?_
  refine m_get E G 12 (v := .ref (ad 12)) (by decide) (.tail _ qM_9) rfl dX12_setsTwo_20 rfl ?_
  obtain ⟨S9, eS9, h⟩ := obind_some h
  refine m_callv (As := [.ref (ad 12)]) (rest := []) E G hA hR hml (tr_records_12 l D cI cJ cZ ad S8 eS9) (cwV 1 hts (gmV qM_220 qM_221 qM_222 qM_35 qM_223) rfl rfl rfl (by decide +kernel) ⟨Nat.le_of_ble_eq_true rfl, Nat.le_of_ble_eq_true rfl⟩) rfl hl.1 rfl (lv_room (Nat.le_of_ble_eq_true rfl)) dX12_setsTwo_23 ⟨Nat.zero_le _, Nat.zero_le _⟩ (fun S11 H locs hq G => ?_)
  rw [hq] at G
  clear hq eS9
  refine lv_aload_n hx hb dX12_setsTwo_26 rfl (lv_at hl 1 rfl) ?_
  refine lv_aload_n hx hb dX12_setsTwo_27 rfl (lv_at hl 1 rfl) ?_
  refine m_get E G 12 (v := .ref (ad 12)) (by decide) (.tail _ qM_9) rfl dX12_setsTwo_28 rfl ?_
  obtain ⟨r15, S12, eS12, h⟩ := obind2_some h
  refine m_calli (As := [.ref (ad 12)]) (rest := []) E G hA hR hml (tr_bestIn_12 l D cI cJ cZ ad S9 eS12) (cwV 1 hts (gmV qM_360 qM_361 qM_362 qM_35 qM_300) rfl rfl rfl (by decide +kernel) ⟨Nat.le_of_ble_eq_true rfl, Nat.le_of_ble_eq_true rfl⟩) rfl hl.1 rfl (lv_room (Nat.le_of_ble_eq_true rfl)) dX12_setsTwo_31 ⟨Nat.zero_le _, Nat.zero_le _⟩ (fun q13 S14 H locs hq G => ?_)
  obtain ⟨hq1, hq2⟩ := hq
  rw [hq2] at G
  refine lv_to hq1 ?_
  clear hq1 hq2 eS12
  exact W.iret (v := r15) hx hb hr (fun t ht hW => ⟨⟨r15, S12, rfl, osome2 h, ⟨by rw [ht]; exact G.1, va_K.moved hW.alike hK, G.2.1⟩⟩, G.2.2.F ht⟩) G.2.2.2.2 dX12_setsTwo_34
def fr_moveSource_b58  (S : MS) (s0 : Int32) : Option (Int32 × MS) := some (s0, S)
set_option maxHeartbeats 4000000 in
set_option maxRecDepth 100000 in
theorem tr_moveSource_b58 {p : Program} {l : Launch} {e : Env} {s : State} {m : MethodId} {args : Array Value} {below : List Frame} {meth : Method} {c : Code} {Q : State → Prop} {D : va_G} {A : Nat → Prop} {H0 : Heap} {cI cJ cZ : ClassId} {ad : Nat → Nat} {r1 : Int32} {S1 : MS} (E : mE p c cX12_moveSource s m args (Cond.code yX12_moveSource cX12_moveSource 4 (some .int) :: wsM) D cI cJ cZ) (hA : ∀ q : Nat, H0.size ≤ q → A q) (hR : sR s) (hml : c.maxLocals = 4) (kr13 : ∀ (H : Heap) (locs : List Loc) (ls : Array Slot), mG D cI cJ cZ ad A H0 H locs S1 → W p l e { frames := 9, cells := 0, slots := 0, locals := 193 } s m args below meth c H locs 0 0 Q (F0 m 13 ls [.int r1])) (kr58 : ∀ (H : Heap) (locs : List Loc) (ls : Array Slot), mG D cI cJ cZ ad A H0 H locs S1 → W p l e { frames := 9, cells := 0, slots := 0, locals := 193 } s m args below meth c H locs 0 0 Q (F0 m 58 ls [.int r1])) : ∀ (S : MS) (H : Heap) (locs : List Loc) (ls : Array Slot) (s0 : Int32), fr_moveSource_b58 S s0 = some (r1, S1) → mG D cI cJ cZ ad A H0 H locs S → lv_has ls 4 [] → W p l e { frames := 9, cells := 0, slots := 0, locals := 193 } s m args below meth c H locs 0 0 Q (F0 m 58 ls [.int s0]) := by
  have hx := E.1
  have hb := E.2.1
  have hts := E.2.2.1
  have hown := E.2.2.2.1
  have hK := E.2.2.2.2.1
  intro S H locs ls s0 h G hl
  unfold fr_moveSource_b58 at h
  rw [(osome2 h).2] at G
  refine lv_to (osome2 h).1 ?_
  exact kr58 _ _ _ G
def fr_moveSource_b53  (S : MS)  : Option (Int32 × MS) := obind2 (fr_throwsAt S 3) fun r5 S2 => fr_moveSource_b58 S2 r5
set_option maxHeartbeats 4000000 in
set_option maxRecDepth 100000 in
theorem tr_moveSource_b53 {p : Program} {l : Launch} {e : Env} {s : State} {m : MethodId} {args : Array Value} {below : List Frame} {meth : Method} {c : Code} {Q : State → Prop} {D : va_G} {A : Nat → Prop} {H0 : Heap} {cI cJ cZ : ClassId} {ad : Nat → Nat} {r1 : Int32} {S1 : MS} (E : mE p c cX12_moveSource s m args (Cond.code yX12_moveSource cX12_moveSource 4 (some .int) :: wsM) D cI cJ cZ) (hA : ∀ q : Nat, H0.size ≤ q → A q) (hR : sR s) (hml : c.maxLocals = 4) (kr13 : ∀ (H : Heap) (locs : List Loc) (ls : Array Slot), mG D cI cJ cZ ad A H0 H locs S1 → W p l e { frames := 9, cells := 0, slots := 0, locals := 193 } s m args below meth c H locs 0 0 Q (F0 m 13 ls [.int r1])) (kr58 : ∀ (H : Heap) (locs : List Loc) (ls : Array Slot), mG D cI cJ cZ ad A H0 H locs S1 → W p l e { frames := 9, cells := 0, slots := 0, locals := 193 } s m args below meth c H locs 0 0 Q (F0 m 58 ls [.int r1])) : ∀ (S : MS) (H : Heap) (locs : List Loc) (ls : Array Slot), fr_moveSource_b53 S = some (r1, S1) → mG D cI cJ cZ ad A H0 H locs S → lv_has ls 4 [(0, .ref (ad 0))] → W p l e { frames := 9, cells := 0, slots := 0, locals := 193 } s m args below meth c H locs 0 0 Q (F0 m 53 ls []) := by
  have hx := E.1
  have hb := E.2.1
  have hts := E.2.2.1
  have hown := E.2.2.2.1
  have hK := E.2.2.2.2.1
  intro S H locs ls h G hl
  unfold fr_moveSource_b53 at h
  refine lv_aload_n hx hb dX12_moveSource_53 rfl (lv_at hl 0 rfl) ?_
  refine lv_iconst (v := 3) hx hb dX12_moveSource_54 (by decide) ?_
  obtain ⟨r5, S2, eS2, h⟩ := obind2_some h
  refine m_calli (As := [.int 3]) (rest := []) E G hA hR hml (tr_throwsAt l D cI cJ cZ ad S 3 eS2) (cwV 1 hts (gmV qM_195 qM_196 qM_197 qM_35 qM_28) rfl rfl rfl (by decide +kernel) ⟨Nat.le_of_ble_eq_true rfl, Nat.le_of_ble_eq_true rfl⟩) rfl hl.1 rfl (lv_room (Nat.le_of_ble_eq_true rfl)) dX12_moveSource_55 ⟨Nat.zero_le _, Nat.zero_le _⟩ (fun q3 S4 H locs hq G => ?_)
  obtain ⟨hq1, hq2⟩ := hq
  rw [hq2] at G
  refine lv_to hq1 ?_
  clear hq1 hq2 eS2
  have hl := lv_sub hl [] rfl
  exact tr_moveSource_b58 E hA hR hml kr13 kr58 _ _ _ _ _ h G hl
def fr_moveSource (S : MS) (a0 : Int32) (a1 : Int32) (a2 : Int32) : Option (Int32 × MS) := obind2 (fr_isSource S a0) fun r5 S2 => obind2 (fr_mayAsk S2 r5) fun r9 S6 => if r9 = 0 then (some (0, S6)) else (obind (fr_in a1 (-2000) 2000) fun r11 => if r11 = 0 then (fr_moveSource_b53 S6) else (obind (fr_in a2 (-2000) 2000) fun r14 => if r14 = 0 then (fr_moveSource_b53 S6) else (elet (31 + a0) fun v17 => obind2 (fr_setsTwo S6 v17 a1 a2) fun r21 S18 => fr_moveSource_b58 S18 r21)))
set_option maxHeartbeats 4000000 in
set_option maxRecDepth 100000 in
theorem tr_moveSource (l : Launch) (D : va_G) (cI cJ cZ : ClassId) (ad : Nat → Nat) (S : MS) (a0 : Int32) (a1 : Int32) (a2 : Int32) {r1 : Int32} {S1 : MS} (h : fr_moveSource S a0 a1 a2 = some (r1, S1)) : mCi l yX12_moveSource (Cond.code yX12_moveSource cX12_moveSource 4 (some .int) :: wsM) 9 193 D cI cJ cZ ad S [.int a0, .int a1, .int a2] (fun r S9 => r = r1 ∧ S9 = S1) := by
  intro sz
  refine pro_in (cc := cX12_moveSource) (maxL := 4) (ret := (some .int)) (by exact pn_RX12) rfl (by exact Nat.le_of_ble_eq_true rfl) (fun p e s m below meth c ls hx hb hr hts hown hlocks hml hv hl => ?_)
  obtain ⟨hsz, hP, hK, hD0, hR⟩ := hv
  subst hsz
  have hD := hD0.self (sz := s.heap.size)
  generalize hAe : va_A (MW cI cJ cZ ad S) s.heap.size = A at hD ⊢
  have hA : ∀ q : Nat, s.heap.size ≤ q → A q := fun q h => by rw [← hAe]; exact Or.inr h
  have G : mG D cI cJ cZ ad A s.heap s.heap [] S := ⟨hP, hD, va_S.rf⟩
  have E : mE p c cX12_moveSource s m ([.ref (ad 0), .int a0, .int a1, .int a2] : List Value).toArray (Cond.code yX12_moveSource cX12_moveSource 4 (some .int) :: wsM) D cI cJ cZ := ⟨hx, hb, hts, hown, hK, fun w h => .tail _ (iM_x h)⟩
  have hl : lv_has ls 4 [(0, .ref (ad 0)), (1, .int a0), (2, .int a1), (3, .int a2)] := hl
  unfold fr_moveSource at h
  refine lv_aload_n hx hb dX12_moveSource_0 rfl (lv_at hl 0 rfl) ?_
  refine lv_aload_n hx hb dX12_moveSource_1 rfl (lv_at hl 0 rfl) ?_
  refine lv_iload_n hx hb dX12_moveSource_2 rfl (lv_at hl 1 rfl) ?_
  obtain ⟨r5, S2, eS2, h⟩ := obind2_some h
  refine m_calli (As := [.int a0]) (rest := [.ref (ad 0)]) E G hA hR hml (tr_isSource l D cI cJ cZ ad S a0 eS2) (cwV 1 hts (gmV qM_331 qM_332 qM_333 qM_35 qM_308) rfl rfl rfl (by decide +kernel) ⟨Nat.le_of_ble_eq_true rfl, Nat.le_of_ble_eq_true rfl⟩) rfl hl.1 rfl (lv_room (Nat.le_of_ble_eq_true rfl)) dX12_moveSource_3 ⟨Nat.zero_le _, Nat.zero_le _⟩ (fun q3 S4 H locs hq G => ?_)
  obtain ⟨hq1, hq2⟩ := hq
  rw [hq2] at G
  refine lv_to hq1 ?_
  clear hq1 hq2 eS2
  obtain ⟨r9, S6, eS6, h⟩ := obind2_some h
  refine m_calli (As := [.int r5]) (rest := []) E G hA hR hml (tr_mayAsk l D cI cJ cZ ad S2 r5 eS6) (cwV 1 hts (gmV qM_319 qM_320 qM_321 qM_35 qM_304) rfl rfl rfl (by decide +kernel) ⟨Nat.le_of_ble_eq_true rfl, Nat.le_of_ble_eq_true rfl⟩) rfl hl.1 rfl (lv_room (Nat.le_of_ble_eq_true rfl)) dX12_moveSource_6 ⟨Nat.zero_le _, Nat.zero_le _⟩ (fun q7 S8 H locs hq G => ?_)
  obtain ⟨hq1, hq2⟩ := hq
  rw [hq2] at G
  refine lv_to hq1 ?_
  clear hq1 hq2 eS6
  refine lv_if_ne (tgt := 14) hx hb dX12_moveSource_9 (by decide) (fun c10 => ?_) (fun c10 => ?_)
  · have h := oif_neg c10 h
    refine lv_iload_n hx hb dX12_moveSource_14 rfl (lv_at hl 2 rfl) ?_
    refine lv_sipush (v := (-2000)) hx hb dX12_moveSource_15 (by decide) ?_
    refine lv_sipush (v := 2000) hx hb dX12_moveSource_18 (by decide) ?_
    obtain ⟨r11, er11, h⟩ := obind_some h
    refine m_stat (As := [.int a1, .int (-2000), .int 2000]) (rest := []) ⟨hx, hb, hml, hown, hts⟩ (tr_in l a1 (-2000) 2000 er11) (cwS 3 hts (gmS qM_52 qM_53 qM_35 qM_27) rfl rfl rfl (by decide +kernel) ⟨Nat.le_of_ble_eq_true rfl, Nat.le_of_ble_eq_true rfl⟩) rfl hl.1 rfl (lv_room (Nat.le_of_ble_eq_true rfl)) dX12_moveSource_21 ⟨Nat.zero_le _, Nat.zero_le _⟩ (fun q12 hq => ?_)
    refine lv_to hq ?_
    clear hq er11
    refine lv_if_eq (tgt := 53) hx hb dX12_moveSource_24 (by decide) (fun c13 => ?_) (fun c13 => ?_)
    · have h := oif_pos c13 h
      have hl := lv_sub hl [0] rfl
      exact tr_moveSource_b53 E hA hR hml (fun H locs ls G => W.iret (v := r1) hx hb hr (fun t ht hW => ⟨⟨r1, S1, rfl, ⟨rfl, rfl⟩, ⟨by rw [ht]; exact G.1, va_K.moved hW.alike hK, G.2.1⟩⟩, G.2.2.F ht⟩) G.2.2.2.2 dX12_moveSource_13) (fun H locs ls G => W.iret (v := r1) hx hb hr (fun t ht hW => ⟨⟨r1, S1, rfl, ⟨rfl, rfl⟩, ⟨by rw [ht]; exact G.1, va_K.moved hW.alike hK, G.2.1⟩⟩, G.2.2.F ht⟩) G.2.2.2.2 dX12_moveSource_58) _ _ _ _ h G hl
    · have h := oif_neg c13 h
      refine lv_iload_n hx hb dX12_moveSource_27 rfl (lv_at hl 3 rfl) ?_
      refine lv_sipush (v := (-2000)) hx hb dX12_moveSource_28 (by decide) ?_
      refine lv_sipush (v := 2000) hx hb dX12_moveSource_31 (by decide) ?_
      obtain ⟨r14, er14, h⟩ := obind_some h
      refine m_stat (As := [.int a2, .int (-2000), .int 2000]) (rest := []) ⟨hx, hb, hml, hown, hts⟩ (tr_in l a2 (-2000) 2000 er14) (cwS 3 hts (gmS qM_52 qM_53 qM_35 qM_27) rfl rfl rfl (by decide +kernel) ⟨Nat.le_of_ble_eq_true rfl, Nat.le_of_ble_eq_true rfl⟩) rfl hl.1 rfl (lv_room (Nat.le_of_ble_eq_true rfl)) dX12_moveSource_34 ⟨Nat.zero_le _, Nat.zero_le _⟩ (fun q15 hq => ?_)
      refine lv_to hq ?_
      clear hq er14
      refine lv_if_eq (tgt := 53) hx hb dX12_moveSource_37 (by decide) (fun c16 => ?_) (fun c16 => ?_)
      · have h := oif_pos c16 h
        have hl := lv_sub hl [0] rfl
        exact tr_moveSource_b53 E hA hR hml (fun H locs ls G => W.iret (v := r1) hx hb hr (fun t ht hW => ⟨⟨r1, S1, rfl, ⟨rfl, rfl⟩, ⟨by rw [ht]; exact G.1, va_K.moved hW.alike hK, G.2.1⟩⟩, G.2.2.F ht⟩) G.2.2.2.2 dX12_moveSource_13) (fun H locs ls G => W.iret (v := r1) hx hb hr (fun t ht hW => ⟨⟨r1, S1, rfl, ⟨rfl, rfl⟩, ⟨by rw [ht]; exact G.1, va_K.moved hW.alike hK, G.2.1⟩⟩, G.2.2.F ht⟩) G.2.2.2.2 dX12_moveSource_58) _ _ _ _ h G hl
      · have h := oif_neg c16 h
        refine lv_aload_n hx hb dX12_moveSource_40 rfl (lv_at hl 0 rfl) ?_
        refine lv_bipush (v := 31) hx hb dX12_moveSource_41 (by decide) ?_
        refine lv_iload_n hx hb dX12_moveSource_43 rfl (lv_at hl 1 rfl) ?_
        refine lv_iadd hx hb dX12_moveSource_44 ?_
        refine lv_topi (fun v17 ev17 => ?_)
        have h := elet_at ev17 h
        clear ev17
        refine lv_iload_n hx hb dX12_moveSource_45 rfl (lv_at hl 2 rfl) ?_
        refine lv_iload_n hx hb dX12_moveSource_46 rfl (lv_at hl 3 rfl) ?_
        obtain ⟨r21, S18, eS18, h⟩ := obind2_some h
        refine m_calli (As := [.int v17, .int a1, .int a2]) (rest := []) E G hA hR hml (tr_setsTwo l D cI cJ cZ ad S6 v17 a1 a2 eS18) (cwV 3 hts (gmV qM_491 qM_492 qM_493 qM_35 qM_489) rfl rfl rfl (by decide +kernel) ⟨Nat.le_of_ble_eq_true rfl, Nat.le_of_ble_eq_true rfl⟩) rfl hl.1 rfl (lv_room (Nat.le_of_ble_eq_true rfl)) dX12_moveSource_47 ⟨Nat.zero_le _, Nat.zero_le _⟩ (fun q19 S20 H locs hq G => ?_)
        obtain ⟨hq1, hq2⟩ := hq
        rw [hq2] at G
        refine lv_to hq1 ?_
        clear hq1 hq2 eS18
        refine lv_goto (tgt := 58) hx hb dX12_moveSource_50 (by decide) ?_
        have hl := lv_sub hl [] rfl
        exact tr_moveSource_b58 E hA hR hml (fun H locs ls G => W.iret (v := r1) hx hb hr (fun t ht hW => ⟨⟨r1, S1, rfl, ⟨rfl, rfl⟩, ⟨by rw [ht]; exact G.1, va_K.moved hW.alike hK, G.2.1⟩⟩, G.2.2.F ht⟩) G.2.2.2.2 dX12_moveSource_13) (fun H locs ls G => W.iret (v := r1) hx hb hr (fun t ht hW => ⟨⟨r1, S1, rfl, ⟨rfl, rfl⟩, ⟨by rw [ht]; exact G.1, va_K.moved hW.alike hK, G.2.1⟩⟩, G.2.2.F ht⟩) G.2.2.2.2 dX12_moveSource_58) _ _ _ _ _ h G hl
  · have h := oif_pos c10 h
    refine lv_iconst (v := 0) hx hb dX12_moveSource_12 (by decide) ?_
    exact W.iret (v := 0) hx hb hr (fun t ht hW => ⟨⟨0, S6, rfl, osome2 h, ⟨by rw [ht]; exact G.1, va_K.moved hW.alike hK, G.2.1⟩⟩, G.2.2.F ht⟩) G.2.2.2.2 dX12_moveSource_13
def fr_setVelocity_b40  (S : MS) (s0 : Int32) : Option (Int32 × MS) := some (s0, S)
set_option maxHeartbeats 4000000 in
set_option maxRecDepth 100000 in
theorem tr_setVelocity_b40 {p : Program} {l : Launch} {e : Env} {s : State} {m : MethodId} {args : Array Value} {below : List Frame} {meth : Method} {c : Code} {Q : State → Prop} {D : va_G} {A : Nat → Prop} {H0 : Heap} {cI cJ cZ : ClassId} {ad : Nat → Nat} {r1 : Int32} {S1 : MS} (E : mE p c cX12_setVelocity s m args (Cond.code yX12_setVelocity cX12_setVelocity 4 (some .int) :: wsM) D cI cJ cZ) (hA : ∀ q : Nat, H0.size ≤ q → A q) (hR : sR s) (hml : c.maxLocals = 4) (kr13 : ∀ (H : Heap) (locs : List Loc) (ls : Array Slot), mG D cI cJ cZ ad A H0 H locs S1 → W p l e { frames := 9, cells := 0, slots := 0, locals := 193 } s m args below meth c H locs 0 0 Q (F0 m 13 ls [.int r1])) (kr40 : ∀ (H : Heap) (locs : List Loc) (ls : Array Slot), mG D cI cJ cZ ad A H0 H locs S1 → W p l e { frames := 9, cells := 0, slots := 0, locals := 193 } s m args below meth c H locs 0 0 Q (F0 m 40 ls [.int r1])) : ∀ (S : MS) (H : Heap) (locs : List Loc) (ls : Array Slot) (s0 : Int32), fr_setVelocity_b40 S s0 = some (r1, S1) → mG D cI cJ cZ ad A H0 H locs S → lv_has ls 4 [] → W p l e { frames := 9, cells := 0, slots := 0, locals := 193 } s m args below meth c H locs 0 0 Q (F0 m 40 ls [.int s0]) := by
  have hx := E.1
  have hb := E.2.1
  have hts := E.2.2.1
  have hown := E.2.2.2.1
  have hK := E.2.2.2.2.1
  intro S H locs ls s0 h G hl
  unfold fr_setVelocity_b40 at h
  rw [(osome2 h).2] at G
  refine lv_to (osome2 h).1 ?_
  exact kr40 _ _ _ G
def fr_setVelocity (S : MS) (a0 : Int32) (a1 : Int32) (a2 : Int32) : Option (Int32 × MS) := obind2 (fr_isSource S a0) fun r5 S2 => obind2 (fr_mayAsk S2 r5) fun r9 S6 => if r9 = 0 then (some (0, S6)) else (obind (fr_isVelocity a1 a2) fun r11 => if r11 = 0 then (obind2 (fr_throwsAt S6 3) fun r17 S14 => fr_setVelocity_b40 S14 r17) else (elet (43 + a0) fun v18 => obind2 (fr_setsTwo S6 v18 a1 a2) fun r22 S19 => fr_setVelocity_b40 S19 r22))
set_option maxHeartbeats 4000000 in
set_option maxRecDepth 100000 in
theorem tr_setVelocity (l : Launch) (D : va_G) (cI cJ cZ : ClassId) (ad : Nat → Nat) (S : MS) (a0 : Int32) (a1 : Int32) (a2 : Int32) {r1 : Int32} {S1 : MS} (h : fr_setVelocity S a0 a1 a2 = some (r1, S1)) : mCi l yX12_setVelocity (Cond.code yX12_setVelocity cX12_setVelocity 4 (some .int) :: wsM) 9 193 D cI cJ cZ ad S [.int a0, .int a1, .int a2] (fun r S9 => r = r1 ∧ S9 = S1) := by
  intro sz
  refine pro_in (cc := cX12_setVelocity) (maxL := 4) (ret := (some .int)) (by exact pn_RX12) rfl (by exact Nat.le_of_ble_eq_true rfl) (fun p e s m below meth c ls hx hb hr hts hown hlocks hml hv hl => ?_)
  obtain ⟨hsz, hP, hK, hD0, hR⟩ := hv
  subst hsz
  have hD := hD0.self (sz := s.heap.size)
  generalize hAe : va_A (MW cI cJ cZ ad S) s.heap.size = A at hD ⊢
  have hA : ∀ q : Nat, s.heap.size ≤ q → A q := fun q h => by rw [← hAe]; exact Or.inr h
  have G : mG D cI cJ cZ ad A s.heap s.heap [] S := ⟨hP, hD, va_S.rf⟩
  have E : mE p c cX12_setVelocity s m ([.ref (ad 0), .int a0, .int a1, .int a2] : List Value).toArray (Cond.code yX12_setVelocity cX12_setVelocity 4 (some .int) :: wsM) D cI cJ cZ := ⟨hx, hb, hts, hown, hK, fun w h => .tail _ (iM_x h)⟩
  have hl : lv_has ls 4 [(0, .ref (ad 0)), (1, .int a0), (2, .int a1), (3, .int a2)] := hl
  unfold fr_setVelocity at h
  refine lv_aload_n hx hb dX12_setVelocity_0 rfl (lv_at hl 0 rfl) ?_
  refine lv_aload_n hx hb dX12_setVelocity_1 rfl (lv_at hl 0 rfl) ?_
  refine lv_iload_n hx hb dX12_setVelocity_2 rfl (lv_at hl 1 rfl) ?_
  obtain ⟨r5, S2, eS2, h⟩ := obind2_some h
  refine m_calli (As := [.int a0]) (rest := [.ref (ad 0)]) E G hA hR hml (tr_isSource l D cI cJ cZ ad S a0 eS2) (cwV 1 hts (gmV qM_331 qM_332 qM_333 qM_35 qM_308) rfl rfl rfl (by decide +kernel) ⟨Nat.le_of_ble_eq_true rfl, Nat.le_of_ble_eq_true rfl⟩) rfl hl.1 rfl (lv_room (Nat.le_of_ble_eq_true rfl)) dX12_setVelocity_3 ⟨Nat.zero_le _, Nat.zero_le _⟩ (fun q3 S4 H locs hq G => ?_)
  obtain ⟨hq1, hq2⟩ := hq
  rw [hq2] at G
  refine lv_to hq1 ?_
  clear hq1 hq2 eS2
  obtain ⟨r9, S6, eS6, h⟩ := obind2_some h
  refine m_calli (As := [.int r5]) (rest := []) E G hA hR hml (tr_mayAsk l D cI cJ cZ ad S2 r5 eS6) (cwV 1 hts (gmV qM_319 qM_320 qM_321 qM_35 qM_304) rfl rfl rfl (by decide +kernel) ⟨Nat.le_of_ble_eq_true rfl, Nat.le_of_ble_eq_true rfl⟩) rfl hl.1 rfl (lv_room (Nat.le_of_ble_eq_true rfl)) dX12_setVelocity_6 ⟨Nat.zero_le _, Nat.zero_le _⟩ (fun q7 S8 H locs hq G => ?_)
  obtain ⟨hq1, hq2⟩ := hq
  rw [hq2] at G
  refine lv_to hq1 ?_
  clear hq1 hq2 eS6
  refine lv_if_ne (tgt := 14) hx hb dX12_setVelocity_9 (by decide) (fun c10 => ?_) (fun c10 => ?_)
  · have h := oif_neg c10 h
    refine lv_iload_n hx hb dX12_setVelocity_14 rfl (lv_at hl 2 rfl) ?_
    refine lv_iload_n hx hb dX12_setVelocity_15 rfl (lv_at hl 3 rfl) ?_
    obtain ⟨r11, er11, h⟩ := obind_some h
    refine m_stat (As := [.int a1, .int a2]) (rest := []) ⟨hx, hb, hml, hown, hts⟩ (tr_isVelocity l a1 a2 er11) (cwS 2 hts (gmS qM_450 qM_451 qM_35 qM_448) rfl rfl rfl (by decide +kernel) ⟨Nat.le_of_ble_eq_true rfl, Nat.le_of_ble_eq_true rfl⟩) rfl hl.1 rfl (lv_room (Nat.le_of_ble_eq_true rfl)) dX12_setVelocity_16 ⟨Nat.zero_le _, Nat.zero_le _⟩ (fun q12 hq => ?_)
    refine lv_to hq ?_
    clear hq er11
    refine lv_if_eq (tgt := 35) hx hb dX12_setVelocity_19 (by decide) (fun c13 => ?_) (fun c13 => ?_)
    · have h := oif_pos c13 h
      refine lv_aload_n hx hb dX12_setVelocity_35 rfl (lv_at hl 0 rfl) ?_
      refine lv_iconst (v := 3) hx hb dX12_setVelocity_36 (by decide) ?_
      obtain ⟨r17, S14, eS14, h⟩ := obind2_some h
      refine m_calli (As := [.int 3]) (rest := []) E G hA hR hml (tr_throwsAt l D cI cJ cZ ad S6 3 eS14) (cwV 1 hts (gmV qM_195 qM_196 qM_197 qM_35 qM_28) rfl rfl rfl (by decide +kernel) ⟨Nat.le_of_ble_eq_true rfl, Nat.le_of_ble_eq_true rfl⟩) rfl hl.1 rfl (lv_room (Nat.le_of_ble_eq_true rfl)) dX12_setVelocity_37 ⟨Nat.zero_le _, Nat.zero_le _⟩ (fun q15 S16 H locs hq G => ?_)
      obtain ⟨hq1, hq2⟩ := hq
      rw [hq2] at G
      refine lv_to hq1 ?_
      clear hq1 hq2 eS14
      have hl := lv_sub hl [] rfl
      exact tr_setVelocity_b40 E hA hR hml (fun H locs ls G => W.iret (v := r1) hx hb hr (fun t ht hW => ⟨⟨r1, S1, rfl, ⟨rfl, rfl⟩, ⟨by rw [ht]; exact G.1, va_K.moved hW.alike hK, G.2.1⟩⟩, G.2.2.F ht⟩) G.2.2.2.2 dX12_setVelocity_13) (fun H locs ls G => W.iret (v := r1) hx hb hr (fun t ht hW => ⟨⟨r1, S1, rfl, ⟨rfl, rfl⟩, ⟨by rw [ht]; exact G.1, va_K.moved hW.alike hK, G.2.1⟩⟩, G.2.2.F ht⟩) G.2.2.2.2 dX12_setVelocity_40) _ _ _ _ _ h G hl
    · have h := oif_neg c13 h
      refine lv_aload_n hx hb dX12_setVelocity_22 rfl (lv_at hl 0 rfl) ?_
      refine lv_bipush (v := 43) hx hb dX12_setVelocity_23 (by decide) ?_
      refine lv_iload_n hx hb dX12_setVelocity_25 rfl (lv_at hl 1 rfl) ?_
      refine lv_iadd hx hb dX12_setVelocity_26 ?_
      refine lv_topi (fun v18 ev18 => ?_)
      have h := elet_at ev18 h
      clear ev18
      refine lv_iload_n hx hb dX12_setVelocity_27 rfl (lv_at hl 2 rfl) ?_
      refine lv_iload_n hx hb dX12_setVelocity_28 rfl (lv_at hl 3 rfl) ?_
      obtain ⟨r22, S19, eS19, h⟩ := obind2_some h
      refine m_calli (As := [.int v18, .int a1, .int a2]) (rest := []) E G hA hR hml (tr_setsTwo l D cI cJ cZ ad S6 v18 a1 a2 eS19) (cwV 3 hts (gmV qM_491 qM_492 qM_493 qM_35 qM_489) rfl rfl rfl (by decide +kernel) ⟨Nat.le_of_ble_eq_true rfl, Nat.le_of_ble_eq_true rfl⟩) rfl hl.1 rfl (lv_room (Nat.le_of_ble_eq_true rfl)) dX12_setVelocity_29 ⟨Nat.zero_le _, Nat.zero_le _⟩ (fun q20 S21 H locs hq G => ?_)
      obtain ⟨hq1, hq2⟩ := hq
      rw [hq2] at G
      refine lv_to hq1 ?_
      clear hq1 hq2 eS19
      refine lv_goto (tgt := 40) hx hb dX12_setVelocity_32 (by decide) ?_
      have hl := lv_sub hl [] rfl
      exact tr_setVelocity_b40 E hA hR hml (fun H locs ls G => W.iret (v := r1) hx hb hr (fun t ht hW => ⟨⟨r1, S1, rfl, ⟨rfl, rfl⟩, ⟨by rw [ht]; exact G.1, va_K.moved hW.alike hK, G.2.1⟩⟩, G.2.2.F ht⟩) G.2.2.2.2 dX12_setVelocity_13) (fun H locs ls G => W.iret (v := r1) hx hb hr (fun t ht hW => ⟨⟨r1, S1, rfl, ⟨rfl, rfl⟩, ⟨by rw [ht]; exact G.1, va_K.moved hW.alike hK, G.2.1⟩⟩, G.2.2.F ht⟩) G.2.2.2.2 dX12_setVelocity_40) _ _ _ _ _ h G hl
  · have h := oif_pos c10 h
    refine lv_iconst (v := 0) hx hb dX12_setVelocity_12 (by decide) ?_
    exact W.iret (v := 0) hx hb hr (fun t ht hW => ⟨⟨0, S6, rfl, osome2 h, ⟨by rw [ht]; exact G.1, va_K.moved hW.alike hK, G.2.1⟩⟩, G.2.2.F ht⟩) G.2.2.2.2 dX12_setVelocity_13
def fr_weightOf_b40 (k4 : MS → Int32 → Int32 → Option (Int32 × MS)) (S : MS) (s0 : Int32) (s1 : Int32) (l2 : Int32) : Option (Int32 × MS) := elet (s1 + s0) fun v2 => elet (l2 + Int32.ofInt (1)) fun v3 => k4 S v2 v3
set_option maxHeartbeats 4000000 in
set_option maxRecDepth 100000 in
theorem tr_weightOf_b40 {p : Program} {l : Launch} {e : Env} {s : State} {m : MethodId} {args : Array Value} {below : List Frame} {meth : Method} {c : Code} {Q : State → Prop} {D : va_G} {A : Nat → Prop} {H0 : Heap} {cI cJ cZ : ClassId} {ad : Nat → Nat} {r1 : Int32} {S1 : MS} (E : mE p c cX12_weightOf s m args (Cond.code yX12_weightOf cX12_weightOf 3 (some .int) :: wsM) D cI cJ cZ) (hA : ∀ q : Nat, H0.size ≤ q → A q) (hR : sR s) (hml : c.maxLocals = 3) (kr49 : ∀ (H : Heap) (locs : List Loc) (ls : Array Slot), mG D cI cJ cZ ad A H0 H locs S1 → W p l e { frames := 2, cells := 0, slots := 0, locals := 22 } s m args below meth c H locs 0 0 Q (F0 m 49 ls [.int r1])) {k4 : MS → Int32 → Int32 → Option (Int32 × MS)} (hk4 : ∀ (S : MS) (H : Heap) (locs : List Loc) (ls : Array Slot) (l1 : Int32) (l2 : Int32), k4 S l1 l2 = some (r1, S1) → mG D cI cJ cZ ad A H0 H locs S → lv_has ls 3 [(0, .ref (ad 0)), (1, .int l1), (2, .int l2)] → W p l e { frames := 2, cells := 0, slots := 0, locals := 22 } s m args below meth c H locs 0 0 Q (F0 m 4 ls [])) : ∀ (S : MS) (H : Heap) (locs : List Loc) (ls : Array Slot) (s0 : Int32) (s1 : Int32) (l2 : Int32), fr_weightOf_b40 k4 S s0 s1 l2 = some (r1, S1) → mG D cI cJ cZ ad A H0 H locs S → lv_has ls 3 [(0, .ref (ad 0)), (2, .int l2)] → W p l e { frames := 2, cells := 0, slots := 0, locals := 22 } s m args below meth c H locs 0 0 Q (F0 m 40 ls [.int s0, .int s1]) := by
  have hx := E.1
  have hb := E.2.1
  have hts := E.2.2.1
  have hown := E.2.2.2.1
  have hK := E.2.2.2.2.1
  intro S H locs ls s0 s1 l2 h G hl
  unfold fr_weightOf_b40 at h
  refine lv_iadd hx hb dX12_weightOf_40 ?_
  refine lv_topi (fun v2 ev2 => ?_)
  have h := elet_at ev2 h
  clear ev2
  refine lv_istore_n (lv' := [(1, .int v2), (0, .ref (ad 0)), (2, .int l2)]) hx hb dX12_weightOf_41 rfl hl (by decide) rfl (fun ls hl => ?_)
  obtain ⟨v3, ev3, h⟩ := elet_some h
  refine lv_iinc (v := v3) (lv' := [(2, .int v3), (1, .int v2), (0, .ref (ad 0))]) hx hb dX12_weightOf_42 hl (k := 2) rfl ev3.symm (by decide) rfl (fun ls hl => ?_)
  refine lv_goto (tgt := 4) hx hb dX12_weightOf_45 (by decide) ?_
  have hl := lv_sub hl [2, 1, 0] rfl
  exact hk4 _ _ _ _ _ _ h G hl
def fr_weightOf_b4  : Nat → MS → Int32 → Int32 → Option (Int32 × MS)
  | 0, _, _, _ => none
  | n + 1, S, l1, l2 => elet (S.2.1 10 4) fun v2 => if v2 ≤ l2 then (some (l1, S)) else (obind2 (fr_hears_12 S l2) fun r7 S4 => if r7 = 0 then (fr_weightOf_b40 (fr_weightOf_b4 n) S4 0 l1 l2) else (elet (13 + l2) fun v9 => oif (inb v9 2455 = true) <| elet (S4.2.1 12 v9.toNatClampNeg) fun v11 => fr_weightOf_b40 (fr_weightOf_b4 n) S4 v11 l1 l2))
set_option maxHeartbeats 4000000 in
set_option maxRecDepth 100000 in
theorem tr_weightOf_b4 {p : Program} {l : Launch} {e : Env} {s : State} {m : MethodId} {args : Array Value} {below : List Frame} {meth : Method} {c : Code} {Q : State → Prop} {D : va_G} {A : Nat → Prop} {H0 : Heap} {cI cJ cZ : ClassId} {ad : Nat → Nat} {r1 : Int32} {S1 : MS} (E : mE p c cX12_weightOf s m args (Cond.code yX12_weightOf cX12_weightOf 3 (some .int) :: wsM) D cI cJ cZ) (hA : ∀ q : Nat, H0.size ≤ q → A q) (hR : sR s) (hml : c.maxLocals = 3) (kr49 : ∀ (H : Heap) (locs : List Loc) (ls : Array Slot), mG D cI cJ cZ ad A H0 H locs S1 → W p l e { frames := 2, cells := 0, slots := 0, locals := 22 } s m args below meth c H locs 0 0 Q (F0 m 49 ls [.int r1])) : ∀ n : Nat, ∀ (S : MS) (H : Heap) (locs : List Loc) (ls : Array Slot) (l1 : Int32) (l2 : Int32), fr_weightOf_b4 n S l1 l2 = some (r1, S1) → mG D cI cJ cZ ad A H0 H locs S → lv_has ls 3 [(0, .ref (ad 0)), (1, .int l1), (2, .int l2)] → W p l e { frames := 2, cells := 0, slots := 0, locals := 22 } s m args below meth c H locs 0 0 Q (F0 m 4 ls []) := by
  have hx := E.1
  have hb := E.2.1
  have hts := E.2.2.1
  have hown := E.2.2.2.1
  have hK := E.2.2.2.2.1
  intro n
  induction n with
  | zero =>
    intro S H locs ls l1 l2 h
    have h : (none : Option (Int32 × MS)) = some (r1, S1) := h
    cases h
  | succ n ih =>
    intro S H locs ls l1 l2 h G hl
    unfold fr_weightOf_b4 at h
    refine lv_iload_n hx hb dX12_weightOf_4 rfl (lv_at hl 2 rfl) ?_
    refine lv_aload_n hx hb dX12_weightOf_5 rfl (lv_at hl 0 rfl) ?_
    refine m_get E G 10 (v := .ref (ad 10)) (by decide) (.tail _ qM_7) rfl dX12_weightOf_6 rfl ?_
    refine lv_iconst (v := 4) hx hb dX12_weightOf_9 (by decide) ?_
    refine m_iald E G 10 2 (n := 131) (k := 4) rfl rfl (by decide) (by decide) dX12_weightOf_10 ?_
    refine lv_topi (fun v2 ev2 => ?_)
    have h := elet_at ev2 h
    clear ev2
    refine lv_icmp_ge (tgt := 48) hx hb dX12_weightOf_11 (by decide) (fun c3 => ?_) (fun c3 => ?_)
    · have h := oif_pos c3 h
      refine lv_iload_n hx hb dX12_weightOf_48 rfl (lv_at hl 1 rfl) ?_
      rw [(osome2 h).2] at G
      refine lv_to (osome2 h).1 ?_
      exact kr49 _ _ _ G
    · have h := oif_neg c3 h
      refine lv_iload_n hx hb dX12_weightOf_14 rfl (lv_at hl 1 rfl) ?_
      refine lv_aload_n hx hb dX12_weightOf_15 rfl (lv_at hl 0 rfl) ?_
      refine lv_aload_n hx hb dX12_weightOf_16 rfl (lv_at hl 0 rfl) ?_
      refine m_get E G 12 (v := .ref (ad 12)) (by decide) (.tail _ qM_9) rfl dX12_weightOf_17 rfl ?_
      refine lv_iload_n hx hb dX12_weightOf_20 rfl (lv_at hl 2 rfl) ?_
      obtain ⟨r7, S4, eS4, h⟩ := obind2_some h
      refine m_calli (As := [.ref (ad 12), .int l2]) (rest := [.int l1]) E G hA hR hml (tr_hears_12 l D cI cJ cZ ad S l2 eS4) (cwV 2 hts (gmV qM_274 qM_275 qM_276 qM_35 qM_272) rfl rfl rfl (by decide +kernel) ⟨Nat.le_of_ble_eq_true rfl, Nat.le_of_ble_eq_true rfl⟩) rfl hl.1 rfl (lv_room (Nat.le_of_ble_eq_true rfl)) dX12_weightOf_21 ⟨Nat.zero_le _, Nat.zero_le _⟩ (fun q5 S6 H locs hq G => ?_)
      obtain ⟨hq1, hq2⟩ := hq
      rw [hq2] at G
      refine lv_to hq1 ?_
      clear hq1 hq2 eS4
      refine lv_if_eq (tgt := 39) hx hb dX12_weightOf_24 (by decide) (fun c8 => ?_) (fun c8 => ?_)
      · have h := oif_pos c8 h
        refine lv_iconst (v := 0) hx hb dX12_weightOf_39 (by decide) ?_
        have hl := lv_sub hl [0, 2] rfl
        exact tr_weightOf_b40 E hA hR hml kr49 ih _ _ _ _ _ _ _ h G hl
      · have h := oif_neg c8 h
        refine lv_aload_n hx hb dX12_weightOf_27 rfl (lv_at hl 0 rfl) ?_
        refine m_get E G 12 (v := .ref (ad 12)) (by decide) (.tail _ qM_9) rfl dX12_weightOf_28 rfl ?_
        refine lv_bipush (v := 13) hx hb dX12_weightOf_31 (by decide) ?_
        refine lv_iload_n hx hb dX12_weightOf_33 rfl (lv_at hl 2 rfl) ?_
        refine lv_iadd hx hb dX12_weightOf_34 ?_
        refine lv_topi (fun v9 ev9 => ?_)
        have h := elet_at ev9 h
        clear ev9
        obtain ⟨g10, h⟩ := oif_some h
        refine m_iald E G 12 4 (n := 2455) (k := v9.toNatClampNeg) rfl (inb_k g10).1 (inb_k g10).2 (by decide) dX12_weightOf_35 ?_
        refine lv_topi (fun v11 ev11 => ?_)
        have h := elet_at ev11 h
        clear ev11
        refine lv_goto (tgt := 40) hx hb dX12_weightOf_36 (by decide) ?_
        have hl := lv_sub hl [0, 2] rfl
        exact tr_weightOf_b40 E hA hR hml kr49 ih _ _ _ _ _ _ _ h G hl
def fr_weightOf (S : MS)  : Option (Int32 × MS) := fr_weightOf_b4 16384 S 0 0
set_option maxHeartbeats 4000000 in
set_option maxRecDepth 100000 in
theorem tr_weightOf (l : Launch) (D : va_G) (cI cJ cZ : ClassId) (ad : Nat → Nat) (S : MS)  {r1 : Int32} {S1 : MS} (h : fr_weightOf S = some (r1, S1)) : mCi l yX12_weightOf (Cond.code yX12_weightOf cX12_weightOf 3 (some .int) :: wsM) 2 22 D cI cJ cZ ad S [] (fun r S9 => r = r1 ∧ S9 = S1) := by
  intro sz
  refine pro_in (cc := cX12_weightOf) (maxL := 3) (ret := (some .int)) (by exact pn_RX12) rfl (by exact Nat.le_of_ble_eq_true rfl) (fun p e s m below meth c ls hx hb hr hts hown hlocks hml hv hl => ?_)
  obtain ⟨hsz, hP, hK, hD0, hR⟩ := hv
  subst hsz
  have hD := hD0.self (sz := s.heap.size)
  generalize hAe : va_A (MW cI cJ cZ ad S) s.heap.size = A at hD ⊢
  have hA : ∀ q : Nat, s.heap.size ≤ q → A q := fun q h => by rw [← hAe]; exact Or.inr h
  have G : mG D cI cJ cZ ad A s.heap s.heap [] S := ⟨hP, hD, va_S.rf⟩
  have E : mE p c cX12_weightOf s m ([.ref (ad 0)] : List Value).toArray (Cond.code yX12_weightOf cX12_weightOf 3 (some .int) :: wsM) D cI cJ cZ := ⟨hx, hb, hts, hown, hK, fun w h => .tail _ (iM_x h)⟩
  have hl : lv_has ls 3 [(0, .ref (ad 0))] := hl
  unfold fr_weightOf at h
  refine lv_iconst (v := 0) hx hb dX12_weightOf_0 (by decide) ?_
  refine lv_istore_n (lv' := [(1, .int 0), (0, .ref (ad 0))]) hx hb dX12_weightOf_1 rfl hl (by decide) rfl (fun ls hl => ?_)
  refine lv_iconst (v := 0) hx hb dX12_weightOf_2 (by decide) ?_
  refine lv_istore_n (lv' := [(2, .int 0), (1, .int 0), (0, .ref (ad 0))]) hx hb dX12_weightOf_3 rfl hl (by decide) rfl (fun ls hl => ?_)
  have hl := lv_sub hl [2, 1, 0] rfl
  exact tr_weightOf_b4 E hA hR hml (fun H locs ls G => W.iret (v := r1) hx hb hr (fun t ht hW => ⟨⟨r1, S1, rfl, ⟨rfl, rfl⟩, ⟨by rw [ht]; exact G.1, va_K.moved hW.alike hK, G.2.1⟩⟩, G.2.2.F ht⟩) G.2.2.2.2 dX12_weightOf_49) _ _ _ _ _ _ _ h G hl
def fr_clean_b196 (k108 : MS → Int32 → Int32 → Int32 → Int32 → Option (Int32 × MS)) (S : MS) (l1 : Int32) (l2 : Int32) (l3 : Int32) (l4 : Int32) : Option (Int32 × MS) := elet (l4 + Int32.ofInt (1)) fun v2 => k108 S l1 l2 l3 v2
set_option maxHeartbeats 4000000 in
set_option maxRecDepth 100000 in
theorem tr_clean_b196 {p : Program} {l : Launch} {e : Env} {s : State} {m : MethodId} {args : Array Value} {below : List Frame} {meth : Method} {c : Code} {Q : State → Prop} {D : va_G} {A : Nat → Prop} {H0 : Heap} {cI cJ cZ : ClassId} {ad : Nat → Nat} {r1 : Int32} {S1 : MS} (E : mE p c cX12_clean s m args (Cond.code yX12_clean cX12_clean 6 (some .int) :: wsM) D cI cJ cZ) (hA : ∀ q : Nat, H0.size ≤ q → A q) (hR : sR s) (hml : c.maxLocals = 6) (kr45 : ∀ (H : Heap) (locs : List Loc) (ls : Array Slot), mG D cI cJ cZ ad A H0 H locs S1 → W p l e { frames := 8, cells := 0, slots := 0, locals := 163 } s m args below meth c H locs 0 0 Q (F0 m 45 ls [.int r1])) (kr213 : ∀ (H : Heap) (locs : List Loc) (ls : Array Slot), mG D cI cJ cZ ad A H0 H locs S1 → W p l e { frames := 8, cells := 0, slots := 0, locals := 163 } s m args below meth c H locs 0 0 Q (F0 m 213 ls [.int r1])) {k108 : MS → Int32 → Int32 → Int32 → Int32 → Option (Int32 × MS)} (hk108 : ∀ (S : MS) (H : Heap) (locs : List Loc) (ls : Array Slot) (l1 : Int32) (l2 : Int32) (l3 : Int32) (l4 : Int32), k108 S l1 l2 l3 l4 = some (r1, S1) → mG D cI cJ cZ ad A H0 H locs S → lv_has ls 6 [(0, .ref (ad 0)), (1, .int l1), (2, .int l2), (3, .int l3), (4, .int l4)] → W p l e { frames := 8, cells := 0, slots := 0, locals := 163 } s m args below meth c H locs 0 0 Q (F0 m 108 ls [])) : ∀ (S : MS) (H : Heap) (locs : List Loc) (ls : Array Slot) (l1 : Int32) (l2 : Int32) (l3 : Int32) (l4 : Int32), fr_clean_b196 k108 S l1 l2 l3 l4 = some (r1, S1) → mG D cI cJ cZ ad A H0 H locs S → lv_has ls 6 [(0, .ref (ad 0)), (1, .int l1), (2, .int l2), (3, .int l3), (4, .int l4)] → W p l e { frames := 8, cells := 0, slots := 0, locals := 163 } s m args below meth c H locs 0 0 Q (F0 m 196 ls []) := by
  have hx := E.1
  have hb := E.2.1
  have hts := E.2.2.1
  have hown := E.2.2.2.1
  have hK := E.2.2.2.2.1
  intro S H locs ls l1 l2 l3 l4 h G hl
  unfold fr_clean_b196 at h
  obtain ⟨v2, ev2, h⟩ := elet_some h
  refine lv_iinc (v := v2) (lv' := [(4, .int v2), (0, .ref (ad 0)), (1, .int l1), (2, .int l2), (3, .int l3)]) hx hb dX12_clean_196 hl (k := 4) rfl ev2.symm (by decide) rfl (fun ls hl => ?_)
  refine lv_goto (tgt := 108) hx hb dX12_clean_199 (by decide) ?_
  have hl := lv_sub hl [1, 2, 3, 4, 0] rfl
  exact hk108 _ _ _ _ _ _ _ _ h G hl
def fr_clean_b122 (k108 : MS → Int32 → Int32 → Int32 → Int32 → Option (Int32 × MS)) : Nat → MS → Int32 → Int32 → Int32 → Int32 → Int32 → Option (Int32 × MS)
  | 0, _, _, _, _, _, _ => none
  | n + 1, S, l1, l2, l3, l4, l5 => if l3 ≤ l5 then (fr_clean_b196 k108 S l1 l2 l3 l4) else (obind2 (fr_hears_12 S l4) fun r6 S3 => if r6 = 0 then (fr_clean_b196 k108 S3 l1 l2 l3 l4) else (elet (200 * l4) fun v8 => elet (55 + v8) fun v9 => elet (v9 + l5) fun v10 => oif (inb l4 12 = true) <| elet (S3.2.1 24 l4.toNatClampNeg) fun v12 => elet (v10 + v12) fun v13 => oif (inb v13 2455 = true) <| elet (S3.2.1 12 v13.toNatClampNeg) fun v15 => oif (inb l5 200 = true) <| elet (S3.2.1 29 l5.toNatClampNeg) fun v17 => elet (v17.toInt64) fun v18 => elet (l1.toInt64) fun v19 => elet (v18 * v19) fun v20 => obind2 (fr_weightOf S3) fun r24 S21 => elet (100 * r24) fun v25 => elet (v25.toInt64) fun v26 => oif (¬ v26 = 0) <| elet (v20 / v26) fun v28 => elet (v28.toInt32) fun v29 => elet (v15 - v29) fun v30 => oif (inb v13 2455 = true) <| elet (mf S21 12 (upd (S21.2.1 12) v13.toNatClampNeg v30)) fun S32 => elet (l5 + Int32.ofInt (1)) fun v33 => fr_clean_b122 k108 n S32 l1 l2 l3 l4 v33))
set_option maxHeartbeats 4000000 in
set_option maxRecDepth 100000 in
theorem tr_clean_b122 {p : Program} {l : Launch} {e : Env} {s : State} {m : MethodId} {args : Array Value} {below : List Frame} {meth : Method} {c : Code} {Q : State → Prop} {D : va_G} {A : Nat → Prop} {H0 : Heap} {cI cJ cZ : ClassId} {ad : Nat → Nat} {r1 : Int32} {S1 : MS} (E : mE p c cX12_clean s m args (Cond.code yX12_clean cX12_clean 6 (some .int) :: wsM) D cI cJ cZ) (hA : ∀ q : Nat, H0.size ≤ q → A q) (hR : sR s) (hml : c.maxLocals = 6) (kr45 : ∀ (H : Heap) (locs : List Loc) (ls : Array Slot), mG D cI cJ cZ ad A H0 H locs S1 → W p l e { frames := 8, cells := 0, slots := 0, locals := 163 } s m args below meth c H locs 0 0 Q (F0 m 45 ls [.int r1])) (kr213 : ∀ (H : Heap) (locs : List Loc) (ls : Array Slot), mG D cI cJ cZ ad A H0 H locs S1 → W p l e { frames := 8, cells := 0, slots := 0, locals := 163 } s m args below meth c H locs 0 0 Q (F0 m 213 ls [.int r1])) {k108 : MS → Int32 → Int32 → Int32 → Int32 → Option (Int32 × MS)} (hk108 : ∀ (S : MS) (H : Heap) (locs : List Loc) (ls : Array Slot) (l1 : Int32) (l2 : Int32) (l3 : Int32) (l4 : Int32), k108 S l1 l2 l3 l4 = some (r1, S1) → mG D cI cJ cZ ad A H0 H locs S → lv_has ls 6 [(0, .ref (ad 0)), (1, .int l1), (2, .int l2), (3, .int l3), (4, .int l4)] → W p l e { frames := 8, cells := 0, slots := 0, locals := 163 } s m args below meth c H locs 0 0 Q (F0 m 108 ls [])) : ∀ n : Nat, ∀ (S : MS) (H : Heap) (locs : List Loc) (ls : Array Slot) (l1 : Int32) (l2 : Int32) (l3 : Int32) (l4 : Int32) (l5 : Int32), fr_clean_b122 k108 n S l1 l2 l3 l4 l5 = some (r1, S1) → mG D cI cJ cZ ad A H0 H locs S → lv_has ls 6 [(0, .ref (ad 0)), (1, .int l1), (2, .int l2), (3, .int l3), (4, .int l4), (5, .int l5)] → W p l e { frames := 8, cells := 0, slots := 0, locals := 163 } s m args below meth c H locs 0 0 Q (F0 m 122 ls []) := by
  have hx := E.1
  have hb := E.2.1
  have hts := E.2.2.1
  have hown := E.2.2.2.1
  have hK := E.2.2.2.2.1
  intro n
  induction n with
  | zero =>
    intro S H locs ls l1 l2 l3 l4 l5 h
    have h : (none : Option (Int32 × MS)) = some (r1, S1) := h
    cases h
  | succ n ih =>
    intro S H locs ls l1 l2 l3 l4 l5 h G hl
    unfold fr_clean_b122 at h
    refine lv_iload hx hb dX12_clean_122 (lv_at hl 5 rfl) ?_
    refine lv_iload_n hx hb dX12_clean_124 rfl (lv_at hl 3 rfl) ?_
    refine lv_icmp_ge (tgt := 196) hx hb dX12_clean_125 (by decide) (fun c2 => ?_) (fun c2 => ?_)
    · have h := oif_pos c2 h
      have hl := lv_sub hl [0, 1, 2, 3, 4] rfl
      exact tr_clean_b196 E hA hR hml kr45 kr213 hk108 _ _ _ _ _ _ _ _ h G hl
    · have h := oif_neg c2 h
      refine lv_aload_n hx hb dX12_clean_128 rfl (lv_at hl 0 rfl) ?_
      refine lv_aload_n hx hb dX12_clean_129 rfl (lv_at hl 0 rfl) ?_
      refine m_get E G 12 (v := .ref (ad 12)) (by decide) (.tail _ qM_9) rfl dX12_clean_130 rfl ?_
      refine lv_iload hx hb dX12_clean_133 (lv_at hl 4 rfl) ?_
      obtain ⟨r6, S3, eS3, h⟩ := obind2_some h
      refine m_calli (As := [.ref (ad 12), .int l4]) (rest := []) E G hA hR hml (tr_hears_12 l D cI cJ cZ ad S l4 eS3) (cwV 2 hts (gmV qM_274 qM_275 qM_276 qM_35 qM_272) rfl rfl rfl (by decide +kernel) ⟨Nat.le_of_ble_eq_true rfl, Nat.le_of_ble_eq_true rfl⟩) rfl hl.1 rfl (lv_room (Nat.le_of_ble_eq_true rfl)) dX12_clean_135 ⟨Nat.zero_le _, Nat.zero_le _⟩ (fun q4 S5 H locs hq G => ?_)
      obtain ⟨hq1, hq2⟩ := hq
      rw [hq2] at G
      refine lv_to hq1 ?_
      clear hq1 hq2 eS3
      refine lv_if_eq (tgt := 196) hx hb dX12_clean_138 (by decide) (fun c7 => ?_) (fun c7 => ?_)
      · have h := oif_pos c7 h
        have hl := lv_sub hl [0, 1, 2, 3, 4] rfl
        exact tr_clean_b196 E hA hR hml kr45 kr213 hk108 _ _ _ _ _ _ _ _ h G hl
      · have h := oif_neg c7 h
        refine lv_aload_n hx hb dX12_clean_141 rfl (lv_at hl 0 rfl) ?_
        refine m_get E G 12 (v := .ref (ad 12)) (by decide) (.tail _ qM_9) rfl dX12_clean_142 rfl ?_
        refine lv_bipush (v := 55) hx hb dX12_clean_145 (by decide) ?_
        refine lv_sipush (v := 200) hx hb dX12_clean_147 (by decide) ?_
        refine lv_iload hx hb dX12_clean_150 (lv_at hl 4 rfl) ?_
        refine lv_imul hx hb dX12_clean_152 ?_
        refine lv_topi (fun v8 ev8 => ?_)
        have h := elet_at ev8 h
        clear ev8
        refine lv_iadd hx hb dX12_clean_153 ?_
        refine lv_topi (fun v9 ev9 => ?_)
        have h := elet_at ev9 h
        clear ev9
        refine lv_iload hx hb dX12_clean_154 (lv_at hl 5 rfl) ?_
        refine lv_iadd hx hb dX12_clean_156 ?_
        refine lv_topi (fun v10 ev10 => ?_)
        have h := elet_at ev10 h
        clear ev10
        refine lv_aload_n hx hb dX12_clean_157 rfl (lv_at hl 0 rfl) ?_
        refine m_get E G 24 (v := .ref (ad 24)) (by decide) (.tail _ qM_19) rfl dX12_clean_158 rfl ?_
        refine lv_iload hx hb dX12_clean_161 (lv_at hl 4 rfl) ?_
        obtain ⟨g11, h⟩ := oif_some h
        refine m_iald E G 24 12 (n := 12) (k := l4.toNatClampNeg) rfl (inb_k g11).1 (inb_k g11).2 (by decide) dX12_clean_163 ?_
        refine lv_topi (fun v12 ev12 => ?_)
        have h := elet_at ev12 h
        clear ev12
        refine lv_iadd hx hb dX12_clean_164 ?_
        refine lv_topi (fun v13 ev13 => ?_)
        have h := elet_at ev13 h
        clear ev13
        refine lv_dup2_11 hx hb dX12_clean_165 rfl rfl ?_
        obtain ⟨g14, h⟩ := oif_some h
        refine m_iald E G 12 4 (n := 2455) (k := v13.toNatClampNeg) rfl (inb_k g14).1 (inb_k g14).2 (by decide) dX12_clean_166 ?_
        refine lv_topi (fun v15 ev15 => ?_)
        have h := elet_at ev15 h
        clear ev15
        refine lv_aload_n hx hb dX12_clean_167 rfl (lv_at hl 0 rfl) ?_
        refine m_get E G 29 (v := .ref (ad 29)) (by decide) (.tail _ qM_24) rfl dX12_clean_168 rfl ?_
        refine lv_iload hx hb dX12_clean_171 (lv_at hl 5 rfl) ?_
        obtain ⟨g16, h⟩ := oif_some h
        refine m_iald E G 29 16 (n := 200) (k := l5.toNatClampNeg) rfl (inb_k g16).1 (inb_k g16).2 (by decide) dX12_clean_173 ?_
        refine lv_topi (fun v17 ev17 => ?_)
        have h := elet_at ev17 h
        clear ev17
        refine lv_i2l (v := v17.toInt64) hx hb dX12_clean_174 rfl ?_
        refine lv_topl (fun v18 ev18 => ?_)
        have h := elet_at ev18 h
        clear ev18
        refine lv_iload_n hx hb dX12_clean_175 rfl (lv_at hl 1 rfl) ?_
        refine lv_i2l (v := l1.toInt64) hx hb dX12_clean_176 rfl ?_
        refine lv_topl (fun v19 ev19 => ?_)
        have h := elet_at ev19 h
        clear ev19
        refine lv_lmul hx hb dX12_clean_177 ?_
        refine lv_topl (fun v20 ev20 => ?_)
        have h := elet_at ev20 h
        clear ev20
        refine lv_bipush (v := 100) hx hb dX12_clean_178 (by decide) ?_
        refine lv_aload_n hx hb dX12_clean_180 rfl (lv_at hl 0 rfl) ?_
        obtain ⟨r24, S21, eS21, h⟩ := obind2_some h
        refine m_calli (As := []) (rest := [.int 100, .long v20, .int v15, .int v13, .ref (ad 12)]) E G hA hR hml (tr_weightOf l D cI cJ cZ ad S3 eS21) (cwV 0 hts (gmV qM_497 qM_498 qM_499 qM_35 qM_495) rfl rfl rfl (by decide +kernel) ⟨Nat.le_of_ble_eq_true rfl, Nat.le_of_ble_eq_true rfl⟩) rfl hl.1 rfl (lv_room (Nat.le_of_ble_eq_true rfl)) dX12_clean_181 ⟨Nat.zero_le _, Nat.zero_le _⟩ (fun q22 S23 H locs hq G => ?_)
        obtain ⟨hq1, hq2⟩ := hq
        rw [hq2] at G
        refine lv_to hq1 ?_
        clear hq1 hq2 eS21
        refine lv_imul hx hb dX12_clean_184 ?_
        refine lv_topi (fun v25 ev25 => ?_)
        have h := elet_at ev25 h
        clear ev25
        refine lv_i2l (v := v25.toInt64) hx hb dX12_clean_185 rfl ?_
        refine lv_topl (fun v26 ev26 => ?_)
        have h := elet_at ev26 h
        clear ev26
        obtain ⟨g27, h⟩ := oif_some h
        refine lv_ldiv hx hb dX12_clean_186 g27 ?_
        refine lv_topl (fun v28 ev28 => ?_)
        have h := elet_at ev28 h
        clear ev28
        refine lv_l2i (v := v28.toInt32) hx hb dX12_clean_187 rfl ?_
        refine lv_topi (fun v29 ev29 => ?_)
        have h := elet_at ev29 h
        clear ev29
        refine lv_isub hx hb dX12_clean_188 ?_
        refine lv_topi (fun v30 ev30 => ?_)
        have h := elet_at ev30 h
        clear ev30
        obtain ⟨g31, h⟩ := oif_some h
        refine m_iast E G 12 4 (k := v13.toNatClampNeg) (v := v30) rfl (fun _ => rfl) (inb_k g31).1 (inb_k g31).2 (by decide) dX12_clean_189 (fun H locs G => ?_)
        obtain ⟨S32, eS32, h⟩ := elet_some h
        rw [← eS32] at G
        clear eS32
        obtain ⟨v33, ev33, h⟩ := elet_some h
        refine lv_iinc (v := v33) (lv' := [(5, .int v33), (0, .ref (ad 0)), (1, .int l1), (2, .int l2), (3, .int l3), (4, .int l4)]) hx hb dX12_clean_190 hl (k := 5) rfl ev33.symm (by decide) rfl (fun ls hl => ?_)
        refine lv_goto (tgt := 122) hx hb dX12_clean_193 (by decide) ?_
        have hl := lv_sub hl [1, 2, 3, 4, 5, 0] rfl
        exact ih _ _ _ _ _ _ _ _ _ h G hl
def fr_clean_b108  : Nat → MS → Int32 → Int32 → Int32 → Int32 → Option (Int32 × MS)
  | 0, _, _, _, _, _ => none
  | n + 1, S, l1, l2, l3, l4 => elet (S.2.1 10 4) fun v2 => if v2 ≤ l4 then (elet (S.2.1 12 0) fun v4 => elet (v4 + 1) fun v5 => elet (mf S 12 (upd (S.2.1 12) 0 v5)) fun S6 => some (l2, S6)) else (fr_clean_b122 (fr_clean_b108 n) 16384 S l1 l2 l3 l4 0)
set_option maxHeartbeats 4000000 in
set_option maxRecDepth 100000 in
theorem tr_clean_b108 {p : Program} {l : Launch} {e : Env} {s : State} {m : MethodId} {args : Array Value} {below : List Frame} {meth : Method} {c : Code} {Q : State → Prop} {D : va_G} {A : Nat → Prop} {H0 : Heap} {cI cJ cZ : ClassId} {ad : Nat → Nat} {r1 : Int32} {S1 : MS} (E : mE p c cX12_clean s m args (Cond.code yX12_clean cX12_clean 6 (some .int) :: wsM) D cI cJ cZ) (hA : ∀ q : Nat, H0.size ≤ q → A q) (hR : sR s) (hml : c.maxLocals = 6) (kr45 : ∀ (H : Heap) (locs : List Loc) (ls : Array Slot), mG D cI cJ cZ ad A H0 H locs S1 → W p l e { frames := 8, cells := 0, slots := 0, locals := 163 } s m args below meth c H locs 0 0 Q (F0 m 45 ls [.int r1])) (kr213 : ∀ (H : Heap) (locs : List Loc) (ls : Array Slot), mG D cI cJ cZ ad A H0 H locs S1 → W p l e { frames := 8, cells := 0, slots := 0, locals := 163 } s m args below meth c H locs 0 0 Q (F0 m 213 ls [.int r1])) : ∀ n : Nat, ∀ (S : MS) (H : Heap) (locs : List Loc) (ls : Array Slot) (l1 : Int32) (l2 : Int32) (l3 : Int32) (l4 : Int32), fr_clean_b108 n S l1 l2 l3 l4 = some (r1, S1) → mG D cI cJ cZ ad A H0 H locs S → lv_has ls 6 [(0, .ref (ad 0)), (1, .int l1), (2, .int l2), (3, .int l3), (4, .int l4)] → W p l e { frames := 8, cells := 0, slots := 0, locals := 163 } s m args below meth c H locs 0 0 Q (F0 m 108 ls []) := by
  have hx := E.1
  have hb := E.2.1
  have hts := E.2.2.1
  have hown := E.2.2.2.1
  have hK := E.2.2.2.2.1
  intro n
  induction n with
  | zero =>
    intro S H locs ls l1 l2 l3 l4 h
    have h : (none : Option (Int32 × MS)) = some (r1, S1) := h
    cases h
  | succ n ih =>
    intro S H locs ls l1 l2 l3 l4 h G hl
    unfold fr_clean_b108 at h
    refine lv_iload hx hb dX12_clean_108 (lv_at hl 4 rfl) ?_
    refine lv_aload_n hx hb dX12_clean_110 rfl (lv_at hl 0 rfl) ?_
    refine m_get E G 10 (v := .ref (ad 10)) (by decide) (.tail _ qM_7) rfl dX12_clean_111 rfl ?_
    refine lv_iconst (v := 4) hx hb dX12_clean_114 (by decide) ?_
    refine m_iald E G 10 2 (n := 131) (k := 4) rfl rfl (by decide) (by decide) dX12_clean_115 ?_
    refine lv_topi (fun v2 ev2 => ?_)
    have h := elet_at ev2 h
    clear ev2
    refine lv_icmp_ge (tgt := 202) hx hb dX12_clean_116 (by decide) (fun c3 => ?_) (fun c3 => ?_)
    · have h := oif_pos c3 h
      refine lv_aload_n hx hb dX12_clean_202 rfl (lv_at hl 0 rfl) ?_
      refine m_get E G 12 (v := .ref (ad 12)) (by decide) (.tail _ qM_9) rfl dX12_clean_203 rfl ?_
      refine lv_iconst (v := 0) hx hb dX12_clean_206 (by decide) ?_
      refine lv_dup2_11 hx hb dX12_clean_207 rfl rfl ?_
      refine m_iald E G 12 4 (n := 2455) (k := 0) rfl rfl (by decide) (by decide) dX12_clean_208 ?_
      refine lv_topi (fun v4 ev4 => ?_)
      have h := elet_at ev4 h
      clear ev4
      refine lv_iconst (v := 1) hx hb dX12_clean_209 (by decide) ?_
      refine lv_iadd hx hb dX12_clean_210 ?_
      refine lv_topi (fun v5 ev5 => ?_)
      have h := elet_at ev5 h
      clear ev5
      refine m_iast E G 12 4 (k := 0) (v := v5) rfl (fun _ => rfl) rfl (by decide) (by decide) dX12_clean_211 (fun H locs G => ?_)
      obtain ⟨S6, eS6, h⟩ := elet_some h
      rw [← eS6] at G
      clear eS6
      refine lv_iload_n hx hb dX12_clean_212 rfl (lv_at hl 2 rfl) ?_
      rw [(osome2 h).2] at G
      refine lv_to (osome2 h).1 ?_
      exact kr213 _ _ _ G
    · have h := oif_neg c3 h
      refine lv_iconst (v := 0) hx hb dX12_clean_119 (by decide) ?_
      refine lv_istore (lv' := [(5, .int 0), (0, .ref (ad 0)), (1, .int l1), (2, .int l2), (3, .int l3), (4, .int l4)]) hx hb dX12_clean_120 hl (by decide) rfl (fun ls hl => ?_)
      have hl := lv_sub hl [1, 2, 3, 4, 5, 0] rfl
      exact tr_clean_b122 E hA hR hml kr45 kr213 ih _ _ _ _ _ _ _ _ _ _ h G hl
def fr_clean_b76  : Nat → MS → Int32 → Int32 → Int32 → Int32 → Option (Int32 × MS)
  | 0, _, _, _, _, _ => none
  | n + 1, S, l1, l2, l3, l4 => if l3 ≤ l4 then (fr_clean_b108 16384 S l1 l2 l3 0) else (obind2 (fr_beamAt_12 S l4) fun r6 S3 => oif (inb l4 200 = true) <| elet (mf S3 29 (upd (S3.2.1 29) l4.toNatClampNeg r6)) fun S8 => elet (l4 + Int32.ofInt (1)) fun v9 => fr_clean_b76 n S8 l1 l2 l3 v9)
set_option maxHeartbeats 4000000 in
set_option maxRecDepth 100000 in
theorem tr_clean_b76 {p : Program} {l : Launch} {e : Env} {s : State} {m : MethodId} {args : Array Value} {below : List Frame} {meth : Method} {c : Code} {Q : State → Prop} {D : va_G} {A : Nat → Prop} {H0 : Heap} {cI cJ cZ : ClassId} {ad : Nat → Nat} {r1 : Int32} {S1 : MS} (E : mE p c cX12_clean s m args (Cond.code yX12_clean cX12_clean 6 (some .int) :: wsM) D cI cJ cZ) (hA : ∀ q : Nat, H0.size ≤ q → A q) (hR : sR s) (hml : c.maxLocals = 6) (kr45 : ∀ (H : Heap) (locs : List Loc) (ls : Array Slot), mG D cI cJ cZ ad A H0 H locs S1 → W p l e { frames := 8, cells := 0, slots := 0, locals := 163 } s m args below meth c H locs 0 0 Q (F0 m 45 ls [.int r1])) (kr213 : ∀ (H : Heap) (locs : List Loc) (ls : Array Slot), mG D cI cJ cZ ad A H0 H locs S1 → W p l e { frames := 8, cells := 0, slots := 0, locals := 163 } s m args below meth c H locs 0 0 Q (F0 m 213 ls [.int r1])) : ∀ n : Nat, ∀ (S : MS) (H : Heap) (locs : List Loc) (ls : Array Slot) (l1 : Int32) (l2 : Int32) (l3 : Int32) (l4 : Int32), fr_clean_b76 n S l1 l2 l3 l4 = some (r1, S1) → mG D cI cJ cZ ad A H0 H locs S → lv_has ls 6 [(0, .ref (ad 0)), (1, .int l1), (2, .int l2), (3, .int l3), (4, .int l4)] → W p l e { frames := 8, cells := 0, slots := 0, locals := 163 } s m args below meth c H locs 0 0 Q (F0 m 76 ls []) := by
  have hx := E.1
  have hb := E.2.1
  have hts := E.2.2.1
  have hown := E.2.2.2.1
  have hK := E.2.2.2.2.1
  intro n
  induction n with
  | zero =>
    intro S H locs ls l1 l2 l3 l4 h
    have h : (none : Option (Int32 × MS)) = some (r1, S1) := h
    cases h
  | succ n ih =>
    intro S H locs ls l1 l2 l3 l4 h G hl
    unfold fr_clean_b76 at h
    refine lv_iload hx hb dX12_clean_76 (lv_at hl 4 rfl) ?_
    refine lv_iload_n hx hb dX12_clean_78 rfl (lv_at hl 3 rfl) ?_
    refine lv_icmp_ge (tgt := 105) hx hb dX12_clean_79 (by decide) (fun c2 => ?_) (fun c2 => ?_)
    · have h := oif_pos c2 h
      refine lv_iconst (v := 0) hx hb dX12_clean_105 (by decide) ?_
      refine lv_istore (lv' := [(4, .int 0), (0, .ref (ad 0)), (1, .int l1), (2, .int l2), (3, .int l3)]) hx hb dX12_clean_106 hl (by decide) rfl (fun ls hl => ?_)
      have hl := lv_sub hl [1, 2, 3, 4, 0] rfl
      exact tr_clean_b108 E hA hR hml kr45 kr213 _ _ _ _ _ _ _ _ _ h G hl
    · have h := oif_neg c2 h
      refine lv_aload_n hx hb dX12_clean_82 rfl (lv_at hl 0 rfl) ?_
      refine m_get E G 29 (v := .ref (ad 29)) (by decide) (.tail _ qM_24) rfl dX12_clean_83 rfl ?_
      refine lv_iload hx hb dX12_clean_86 (lv_at hl 4 rfl) ?_
      refine lv_aload_n hx hb dX12_clean_88 rfl (lv_at hl 0 rfl) ?_
      refine lv_aload_n hx hb dX12_clean_89 rfl (lv_at hl 0 rfl) ?_
      refine m_get E G 12 (v := .ref (ad 12)) (by decide) (.tail _ qM_9) rfl dX12_clean_90 rfl ?_
      refine lv_iload hx hb dX12_clean_93 (lv_at hl 4 rfl) ?_
      obtain ⟨r6, S3, eS3, h⟩ := obind2_some h
      refine m_calli (As := [.ref (ad 12), .int l4]) (rest := [.int l4, .ref (ad 29)]) E G hA hR hml (tr_beamAt_12 l D cI cJ cZ ad S l4 eS3) (cwV 2 hts (gmV qM_279 qM_280 qM_281 qM_35 qM_277) rfl rfl rfl (by decide +kernel) ⟨Nat.le_of_ble_eq_true rfl, Nat.le_of_ble_eq_true rfl⟩) rfl hl.1 rfl (lv_room (Nat.le_of_ble_eq_true rfl)) dX12_clean_95 ⟨Nat.zero_le _, Nat.zero_le _⟩ (fun q4 S5 H locs hq G => ?_)
      obtain ⟨hq1, hq2⟩ := hq
      rw [hq2] at G
      refine lv_to hq1 ?_
      clear hq1 hq2 eS3
      obtain ⟨g7, h⟩ := oif_some h
      refine m_iast E G 29 16 (k := l4.toNatClampNeg) (v := r6) rfl (fun _ => rfl) (inb_k g7).1 (inb_k g7).2 (by decide) dX12_clean_98 (fun H locs G => ?_)
      obtain ⟨S8, eS8, h⟩ := elet_some h
      rw [← eS8] at G
      clear eS8
      obtain ⟨v9, ev9, h⟩ := elet_some h
      refine lv_iinc (v := v9) (lv' := [(4, .int v9), (0, .ref (ad 0)), (1, .int l1), (2, .int l2), (3, .int l3)]) hx hb dX12_clean_99 hl (k := 4) rfl ev9.symm (by decide) rfl (fun ls hl => ?_)
      refine lv_goto (tgt := 76) hx hb dX12_clean_102 (by decide) ?_
      have hl := lv_sub hl [1, 2, 3, 4, 0] rfl
      exact ih _ _ _ _ _ _ _ _ h G hl
def fr_clean_b34  (S : MS) (s0 : Int32) (l1 : Int32) : Option (Int32 × MS) := elet (mi S 0 s0) fun S2 => elet (S2.1 0) fun v3 => if v3 ≤ 0 then (obind (fr_remember S2) fun S5 => obind2 (fr_bestIn_12 S5) fun r11 S8 => obind (fr_laysCell S8 r11) fun S12 => obind2 (fr_windowOf_12 S12) fun r18 S15 => fr_clean_b76 16384 S15 l1 r11 r18 0) else (some (0, S2))
set_option maxHeartbeats 4000000 in
set_option maxRecDepth 100000 in
theorem tr_clean_b34 {p : Program} {l : Launch} {e : Env} {s : State} {m : MethodId} {args : Array Value} {below : List Frame} {meth : Method} {c : Code} {Q : State → Prop} {D : va_G} {A : Nat → Prop} {H0 : Heap} {cI cJ cZ : ClassId} {ad : Nat → Nat} {r1 : Int32} {S1 : MS} (E : mE p c cX12_clean s m args (Cond.code yX12_clean cX12_clean 6 (some .int) :: wsM) D cI cJ cZ) (hA : ∀ q : Nat, H0.size ≤ q → A q) (hR : sR s) (hml : c.maxLocals = 6) (kr45 : ∀ (H : Heap) (locs : List Loc) (ls : Array Slot), mG D cI cJ cZ ad A H0 H locs S1 → W p l e { frames := 8, cells := 0, slots := 0, locals := 163 } s m args below meth c H locs 0 0 Q (F0 m 45 ls [.int r1])) (kr213 : ∀ (H : Heap) (locs : List Loc) (ls : Array Slot), mG D cI cJ cZ ad A H0 H locs S1 → W p l e { frames := 8, cells := 0, slots := 0, locals := 163 } s m args below meth c H locs 0 0 Q (F0 m 213 ls [.int r1])) : ∀ (S : MS) (H : Heap) (locs : List Loc) (ls : Array Slot) (s0 : Int32) (l1 : Int32), fr_clean_b34 S s0 l1 = some (r1, S1) → mG D cI cJ cZ ad A H0 H locs S → lv_has ls 6 [(0, .ref (ad 0)), (1, .int l1)] → W p l e { frames := 8, cells := 0, slots := 0, locals := 163 } s m args below meth c H locs 0 0 Q (F0 m 34 ls [.int s0, .ref (ad 0)]) := by
  have hx := E.1
  have hb := E.2.1
  have hts := E.2.2.1
  have hown := E.2.2.2.1
  have hK := E.2.2.2.2.1
  intro S H locs ls s0 l1 h G hl
  unfold fr_clean_b34 at h
  refine m_put E G 0 (by decide) (.tail _ qM_26) (mw_i0 _ _ _ _ _ s0) dX12_clean_34 ⟨rfl, rfl, rfl⟩ rfl rfl (fun H locs G => ?_)
  obtain ⟨S2, eS2, h⟩ := elet_some h
  rw [← eS2] at G
  clear eS2
  refine lv_aload_n hx hb dX12_clean_37 rfl (lv_at hl 0 rfl) ?_
  refine m_get E G 0 (v := .int (S2.1 0)) (by decide) (.tail _ qM_26) rfl dX12_clean_38 rfl ?_
  refine lv_topi (fun v3 ev3 => ?_)
  have h := elet_at ev3 h
  clear ev3
  refine lv_if_le (tgt := 46) hx hb dX12_clean_41 (by decide) (fun c4 => ?_) (fun c4 => ?_)
  · have h := oif_pos c4 h
    refine lv_aload_n hx hb dX12_clean_46 rfl (lv_at hl 0 rfl) ?_
    obtain ⟨S5, eS5, h⟩ := obind_some h
    refine m_callv (As := []) (rest := []) E G hA hR hml (tr_remember l D cI cJ cZ ad S2 eS5) (cwV 0 hts (gmV qM_480 qM_481 qM_482 qM_35 qM_268) rfl rfl rfl (by decide +kernel) ⟨Nat.le_of_ble_eq_true rfl, Nat.le_of_ble_eq_true rfl⟩) rfl hl.1 rfl (lv_room (Nat.le_of_ble_eq_true rfl)) dX12_clean_47 ⟨Nat.zero_le _, Nat.zero_le _⟩ (fun S7 H locs hq G => ?_)
    rw [hq] at G
    clear hq eS5
    refine lv_aload_n hx hb dX12_clean_50 rfl (lv_at hl 0 rfl) ?_
    refine lv_aload_n hx hb dX12_clean_51 rfl (lv_at hl 0 rfl) ?_
    refine m_get E G 12 (v := .ref (ad 12)) (by decide) (.tail _ qM_9) rfl dX12_clean_52 rfl ?_
    obtain ⟨r11, S8, eS8, h⟩ := obind2_some h
    refine m_calli (As := [.ref (ad 12)]) (rest := []) E G hA hR hml (tr_bestIn_12 l D cI cJ cZ ad S5 eS8) (cwV 1 hts (gmV qM_360 qM_361 qM_362 qM_35 qM_300) rfl rfl rfl (by decide +kernel) ⟨Nat.le_of_ble_eq_true rfl, Nat.le_of_ble_eq_true rfl⟩) rfl hl.1 rfl (lv_room (Nat.le_of_ble_eq_true rfl)) dX12_clean_55 ⟨Nat.zero_le _, Nat.zero_le _⟩ (fun q9 S10 H locs hq G => ?_)
    obtain ⟨hq1, hq2⟩ := hq
    rw [hq2] at G
    refine lv_to hq1 ?_
    clear hq1 hq2 eS8
    refine lv_istore_n (lv' := [(2, .int r11), (0, .ref (ad 0)), (1, .int l1)]) hx hb dX12_clean_58 rfl hl (by decide) rfl (fun ls hl => ?_)
    refine lv_aload_n hx hb dX12_clean_59 rfl (lv_at hl 1 rfl) ?_
    refine lv_iload_n hx hb dX12_clean_60 rfl (lv_at hl 0 rfl) ?_
    obtain ⟨S12, eS12, h⟩ := obind_some h
    refine m_callv (As := [.int r11]) (rest := []) E G hA hR hml (tr_laysCell l D cI cJ cZ ad S8 r11 eS12) (cwV 1 hts (gmV qM_290 qM_291 qM_292 qM_35 qM_270) rfl rfl rfl (by decide +kernel) ⟨Nat.le_of_ble_eq_true rfl, Nat.le_of_ble_eq_true rfl⟩) rfl hl.1 rfl (lv_room (Nat.le_of_ble_eq_true rfl)) dX12_clean_61 ⟨Nat.zero_le _, Nat.zero_le _⟩ (fun S14 H locs hq G => ?_)
    rw [hq] at G
    clear hq eS12
    refine lv_aload_n hx hb dX12_clean_64 rfl (lv_at hl 1 rfl) ?_
    refine lv_aload_n hx hb dX12_clean_65 rfl (lv_at hl 1 rfl) ?_
    refine m_get E G 12 (v := .ref (ad 12)) (by decide) (.tail _ qM_9) rfl dX12_clean_66 rfl ?_
    obtain ⟨r18, S15, eS15, h⟩ := obind2_some h
    refine m_calli (As := [.ref (ad 12)]) (rest := []) E G hA hR hml (tr_windowOf_12 l D cI cJ cZ ad S12 eS15) (cwV 1 hts (gmV qM_283 qM_284 qM_285 qM_35 qM_273) rfl rfl rfl (by decide +kernel) ⟨Nat.le_of_ble_eq_true rfl, Nat.le_of_ble_eq_true rfl⟩) rfl hl.1 rfl (lv_room (Nat.le_of_ble_eq_true rfl)) dX12_clean_69 ⟨Nat.zero_le _, Nat.zero_le _⟩ (fun q16 S17 H locs hq G => ?_)
    obtain ⟨hq1, hq2⟩ := hq
    rw [hq2] at G
    refine lv_to hq1 ?_
    clear hq1 hq2 eS15
    refine lv_istore_n (lv' := [(3, .int r18), (2, .int r11), (0, .ref (ad 0)), (1, .int l1)]) hx hb dX12_clean_72 rfl hl (by decide) rfl (fun ls hl => ?_)
    refine lv_iconst (v := 0) hx hb dX12_clean_73 (by decide) ?_
    refine lv_istore (lv' := [(4, .int 0), (3, .int r18), (2, .int r11), (0, .ref (ad 0)), (1, .int l1)]) hx hb dX12_clean_74 hl (by decide) rfl (fun ls hl => ?_)
    have hl := lv_sub hl [3, 4, 2, 1, 0] rfl
    exact tr_clean_b76 E hA hR hml kr45 kr213 _ _ _ _ _ _ _ _ _ h G hl
  · have h := oif_neg c4 h
    refine lv_iconst (v := 0) hx hb dX12_clean_44 (by decide) ?_
    rw [(osome2 h).2] at G
    refine lv_to (osome2 h).1 ?_
    exact kr45 _ _ _ G
def fr_clean_b15  (S : MS) (l1 : Int32) : Option (Int32 × MS) := fr_clean_b34 S 1 l1
set_option maxHeartbeats 4000000 in
set_option maxRecDepth 100000 in
theorem tr_clean_b15 {p : Program} {l : Launch} {e : Env} {s : State} {m : MethodId} {args : Array Value} {below : List Frame} {meth : Method} {c : Code} {Q : State → Prop} {D : va_G} {A : Nat → Prop} {H0 : Heap} {cI cJ cZ : ClassId} {ad : Nat → Nat} {r1 : Int32} {S1 : MS} (E : mE p c cX12_clean s m args (Cond.code yX12_clean cX12_clean 6 (some .int) :: wsM) D cI cJ cZ) (hA : ∀ q : Nat, H0.size ≤ q → A q) (hR : sR s) (hml : c.maxLocals = 6) (kr45 : ∀ (H : Heap) (locs : List Loc) (ls : Array Slot), mG D cI cJ cZ ad A H0 H locs S1 → W p l e { frames := 8, cells := 0, slots := 0, locals := 163 } s m args below meth c H locs 0 0 Q (F0 m 45 ls [.int r1])) (kr213 : ∀ (H : Heap) (locs : List Loc) (ls : Array Slot), mG D cI cJ cZ ad A H0 H locs S1 → W p l e { frames := 8, cells := 0, slots := 0, locals := 163 } s m args below meth c H locs 0 0 Q (F0 m 213 ls [.int r1])) : ∀ (S : MS) (H : Heap) (locs : List Loc) (ls : Array Slot) (l1 : Int32), fr_clean_b15 S l1 = some (r1, S1) → mG D cI cJ cZ ad A H0 H locs S → lv_has ls 6 [(0, .ref (ad 0)), (1, .int l1)] → W p l e { frames := 8, cells := 0, slots := 0, locals := 163 } s m args below meth c H locs 0 0 Q (F0 m 15 ls [.ref (ad 0)]) := by
  have hx := E.1
  have hb := E.2.1
  have hts := E.2.2.1
  have hown := E.2.2.2.1
  have hK := E.2.2.2.2.1
  intro S H locs ls l1 h G hl
  unfold fr_clean_b15 at h
  refine lv_iconst (v := 1) hx hb dX12_clean_15 (by decide) ?_
  refine lv_goto (tgt := 34) hx hb dX12_clean_16 (by decide) ?_
  have hl := lv_sub hl [0, 1] rfl
  exact tr_clean_b34 E hA hR hml kr45 kr213 _ _ _ _ _ _ h G hl
def fr_clean (S : MS) (a0 : Int32) : Option (Int32 × MS) := elet (S.1 20) fun v2 => if v2 = 0 then (fr_clean_b15 S a0) else (obind2 (fr_weightOf S) fun r7 S4 => if r7 = 0 then (fr_clean_b15 S4 a0) else (obind (fr_in a0 1 100) fun r9 => if r9 = 0 then (fr_clean_b34 S4 2 a0) else (fr_clean_b34 S4 0 a0)))
set_option maxHeartbeats 4000000 in
set_option maxRecDepth 100000 in
theorem tr_clean (l : Launch) (D : va_G) (cI cJ cZ : ClassId) (ad : Nat → Nat) (S : MS) (a0 : Int32) {r1 : Int32} {S1 : MS} (h : fr_clean S a0 = some (r1, S1)) : mCi l yX12_clean (Cond.code yX12_clean cX12_clean 6 (some .int) :: wsM) 8 163 D cI cJ cZ ad S [.int a0] (fun r S9 => r = r1 ∧ S9 = S1) := by
  intro sz
  refine pro_in (cc := cX12_clean) (maxL := 6) (ret := (some .int)) (by exact pn_RX12) rfl (by exact Nat.le_of_ble_eq_true rfl) (fun p e s m below meth c ls hx hb hr hts hown hlocks hml hv hl => ?_)
  obtain ⟨hsz, hP, hK, hD0, hR⟩ := hv
  subst hsz
  have hD := hD0.self (sz := s.heap.size)
  generalize hAe : va_A (MW cI cJ cZ ad S) s.heap.size = A at hD ⊢
  have hA : ∀ q : Nat, s.heap.size ≤ q → A q := fun q h => by rw [← hAe]; exact Or.inr h
  have G : mG D cI cJ cZ ad A s.heap s.heap [] S := ⟨hP, hD, va_S.rf⟩
  have E : mE p c cX12_clean s m ([.ref (ad 0), .int a0] : List Value).toArray (Cond.code yX12_clean cX12_clean 6 (some .int) :: wsM) D cI cJ cZ := ⟨hx, hb, hts, hown, hK, fun w h => .tail _ (iM_x h)⟩
  have hl : lv_has ls 6 [(0, .ref (ad 0)), (1, .int a0)] := hl
  unfold fr_clean at h
  refine lv_aload_n hx hb dX12_clean_0 rfl (lv_at hl 0 rfl) ?_
  refine lv_aload_n hx hb dX12_clean_1 rfl (lv_at hl 0 rfl) ?_
  refine m_get E G 20 (v := .int (S.1 20)) (by decide) (.tail _ qM_193) rfl dX12_clean_2 rfl ?_
  refine lv_topi (fun v2 ev2 => ?_)
  have h := elet_at ev2 h
  clear ev2
  refine lv_if_eq (tgt := 15) hx hb dX12_clean_5 (by decide) (fun c3 => ?_) (fun c3 => ?_)
  · have h := oif_pos c3 h
    have hl := lv_sub hl [0, 1] rfl
    exact tr_clean_b15 E hA hR hml (fun H locs ls G => W.iret (v := r1) hx hb hr (fun t ht hW => ⟨⟨r1, S1, rfl, ⟨rfl, rfl⟩, ⟨by rw [ht]; exact G.1, va_K.moved hW.alike hK, G.2.1⟩⟩, G.2.2.F ht⟩) G.2.2.2.2 dX12_clean_45) (fun H locs ls G => W.iret (v := r1) hx hb hr (fun t ht hW => ⟨⟨r1, S1, rfl, ⟨rfl, rfl⟩, ⟨by rw [ht]; exact G.1, va_K.moved hW.alike hK, G.2.1⟩⟩, G.2.2.F ht⟩) G.2.2.2.2 dX12_clean_213) _ _ _ _ _ h G hl
  · have h := oif_neg c3 h
    refine lv_aload_n hx hb dX12_clean_8 rfl (lv_at hl 0 rfl) ?_
    obtain ⟨r7, S4, eS4, h⟩ := obind2_some h
    refine m_calli (As := []) (rest := [.ref (ad 0)]) E G hA hR hml (tr_weightOf l D cI cJ cZ ad S eS4) (cwV 0 hts (gmV qM_497 qM_498 qM_499 qM_35 qM_495) rfl rfl rfl (by decide +kernel) ⟨Nat.le_of_ble_eq_true rfl, Nat.le_of_ble_eq_true rfl⟩) rfl hl.1 rfl (lv_room (Nat.le_of_ble_eq_true rfl)) dX12_clean_9 ⟨Nat.zero_le _, Nat.zero_le _⟩ (fun q5 S6 H locs hq G => ?_)
    obtain ⟨hq1, hq2⟩ := hq
    rw [hq2] at G
    refine lv_to hq1 ?_
    clear hq1 hq2 eS4
    refine lv_if_ne (tgt := 19) hx hb dX12_clean_12 (by decide) (fun c8 => ?_) (fun c8 => ?_)
    · have h := oif_neg c8 h
      refine lv_iload_n hx hb dX12_clean_19 rfl (lv_at hl 1 rfl) ?_
      refine lv_iconst (v := 1) hx hb dX12_clean_20 (by decide) ?_
      refine lv_bipush (v := 100) hx hb dX12_clean_21 (by decide) ?_
      obtain ⟨r9, er9, h⟩ := obind_some h
      refine m_stat (As := [.int a0, .int 1, .int 100]) (rest := [.ref (ad 0)]) ⟨hx, hb, hml, hown, hts⟩ (tr_in l a0 1 100 er9) (cwS 3 hts (gmS qM_52 qM_53 qM_35 qM_27) rfl rfl rfl (by decide +kernel) ⟨Nat.le_of_ble_eq_true rfl, Nat.le_of_ble_eq_true rfl⟩) rfl hl.1 rfl (lv_room (Nat.le_of_ble_eq_true rfl)) dX12_clean_23 ⟨Nat.zero_le _, Nat.zero_le _⟩ (fun q10 hq => ?_)
      refine lv_to hq ?_
      clear hq er9
      refine lv_if_eq (tgt := 33) hx hb dX12_clean_26 (by decide) (fun c11 => ?_) (fun c11 => ?_)
      · have h := oif_pos c11 h
        refine lv_iconst (v := 2) hx hb dX12_clean_33 (by decide) ?_
        have hl := lv_sub hl [0, 1] rfl
        exact tr_clean_b34 E hA hR hml (fun H locs ls G => W.iret (v := r1) hx hb hr (fun t ht hW => ⟨⟨r1, S1, rfl, ⟨rfl, rfl⟩, ⟨by rw [ht]; exact G.1, va_K.moved hW.alike hK, G.2.1⟩⟩, G.2.2.F ht⟩) G.2.2.2.2 dX12_clean_45) (fun H locs ls G => W.iret (v := r1) hx hb hr (fun t ht hW => ⟨⟨r1, S1, rfl, ⟨rfl, rfl⟩, ⟨by rw [ht]; exact G.1, va_K.moved hW.alike hK, G.2.1⟩⟩, G.2.2.F ht⟩) G.2.2.2.2 dX12_clean_213) _ _ _ _ _ _ h G hl
      · have h := oif_neg c11 h
        refine lv_iconst (v := 0) hx hb dX12_clean_29 (by decide) ?_
        refine lv_goto (tgt := 34) hx hb dX12_clean_30 (by decide) ?_
        have hl := lv_sub hl [0, 1] rfl
        exact tr_clean_b34 E hA hR hml (fun H locs ls G => W.iret (v := r1) hx hb hr (fun t ht hW => ⟨⟨r1, S1, rfl, ⟨rfl, rfl⟩, ⟨by rw [ht]; exact G.1, va_K.moved hW.alike hK, G.2.1⟩⟩, G.2.2.F ht⟩) G.2.2.2.2 dX12_clean_45) (fun H locs ls G => W.iret (v := r1) hx hb hr (fun t ht hW => ⟨⟨r1, S1, rfl, ⟨rfl, rfl⟩, ⟨by rw [ht]; exact G.1, va_K.moved hW.alike hK, G.2.1⟩⟩, G.2.2.F ht⟩) G.2.2.2.2 dX12_clean_213) _ _ _ _ _ _ h G hl
    · have h := oif_pos c8 h
      have hl := lv_sub hl [0, 1] rfl
      exact tr_clean_b15 E hA hR hml (fun H locs ls G => W.iret (v := r1) hx hb hr (fun t ht hW => ⟨⟨r1, S1, rfl, ⟨rfl, rfl⟩, ⟨by rw [ht]; exact G.1, va_K.moved hW.alike hK, G.2.1⟩⟩, G.2.2.F ht⟩) G.2.2.2.2 dX12_clean_45) (fun H locs ls G => W.iret (v := r1) hx hb hr (fun t ht hW => ⟨⟨r1, S1, rfl, ⟨rfl, rfl⟩, ⟨by rw [ht]; exact G.1, va_K.moved hW.alike hK, G.2.1⟩⟩, G.2.2.F ht⟩) G.2.2.2.2 dX12_clean_213) _ _ _ _ _ h G hl
def fr_cleaned_b18  (S : MS) (s0 : Int32) : Option (Int32 × MS) := some (s0, S)
set_option maxHeartbeats 4000000 in
set_option maxRecDepth 100000 in
theorem tr_cleaned_b18 {p : Program} {l : Launch} {e : Env} {s : State} {m : MethodId} {args : Array Value} {below : List Frame} {meth : Method} {c : Code} {Q : State → Prop} {D : va_G} {A : Nat → Prop} {H0 : Heap} {cI cJ cZ : ClassId} {ad : Nat → Nat} {r1 : Int32} {S1 : MS} (E : mE p c cX12_cleaned s m args (Cond.code yX12_cleaned cX12_cleaned 1 (some .int) :: wsM) D cI cJ cZ) (hA : ∀ q : Nat, H0.size ≤ q → A q) (hR : sR s) (hml : c.maxLocals = 1) (kr18 : ∀ (H : Heap) (locs : List Loc) (ls : Array Slot), mG D cI cJ cZ ad A H0 H locs S1 → W p l e { frames := 2, cells := 0, slots := 0, locals := 21 } s m args below meth c H locs 0 0 Q (F0 m 18 ls [.int r1])) : ∀ (S : MS) (H : Heap) (locs : List Loc) (ls : Array Slot) (s0 : Int32), fr_cleaned_b18 S s0 = some (r1, S1) → mG D cI cJ cZ ad A H0 H locs S → lv_has ls 1 [] → W p l e { frames := 2, cells := 0, slots := 0, locals := 21 } s m args below meth c H locs 0 0 Q (F0 m 18 ls [.int s0]) := by
  have hx := E.1
  have hb := E.2.1
  have hts := E.2.2.1
  have hown := E.2.2.2.1
  have hK := E.2.2.2.2.1
  intro S H locs ls s0 h G hl
  unfold fr_cleaned_b18 at h
  rw [(osome2 h).2] at G
  refine lv_to (osome2 h).1 ?_
  exact kr18 _ _ _ G
def fr_cleaned (S : MS)  : Option (Int32 × MS) := obind2 (fr_mayAsk S 1) fun r5 S2 => if r5 = 0 then (fr_cleaned_b18 S2 0) else (elet (S2.2.1 12 0) fun v7 => fr_cleaned_b18 S2 v7)
set_option maxHeartbeats 4000000 in
set_option maxRecDepth 100000 in
theorem tr_cleaned (l : Launch) (D : va_G) (cI cJ cZ : ClassId) (ad : Nat → Nat) (S : MS)  {r1 : Int32} {S1 : MS} (h : fr_cleaned S = some (r1, S1)) : mCi l yX12_cleaned (Cond.code yX12_cleaned cX12_cleaned 1 (some .int) :: wsM) 2 21 D cI cJ cZ ad S [] (fun r S9 => r = r1 ∧ S9 = S1) := by
  intro sz
  refine pro_in (cc := cX12_cleaned) (maxL := 1) (ret := (some .int)) (by exact pn_RX12) rfl (by exact Nat.le_of_ble_eq_true rfl) (fun p e s m below meth c ls hx hb hr hts hown hlocks hml hv hl => ?_)
  obtain ⟨hsz, hP, hK, hD0, hR⟩ := hv
  subst hsz
  have hD := hD0.self (sz := s.heap.size)
  generalize hAe : va_A (MW cI cJ cZ ad S) s.heap.size = A at hD ⊢
  have hA : ∀ q : Nat, s.heap.size ≤ q → A q := fun q h => by rw [← hAe]; exact Or.inr h
  have G : mG D cI cJ cZ ad A s.heap s.heap [] S := ⟨hP, hD, va_S.rf⟩
  have E : mE p c cX12_cleaned s m ([.ref (ad 0)] : List Value).toArray (Cond.code yX12_cleaned cX12_cleaned 1 (some .int) :: wsM) D cI cJ cZ := ⟨hx, hb, hts, hown, hK, fun w h => .tail _ (iM_x h)⟩
  have hl : lv_has ls 1 [(0, .ref (ad 0))] := hl
  unfold fr_cleaned at h
  refine lv_aload_n hx hb dX12_cleaned_0 rfl (lv_at hl 0 rfl) ?_
  refine lv_iconst (v := 1) hx hb dX12_cleaned_1 (by decide) ?_
  obtain ⟨r5, S2, eS2, h⟩ := obind2_some h
  refine m_calli (As := [.int 1]) (rest := []) E G hA hR hml (tr_mayAsk l D cI cJ cZ ad S 1 eS2) (cwV 1 hts (gmV qM_319 qM_320 qM_321 qM_35 qM_304) rfl rfl rfl (by decide +kernel) ⟨Nat.le_of_ble_eq_true rfl, Nat.le_of_ble_eq_true rfl⟩) rfl hl.1 rfl (lv_room (Nat.le_of_ble_eq_true rfl)) dX12_cleaned_2 ⟨Nat.zero_le _, Nat.zero_le _⟩ (fun q3 S4 H locs hq G => ?_)
  obtain ⟨hq1, hq2⟩ := hq
  rw [hq2] at G
  refine lv_to hq1 ?_
  clear hq1 hq2 eS2
  refine lv_if_eq (tgt := 17) hx hb dX12_cleaned_5 (by decide) (fun c6 => ?_) (fun c6 => ?_)
  · have h := oif_pos c6 h
    refine lv_iconst (v := 0) hx hb dX12_cleaned_17 (by decide) ?_
    have hl := lv_sub hl [] rfl
    exact tr_cleaned_b18 E hA hR hml (fun H locs ls G => W.iret (v := r1) hx hb hr (fun t ht hW => ⟨⟨r1, S1, rfl, ⟨rfl, rfl⟩, ⟨by rw [ht]; exact G.1, va_K.moved hW.alike hK, G.2.1⟩⟩, G.2.2.F ht⟩) G.2.2.2.2 dX12_cleaned_18) _ _ _ _ _ h G hl
  · have h := oif_neg c6 h
    refine lv_aload_n hx hb dX12_cleaned_8 rfl (lv_at hl 0 rfl) ?_
    refine m_get E G 12 (v := .ref (ad 12)) (by decide) (.tail _ qM_9) rfl dX12_cleaned_9 rfl ?_
    refine lv_iconst (v := 0) hx hb dX12_cleaned_12 (by decide) ?_
    refine m_iald E G 12 4 (n := 2455) (k := 0) rfl rfl (by decide) (by decide) dX12_cleaned_13 ?_
    refine lv_topi (fun v7 ev7 => ?_)
    have h := elet_at ev7 h
    clear ev7
    refine lv_goto (tgt := 18) hx hb dX12_cleaned_14 (by decide) ?_
    have hl := lv_sub hl [] rfl
    exact tr_cleaned_b18 E hA hR hml (fun H locs ls G => W.iret (v := r1) hx hb hr (fun t ht hW => ⟨⟨r1, S1, rfl, ⟨rfl, rfl⟩, ⟨by rw [ht]; exact G.1, va_K.moved hW.alike hK, G.2.1⟩⟩, G.2.2.F ht⟩) G.2.2.2.2 dX12_cleaned_18) _ _ _ _ _ h G hl
def fr_copy_15_12_b3  : Nat → MS → Int32 → Int32 → Int32 → Option (MS)
  | 0, _, _, _, _ => none
  | n + 1, S, l1, l3, l4 => if 2455 ≤ l4 then (some S) else (elet (l3 + l4) fun v3 => elet (l1 + l4) fun v4 => oif (inb v4 14730 = true) <| elet (S.2.1 15 v4.toNatClampNeg) fun v6 => oif (inb v3 2455 = true) <| elet (mf S 12 (upd (S.2.1 12) v3.toNatClampNeg v6)) fun S8 => elet (l4 + Int32.ofInt (1)) fun v9 => fr_copy_15_12_b3 n S8 l1 l3 v9)
set_option maxHeartbeats 4000000 in
set_option maxRecDepth 100000 in
theorem tr_copy_15_12_b3 {p : Program} {l : Launch} {e : Env} {s : State} {m : MethodId} {args : Array Value} {below : List Frame} {meth : Method} {c : Code} {Q : State → Prop} {D : va_G} {A : Nat → Prop} {H0 : Heap} {cI cJ cZ : ClassId} {ad : Nat → Nat} {S1 : MS} (E : mE p c cX12_copy s m args (Cond.code yX12_copy cX12_copy 5 none :: wsM) D cI cJ cZ) (hA : ∀ q : Nat, H0.size ≤ q → A q) (hR : sR s) (hml : c.maxLocals = 5) (kr29 : ∀ (H : Heap) (locs : List Loc) (ls : Array Slot), mG D cI cJ cZ ad A H0 H locs S1 → W p l e { frames := 1, cells := 0, slots := 0, locals := 0 } s m args below meth c H locs 0 0 Q (F0 m 29 ls [])) : ∀ n : Nat, ∀ (S : MS) (H : Heap) (locs : List Loc) (ls : Array Slot) (l1 : Int32) (l3 : Int32) (l4 : Int32), fr_copy_15_12_b3 n S l1 l3 l4 = some S1 → mG D cI cJ cZ ad A H0 H locs S → lv_has ls 5 [(0, .ref (ad 15)), (1, .int l1), (2, .ref (ad 12)), (3, .int l3), (4, .int l4)] → W p l e { frames := 1, cells := 0, slots := 0, locals := 0 } s m args below meth c H locs 0 0 Q (F0 m 3 ls []) := by
  have hx := E.1
  have hb := E.2.1
  have hts := E.2.2.1
  have hown := E.2.2.2.1
  have hK := E.2.2.2.2.1
  intro n
  induction n with
  | zero =>
    intro S H locs ls l1 l3 l4 h
    have h : (none : Option (MS)) = some S1 := h
    cases h
  | succ n ih =>
    intro S H locs ls l1 l3 l4 h G hl
    unfold fr_copy_15_12_b3 at h
    refine lv_iload hx hb dX12_copy_3 (lv_at hl 4 rfl) ?_
    refine lv_sipush (v := 2455) hx hb dX12_copy_5 (by decide) ?_
    refine lv_icmp_ge (tgt := 29) hx hb dX12_copy_8 (by decide) (fun c2 => ?_) (fun c2 => ?_)
    · have h := oif_pos c2 h
      rw [osome1 h] at G
      exact kr29 _ _ _ G
    · have h := oif_neg c2 h
      refine lv_aload_n hx hb dX12_copy_11 rfl (lv_at hl 2 rfl) ?_
      refine lv_iload_n hx hb dX12_copy_12 rfl (lv_at hl 3 rfl) ?_
      refine lv_iload hx hb dX12_copy_13 (lv_at hl 4 rfl) ?_
      refine lv_iadd hx hb dX12_copy_15 ?_
      refine lv_topi (fun v3 ev3 => ?_)
      have h := elet_at ev3 h
      clear ev3
      refine lv_aload_n hx hb dX12_copy_16 rfl (lv_at hl 0 rfl) ?_
      refine lv_iload_n hx hb dX12_copy_17 rfl (lv_at hl 1 rfl) ?_
      refine lv_iload hx hb dX12_copy_18 (lv_at hl 4 rfl) ?_
      refine lv_iadd hx hb dX12_copy_20 ?_
      refine lv_topi (fun v4 ev4 => ?_)
      have h := elet_at ev4 h
      clear ev4
      obtain ⟨g5, h⟩ := oif_some h
      refine m_iald E G 15 7 (n := 14730) (k := v4.toNatClampNeg) rfl (inb_k g5).1 (inb_k g5).2 (by decide) dX12_copy_21 ?_
      refine lv_topi (fun v6 ev6 => ?_)
      have h := elet_at ev6 h
      clear ev6
      obtain ⟨g7, h⟩ := oif_some h
      refine m_iast E G 12 4 (k := v3.toNatClampNeg) (v := v6) rfl (fun _ => rfl) (inb_k g7).1 (inb_k g7).2 (by decide) dX12_copy_22 (fun H locs G => ?_)
      obtain ⟨S8, eS8, h⟩ := elet_some h
      rw [← eS8] at G
      clear eS8
      obtain ⟨v9, ev9, h⟩ := elet_some h
      refine lv_iinc (v := v9) (lv' := [(4, .int v9), (0, .ref (ad 15)), (1, .int l1), (2, .ref (ad 12)), (3, .int l3)]) hx hb dX12_copy_23 hl (k := 4) rfl ev9.symm (by decide) rfl (fun ls hl => ?_)
      refine lv_goto (tgt := 3) hx hb dX12_copy_26 (by decide) ?_
      have hl := lv_sub hl [1, 2, 3, 4, 0] rfl
      exact ih _ _ _ _ _ _ _ h G hl
def fr_copy_15_12 (S : MS) (a1 : Int32) (a3 : Int32) : Option (MS) := fr_copy_15_12_b3 16384 S a1 a3 0
set_option maxHeartbeats 4000000 in
set_option maxRecDepth 100000 in
theorem tr_copy_15_12 (l : Launch) (D : va_G) (cI cJ cZ : ClassId) (ad : Nat → Nat) (S : MS) (a1 : Int32) (a3 : Int32) {S1 : MS} (h : fr_copy_15_12 S a1 a3 = some S1) : mCs l yX12_copy (Cond.code yX12_copy cX12_copy 5 none :: wsM) 1 0 D cI cJ cZ ad S [.ref (ad 15), .int a1, .ref (ad 12), .int a3] (fun S9 => S9 = S1) := by
  intro sz
  refine pro_in (cc := cX12_copy) (maxL := 5) (ret := none) (by exact pn_RX12) rfl (by exact Nat.le_of_ble_eq_true rfl) (fun p e s m below meth c ls hx hb hr hts hown hlocks hml hv hl => ?_)
  obtain ⟨hsz, hP, hK, hD0, hR⟩ := hv
  subst hsz
  have hD := hD0.self (sz := s.heap.size)
  generalize hAe : va_A (MW cI cJ cZ ad S) s.heap.size = A at hD ⊢
  have hA : ∀ q : Nat, s.heap.size ≤ q → A q := fun q h => by rw [← hAe]; exact Or.inr h
  have G : mG D cI cJ cZ ad A s.heap s.heap [] S := ⟨hP, hD, va_S.rf⟩
  have E : mE p c cX12_copy s m ([.ref (ad 15), .int a1, .ref (ad 12), .int a3] : List Value).toArray (Cond.code yX12_copy cX12_copy 5 none :: wsM) D cI cJ cZ := ⟨hx, hb, hts, hown, hK, fun w h => .tail _ (iM_x h)⟩
  have hl : lv_has ls 5 [(0, .ref (ad 15)), (1, .int a1), (2, .ref (ad 12)), (3, .int a3)] := hl
  unfold fr_copy_15_12 at h
  refine lv_iconst (v := 0) hx hb dX12_copy_0 (by decide) ?_
  refine lv_istore (lv' := [(4, .int 0), (0, .ref (ad 15)), (1, .int a1), (2, .ref (ad 12)), (3, .int a3)]) hx hb dX12_copy_1 hl (by decide) rfl (fun ls hl => ?_)
  have hl := lv_sub hl [1, 2, 3, 4, 0] rfl
  exact tr_copy_15_12_b3 E hA hR hml (fun H locs ls G => W.vret hx hb hr (fun t ht hW => ⟨⟨S1, rfl, rfl, ⟨by rw [ht]; exact G.1, va_K.moved hW.alike hK, G.2.1⟩⟩, G.2.2.F ht⟩) G.2.2.2.2 dX12_copy_29) _ _ _ _ _ _ _ _ h G hl
def fr_undo_b13  (S : MS) (s0 : Int32) : Option (Int32 × MS) := elet (mi S 0 s0) fun S2 => elet (S2.1 0) fun v3 => if v3 ≤ 0 then (elet (S2.1 19) fun v5 => elet (v5 - 1) fun v6 => elet (mi S2 19 v6) fun S7 => elet (S7.1 19) fun v8 => elet (2455 * v8) fun v9 => obind (fr_copy_15_12 S7 v9 0) fun S10 => elet (S10.1 19) fun v13 => some (v13, S10)) else (some (0, S2))
set_option maxHeartbeats 4000000 in
set_option maxRecDepth 100000 in
theorem tr_undo_b13 {p : Program} {l : Launch} {e : Env} {s : State} {m : MethodId} {args : Array Value} {below : List Frame} {meth : Method} {c : Code} {Q : State → Prop} {D : va_G} {A : Nat → Prop} {H0 : Heap} {cI cJ cZ : ClassId} {ad : Nat → Nat} {r1 : Int32} {S1 : MS} (E : mE p c cX12_undo s m args (Cond.code yX12_undo cX12_undo 1 (some .int) :: wsM) D cI cJ cZ) (hA : ∀ q : Nat, H0.size ≤ q → A q) (hR : sR s) (hml : c.maxLocals = 1) (kr24 : ∀ (H : Heap) (locs : List Loc) (ls : Array Slot), mG D cI cJ cZ ad A H0 H locs S1 → W p l e { frames := 2, cells := 0, slots := 0, locals := 24 } s m args below meth c H locs 0 0 Q (F0 m 24 ls [.int r1])) (kr59 : ∀ (H : Heap) (locs : List Loc) (ls : Array Slot), mG D cI cJ cZ ad A H0 H locs S1 → W p l e { frames := 2, cells := 0, slots := 0, locals := 24 } s m args below meth c H locs 0 0 Q (F0 m 59 ls [.int r1])) : ∀ (S : MS) (H : Heap) (locs : List Loc) (ls : Array Slot) (s0 : Int32), fr_undo_b13 S s0 = some (r1, S1) → mG D cI cJ cZ ad A H0 H locs S → lv_has ls 1 [(0, .ref (ad 0))] → W p l e { frames := 2, cells := 0, slots := 0, locals := 24 } s m args below meth c H locs 0 0 Q (F0 m 13 ls [.int s0, .ref (ad 0)]) := by
  have hx := E.1
  have hb := E.2.1
  have hts := E.2.2.1
  have hown := E.2.2.2.1
  have hK := E.2.2.2.2.1
  intro S H locs ls s0 h G hl
  unfold fr_undo_b13 at h
  refine m_put E G 0 (by decide) (.tail _ qM_26) (mw_i0 _ _ _ _ _ s0) dX12_undo_13 ⟨rfl, rfl, rfl⟩ rfl rfl (fun H locs G => ?_)
  obtain ⟨S2, eS2, h⟩ := elet_some h
  rw [← eS2] at G
  clear eS2
  refine lv_aload_n hx hb dX12_undo_16 rfl (lv_at hl 0 rfl) ?_
  refine m_get E G 0 (v := .int (S2.1 0)) (by decide) (.tail _ qM_26) rfl dX12_undo_17 rfl ?_
  refine lv_topi (fun v3 ev3 => ?_)
  have h := elet_at ev3 h
  clear ev3
  refine lv_if_le (tgt := 25) hx hb dX12_undo_20 (by decide) (fun c4 => ?_) (fun c4 => ?_)
  · have h := oif_pos c4 h
    refine lv_aload_n hx hb dX12_undo_25 rfl (lv_at hl 0 rfl) ?_
    refine lv_dup hx hb dX12_undo_26 rfl ?_
    refine m_get E G 19 (v := .int (S2.1 19)) (by decide) (.tail _ qM_194) rfl dX12_undo_27 rfl ?_
    refine lv_topi (fun v5 ev5 => ?_)
    have h := elet_at ev5 h
    clear ev5
    refine lv_iconst (v := 1) hx hb dX12_undo_30 (by decide) ?_
    refine lv_isub hx hb dX12_undo_31 ?_
    refine lv_topi (fun v6 ev6 => ?_)
    have h := elet_at ev6 h
    clear ev6
    refine m_put E G 19 (by decide) (.tail _ qM_194) (mw_i19 _ _ _ _ _ v6) dX12_undo_32 ⟨rfl, rfl, rfl⟩ rfl rfl (fun H locs G => ?_)
    obtain ⟨S7, eS7, h⟩ := elet_some h
    rw [← eS7] at G
    clear eS7
    refine lv_aload_n hx hb dX12_undo_35 rfl (lv_at hl 0 rfl) ?_
    refine m_get E G 15 (v := .ref (ad 15)) (by decide) (.tail _ qM_12) rfl dX12_undo_36 rfl ?_
    refine lv_sipush (v := 2455) hx hb dX12_undo_39 (by decide) ?_
    refine lv_aload_n hx hb dX12_undo_42 rfl (lv_at hl 0 rfl) ?_
    refine m_get E G 19 (v := .int (S7.1 19)) (by decide) (.tail _ qM_194) rfl dX12_undo_43 rfl ?_
    refine lv_topi (fun v8 ev8 => ?_)
    have h := elet_at ev8 h
    clear ev8
    refine lv_imul hx hb dX12_undo_46 ?_
    refine lv_topi (fun v9 ev9 => ?_)
    have h := elet_at ev9 h
    clear ev9
    refine lv_aload_n hx hb dX12_undo_47 rfl (lv_at hl 0 rfl) ?_
    refine m_get E G 12 (v := .ref (ad 12)) (by decide) (.tail _ qM_9) rfl dX12_undo_48 rfl ?_
    refine lv_iconst (v := 0) hx hb dX12_undo_51 (by decide) ?_
    obtain ⟨S10, eS10, h⟩ := obind_some h
    refine m_calls (As := [.ref (ad 15), .int v9, .ref (ad 12), .int 0]) (rest := []) E G hA hR hml (tr_copy_15_12 l D cI cJ cZ ad S7 v9 0 eS10) (cwS 4 hts (gmS qM_201 qM_202 qM_35 qM_203) rfl rfl rfl (by decide +kernel) ⟨Nat.le_of_ble_eq_true rfl, Nat.le_of_ble_eq_true rfl⟩) rfl hl.1 rfl (lv_room (Nat.le_of_ble_eq_true rfl)) dX12_undo_52 ⟨Nat.zero_le _, Nat.zero_le _⟩ (fun S12 H locs hq G => ?_)
    rw [hq] at G
    clear hq eS10
    refine lv_aload_n hx hb dX12_undo_55 rfl (lv_at hl 0 rfl) ?_
    refine m_get E G 19 (v := .int (S10.1 19)) (by decide) (.tail _ qM_194) rfl dX12_undo_56 rfl ?_
    refine lv_topi (fun v13 ev13 => ?_)
    have h := elet_at ev13 h
    clear ev13
    rw [(osome2 h).2] at G
    refine lv_to (osome2 h).1 ?_
    exact kr59 _ _ _ G
  · have h := oif_neg c4 h
    refine lv_iconst (v := 0) hx hb dX12_undo_23 (by decide) ?_
    rw [(osome2 h).2] at G
    refine lv_to (osome2 h).1 ?_
    exact kr24 _ _ _ G
def fr_undo (S : MS)  : Option (Int32 × MS) := elet (S.1 19) fun v2 => if v2 = 0 then (fr_undo_b13 S 1) else (fr_undo_b13 S 0)
set_option maxHeartbeats 4000000 in
set_option maxRecDepth 100000 in
theorem tr_undo (l : Launch) (D : va_G) (cI cJ cZ : ClassId) (ad : Nat → Nat) (S : MS)  {r1 : Int32} {S1 : MS} (h : fr_undo S = some (r1, S1)) : mCi l yX12_undo (Cond.code yX12_undo cX12_undo 1 (some .int) :: wsM) 2 24 D cI cJ cZ ad S [] (fun r S9 => r = r1 ∧ S9 = S1) := by
  intro sz
  refine pro_in (cc := cX12_undo) (maxL := 1) (ret := (some .int)) (by exact pn_RX12) rfl (by exact Nat.le_of_ble_eq_true rfl) (fun p e s m below meth c ls hx hb hr hts hown hlocks hml hv hl => ?_)
  obtain ⟨hsz, hP, hK, hD0, hR⟩ := hv
  subst hsz
  have hD := hD0.self (sz := s.heap.size)
  generalize hAe : va_A (MW cI cJ cZ ad S) s.heap.size = A at hD ⊢
  have hA : ∀ q : Nat, s.heap.size ≤ q → A q := fun q h => by rw [← hAe]; exact Or.inr h
  have G : mG D cI cJ cZ ad A s.heap s.heap [] S := ⟨hP, hD, va_S.rf⟩
  have E : mE p c cX12_undo s m ([.ref (ad 0)] : List Value).toArray (Cond.code yX12_undo cX12_undo 1 (some .int) :: wsM) D cI cJ cZ := ⟨hx, hb, hts, hown, hK, fun w h => .tail _ (iM_x h)⟩
  have hl : lv_has ls 1 [(0, .ref (ad 0))] := hl
  unfold fr_undo at h
  refine lv_aload_n hx hb dX12_undo_0 rfl (lv_at hl 0 rfl) ?_
  refine lv_aload_n hx hb dX12_undo_1 rfl (lv_at hl 0 rfl) ?_
  refine m_get E G 19 (v := .int (S.1 19)) (by decide) (.tail _ qM_194) rfl dX12_undo_2 rfl ?_
  refine lv_topi (fun v2 ev2 => ?_)
  have h := elet_at ev2 h
  clear ev2
  refine lv_if_ne (tgt := 12) hx hb dX12_undo_5 (by decide) (fun c3 => ?_) (fun c3 => ?_)
  · have h := oif_neg c3 h
    refine lv_iconst (v := 0) hx hb dX12_undo_12 (by decide) ?_
    have hl := lv_sub hl [0] rfl
    exact tr_undo_b13 E hA hR hml (fun H locs ls G => W.iret (v := r1) hx hb hr (fun t ht hW => ⟨⟨r1, S1, rfl, ⟨rfl, rfl⟩, ⟨by rw [ht]; exact G.1, va_K.moved hW.alike hK, G.2.1⟩⟩, G.2.2.F ht⟩) G.2.2.2.2 dX12_undo_24) (fun H locs ls G => W.iret (v := r1) hx hb hr (fun t ht hW => ⟨⟨r1, S1, rfl, ⟨rfl, rfl⟩, ⟨by rw [ht]; exact G.1, va_K.moved hW.alike hK, G.2.1⟩⟩, G.2.2.F ht⟩) G.2.2.2.2 dX12_undo_59) _ _ _ _ _ h G hl
  · have h := oif_pos c3 h
    refine lv_iconst (v := 1) hx hb dX12_undo_8 (by decide) ?_
    refine lv_goto (tgt := 13) hx hb dX12_undo_9 (by decide) ?_
    have hl := lv_sub hl [0] rfl
    exact tr_undo_b13 E hA hR hml (fun H locs ls G => W.iret (v := r1) hx hb hr (fun t ht hW => ⟨⟨r1, S1, rfl, ⟨rfl, rfl⟩, ⟨by rw [ht]; exact G.1, va_K.moved hW.alike hK, G.2.1⟩⟩, G.2.2.F ht⟩) G.2.2.2.2 dX12_undo_24) (fun H locs ls G => W.iret (v := r1) hx hb hr (fun t ht hW => ⟨⟨r1, S1, rfl, ⟨rfl, rfl⟩, ⟨by rw [ht]; exact G.1, va_K.moved hW.alike hK, G.2.1⟩⟩, G.2.2.F ht⟩) G.2.2.2.2 dX12_undo_59) _ _ _ _ _ h G hl
def fr_undoable (S : MS)  : Option (Int32 × MS) := elet (mi S 0 0) fun S2 => elet (S2.1 19) fun v3 => some (v3, S2)
set_option maxHeartbeats 4000000 in
set_option maxRecDepth 100000 in
theorem tr_undoable (l : Launch) (D : va_G) (cI cJ cZ : ClassId) (ad : Nat → Nat) (S : MS)  {r1 : Int32} {S1 : MS} (h : fr_undoable S = some (r1, S1)) : mCi l yX12_undoable (Cond.code yX12_undoable cX12_undoable 1 (some .int) :: wsM) 1 0 D cI cJ cZ ad S [] (fun r S9 => r = r1 ∧ S9 = S1) := by
  intro sz
  refine pro_in (cc := cX12_undoable) (maxL := 1) (ret := (some .int)) (by exact pn_RX12) rfl (by exact Nat.le_of_ble_eq_true rfl) (fun p e s m below meth c ls hx hb hr hts hown hlocks hml hv hl => ?_)
  obtain ⟨hsz, hP, hK, hD0, hR⟩ := hv
  subst hsz
  have hD := hD0.self (sz := s.heap.size)
  generalize hAe : va_A (MW cI cJ cZ ad S) s.heap.size = A at hD ⊢
  have hA : ∀ q : Nat, s.heap.size ≤ q → A q := fun q h => by rw [← hAe]; exact Or.inr h
  have G : mG D cI cJ cZ ad A s.heap s.heap [] S := ⟨hP, hD, va_S.rf⟩
  have E : mE p c cX12_undoable s m ([.ref (ad 0)] : List Value).toArray (Cond.code yX12_undoable cX12_undoable 1 (some .int) :: wsM) D cI cJ cZ := ⟨hx, hb, hts, hown, hK, fun w h => .tail _ (iM_x h)⟩
  have hl : lv_has ls 1 [(0, .ref (ad 0))] := hl
  unfold fr_undoable at h
  refine lv_aload_n hx hb dX12_undoable_0 rfl (lv_at hl 0 rfl) ?_
  refine lv_iconst (v := 0) hx hb dX12_undoable_1 (by decide) ?_
  refine m_put E G 0 (by decide) (.tail _ qM_26) (mw_i0 _ _ _ _ _ 0) dX12_undoable_2 ⟨rfl, rfl, rfl⟩ rfl rfl (fun H locs G => ?_)
  obtain ⟨S2, eS2, h⟩ := elet_some h
  rw [← eS2] at G
  clear eS2
  refine lv_aload_n hx hb dX12_undoable_5 rfl (lv_at hl 0 rfl) ?_
  refine m_get E G 19 (v := .int (S2.1 19)) (by decide) (.tail _ qM_194) rfl dX12_undoable_6 rfl ?_
  refine lv_topi (fun v3 ev3 => ?_)
  have h := elet_at ev3 h
  clear ev3
  exact W.iret (v := v3) hx hb hr (fun t ht hW => ⟨⟨v3, S2, rfl, osome2 h, ⟨by rw [ht]; exact G.1, va_K.moved hW.alike hK, G.2.1⟩⟩, G.2.2.F ht⟩) G.2.2.2.2 dX12_undoable_9
def fr_copy_12_16_b3  : Nat → MS → Int32 → Int32 → Int32 → Option (MS)
  | 0, _, _, _, _ => none
  | n + 1, S, l1, l3, l4 => if 2455 ≤ l4 then (some S) else (elet (l3 + l4) fun v3 => elet (l1 + l4) fun v4 => oif (inb v4 2455 = true) <| elet (S.2.1 12 v4.toNatClampNeg) fun v6 => oif (inb v3 4910 = true) <| elet (mf S 16 (upd (S.2.1 16) v3.toNatClampNeg v6)) fun S8 => elet (l4 + Int32.ofInt (1)) fun v9 => fr_copy_12_16_b3 n S8 l1 l3 v9)
set_option maxHeartbeats 4000000 in
set_option maxRecDepth 100000 in
theorem tr_copy_12_16_b3 {p : Program} {l : Launch} {e : Env} {s : State} {m : MethodId} {args : Array Value} {below : List Frame} {meth : Method} {c : Code} {Q : State → Prop} {D : va_G} {A : Nat → Prop} {H0 : Heap} {cI cJ cZ : ClassId} {ad : Nat → Nat} {S1 : MS} (E : mE p c cX12_copy s m args (Cond.code yX12_copy cX12_copy 5 none :: wsM) D cI cJ cZ) (hA : ∀ q : Nat, H0.size ≤ q → A q) (hR : sR s) (hml : c.maxLocals = 5) (kr29 : ∀ (H : Heap) (locs : List Loc) (ls : Array Slot), mG D cI cJ cZ ad A H0 H locs S1 → W p l e { frames := 1, cells := 0, slots := 0, locals := 0 } s m args below meth c H locs 0 0 Q (F0 m 29 ls [])) : ∀ n : Nat, ∀ (S : MS) (H : Heap) (locs : List Loc) (ls : Array Slot) (l1 : Int32) (l3 : Int32) (l4 : Int32), fr_copy_12_16_b3 n S l1 l3 l4 = some S1 → mG D cI cJ cZ ad A H0 H locs S → lv_has ls 5 [(0, .ref (ad 12)), (1, .int l1), (2, .ref (ad 16)), (3, .int l3), (4, .int l4)] → W p l e { frames := 1, cells := 0, slots := 0, locals := 0 } s m args below meth c H locs 0 0 Q (F0 m 3 ls []) := by
  have hx := E.1
  have hb := E.2.1
  have hts := E.2.2.1
  have hown := E.2.2.2.1
  have hK := E.2.2.2.2.1
  intro n
  induction n with
  | zero =>
    intro S H locs ls l1 l3 l4 h
    have h : (none : Option (MS)) = some S1 := h
    cases h
  | succ n ih =>
    intro S H locs ls l1 l3 l4 h G hl
    unfold fr_copy_12_16_b3 at h
    refine lv_iload hx hb dX12_copy_3 (lv_at hl 4 rfl) ?_
    refine lv_sipush (v := 2455) hx hb dX12_copy_5 (by decide) ?_
    refine lv_icmp_ge (tgt := 29) hx hb dX12_copy_8 (by decide) (fun c2 => ?_) (fun c2 => ?_)
    · have h := oif_pos c2 h
      rw [osome1 h] at G
      exact kr29 _ _ _ G
    · have h := oif_neg c2 h
      refine lv_aload_n hx hb dX12_copy_11 rfl (lv_at hl 2 rfl) ?_
      refine lv_iload_n hx hb dX12_copy_12 rfl (lv_at hl 3 rfl) ?_
      refine lv_iload hx hb dX12_copy_13 (lv_at hl 4 rfl) ?_
      refine lv_iadd hx hb dX12_copy_15 ?_
      refine lv_topi (fun v3 ev3 => ?_)
      have h := elet_at ev3 h
      clear ev3
      refine lv_aload_n hx hb dX12_copy_16 rfl (lv_at hl 0 rfl) ?_
      refine lv_iload_n hx hb dX12_copy_17 rfl (lv_at hl 1 rfl) ?_
      refine lv_iload hx hb dX12_copy_18 (lv_at hl 4 rfl) ?_
      refine lv_iadd hx hb dX12_copy_20 ?_
      refine lv_topi (fun v4 ev4 => ?_)
      have h := elet_at ev4 h
      clear ev4
      obtain ⟨g5, h⟩ := oif_some h
      refine m_iald E G 12 4 (n := 2455) (k := v4.toNatClampNeg) rfl (inb_k g5).1 (inb_k g5).2 (by decide) dX12_copy_21 ?_
      refine lv_topi (fun v6 ev6 => ?_)
      have h := elet_at ev6 h
      clear ev6
      obtain ⟨g7, h⟩ := oif_some h
      refine m_iast E G 16 8 (k := v3.toNatClampNeg) (v := v6) rfl (fun _ => rfl) (inb_k g7).1 (inb_k g7).2 (by decide) dX12_copy_22 (fun H locs G => ?_)
      obtain ⟨S8, eS8, h⟩ := elet_some h
      rw [← eS8] at G
      clear eS8
      obtain ⟨v9, ev9, h⟩ := elet_some h
      refine lv_iinc (v := v9) (lv' := [(4, .int v9), (0, .ref (ad 12)), (1, .int l1), (2, .ref (ad 16)), (3, .int l3)]) hx hb dX12_copy_23 hl (k := 4) rfl ev9.symm (by decide) rfl (fun ls hl => ?_)
      refine lv_goto (tgt := 3) hx hb dX12_copy_26 (by decide) ?_
      have hl := lv_sub hl [1, 2, 3, 4, 0] rfl
      exact ih _ _ _ _ _ _ _ h G hl
def fr_copy_12_16 (S : MS) (a1 : Int32) (a3 : Int32) : Option (MS) := fr_copy_12_16_b3 16384 S a1 a3 0
set_option maxHeartbeats 4000000 in
set_option maxRecDepth 100000 in
theorem tr_copy_12_16 (l : Launch) (D : va_G) (cI cJ cZ : ClassId) (ad : Nat → Nat) (S : MS) (a1 : Int32) (a3 : Int32) {S1 : MS} (h : fr_copy_12_16 S a1 a3 = some S1) : mCs l yX12_copy (Cond.code yX12_copy cX12_copy 5 none :: wsM) 1 0 D cI cJ cZ ad S [.ref (ad 12), .int a1, .ref (ad 16), .int a3] (fun S9 => S9 = S1) := by
  intro sz
  refine pro_in (cc := cX12_copy) (maxL := 5) (ret := none) (by exact pn_RX12) rfl (by exact Nat.le_of_ble_eq_true rfl) (fun p e s m below meth c ls hx hb hr hts hown hlocks hml hv hl => ?_)
  obtain ⟨hsz, hP, hK, hD0, hR⟩ := hv
  subst hsz
  have hD := hD0.self (sz := s.heap.size)
  generalize hAe : va_A (MW cI cJ cZ ad S) s.heap.size = A at hD ⊢
  have hA : ∀ q : Nat, s.heap.size ≤ q → A q := fun q h => by rw [← hAe]; exact Or.inr h
  have G : mG D cI cJ cZ ad A s.heap s.heap [] S := ⟨hP, hD, va_S.rf⟩
  have E : mE p c cX12_copy s m ([.ref (ad 12), .int a1, .ref (ad 16), .int a3] : List Value).toArray (Cond.code yX12_copy cX12_copy 5 none :: wsM) D cI cJ cZ := ⟨hx, hb, hts, hown, hK, fun w h => .tail _ (iM_x h)⟩
  have hl : lv_has ls 5 [(0, .ref (ad 12)), (1, .int a1), (2, .ref (ad 16)), (3, .int a3)] := hl
  unfold fr_copy_12_16 at h
  refine lv_iconst (v := 0) hx hb dX12_copy_0 (by decide) ?_
  refine lv_istore (lv' := [(4, .int 0), (0, .ref (ad 12)), (1, .int a1), (2, .ref (ad 16)), (3, .int a3)]) hx hb dX12_copy_1 hl (by decide) rfl (fun ls hl => ?_)
  have hl := lv_sub hl [1, 2, 3, 4, 0] rfl
  exact tr_copy_12_16_b3 E hA hR hml (fun H locs ls G => W.vret hx hb hr (fun t ht hW => ⟨⟨S1, rfl, rfl, ⟨by rw [ht]; exact G.1, va_K.moved hW.alike hK, G.2.1⟩⟩, G.2.2.F ht⟩) G.2.2.2.2 dX12_copy_29) _ _ _ _ _ _ _ _ h G hl
def fr_save (S : MS) (a0 : Int32) : Option (Int32 × MS) := obind (fr_in a0 0 1) fun r2 => obind2 (fr_mayAsk S r2) fun r7 S4 => if r7 = 0 then (some (0, S4)) else (elet (2455 * a0) fun v9 => obind (fr_copy_12_16 S4 0 v9) fun S10 => oif (inb a0 2 = true) <| elet (mf S10 18 (upd (S10.2.1 18) a0.toNatClampNeg 1)) fun S14 => obind2 (fr_bestIn_12 S14) fun r18 S15 => some (r18, S15))
set_option maxHeartbeats 4000000 in
set_option maxRecDepth 100000 in
theorem tr_save (l : Launch) (D : va_G) (cI cJ cZ : ClassId) (ad : Nat → Nat) (S : MS) (a0 : Int32) {r1 : Int32} {S1 : MS} (h : fr_save S a0 = some (r1, S1)) : mCi l yX12_save (Cond.code yX12_save cX12_save 2 (some .int) :: wsM) 8 163 D cI cJ cZ ad S [.int a0] (fun r S9 => r = r1 ∧ S9 = S1) := by
  intro sz
  refine pro_in (cc := cX12_save) (maxL := 2) (ret := (some .int)) (by exact pn_RX12) rfl (by exact Nat.le_of_ble_eq_true rfl) (fun p e s m below meth c ls hx hb hr hts hown hlocks hml hv hl => ?_)
  obtain ⟨hsz, hP, hK, hD0, hR⟩ := hv
  subst hsz
  have hD := hD0.self (sz := s.heap.size)
  generalize hAe : va_A (MW cI cJ cZ ad S) s.heap.size = A at hD ⊢
  have hA : ∀ q : Nat, s.heap.size ≤ q → A q := fun q h => by rw [← hAe]; exact Or.inr h
  have G : mG D cI cJ cZ ad A s.heap s.heap [] S := ⟨hP, hD, va_S.rf⟩
  have E : mE p c cX12_save s m ([.ref (ad 0), .int a0] : List Value).toArray (Cond.code yX12_save cX12_save 2 (some .int) :: wsM) D cI cJ cZ := ⟨hx, hb, hts, hown, hK, fun w h => .tail _ (iM_x h)⟩
  have hl : lv_has ls 2 [(0, .ref (ad 0)), (1, .int a0)] := hl
  unfold fr_save at h
  refine lv_aload_n hx hb dX12_save_0 rfl (lv_at hl 0 rfl) ?_
  refine lv_iload_n hx hb dX12_save_1 rfl (lv_at hl 1 rfl) ?_
  refine lv_iconst (v := 0) hx hb dX12_save_2 (by decide) ?_
  refine lv_iconst (v := 1) hx hb dX12_save_3 (by decide) ?_
  obtain ⟨r2, er2, h⟩ := obind_some h
  refine m_stat (As := [.int a0, .int 0, .int 1]) (rest := [.ref (ad 0)]) ⟨hx, hb, hml, hown, hts⟩ (tr_in l a0 0 1 er2) (cwS 3 hts (gmS qM_52 qM_53 qM_35 qM_27) rfl rfl rfl (by decide +kernel) ⟨Nat.le_of_ble_eq_true rfl, Nat.le_of_ble_eq_true rfl⟩) rfl hl.1 rfl (lv_room (Nat.le_of_ble_eq_true rfl)) dX12_save_4 ⟨Nat.zero_le _, Nat.zero_le _⟩ (fun q3 hq => ?_)
  refine lv_to hq ?_
  clear hq er2
  obtain ⟨r7, S4, eS4, h⟩ := obind2_some h
  refine m_calli (As := [.int r2]) (rest := []) E G hA hR hml (tr_mayAsk l D cI cJ cZ ad S r2 eS4) (cwV 1 hts (gmV qM_319 qM_320 qM_321 qM_35 qM_304) rfl rfl rfl (by decide +kernel) ⟨Nat.le_of_ble_eq_true rfl, Nat.le_of_ble_eq_true rfl⟩) rfl hl.1 rfl (lv_room (Nat.le_of_ble_eq_true rfl)) dX12_save_7 ⟨Nat.zero_le _, Nat.zero_le _⟩ (fun q5 S6 H locs hq G => ?_)
  obtain ⟨hq1, hq2⟩ := hq
  rw [hq2] at G
  refine lv_to hq1 ?_
  clear hq1 hq2 eS4
  refine lv_if_ne (tgt := 15) hx hb dX12_save_10 (by decide) (fun c8 => ?_) (fun c8 => ?_)
  · have h := oif_neg c8 h
    refine lv_aload_n hx hb dX12_save_15 rfl (lv_at hl 0 rfl) ?_
    refine m_get E G 12 (v := .ref (ad 12)) (by decide) (.tail _ qM_9) rfl dX12_save_16 rfl ?_
    refine lv_iconst (v := 0) hx hb dX12_save_19 (by decide) ?_
    refine lv_aload_n hx hb dX12_save_20 rfl (lv_at hl 0 rfl) ?_
    refine m_get E G 16 (v := .ref (ad 16)) (by decide) (.tail _ qM_13) rfl dX12_save_21 rfl ?_
    refine lv_sipush (v := 2455) hx hb dX12_save_24 (by decide) ?_
    refine lv_iload_n hx hb dX12_save_27 rfl (lv_at hl 1 rfl) ?_
    refine lv_imul hx hb dX12_save_28 ?_
    refine lv_topi (fun v9 ev9 => ?_)
    have h := elet_at ev9 h
    clear ev9
    obtain ⟨S10, eS10, h⟩ := obind_some h
    refine m_calls (As := [.ref (ad 12), .int 0, .ref (ad 16), .int v9]) (rest := []) E G hA hR hml (tr_copy_12_16 l D cI cJ cZ ad S4 0 v9 eS10) (cwS 4 hts (gmS qM_201 qM_202 qM_35 qM_203) rfl rfl rfl (by decide +kernel) ⟨Nat.le_of_ble_eq_true rfl, Nat.le_of_ble_eq_true rfl⟩) rfl hl.1 rfl (lv_room (Nat.le_of_ble_eq_true rfl)) dX12_save_29 ⟨Nat.zero_le _, Nat.zero_le _⟩ (fun S12 H locs hq G => ?_)
    rw [hq] at G
    clear hq eS10
    refine lv_aload_n hx hb dX12_save_32 rfl (lv_at hl 0 rfl) ?_
    refine m_get E G 18 (v := .ref (ad 18)) (by decide) (.tail _ qM_16) rfl dX12_save_33 rfl ?_
    refine lv_iload_n hx hb dX12_save_36 rfl (lv_at hl 1 rfl) ?_
    refine lv_iconst (v := 1) hx hb dX12_save_37 (by decide) ?_
    obtain ⟨g13, h⟩ := oif_some h
    refine m_zast E G 18 10 (k := a0.toNatClampNeg) (v := 1) rfl (fun _ => rfl) (inb_k g13).1 (inb_k g13).2 (by decide) rfl dX12_save_38 (fun H locs G => ?_)
    obtain ⟨S14, eS14, h⟩ := elet_some h
    rw [← eS14] at G
    clear eS14
    refine lv_aload_n hx hb dX12_save_39 rfl (lv_at hl 0 rfl) ?_
    refine lv_aload_n hx hb dX12_save_40 rfl (lv_at hl 0 rfl) ?_
    refine m_get E G 12 (v := .ref (ad 12)) (by decide) (.tail _ qM_9) rfl dX12_save_41 rfl ?_
    obtain ⟨r18, S15, eS15, h⟩ := obind2_some h
    refine m_calli (As := [.ref (ad 12)]) (rest := []) E G hA hR hml (tr_bestIn_12 l D cI cJ cZ ad S14 eS15) (cwV 1 hts (gmV qM_360 qM_361 qM_362 qM_35 qM_300) rfl rfl rfl (by decide +kernel) ⟨Nat.le_of_ble_eq_true rfl, Nat.le_of_ble_eq_true rfl⟩) rfl hl.1 rfl (lv_room (Nat.le_of_ble_eq_true rfl)) dX12_save_44 ⟨Nat.zero_le _, Nat.zero_le _⟩ (fun q16 S17 H locs hq G => ?_)
    obtain ⟨hq1, hq2⟩ := hq
    rw [hq2] at G
    refine lv_to hq1 ?_
    clear hq1 hq2 eS15
    exact W.iret (v := r18) hx hb hr (fun t ht hW => ⟨⟨r18, S15, rfl, osome2 h, ⟨by rw [ht]; exact G.1, va_K.moved hW.alike hK, G.2.1⟩⟩, G.2.2.F ht⟩) G.2.2.2.2 dX12_save_47
  · have h := oif_pos c8 h
    refine lv_iconst (v := 0) hx hb dX12_save_13 (by decide) ?_
    exact W.iret (v := 0) hx hb hr (fun t ht hW => ⟨⟨0, S4, rfl, osome2 h, ⟨by rw [ht]; exact G.1, va_K.moved hW.alike hK, G.2.1⟩⟩, G.2.2.F ht⟩) G.2.2.2.2 dX12_save_14
def fr_copy_16_12_b3  : Nat → MS → Int32 → Int32 → Int32 → Option (MS)
  | 0, _, _, _, _ => none
  | n + 1, S, l1, l3, l4 => if 2455 ≤ l4 then (some S) else (elet (l3 + l4) fun v3 => elet (l1 + l4) fun v4 => oif (inb v4 4910 = true) <| elet (S.2.1 16 v4.toNatClampNeg) fun v6 => oif (inb v3 2455 = true) <| elet (mf S 12 (upd (S.2.1 12) v3.toNatClampNeg v6)) fun S8 => elet (l4 + Int32.ofInt (1)) fun v9 => fr_copy_16_12_b3 n S8 l1 l3 v9)
set_option maxHeartbeats 4000000 in
set_option maxRecDepth 100000 in
theorem tr_copy_16_12_b3 {p : Program} {l : Launch} {e : Env} {s : State} {m : MethodId} {args : Array Value} {below : List Frame} {meth : Method} {c : Code} {Q : State → Prop} {D : va_G} {A : Nat → Prop} {H0 : Heap} {cI cJ cZ : ClassId} {ad : Nat → Nat} {S1 : MS} (E : mE p c cX12_copy s m args (Cond.code yX12_copy cX12_copy 5 none :: wsM) D cI cJ cZ) (hA : ∀ q : Nat, H0.size ≤ q → A q) (hR : sR s) (hml : c.maxLocals = 5) (kr29 : ∀ (H : Heap) (locs : List Loc) (ls : Array Slot), mG D cI cJ cZ ad A H0 H locs S1 → W p l e { frames := 1, cells := 0, slots := 0, locals := 0 } s m args below meth c H locs 0 0 Q (F0 m 29 ls [])) : ∀ n : Nat, ∀ (S : MS) (H : Heap) (locs : List Loc) (ls : Array Slot) (l1 : Int32) (l3 : Int32) (l4 : Int32), fr_copy_16_12_b3 n S l1 l3 l4 = some S1 → mG D cI cJ cZ ad A H0 H locs S → lv_has ls 5 [(0, .ref (ad 16)), (1, .int l1), (2, .ref (ad 12)), (3, .int l3), (4, .int l4)] → W p l e { frames := 1, cells := 0, slots := 0, locals := 0 } s m args below meth c H locs 0 0 Q (F0 m 3 ls []) := by
  have hx := E.1
  have hb := E.2.1
  have hts := E.2.2.1
  have hown := E.2.2.2.1
  have hK := E.2.2.2.2.1
  intro n
  induction n with
  | zero =>
    intro S H locs ls l1 l3 l4 h
    have h : (none : Option (MS)) = some S1 := h
    cases h
  | succ n ih =>
    intro S H locs ls l1 l3 l4 h G hl
    unfold fr_copy_16_12_b3 at h
    refine lv_iload hx hb dX12_copy_3 (lv_at hl 4 rfl) ?_
    refine lv_sipush (v := 2455) hx hb dX12_copy_5 (by decide) ?_
    refine lv_icmp_ge (tgt := 29) hx hb dX12_copy_8 (by decide) (fun c2 => ?_) (fun c2 => ?_)
    · have h := oif_pos c2 h
      rw [osome1 h] at G
      exact kr29 _ _ _ G
    · have h := oif_neg c2 h
      refine lv_aload_n hx hb dX12_copy_11 rfl (lv_at hl 2 rfl) ?_
      refine lv_iload_n hx hb dX12_copy_12 rfl (lv_at hl 3 rfl) ?_
      refine lv_iload hx hb dX12_copy_13 (lv_at hl 4 rfl) ?_
      refine lv_iadd hx hb dX12_copy_15 ?_
      refine lv_topi (fun v3 ev3 => ?_)
      have h := elet_at ev3 h
      clear ev3
      refine lv_aload_n hx hb dX12_copy_16 rfl (lv_at hl 0 rfl) ?_
      refine lv_iload_n hx hb dX12_copy_17 rfl (lv_at hl 1 rfl) ?_
      refine lv_iload hx hb dX12_copy_18 (lv_at hl 4 rfl) ?_
      refine lv_iadd hx hb dX12_copy_20 ?_
      refine lv_topi (fun v4 ev4 => ?_)
      have h := elet_at ev4 h
      clear ev4
      obtain ⟨g5, h⟩ := oif_some h
      refine m_iald E G 16 8 (n := 4910) (k := v4.toNatClampNeg) rfl (inb_k g5).1 (inb_k g5).2 (by decide) dX12_copy_21 ?_
      refine lv_topi (fun v6 ev6 => ?_)
      have h := elet_at ev6 h
      clear ev6
      obtain ⟨g7, h⟩ := oif_some h
      refine m_iast E G 12 4 (k := v3.toNatClampNeg) (v := v6) rfl (fun _ => rfl) (inb_k g7).1 (inb_k g7).2 (by decide) dX12_copy_22 (fun H locs G => ?_)
      obtain ⟨S8, eS8, h⟩ := elet_some h
      rw [← eS8] at G
      clear eS8
      obtain ⟨v9, ev9, h⟩ := elet_some h
      refine lv_iinc (v := v9) (lv' := [(4, .int v9), (0, .ref (ad 16)), (1, .int l1), (2, .ref (ad 12)), (3, .int l3)]) hx hb dX12_copy_23 hl (k := 4) rfl ev9.symm (by decide) rfl (fun ls hl => ?_)
      refine lv_goto (tgt := 3) hx hb dX12_copy_26 (by decide) ?_
      have hl := lv_sub hl [1, 2, 3, 4, 0] rfl
      exact ih _ _ _ _ _ _ _ h G hl
def fr_copy_16_12 (S : MS) (a1 : Int32) (a3 : Int32) : Option (MS) := fr_copy_16_12_b3 16384 S a1 a3 0
set_option maxHeartbeats 4000000 in
set_option maxRecDepth 100000 in
theorem tr_copy_16_12 (l : Launch) (D : va_G) (cI cJ cZ : ClassId) (ad : Nat → Nat) (S : MS) (a1 : Int32) (a3 : Int32) {S1 : MS} (h : fr_copy_16_12 S a1 a3 = some S1) : mCs l yX12_copy (Cond.code yX12_copy cX12_copy 5 none :: wsM) 1 0 D cI cJ cZ ad S [.ref (ad 16), .int a1, .ref (ad 12), .int a3] (fun S9 => S9 = S1) := by
  intro sz
  refine pro_in (cc := cX12_copy) (maxL := 5) (ret := none) (by exact pn_RX12) rfl (by exact Nat.le_of_ble_eq_true rfl) (fun p e s m below meth c ls hx hb hr hts hown hlocks hml hv hl => ?_)
  obtain ⟨hsz, hP, hK, hD0, hR⟩ := hv
  subst hsz
  have hD := hD0.self (sz := s.heap.size)
  generalize hAe : va_A (MW cI cJ cZ ad S) s.heap.size = A at hD ⊢
  have hA : ∀ q : Nat, s.heap.size ≤ q → A q := fun q h => by rw [← hAe]; exact Or.inr h
  have G : mG D cI cJ cZ ad A s.heap s.heap [] S := ⟨hP, hD, va_S.rf⟩
  have E : mE p c cX12_copy s m ([.ref (ad 16), .int a1, .ref (ad 12), .int a3] : List Value).toArray (Cond.code yX12_copy cX12_copy 5 none :: wsM) D cI cJ cZ := ⟨hx, hb, hts, hown, hK, fun w h => .tail _ (iM_x h)⟩
  have hl : lv_has ls 5 [(0, .ref (ad 16)), (1, .int a1), (2, .ref (ad 12)), (3, .int a3)] := hl
  unfold fr_copy_16_12 at h
  refine lv_iconst (v := 0) hx hb dX12_copy_0 (by decide) ?_
  refine lv_istore (lv' := [(4, .int 0), (0, .ref (ad 16)), (1, .int a1), (2, .ref (ad 12)), (3, .int a3)]) hx hb dX12_copy_1 hl (by decide) rfl (fun ls hl => ?_)
  have hl := lv_sub hl [1, 2, 3, 4, 0] rfl
  exact tr_copy_16_12_b3 E hA hR hml (fun H locs ls G => W.vret hx hb hr (fun t ht hW => ⟨⟨S1, rfl, rfl, ⟨by rw [ht]; exact G.1, va_K.moved hW.alike hK, G.2.1⟩⟩, G.2.2.F ht⟩) G.2.2.2.2 dX12_copy_29) _ _ _ _ _ _ _ _ h G hl
def fr_restore_b28  (S : MS) (s0 : Int32) (l1 : Int32) : Option (Int32 × MS) := elet (mi S 0 s0) fun S2 => elet (S2.1 0) fun v3 => if v3 ≤ 0 then (elet (2455 * l1) fun v5 => obind (fr_copy_16_12 S2 v5 0) fun S6 => elet (mi S6 19 0) fun S9 => obind2 (fr_bestIn_12 S9) fun r13 S10 => some (r13, S10)) else (some (0, S2))
set_option maxHeartbeats 4000000 in
set_option maxRecDepth 100000 in
theorem tr_restore_b28 {p : Program} {l : Launch} {e : Env} {s : State} {m : MethodId} {args : Array Value} {below : List Frame} {meth : Method} {c : Code} {Q : State → Prop} {D : va_G} {A : Nat → Prop} {H0 : Heap} {cI cJ cZ : ClassId} {ad : Nat → Nat} {r1 : Int32} {S1 : MS} (E : mE p c cX12_restore s m args (Cond.code yX12_restore cX12_restore 2 (some .int) :: wsM) D cI cJ cZ) (hA : ∀ q : Nat, H0.size ≤ q → A q) (hR : sR s) (hml : c.maxLocals = 2) (kr39 : ∀ (H : Heap) (locs : List Loc) (ls : Array Slot), mG D cI cJ cZ ad A H0 H locs S1 → W p l e { frames := 8, cells := 0, slots := 0, locals := 163 } s m args below meth c H locs 0 0 Q (F0 m 39 ls [.int r1])) (kr70 : ∀ (H : Heap) (locs : List Loc) (ls : Array Slot), mG D cI cJ cZ ad A H0 H locs S1 → W p l e { frames := 8, cells := 0, slots := 0, locals := 163 } s m args below meth c H locs 0 0 Q (F0 m 70 ls [.int r1])) : ∀ (S : MS) (H : Heap) (locs : List Loc) (ls : Array Slot) (s0 : Int32) (l1 : Int32), fr_restore_b28 S s0 l1 = some (r1, S1) → mG D cI cJ cZ ad A H0 H locs S → lv_has ls 2 [(0, .ref (ad 0)), (1, .int l1)] → W p l e { frames := 8, cells := 0, slots := 0, locals := 163 } s m args below meth c H locs 0 0 Q (F0 m 28 ls [.int s0, .ref (ad 0)]) := by
  have hx := E.1
  have hb := E.2.1
  have hts := E.2.2.1
  have hown := E.2.2.2.1
  have hK := E.2.2.2.2.1
  intro S H locs ls s0 l1 h G hl
  unfold fr_restore_b28 at h
  refine m_put E G 0 (by decide) (.tail _ qM_26) (mw_i0 _ _ _ _ _ s0) dX12_restore_28 ⟨rfl, rfl, rfl⟩ rfl rfl (fun H locs G => ?_)
  obtain ⟨S2, eS2, h⟩ := elet_some h
  rw [← eS2] at G
  clear eS2
  refine lv_aload_n hx hb dX12_restore_31 rfl (lv_at hl 0 rfl) ?_
  refine m_get E G 0 (v := .int (S2.1 0)) (by decide) (.tail _ qM_26) rfl dX12_restore_32 rfl ?_
  refine lv_topi (fun v3 ev3 => ?_)
  have h := elet_at ev3 h
  clear ev3
  refine lv_if_le (tgt := 40) hx hb dX12_restore_35 (by decide) (fun c4 => ?_) (fun c4 => ?_)
  · have h := oif_pos c4 h
    refine lv_aload_n hx hb dX12_restore_40 rfl (lv_at hl 0 rfl) ?_
    refine m_get E G 16 (v := .ref (ad 16)) (by decide) (.tail _ qM_13) rfl dX12_restore_41 rfl ?_
    refine lv_sipush (v := 2455) hx hb dX12_restore_44 (by decide) ?_
    refine lv_iload_n hx hb dX12_restore_47 rfl (lv_at hl 1 rfl) ?_
    refine lv_imul hx hb dX12_restore_48 ?_
    refine lv_topi (fun v5 ev5 => ?_)
    have h := elet_at ev5 h
    clear ev5
    refine lv_aload_n hx hb dX12_restore_49 rfl (lv_at hl 0 rfl) ?_
    refine m_get E G 12 (v := .ref (ad 12)) (by decide) (.tail _ qM_9) rfl dX12_restore_50 rfl ?_
    refine lv_iconst (v := 0) hx hb dX12_restore_53 (by decide) ?_
    obtain ⟨S6, eS6, h⟩ := obind_some h
    refine m_calls (As := [.ref (ad 16), .int v5, .ref (ad 12), .int 0]) (rest := []) E G hA hR hml (tr_copy_16_12 l D cI cJ cZ ad S2 v5 0 eS6) (cwS 4 hts (gmS qM_201 qM_202 qM_35 qM_203) rfl rfl rfl (by decide +kernel) ⟨Nat.le_of_ble_eq_true rfl, Nat.le_of_ble_eq_true rfl⟩) rfl hl.1 rfl (lv_room (Nat.le_of_ble_eq_true rfl)) dX12_restore_54 ⟨Nat.zero_le _, Nat.zero_le _⟩ (fun S8 H locs hq G => ?_)
    rw [hq] at G
    clear hq eS6
    refine lv_aload_n hx hb dX12_restore_57 rfl (lv_at hl 0 rfl) ?_
    refine lv_iconst (v := 0) hx hb dX12_restore_58 (by decide) ?_
    refine m_put E G 19 (by decide) (.tail _ qM_194) (mw_i19 _ _ _ _ _ 0) dX12_restore_59 ⟨rfl, rfl, rfl⟩ rfl rfl (fun H locs G => ?_)
    obtain ⟨S9, eS9, h⟩ := elet_some h
    rw [← eS9] at G
    clear eS9
    refine lv_aload_n hx hb dX12_restore_62 rfl (lv_at hl 0 rfl) ?_
    refine lv_aload_n hx hb dX12_restore_63 rfl (lv_at hl 0 rfl) ?_
    refine m_get E G 12 (v := .ref (ad 12)) (by decide) (.tail _ qM_9) rfl dX12_restore_64 rfl ?_
    obtain ⟨r13, S10, eS10, h⟩ := obind2_some h
    refine m_calli (As := [.ref (ad 12)]) (rest := []) E G hA hR hml (tr_bestIn_12 l D cI cJ cZ ad S9 eS10) (cwV 1 hts (gmV qM_360 qM_361 qM_362 qM_35 qM_300) rfl rfl rfl (by decide +kernel) ⟨Nat.le_of_ble_eq_true rfl, Nat.le_of_ble_eq_true rfl⟩) rfl hl.1 rfl (lv_room (Nat.le_of_ble_eq_true rfl)) dX12_restore_67 ⟨Nat.zero_le _, Nat.zero_le _⟩ (fun q11 S12 H locs hq G => ?_)
    obtain ⟨hq1, hq2⟩ := hq
    rw [hq2] at G
    refine lv_to hq1 ?_
    clear hq1 hq2 eS10
    rw [(osome2 h).2] at G
    refine lv_to (osome2 h).1 ?_
    exact kr70 _ _ _ G
  · have h := oif_neg c4 h
    refine lv_iconst (v := 0) hx hb dX12_restore_38 (by decide) ?_
    rw [(osome2 h).2] at G
    refine lv_to (osome2 h).1 ?_
    exact kr39 _ _ _ G
def fr_restore (S : MS) (a0 : Int32) : Option (Int32 × MS) := obind (fr_in a0 0 1) fun r2 => if r2 = 0 then (fr_restore_b28 S 1 a0) else (oif (inb a0 2 = true) <| elet (S.2.1 18 a0.toNatClampNeg) fun v6 => if v6 = 0 then (fr_restore_b28 S 2 a0) else (fr_restore_b28 S 0 a0))
set_option maxHeartbeats 4000000 in
set_option maxRecDepth 100000 in
theorem tr_restore (l : Launch) (D : va_G) (cI cJ cZ : ClassId) (ad : Nat → Nat) (S : MS) (a0 : Int32) {r1 : Int32} {S1 : MS} (h : fr_restore S a0 = some (r1, S1)) : mCi l yX12_restore (Cond.code yX12_restore cX12_restore 2 (some .int) :: wsM) 8 163 D cI cJ cZ ad S [.int a0] (fun r S9 => r = r1 ∧ S9 = S1) := by
  intro sz
  refine pro_in (cc := cX12_restore) (maxL := 2) (ret := (some .int)) (by exact pn_RX12) rfl (by exact Nat.le_of_ble_eq_true rfl) (fun p e s m below meth c ls hx hb hr hts hown hlocks hml hv hl => ?_)
  obtain ⟨hsz, hP, hK, hD0, hR⟩ := hv
  subst hsz
  have hD := hD0.self (sz := s.heap.size)
  generalize hAe : va_A (MW cI cJ cZ ad S) s.heap.size = A at hD ⊢
  have hA : ∀ q : Nat, s.heap.size ≤ q → A q := fun q h => by rw [← hAe]; exact Or.inr h
  have G : mG D cI cJ cZ ad A s.heap s.heap [] S := ⟨hP, hD, va_S.rf⟩
  have E : mE p c cX12_restore s m ([.ref (ad 0), .int a0] : List Value).toArray (Cond.code yX12_restore cX12_restore 2 (some .int) :: wsM) D cI cJ cZ := ⟨hx, hb, hts, hown, hK, fun w h => .tail _ (iM_x h)⟩
  have hl : lv_has ls 2 [(0, .ref (ad 0)), (1, .int a0)] := hl
  unfold fr_restore at h
  refine lv_aload_n hx hb dX12_restore_0 rfl (lv_at hl 0 rfl) ?_
  refine lv_iload_n hx hb dX12_restore_1 rfl (lv_at hl 1 rfl) ?_
  refine lv_iconst (v := 0) hx hb dX12_restore_2 (by decide) ?_
  refine lv_iconst (v := 1) hx hb dX12_restore_3 (by decide) ?_
  obtain ⟨r2, er2, h⟩ := obind_some h
  refine m_stat (As := [.int a0, .int 0, .int 1]) (rest := [.ref (ad 0)]) ⟨hx, hb, hml, hown, hts⟩ (tr_in l a0 0 1 er2) (cwS 3 hts (gmS qM_52 qM_53 qM_35 qM_27) rfl rfl rfl (by decide +kernel) ⟨Nat.le_of_ble_eq_true rfl, Nat.le_of_ble_eq_true rfl⟩) rfl hl.1 rfl (lv_room (Nat.le_of_ble_eq_true rfl)) dX12_restore_4 ⟨Nat.zero_le _, Nat.zero_le _⟩ (fun q3 hq => ?_)
  refine lv_to hq ?_
  clear hq er2
  refine lv_if_ne (tgt := 14) hx hb dX12_restore_7 (by decide) (fun c4 => ?_) (fun c4 => ?_)
  · have h := oif_neg c4 h
    refine lv_aload_n hx hb dX12_restore_14 rfl (lv_at hl 0 rfl) ?_
    refine m_get E G 18 (v := .ref (ad 18)) (by decide) (.tail _ qM_16) rfl dX12_restore_15 rfl ?_
    refine lv_iload_n hx hb dX12_restore_18 rfl (lv_at hl 1 rfl) ?_
    obtain ⟨g5, h⟩ := oif_some h
    refine m_zald E G 18 10 (n := 2) (k := a0.toNatClampNeg) rfl (inb_k g5).1 (inb_k g5).2 (by decide) dX12_restore_19 ?_
    refine lv_topi (fun v6 ev6 => ?_)
    have h := elet_at ev6 h
    clear ev6
    refine lv_if_eq (tgt := 27) hx hb dX12_restore_20 (by decide) (fun c7 => ?_) (fun c7 => ?_)
    · have h := oif_pos c7 h
      refine lv_iconst (v := 2) hx hb dX12_restore_27 (by decide) ?_
      have hl := lv_sub hl [0, 1] rfl
      exact tr_restore_b28 E hA hR hml (fun H locs ls G => W.iret (v := r1) hx hb hr (fun t ht hW => ⟨⟨r1, S1, rfl, ⟨rfl, rfl⟩, ⟨by rw [ht]; exact G.1, va_K.moved hW.alike hK, G.2.1⟩⟩, G.2.2.F ht⟩) G.2.2.2.2 dX12_restore_39) (fun H locs ls G => W.iret (v := r1) hx hb hr (fun t ht hW => ⟨⟨r1, S1, rfl, ⟨rfl, rfl⟩, ⟨by rw [ht]; exact G.1, va_K.moved hW.alike hK, G.2.1⟩⟩, G.2.2.F ht⟩) G.2.2.2.2 dX12_restore_70) _ _ _ _ _ _ h G hl
    · have h := oif_neg c7 h
      refine lv_iconst (v := 0) hx hb dX12_restore_23 (by decide) ?_
      refine lv_goto (tgt := 28) hx hb dX12_restore_24 (by decide) ?_
      have hl := lv_sub hl [0, 1] rfl
      exact tr_restore_b28 E hA hR hml (fun H locs ls G => W.iret (v := r1) hx hb hr (fun t ht hW => ⟨⟨r1, S1, rfl, ⟨rfl, rfl⟩, ⟨by rw [ht]; exact G.1, va_K.moved hW.alike hK, G.2.1⟩⟩, G.2.2.F ht⟩) G.2.2.2.2 dX12_restore_39) (fun H locs ls G => W.iret (v := r1) hx hb hr (fun t ht hW => ⟨⟨r1, S1, rfl, ⟨rfl, rfl⟩, ⟨by rw [ht]; exact G.1, va_K.moved hW.alike hK, G.2.1⟩⟩, G.2.2.F ht⟩) G.2.2.2.2 dX12_restore_70) _ _ _ _ _ _ h G hl
  · have h := oif_pos c4 h
    refine lv_iconst (v := 1) hx hb dX12_restore_10 (by decide) ?_
    refine lv_goto (tgt := 28) hx hb dX12_restore_11 (by decide) ?_
    have hl := lv_sub hl [0, 1] rfl
    exact tr_restore_b28 E hA hR hml (fun H locs ls G => W.iret (v := r1) hx hb hr (fun t ht hW => ⟨⟨r1, S1, rfl, ⟨rfl, rfl⟩, ⟨by rw [ht]; exact G.1, va_K.moved hW.alike hK, G.2.1⟩⟩, G.2.2.F ht⟩) G.2.2.2.2 dX12_restore_39) (fun H locs ls G => W.iret (v := r1) hx hb hr (fun t ht hW => ⟨⟨r1, S1, rfl, ⟨rfl, rfl⟩, ⟨by rw [ht]; exact G.1, va_K.moved hW.alike hK, G.2.1⟩⟩, G.2.2.F ht⟩) G.2.2.2.2 dX12_restore_70) _ _ _ _ _ _ h G hl
end
section
/-! 11kb.cd1.lean.txt -/
def g_X10_narrow (T : AT) (o : Nat) : Option (AT) := oif (oO T o 10 = true) <| elet (uI T o 2 1) fun T3 => some T3
set_option maxHeartbeats 4000000 in
set_option maxRecDepth 100000 in
theorem u_X10_narrow (l : Launch) (hst : l.stackTraces = false) (D : va_G) (cI cJ cZ cMic cSrc cSt cAI cAJ : ClassId) (ad : Nat → Nat) (T : AT) (o : Nat) {T1 : AT} (h : g_X10_narrow T o = some T1) : kCv l yX10_narrow (Cond.code yX10_narrow cX10_narrow 1 none :: wsA) 1 0 cI cJ cZ cMic cSrc cSt cAI cAJ D ad T [.ref (ad o)] (fun T9 => T9 = T1) := by
  intro sz
  refine pro_in (cc := cX10_narrow) (maxL := 1) (ret := none) (by exact pn_RX10) rfl (by exact Nat.le_of_ble_eq_true rfl) (fun p e s m below meth c ls hx hb hr hts hown hlocks hml hv hl => ?_)
  obtain ⟨hsz, hP, hK, hD0, hX, hN⟩ := hv
  subst hsz
  have hD := hD0.self (sz := s.heap.size)
  generalize hAe : va_A (cW ad T.1 (cc cI cJ cZ cMic cSrc cSt cAI cAJ ad T)) s.heap.size = A at hD hX ⊢
  have hA : ∀ q : Nat, s.heap.size ≤ q → A q := fun q h => by rw [← hAe]; exact Or.inr h
  have G : gC cI cJ cZ cMic cSrc cSt cAI cAJ D ad A s.heap s.heap [] T := ⟨hP, hD, va_S.rf⟩
  have E : cE p c cX10_narrow s m ([.ref (ad o)] : List Value).toArray (Cond.code yX10_narrow cX10_narrow 1 none :: wsA) D RX10 (CT cI cJ cZ cMic cSrc cSt cAI cAJ) := ⟨hx, hb, hts, hown, hK⟩
  have hl : lv_has ls 1 [(0, .ref (ad o))] := hl
  unfold g_X10_narrow at h
  refine lv_aload_n hx hb dX10_narrow_0 rfl (lv_at hl 0 rfl) ?_
  refine lv_iconst (v := 1) hx hb dX10_narrow_1 (by decide) ?_
  obtain ⟨g2, h⟩ := oif_some h
  refine c_put E G o 2 (v := .int 1) (oO_k g2).1 (cc_o10 (oO_k g2).2) rfl (fun w h => .tail _ (iA_12 h)) tyX10 tyX10_ok nmX10 (by decide) (.tail _ qA_15) ⟨rfl, rfl, rfl⟩ rfl rfl (Nat.le_of_ble_eq_true rfl) dX10_narrow_2 (fun H locs G => ?_)
  have G := gC_up_i (f := upd (T.2.2.1 o) 2 1) (by rw [(oO_k g2).2]; rfl) G
  obtain ⟨T3, eT3, h⟩ := elet_some h
  have G : gC cI cJ cZ cMic cSrc cSt cAI cAJ D ad A s.heap H locs T3 := by rw [eT3]; exact G
  clear eT3
  exact W.vret hx hb hr (fun t ht hW => ⟨⟨T3, rfl, osome1 h, ⟨by rw [ht]; exact G.1, va_K.moved hW.alike hK, G.2.1⟩⟩, G.2.2.F ht⟩) G.2.2.2.2 dX10_narrow_5
set_option maxHeartbeats 4000000 in
set_option maxRecDepth 100000 in
theorem s_X10_narrow {T : AT} {o : Nat} {T1 : AT} (h : g_X10_narrow T o = some T1) : SP T T1 := by
  have p0 := SP.rf T
  unfold g_X10_narrow at h
  obtain ⟨g2, h⟩ := oif_some h
  obtain ⟨T3, eT3, h⟩ := elet_some h
  have p1 : SP T T3 := SP.tr p0 (by rw [eT3]; exact sp_uI)
  rw [← osome1 h]
  exact p1
def g_X1_cells (T : AT) (o : Nat) : Option (Int32 × AT) := oif (oO T o 1 = true) <| elet (T.2.2.1 o 3) fun v3 => oif (oO T o 1 = true) <| elet (T.2.2.1 o 4) fun v5 => elet (v3 * v5) fun v6 => some (v6, T)
set_option maxHeartbeats 4000000 in
set_option maxRecDepth 100000 in
theorem u_X1_cells (l : Launch) (hst : l.stackTraces = false) (D : va_G) (cI cJ cZ cMic cSrc cSt cAI cAJ : ClassId) (ad : Nat → Nat) (T : AT) (o : Nat) {r1 : Int32} {T1 : AT} (h : g_X1_cells T o = some (r1, T1)) : kCi l yX1_cells (Cond.code yX1_cells cX1_cells 1 (some .int) :: wsA) 1 0 cI cJ cZ cMic cSrc cSt cAI cAJ D ad T [.ref (ad o)] (fun r T9 => r = r1 ∧ T9 = T1) := by
  intro sz
  refine pro_in (cc := cX1_cells) (maxL := 1) (ret := (some .int)) (by exact pn_RX1) rfl (by exact Nat.le_of_ble_eq_true rfl) (fun p e s m below meth c ls hx hb hr hts hown hlocks hml hv hl => ?_)
  obtain ⟨hsz, hP, hK, hD0, hX, hN⟩ := hv
  subst hsz
  have hD := hD0.self (sz := s.heap.size)
  generalize hAe : va_A (cW ad T.1 (cc cI cJ cZ cMic cSrc cSt cAI cAJ ad T)) s.heap.size = A at hD hX ⊢
  have hA : ∀ q : Nat, s.heap.size ≤ q → A q := fun q h => by rw [← hAe]; exact Or.inr h
  have G : gC cI cJ cZ cMic cSrc cSt cAI cAJ D ad A s.heap s.heap [] T := ⟨hP, hD, va_S.rf⟩
  have E : cE p c cX1_cells s m ([.ref (ad o)] : List Value).toArray (Cond.code yX1_cells cX1_cells 1 (some .int) :: wsA) D RX1 (CT cI cJ cZ cMic cSrc cSt cAI cAJ) := ⟨hx, hb, hts, hown, hK⟩
  have hl : lv_has ls 1 [(0, .ref (ad o))] := hl
  unfold g_X1_cells at h
  refine lv_aload_n hx hb dX1_cells_0 rfl (lv_at hl 0 rfl) ?_
  obtain ⟨g2, h⟩ := oif_some h
  refine c_get E G o 3 (oO_k g2).1 (cc_o1 (oO_k g2).2) rfl (fun w h => .tail _ (iA_15 h)) (by decide) (.tail _ qA_39) rfl rfl dX1_cells_1 ?_
  refine lv_topi (fun v3 ev3 => ?_)
  have h := elet_at ev3 h
  clear ev3
  refine lv_aload_n hx hb dX1_cells_4 rfl (lv_at hl 0 rfl) ?_
  obtain ⟨g4, h⟩ := oif_some h
  refine c_get E G o 4 (oO_k g4).1 (cc_o1 (oO_k g4).2) rfl (fun w h => .tail _ (iA_15 h)) (by decide) (.tail _ qA_40) rfl rfl dX1_cells_5 ?_
  refine lv_topi (fun v5 ev5 => ?_)
  have h := elet_at ev5 h
  clear ev5
  refine lv_imul hx hb dX1_cells_8 ?_
  refine lv_topi (fun v6 ev6 => ?_)
  have h := elet_at ev6 h
  clear ev6
  exact W.iret (v := v6) hx hb hr (fun t ht hW => ⟨⟨v6, T, rfl, osome2 h, ⟨by rw [ht]; exact G.1, va_K.moved hW.alike hK, G.2.1⟩⟩, G.2.2.F ht⟩) G.2.2.2.2 dX1_cells_9
set_option maxHeartbeats 4000000 in
set_option maxRecDepth 100000 in
theorem s_X1_cells {T : AT} {o : Nat} {r1 : Int32} {T1 : AT} (h : g_X1_cells T o = some (r1, T1)) : SP T T1 := by
  have p0 := SP.rf T
  unfold g_X1_cells at h
  obtain ⟨g2, h⟩ := oif_some h
  obtain ⟨v3, -, h⟩ := elet_some h
  obtain ⟨g4, h⟩ := oif_some h
  obtain ⟨v5, -, h⟩ := elet_some h
  obtain ⟨v6, -, h⟩ := elet_some h
  rw [← (osome2 h).2]
  exact p0
def g_X0_rowStart  (a0 : Int32) : Option (Int32) := elet (a0 * 144) fun v2 => some v2
set_option maxHeartbeats 4000000 in
set_option maxRecDepth 100000 in
theorem u_X0_rowStart (l : Launch) (a0 : Int32) {r1 : Int32} (h : g_X0_rowStart a0 = some r1) : Met l yX0_rowStart (Cond.code yX0_rowStart cX0_rowStart 1 (some .int) :: wsA) { frames := 1, cells := 0, slots := 0, locals := 0 } (va_Pc [.int a0] nX) (vp_Si (fun r => r = r1)) 0 0 (fun _ => False) := by
  refine pro_in (cc := cX0_rowStart) (maxL := 1) (ret := (some .int)) (by exact pn_RX0) rfl (by exact Nat.le_of_ble_eq_true rfl) (fun p e s m below meth c ls hx hb hr hts hown hlocks hml hv hl => ?_)
  have hN := hv
  have E : p.tables.exec = Jvm.exec ∧ c.code = cX0_rowStart ∧ (∀ w ∈ (Cond.code yX0_rowStart cX0_rowStart 1 (some .int) :: wsA), w.before ([.int a0] : List Value).toArray s = true) ∧ s.vm.findClass RX0 = some m.cls := ⟨hx, hb, hts, hown⟩
  have hl : lv_has ls 1 [(0, .int a0)] := hl
  unfold g_X0_rowStart at h
  refine lv_iload_n hx hb dX0_rowStart_0 rfl (lv_at hl 0 rfl) ?_
  refine lv_sipush (v := 144) hx hb dX0_rowStart_1 (by decide) ?_
  refine lv_imul hx hb dX0_rowStart_4 ?_
  refine lv_topi (fun v2 ev2 => ?_)
  have h := elet_at ev2 h
  clear ev2
  exact W.iret (v := v2) hx hb hr (fun t ht hW => ⟨v2, rfl, osome1 h, ht⟩) (fun _ h => absurd h List.not_mem_nil) dX0_rowStart_5
def g_X8_greatestDelay_b29 (k4 : AT → Nat → Nat → Int32 → Int32 → Option (Int32 × AT)) (T : AT) (l0 : Nat) (l1 : Nat) (l2 : Int32) (l3 : Int32) : Option (Int32 × AT) := elet (l3 + Int32.ofInt (1)) fun v2 => k4 T l0 l1 l2 v2
set_option maxHeartbeats 4000000 in
set_option maxRecDepth 100000 in
theorem u_X8_greatestDelay_b29 {p : Program} {l : Launch} {e : Env} {s : State} {m : MethodId} {args : Array Value} {below : List Frame} {meth : Method} {c : Code} {Q : State → Prop} {D : va_G} {A : Nat → Prop} {cI cJ cZ cMic cSrc cSt cAI cAJ : ClassId} {ad : Nat → Nat} {r1 : Int32} {T1 : AT} (E : cE p c cX8_greatestDelay s m args (Cond.code yX8_greatestDelay cX8_greatestDelay 4 (some .int) :: wsA) D RX8 (CT cI cJ cZ cMic cSrc cSt cAI cAJ)) (hA : ∀ q : Nat, s.heap.size ≤ q → A q) (hX : xT A s) (hN : nX s) (hml : c.maxLocals = 4) (hst : l.stackTraces = false) (kr36 : ∀ (H : Heap) (locs : List Loc) (ls : Array Slot), gC cI cJ cZ cMic cSrc cSt cAI cAJ D ad A s.heap H locs T1 → W p l e { frames := 1, cells := 0, slots := 0, locals := 15 } s m args below meth c H locs 0 0 Q (F0 m 36 ls [.int r1])) {k4 : AT → Nat → Nat → Int32 → Int32 → Option (Int32 × AT)} (hk4 : ∀ (T : AT) (H : Heap) (locs : List Loc) (ls : Array Slot) (l0 : Nat) (l1 : Nat) (l2 : Int32) (l3 : Int32), k4 T l0 l1 l2 l3 = some (r1, T1) → gC cI cJ cZ cMic cSrc cSt cAI cAJ D ad A s.heap H locs T → lv_has ls 4 [(0, .ref (ad l0)), (1, .ref (ad l1)), (2, .int l2), (3, .int l3)] → W p l e { frames := 1, cells := 0, slots := 0, locals := 15 } s m args below meth c H locs 0 0 Q (F0 m 4 ls [])) : ∀ (T : AT) (H : Heap) (locs : List Loc) (ls : Array Slot) (l0 : Nat) (l1 : Nat) (l2 : Int32) (l3 : Int32), g_X8_greatestDelay_b29 k4 T l0 l1 l2 l3 = some (r1, T1) → gC cI cJ cZ cMic cSrc cSt cAI cAJ D ad A s.heap H locs T → lv_has ls 4 [(0, .ref (ad l0)), (1, .ref (ad l1)), (2, .int l2), (3, .int l3)] → W p l e { frames := 1, cells := 0, slots := 0, locals := 15 } s m args below meth c H locs 0 0 Q (F0 m 29 ls []) := by
  have hx := E.1
  have hb := E.2.1
  have hts := E.2.2.1
  have hown := E.2.2.2.1
  have hK := E.2.2.2.2
  intro T H locs ls l0 l1 l2 l3 h G hl
  unfold g_X8_greatestDelay_b29 at h
  obtain ⟨v2, ev2, h⟩ := elet_some h
  refine lv_iinc (v := v2) (lv' := [(3, .int v2), (0, .ref (ad l0)), (1, .ref (ad l1)), (2, .int l2)]) hx hb dX8_greatestDelay_29 hl (k := 3) rfl ev2.symm (by decide) rfl (fun ls hl => ?_)
  refine lv_goto (tgt := 4) hx hb dX8_greatestDelay_32 (by decide) ?_
  have hl := lv_sub hl [1, 2, 3, 0] rfl
  exact hk4 _ _ _ _ _ _ _ _ h G hl
def g_X8_greatestDelay_b4  : Nat → AT → Nat → Nat → Int32 → Int32 → Option (Int32 × AT)
  | 0, _, _, _, _, _ => none
  | n + 1, T, l0, l1, l2, l3 => oif (oO T l0 8 = true) <| elet (T.2.2.1 l0 0) fun v3 => if v3 ≤ l3 then (some (l2, T)) else (oif (oO T l0 8 = true) <| obind (T.2.2.2.2 l0 3) fun n6 => oif (aA T n6 102 = true) <| oif (inb l3 (T.2.1 n6).2 = true) <| elet (T.2.2.1 n6 l3.toNatClampNeg) fun v9 => if v9 = 0 then (oif (aA T l1 100 = true) <| oif (inb l3 (T.2.1 l1).2 = true) <| elet (T.2.2.1 l1 l3.toNatClampNeg) fun v13 => elet (if l2 < v13 then v13 else l2) fun v14 => g_X8_greatestDelay_b29 (g_X8_greatestDelay_b4 n) T l0 l1 v14 l3) else (g_X8_greatestDelay_b29 (g_X8_greatestDelay_b4 n) T l0 l1 l2 l3))
set_option maxHeartbeats 4000000 in
set_option maxRecDepth 100000 in
theorem u_X8_greatestDelay_b4 {p : Program} {l : Launch} {e : Env} {s : State} {m : MethodId} {args : Array Value} {below : List Frame} {meth : Method} {c : Code} {Q : State → Prop} {D : va_G} {A : Nat → Prop} {cI cJ cZ cMic cSrc cSt cAI cAJ : ClassId} {ad : Nat → Nat} {r1 : Int32} {T1 : AT} (E : cE p c cX8_greatestDelay s m args (Cond.code yX8_greatestDelay cX8_greatestDelay 4 (some .int) :: wsA) D RX8 (CT cI cJ cZ cMic cSrc cSt cAI cAJ)) (hA : ∀ q : Nat, s.heap.size ≤ q → A q) (hX : xT A s) (hN : nX s) (hml : c.maxLocals = 4) (hst : l.stackTraces = false) (kr36 : ∀ (H : Heap) (locs : List Loc) (ls : Array Slot), gC cI cJ cZ cMic cSrc cSt cAI cAJ D ad A s.heap H locs T1 → W p l e { frames := 1, cells := 0, slots := 0, locals := 15 } s m args below meth c H locs 0 0 Q (F0 m 36 ls [.int r1])) : ∀ n : Nat, ∀ (T : AT) (H : Heap) (locs : List Loc) (ls : Array Slot) (l0 : Nat) (l1 : Nat) (l2 : Int32) (l3 : Int32), g_X8_greatestDelay_b4 n T l0 l1 l2 l3 = some (r1, T1) → gC cI cJ cZ cMic cSrc cSt cAI cAJ D ad A s.heap H locs T → lv_has ls 4 [(0, .ref (ad l0)), (1, .ref (ad l1)), (2, .int l2), (3, .int l3)] → W p l e { frames := 1, cells := 0, slots := 0, locals := 15 } s m args below meth c H locs 0 0 Q (F0 m 4 ls []) := by
  have hx := E.1
  have hb := E.2.1
  have hts := E.2.2.1
  have hown := E.2.2.2.1
  have hK := E.2.2.2.2
  intro n
  induction n with
  | zero =>
    intro T H locs ls l0 l1 l2 l3 h
    have h : (none : Option (Int32 × AT)) = some (r1, T1) := h
    cases h
  | succ n ih =>
    intro T H locs ls l0 l1 l2 l3 h G hl
    unfold g_X8_greatestDelay_b4 at h
    refine lv_iload_n hx hb dX8_greatestDelay_4 rfl (lv_at hl 3 rfl) ?_
    refine lv_aload_n hx hb dX8_greatestDelay_5 rfl (lv_at hl 0 rfl) ?_
    obtain ⟨g2, h⟩ := oif_some h
    refine c_get E G l0 0 (oO_k g2).1 (cc_o8 (oO_k g2).2) rfl (fun w h => .tail _ (iA_16 h)) (by decide) (.tail _ qA_63) rfl rfl dX8_greatestDelay_6 ?_
    refine lv_topi (fun v3 ev3 => ?_)
    have h := elet_at ev3 h
    clear ev3
    refine lv_icmp_ge (tgt := 35) hx hb dX8_greatestDelay_9 (by decide) (fun c4 => ?_) (fun c4 => ?_)
    · have h := oif_pos c4 h
      refine lv_iload_n hx hb dX8_greatestDelay_35 rfl (lv_at hl 2 rfl) ?_
      rw [(osome2 h).2] at G
      refine lv_to (osome2 h).1 ?_
      exact kr36 _ _ _ G
    · have h := oif_neg c4 h
      refine lv_aload_n hx hb dX8_greatestDelay_12 rfl (lv_at hl 0 rfl) ?_
      obtain ⟨g5, h⟩ := oif_some h
      obtain ⟨n6, en6, h⟩ := obind_some h
      refine c_get E G l0 3 (v := .ref (ad n6)) (oO_k g5).1 (cc_o8 (oO_k g5).2) rfl (fun w h => .tail _ (iA_16 h)) (by decide) (.tail _ qA_64) rfl (by rw [en6]; rfl) dX8_greatestDelay_13 ?_
      clear en6
      refine lv_iload_n hx hb dX8_greatestDelay_16 rfl (lv_at hl 3 rfl) ?_
      obtain ⟨g7, h⟩ := oif_some h
      obtain ⟨g8, h⟩ := oif_some h
      refine c_zald E G n6 2 (k := l3.toNatClampNeg) (aA_k g7).1 (cc_a102 (aA_k g7).2.1) rfl (inb_k g8).1 (inb_k g8).2 (aA_k g7).2.2 dX8_greatestDelay_17 ?_
      refine lv_topi (fun v9 ev9 => ?_)
      have h := elet_at ev9 h
      clear ev9
      refine lv_if_ne (tgt := 29) hx hb dX8_greatestDelay_18 (by decide) (fun c10 => ?_) (fun c10 => ?_)
      · have h := oif_neg c10 h
        have hl := lv_sub hl [0, 1, 2, 3] rfl
        exact u_X8_greatestDelay_b29 E hA hX hN hml hst kr36 ih _ _ _ _ _ _ _ _ h G hl
      · have h := oif_pos c10 h
        refine lv_iload_n hx hb dX8_greatestDelay_21 rfl (lv_at hl 2 rfl) ?_
        refine lv_aload_n hx hb dX8_greatestDelay_22 rfl (lv_at hl 1 rfl) ?_
        refine lv_iload_n hx hb dX8_greatestDelay_23 rfl (lv_at hl 3 rfl) ?_
        obtain ⟨g11, h⟩ := oif_some h
        obtain ⟨g12, h⟩ := oif_some h
        refine c_iald E G l1 0 (k := l3.toNatClampNeg) (aA_k g11).1 (cc_a100 (aA_k g11).2.1) rfl (inb_k g12).1 (inb_k g12).2 (aA_k g11).2.2 dX8_greatestDelay_24 ?_
        refine lv_topi (fun v13 ev13 => ?_)
        have h := elet_at ev13 h
        clear ev13
        refine va_mmax hx hb (hml.trans hl.1.symm) hown (hts _ (.tail _ qA_58)) (hts _ (.tail _ qA_17)) (hts _ (.tail _ qA_18)) (hts _ (.tail _ qA_19)) (Nat.le_of_ble_eq_true rfl) (Nat.le_of_ble_eq_true rfl) (Nat.zero_le _) (Nat.zero_le _) dX8_greatestDelay_25 ?_
        refine lv_topi (fun v14 ev14 => ?_)
        have h := elet_at ev14 h
        clear ev14
        refine lv_istore_n (lv' := [(2, .int v14), (0, .ref (ad l0)), (1, .ref (ad l1)), (3, .int l3)]) hx hb dX8_greatestDelay_28 rfl hl (by decide) rfl (fun ls hl => ?_)
        have hl := lv_sub hl [1, 2, 0, 3] rfl
        exact u_X8_greatestDelay_b29 E hA hX hN hml hst kr36 ih _ _ _ _ _ _ _ _ h G hl
def g_X8_greatestDelay (T : AT) (o : Nat) (a0 : Nat) : Option (Int32 × AT) := g_X8_greatestDelay_b4 16384 T o a0 0 0
set_option maxHeartbeats 4000000 in
set_option maxRecDepth 100000 in
theorem u_X8_greatestDelay (l : Launch) (hst : l.stackTraces = false) (D : va_G) (cI cJ cZ cMic cSrc cSt cAI cAJ : ClassId) (ad : Nat → Nat) (T : AT) (o : Nat) (a0 : Nat) {r1 : Int32} {T1 : AT} (h : g_X8_greatestDelay T o a0 = some (r1, T1)) : kCi l yX8_greatestDelay (Cond.code yX8_greatestDelay cX8_greatestDelay 4 (some .int) :: wsA) 1 15 cI cJ cZ cMic cSrc cSt cAI cAJ D ad T [.ref (ad o), .ref (ad a0)] (fun r T9 => r = r1 ∧ T9 = T1) := by
  intro sz
  refine pro_in (cc := cX8_greatestDelay) (maxL := 4) (ret := (some .int)) (by exact pn_RX8) rfl (by exact Nat.le_of_ble_eq_true rfl) (fun p e s m below meth c ls hx hb hr hts hown hlocks hml hv hl => ?_)
  obtain ⟨hsz, hP, hK, hD0, hX, hN⟩ := hv
  subst hsz
  have hD := hD0.self (sz := s.heap.size)
  generalize hAe : va_A (cW ad T.1 (cc cI cJ cZ cMic cSrc cSt cAI cAJ ad T)) s.heap.size = A at hD hX ⊢
  have hA : ∀ q : Nat, s.heap.size ≤ q → A q := fun q h => by rw [← hAe]; exact Or.inr h
  have G : gC cI cJ cZ cMic cSrc cSt cAI cAJ D ad A s.heap s.heap [] T := ⟨hP, hD, va_S.rf⟩
  have E : cE p c cX8_greatestDelay s m ([.ref (ad o), .ref (ad a0)] : List Value).toArray (Cond.code yX8_greatestDelay cX8_greatestDelay 4 (some .int) :: wsA) D RX8 (CT cI cJ cZ cMic cSrc cSt cAI cAJ) := ⟨hx, hb, hts, hown, hK⟩
  have hl : lv_has ls 4 [(0, .ref (ad o)), (1, .ref (ad a0))] := hl
  unfold g_X8_greatestDelay at h
  refine lv_iconst (v := 0) hx hb dX8_greatestDelay_0 (by decide) ?_
  refine lv_istore_n (lv' := [(2, .int 0), (0, .ref (ad o)), (1, .ref (ad a0))]) hx hb dX8_greatestDelay_1 rfl hl (by decide) rfl (fun ls hl => ?_)
  refine lv_iconst (v := 0) hx hb dX8_greatestDelay_2 (by decide) ?_
  refine lv_istore_n (lv' := [(3, .int 0), (2, .int 0), (0, .ref (ad o)), (1, .ref (ad a0))]) hx hb dX8_greatestDelay_3 rfl hl (by decide) rfl (fun ls hl => ?_)
  have hl := lv_sub hl [2, 3, 1, 0] rfl
  exact u_X8_greatestDelay_b4 E hA hX hN hml hst (fun H locs ls G => W.iret (v := r1) hx hb hr (fun t ht hW => ⟨⟨r1, T1, rfl, ⟨rfl, rfl⟩, ⟨by rw [ht]; exact G.1, va_K.moved hW.alike hK, G.2.1⟩⟩, G.2.2.F ht⟩) G.2.2.2.2 dX8_greatestDelay_36) _ _ _ _ _ _ _ _ _ h G hl
set_option maxHeartbeats 4000000 in
set_option maxRecDepth 100000 in
theorem s_X8_greatestDelay_b29 {r1 : Int32} {T1 : AT} {k4 : AT → Nat → Nat → Int32 → Int32 → Option (Int32 × AT)} (hk4 : ∀ (T : AT) (l0 : Nat) (l1 : Nat) (l2 : Int32) (l3 : Int32), k4 T l0 l1 l2 l3 = some (r1, T1) → SP T T1) : ∀ (T : AT) (l0 : Nat) (l1 : Nat) (l2 : Int32) (l3 : Int32), g_X8_greatestDelay_b29 k4 T l0 l1 l2 l3 = some (r1, T1) → SP T T1 := by
  intro T l0 l1 l2 l3 h
  have p0 := SP.rf T
  unfold g_X8_greatestDelay_b29 at h
  obtain ⟨v2, ev2, h⟩ := elet_some h
  exact SP.tr p0 (hk4 _ _ _ _ _ h)
set_option maxHeartbeats 4000000 in
set_option maxRecDepth 100000 in
theorem s_X8_greatestDelay_b4 {r1 : Int32} {T1 : AT} : ∀ n : Nat, ∀ (T : AT) (l0 : Nat) (l1 : Nat) (l2 : Int32) (l3 : Int32), g_X8_greatestDelay_b4 n T l0 l1 l2 l3 = some (r1, T1) → SP T T1 := by
  intro n
  induction n with
  | zero =>
    intro T l0 l1 l2 l3 h
    have h : (none : Option (Int32 × AT)) = some (r1, T1) := h
    cases h
  | succ n ih =>
    intro T l0 l1 l2 l3 h
    have p0 := SP.rf T
    unfold g_X8_greatestDelay_b4 at h
    obtain ⟨g2, h⟩ := oif_some h
    obtain ⟨v3, -, h⟩ := elet_some h
    rcases oif_or h with ⟨c4, h⟩ | ⟨c4, h⟩
    · have h := h
      rw [← (osome2 h).2]
      exact p0
    · have h := h
      obtain ⟨g5, h⟩ := oif_some h
      obtain ⟨n6, en6, h⟩ := obind_some h
      obtain ⟨g7, h⟩ := oif_some h
      obtain ⟨g8, h⟩ := oif_some h
      obtain ⟨v9, -, h⟩ := elet_some h
      rcases oif_or h with ⟨c10, h⟩ | ⟨c10, h⟩
      · have h := h
        obtain ⟨g11, h⟩ := oif_some h
        obtain ⟨g12, h⟩ := oif_some h
        obtain ⟨v13, -, h⟩ := elet_some h
        obtain ⟨v14, -, h⟩ := elet_some h
        exact SP.tr p0 (s_X8_greatestDelay_b29 ih _ _ _ _ _ h)
      · have h := h
        exact SP.tr p0 (s_X8_greatestDelay_b29 ih _ _ _ _ _ h)
set_option maxHeartbeats 4000000 in
set_option maxRecDepth 100000 in
theorem s_X8_greatestDelay {T : AT} {o : Nat} {a0 : Nat} {r1 : Int32} {T1 : AT} (h : g_X8_greatestDelay T o a0 = some (r1, T1)) : SP T T1 := by
  have p0 := SP.rf T
  unfold g_X8_greatestDelay at h
  exact SP.tr p0 (s_X8_greatestDelay_b4 _ _ _ _ _ _ h)
def g_X8_windowOf (T : AT) (o : Nat) (a0 : Nat) : Option (Int32 × AT) := oif (oO T o 8 = true) <| elet (T.2.2.1 o 1) fun v3 => oif (oO T o 8 = true) <| obind2 (g_X8_greatestDelay T o a0) fun r7 T5 => elet (v3 - r7) fun v9 => elet (if v9 < 0 then 0 else v9) fun v10 => some (v10, T5)
set_option maxHeartbeats 4000000 in
set_option maxRecDepth 100000 in
theorem u_X8_windowOf (l : Launch) (hst : l.stackTraces = false) (D : va_G) (cI cJ cZ cMic cSrc cSt cAI cAJ : ClassId) (ad : Nat → Nat) (T : AT) (o : Nat) (a0 : Nat) {r1 : Int32} {T1 : AT} (h : g_X8_windowOf T o a0 = some (r1, T1)) : kCi l yX8_windowOf (Cond.code yX8_windowOf cX8_windowOf 2 (some .int) :: wsA) 2 38 cI cJ cZ cMic cSrc cSt cAI cAJ D ad T [.ref (ad o), .ref (ad a0)] (fun r T9 => r = r1 ∧ T9 = T1) := by
  intro sz
  refine pro_in (cc := cX8_windowOf) (maxL := 2) (ret := (some .int)) (by exact pn_RX8) rfl (by exact Nat.le_of_ble_eq_true rfl) (fun p e s m below meth c ls hx hb hr hts hown hlocks hml hv hl => ?_)
  obtain ⟨hsz, hP, hK, hD0, hX, hN⟩ := hv
  subst hsz
  have hD := hD0.self (sz := s.heap.size)
  generalize hAe : va_A (cW ad T.1 (cc cI cJ cZ cMic cSrc cSt cAI cAJ ad T)) s.heap.size = A at hD hX ⊢
  have hA : ∀ q : Nat, s.heap.size ≤ q → A q := fun q h => by rw [← hAe]; exact Or.inr h
  have G : gC cI cJ cZ cMic cSrc cSt cAI cAJ D ad A s.heap s.heap [] T := ⟨hP, hD, va_S.rf⟩
  have E : cE p c cX8_windowOf s m ([.ref (ad o), .ref (ad a0)] : List Value).toArray (Cond.code yX8_windowOf cX8_windowOf 2 (some .int) :: wsA) D RX8 (CT cI cJ cZ cMic cSrc cSt cAI cAJ) := ⟨hx, hb, hts, hown, hK⟩
  have hl : lv_has ls 2 [(0, .ref (ad o)), (1, .ref (ad a0))] := hl
  unfold g_X8_windowOf at h
  refine lv_aload_n hx hb dX8_windowOf_0 rfl (lv_at hl 0 rfl) ?_
  obtain ⟨g2, h⟩ := oif_some h
  refine c_get E G o 1 (oO_k g2).1 (cc_o8 (oO_k g2).2) rfl (fun w h => .tail _ (iA_16 h)) (by decide) (.tail _ qA_57) rfl rfl dX8_windowOf_1 ?_
  refine lv_topi (fun v3 ev3 => ?_)
  have h := elet_at ev3 h
  clear ev3
  refine lv_aload_n hx hb dX8_windowOf_4 rfl (lv_at hl 0 rfl) ?_
  refine lv_aload_n hx hb dX8_windowOf_5 rfl (lv_at hl 1 rfl) ?_
  obtain ⟨g4, h⟩ := oif_some h
  obtain ⟨r7, T5, eT5, h⟩ := obind2_some h
  refine q_cvi (As := [.ref (ad a0)]) (rest := [.int v3]) E G hA hX hN hml (u_X8_greatestDelay l hst D cI cJ cZ cMic cSrc cSt cAI cAJ ad T o a0 eT5) (cwV 1 hts (gaV qA_59 qA_60 qA_61 qA_47 qA_62) rfl rfl rfl (by decide +kernel) ⟨Nat.le_of_ble_eq_true rfl, Nat.le_of_ble_eq_true rfl⟩) (oO_k g4).1 (cc_o8 (oO_k g4).2) rfl rfl hl.1 rfl (lv_room (Nat.le_of_ble_eq_true rfl)) dX8_windowOf_6 ⟨Nat.zero_le _, Nat.zero_le _⟩ (fun q8 T6 H locs hq G => ?_)
  obtain ⟨hq1, hq2⟩ := hq
  rw [hq2] at G
  refine lv_to hq1 ?_
  clear hq1 hq2 eT5
  refine lv_isub hx hb dX8_windowOf_9 ?_
  refine lv_topi (fun v9 ev9 => ?_)
  have h := elet_at ev9 h
  clear ev9
  refine lv_iconst (v := 0) hx hb dX8_windowOf_10 (by decide) ?_
  refine va_mmax hx hb (hml.trans hl.1.symm) hown (hts _ (.tail _ qA_58)) (hts _ (.tail _ qA_17)) (hts _ (.tail _ qA_18)) (hts _ (.tail _ qA_19)) (Nat.le_of_ble_eq_true rfl) (Nat.le_of_ble_eq_true rfl) (Nat.zero_le _) (Nat.zero_le _) dX8_windowOf_11 ?_
  refine lv_topi (fun v10 ev10 => ?_)
  have h := elet_at ev10 h
  clear ev10
  exact W.iret (v := v10) hx hb hr (fun t ht hW => ⟨⟨v10, T5, rfl, osome2 h, ⟨by rw [ht]; exact G.1, va_K.moved hW.alike hK, G.2.1⟩⟩, G.2.2.F ht⟩) G.2.2.2.2 dX8_windowOf_14
set_option maxHeartbeats 4000000 in
set_option maxRecDepth 100000 in
theorem s_X8_windowOf {T : AT} {o : Nat} {a0 : Nat} {r1 : Int32} {T1 : AT} (h : g_X8_windowOf T o a0 = some (r1, T1)) : SP T T1 := by
  have p0 := SP.rf T
  unfold g_X8_windowOf at h
  obtain ⟨g2, h⟩ := oif_some h
  obtain ⟨v3, -, h⟩ := elet_some h
  obtain ⟨g4, h⟩ := oif_some h
  obtain ⟨r6, T5, eT5, h⟩ := obind2_some h
  have p1 : SP T T5 := SP.tr p0 (s_X8_greatestDelay eT5)
  obtain ⟨v7, -, h⟩ := elet_some h
  obtain ⟨v8, -, h⟩ := elet_some h
  rw [← (osome2 h).2]
  exact p1
def g_X10_clear_b2  : Nat → AT → Nat → Int32 → Int32 → Option (AT)
  | 0, _, _, _, _ => none
  | n + 1, T, l0, l1, l2 => oif (oO T l0 10 = true) <| elet (T.2.2.1 l0 2) fun v3 => if v3 ≤ l2 then (some T) else (oif (oO T l0 10 = true) <| obind (T.2.2.2.2 l0 1) fun n6 => oif (aA T n6 107 = true) <| oif (inb l2 (T.2.1 n6).2 = true) <| obind (T.2.2.2.2 n6 l2.toNatClampNeg) fun n9 => oif (aA T n9 101 = true) <| oif (inb l1 (T.2.1 n9).2 = true) <| elet (uJ T n9 l1.toNatClampNeg (0 : Int64)) fun T12 => elet (l2 + Int32.ofInt (1)) fun v13 => g_X10_clear_b2 n T12 l0 l1 v13)
set_option maxHeartbeats 4000000 in
set_option maxRecDepth 100000 in
theorem u_X10_clear_b2 {p : Program} {l : Launch} {e : Env} {s : State} {m : MethodId} {args : Array Value} {below : List Frame} {meth : Method} {c : Code} {Q : State → Prop} {D : va_G} {A : Nat → Prop} {cI cJ cZ cMic cSrc cSt cAI cAJ : ClassId} {ad : Nat → Nat} {T1 : AT} (E : cE p c cX10_clear s m args (Cond.code yX10_clear cX10_clear 3 none :: wsA) D RX10 (CT cI cJ cZ cMic cSrc cSt cAI cAJ)) (hA : ∀ q : Nat, s.heap.size ≤ q → A q) (hX : xT A s) (hN : nX s) (hml : c.maxLocals = 3) (hst : l.stackTraces = false) (kr25 : ∀ (H : Heap) (locs : List Loc) (ls : Array Slot), gC cI cJ cZ cMic cSrc cSt cAI cAJ D ad A s.heap H locs T1 → W p l e { frames := 1, cells := 0, slots := 0, locals := 0 } s m args below meth c H locs 0 0 Q (F0 m 25 ls [])) : ∀ n : Nat, ∀ (T : AT) (H : Heap) (locs : List Loc) (ls : Array Slot) (l0 : Nat) (l1 : Int32) (l2 : Int32), g_X10_clear_b2 n T l0 l1 l2 = some T1 → gC cI cJ cZ cMic cSrc cSt cAI cAJ D ad A s.heap H locs T → lv_has ls 3 [(0, .ref (ad l0)), (1, .int l1), (2, .int l2)] → W p l e { frames := 1, cells := 0, slots := 0, locals := 0 } s m args below meth c H locs 0 0 Q (F0 m 2 ls []) := by
  have hx := E.1
  have hb := E.2.1
  have hts := E.2.2.1
  have hown := E.2.2.2.1
  have hK := E.2.2.2.2
  intro n
  induction n with
  | zero =>
    intro T H locs ls l0 l1 l2 h
    have h : (none : Option (AT)) = some T1 := h
    cases h
  | succ n ih =>
    intro T H locs ls l0 l1 l2 h G hl
    unfold g_X10_clear_b2 at h
    refine lv_iload_n hx hb dX10_clear_2 rfl (lv_at hl 2 rfl) ?_
    refine lv_aload_n hx hb dX10_clear_3 rfl (lv_at hl 0 rfl) ?_
    obtain ⟨g2, h⟩ := oif_some h
    refine c_get E G l0 2 (oO_k g2).1 (cc_o10 (oO_k g2).2) rfl (fun w h => .tail _ (iA_12 h)) (by decide) (.tail _ qA_15) rfl rfl dX10_clear_4 ?_
    refine lv_topi (fun v3 ev3 => ?_)
    have h := elet_at ev3 h
    clear ev3
    refine lv_icmp_ge (tgt := 25) hx hb dX10_clear_7 (by decide) (fun c4 => ?_) (fun c4 => ?_)
    · have h := oif_pos c4 h
      rw [osome1 h] at G
      exact kr25 _ _ _ G
    · have h := oif_neg c4 h
      refine lv_aload_n hx hb dX10_clear_10 rfl (lv_at hl 0 rfl) ?_
      obtain ⟨g5, h⟩ := oif_some h
      obtain ⟨n6, en6, h⟩ := obind_some h
      refine c_get E G l0 1 (v := .ref (ad n6)) (oO_k g5).1 (cc_o10 (oO_k g5).2) rfl (fun w h => .tail _ (iA_12 h)) (by decide) (.tail _ qA_14) rfl (by rw [en6]; rfl) dX10_clear_11 ?_
      clear en6
      refine lv_iload_n hx hb dX10_clear_14 rfl (lv_at hl 2 rfl) ?_
      obtain ⟨g7, h⟩ := oif_some h
      obtain ⟨g8, h⟩ := oif_some h
      obtain ⟨n9, en9, h⟩ := obind_some h
      refine c_alda E G n6 7 (k := l2.toNatClampNeg) (v := .ref (ad n9)) (aA_k g7).1 (cc_a107 (aA_k g7).2.1) rfl (inb_k g8).1 (inb_k g8).2 (aA_k g7).2.2 (by show va_rf ((T.2.2.2.2 n6 l2.toNatClampNeg).map ad) = _; rw [en9]; rfl) dX10_clear_15 ?_
      clear en9
      refine lv_iload_n hx hb dX10_clear_16 rfl (lv_at hl 1 rfl) ?_
      refine lv_lconst (v := 0) hx hb dX10_clear_17 (by decide) ?_
      obtain ⟨g10, h⟩ := oif_some h
      obtain ⟨g11, h⟩ := oif_some h
      refine c_last E G n9 1 (k := l1.toNatClampNeg) (v := (0 : Int64)) (aA_k g10).1 (cc_a101 (aA_k g10).2.1) rfl (inb_k g11).1 (inb_k g11).2 (aA_k g10).2.2 dX10_clear_18 (fun H locs G => ?_)
      have G := gC_up_j (f := vp_updL (T.2.2.2.1 n9) l1.toNatClampNeg (0 : Int64)) (ccv_101 (aA_k g10).2.1) G
      obtain ⟨T12, eT12, h⟩ := elet_some h
      have G : gC cI cJ cZ cMic cSrc cSt cAI cAJ D ad A s.heap H locs T12 := by rw [eT12]; exact G
      clear eT12
      obtain ⟨v13, ev13, h⟩ := elet_some h
      refine lv_iinc (v := v13) (lv' := [(2, .int v13), (0, .ref (ad l0)), (1, .int l1)]) hx hb dX10_clear_19 hl (k := 2) rfl ev13.symm (by decide) rfl (fun ls hl => ?_)
      refine lv_goto (tgt := 2) hx hb dX10_clear_22 (by decide) ?_
      have hl := lv_sub hl [1, 2, 0] rfl
      exact ih _ _ _ _ _ _ _ h G hl
def g_X10_clear (T : AT) (o : Nat) (a0 : Int32) : Option (AT) := g_X10_clear_b2 16384 T o a0 0
set_option maxHeartbeats 4000000 in
set_option maxRecDepth 100000 in
theorem u_X10_clear (l : Launch) (hst : l.stackTraces = false) (D : va_G) (cI cJ cZ cMic cSrc cSt cAI cAJ : ClassId) (ad : Nat → Nat) (T : AT) (o : Nat) (a0 : Int32) {T1 : AT} (h : g_X10_clear T o a0 = some T1) : kCv l yX10_clear (Cond.code yX10_clear cX10_clear 3 none :: wsA) 1 0 cI cJ cZ cMic cSrc cSt cAI cAJ D ad T [.ref (ad o), .int a0] (fun T9 => T9 = T1) := by
  intro sz
  refine pro_in (cc := cX10_clear) (maxL := 3) (ret := none) (by exact pn_RX10) rfl (by exact Nat.le_of_ble_eq_true rfl) (fun p e s m below meth c ls hx hb hr hts hown hlocks hml hv hl => ?_)
  obtain ⟨hsz, hP, hK, hD0, hX, hN⟩ := hv
  subst hsz
  have hD := hD0.self (sz := s.heap.size)
  generalize hAe : va_A (cW ad T.1 (cc cI cJ cZ cMic cSrc cSt cAI cAJ ad T)) s.heap.size = A at hD hX ⊢
  have hA : ∀ q : Nat, s.heap.size ≤ q → A q := fun q h => by rw [← hAe]; exact Or.inr h
  have G : gC cI cJ cZ cMic cSrc cSt cAI cAJ D ad A s.heap s.heap [] T := ⟨hP, hD, va_S.rf⟩
  have E : cE p c cX10_clear s m ([.ref (ad o), .int a0] : List Value).toArray (Cond.code yX10_clear cX10_clear 3 none :: wsA) D RX10 (CT cI cJ cZ cMic cSrc cSt cAI cAJ) := ⟨hx, hb, hts, hown, hK⟩
  have hl : lv_has ls 3 [(0, .ref (ad o)), (1, .int a0)] := hl
  unfold g_X10_clear at h
  refine lv_iconst (v := 0) hx hb dX10_clear_0 (by decide) ?_
  refine lv_istore_n (lv' := [(2, .int 0), (0, .ref (ad o)), (1, .int a0)]) hx hb dX10_clear_1 rfl hl (by decide) rfl (fun ls hl => ?_)
  have hl := lv_sub hl [1, 2, 0] rfl
  exact u_X10_clear_b2 E hA hX hN hml hst (fun H locs ls G => W.vret hx hb hr (fun t ht hW => ⟨⟨T1, rfl, rfl, ⟨by rw [ht]; exact G.1, va_K.moved hW.alike hK, G.2.1⟩⟩, G.2.2.F ht⟩) G.2.2.2.2 dX10_clear_25) _ _ _ _ _ _ _ _ h G hl
set_option maxHeartbeats 4000000 in
set_option maxRecDepth 100000 in
theorem s_X10_clear_b2 {T1 : AT} : ∀ n : Nat, ∀ (T : AT) (l0 : Nat) (l1 : Int32) (l2 : Int32), g_X10_clear_b2 n T l0 l1 l2 = some T1 → SP T T1 := by
  intro n
  induction n with
  | zero =>
    intro T l0 l1 l2 h
    have h : (none : Option (AT)) = some T1 := h
    cases h
  | succ n ih =>
    intro T l0 l1 l2 h
    have p0 := SP.rf T
    unfold g_X10_clear_b2 at h
    obtain ⟨g2, h⟩ := oif_some h
    obtain ⟨v3, -, h⟩ := elet_some h
    rcases oif_or h with ⟨c4, h⟩ | ⟨c4, h⟩
    · have h := h
      rw [← osome1 h]
      exact p0
    · have h := h
      obtain ⟨g5, h⟩ := oif_some h
      obtain ⟨n6, en6, h⟩ := obind_some h
      obtain ⟨g7, h⟩ := oif_some h
      obtain ⟨g8, h⟩ := oif_some h
      obtain ⟨n9, en9, h⟩ := obind_some h
      obtain ⟨g10, h⟩ := oif_some h
      obtain ⟨g11, h⟩ := oif_some h
      obtain ⟨T12, eT12, h⟩ := elet_some h
      have p1 : SP T T12 := SP.tr p0 (by rw [eT12]; exact sp_uJ)
      obtain ⟨v13, ev13, h⟩ := elet_some h
      exact SP.tr p1 (ih _ _ _ _ h)
set_option maxHeartbeats 4000000 in
set_option maxRecDepth 100000 in
theorem s_X10_clear {T : AT} {o : Nat} {a0 : Int32} {T1 : AT} (h : g_X10_clear T o a0 = some T1) : SP T T1 := by
  have p0 := SP.rf T
  unfold g_X10_clear at h
  exact SP.tr p0 (s_X10_clear_b2 _ _ _ _ _ h)
def g_X10_isBeyondPart_b24   (s0 : Int32) : Option (Int32) := oif (s0 = 0 ∨ s0 = 1) <| some s0
set_option maxHeartbeats 4000000 in
set_option maxRecDepth 100000 in
theorem u_X10_isBeyondPart_b24 {p : Program} {l : Launch} {e : Env} {s : State} {m : MethodId} {args : Array Value} {below : List Frame} {meth : Method} {c : Code} {Q : State → Prop} {r1 : Int32}  (E : p.tables.exec = Jvm.exec ∧ c.code = cX10_isBeyondPart ∧ (∀ w ∈ (Cond.code yX10_isBeyondPart cX10_isBeyondPart 4 (some .boolean) :: wsA), w.before args s = true) ∧ s.vm.findClass RX10 = some m.cls) (hN : nX s) (hml : c.maxLocals = 4) (kr24 : ∀ (ls : Array Slot), (r1 = 0 ∨ r1 = 1) → W p l e { frames := 1, cells := 0, slots := 0, locals := 0 } s m args below meth c s.heap [] 0 0 Q (F0 m 24 ls [.int r1])) : ∀ (ls : Array Slot) (s0 : Int32), g_X10_isBeyondPart_b24 s0 = some r1 → lv_has ls 4 [] → W p l e { frames := 1, cells := 0, slots := 0, locals := 0 } s m args below meth c s.heap [] 0 0 Q (F0 m 24 ls [.int s0]) := by
  have hx := E.1
  have hb := E.2.1
  have hts := E.2.2.1
  have hown := E.2.2.2
  intro ls s0 h hl
  unfold g_X10_isBeyondPart_b24 at h
  obtain ⟨gz, h⟩ := oif_some h
  have gr : r1 = 0 ∨ r1 = 1 := by rw [← osome1 h]; exact gz
  refine lv_to (osome1 h) ?_
  exact kr24 _ gr
def g_X10_isBeyondPart_b23    : Option (Int32) := g_X10_isBeyondPart_b24 0
set_option maxHeartbeats 4000000 in
set_option maxRecDepth 100000 in
theorem u_X10_isBeyondPart_b23 {p : Program} {l : Launch} {e : Env} {s : State} {m : MethodId} {args : Array Value} {below : List Frame} {meth : Method} {c : Code} {Q : State → Prop} {r1 : Int32}  (E : p.tables.exec = Jvm.exec ∧ c.code = cX10_isBeyondPart ∧ (∀ w ∈ (Cond.code yX10_isBeyondPart cX10_isBeyondPart 4 (some .boolean) :: wsA), w.before args s = true) ∧ s.vm.findClass RX10 = some m.cls) (hN : nX s) (hml : c.maxLocals = 4) (kr24 : ∀ (ls : Array Slot), (r1 = 0 ∨ r1 = 1) → W p l e { frames := 1, cells := 0, slots := 0, locals := 0 } s m args below meth c s.heap [] 0 0 Q (F0 m 24 ls [.int r1])) : ∀ (ls : Array Slot), g_X10_isBeyondPart_b23 = some r1 → lv_has ls 4 [] → W p l e { frames := 1, cells := 0, slots := 0, locals := 0 } s m args below meth c s.heap [] 0 0 Q (F0 m 23 ls []) := by
  have hx := E.1
  have hb := E.2.1
  have hts := E.2.2.1
  have hown := E.2.2.2
  intro ls h hl
  unfold g_X10_isBeyondPart_b23 at h
  refine lv_iconst (v := 0) hx hb dX10_isBeyondPart_23 (by decide) ?_
  have hl := lv_sub hl [] rfl
  exact u_X10_isBeyondPart_b24 E hN hml kr24 _ _ h hl
def g_X10_isBeyondPart  (a0 : Int64) : Option (Int32) := elet (a0 >>> ((28 : Int32).toInt64 &&& 63)) fun v2 => elet (lg_cmp v2 (0 : Int64)) fun v3 => if v3 = 0 then (g_X10_isBeyondPart_b23) else (elet (lg_cmp v2 (-1 : Int64)) fun v5 => if v5 = 0 then (g_X10_isBeyondPart_b23) else (g_X10_isBeyondPart_b24 1))
set_option maxHeartbeats 4000000 in
set_option maxRecDepth 100000 in
theorem u_X10_isBeyondPart (l : Launch) (a0 : Int64) {r1 : Int32} (h : g_X10_isBeyondPart a0 = some r1) : Met l yX10_isBeyondPart (Cond.code yX10_isBeyondPart cX10_isBeyondPart 4 (some .boolean) :: wsA) { frames := 1, cells := 0, slots := 0, locals := 0 } (va_Pc [.long a0] nX) (vp_Si (fun r => r = r1)) 0 0 (fun _ => False) := by
  refine pro_in (cc := cX10_isBeyondPart) (maxL := 4) (ret := (some .boolean)) (by exact pn_RX10) rfl (by exact Nat.le_of_ble_eq_true rfl) (fun p e s m below meth c ls hx hb hr hts hown hlocks hml hv hl => ?_)
  have hN := hv
  have E : p.tables.exec = Jvm.exec ∧ c.code = cX10_isBeyondPart ∧ (∀ w ∈ (Cond.code yX10_isBeyondPart cX10_isBeyondPart 4 (some .boolean) :: wsA), w.before ([.long a0] : List Value).toArray s = true) ∧ s.vm.findClass RX10 = some m.cls := ⟨hx, hb, hts, hown⟩
  have hl : lv_has ls 4 [(0, .long a0)] := hl
  unfold g_X10_isBeyondPart at h
  refine lv_lload_n hx hb dX10_isBeyondPart_0 rfl (lv_at hl 0 rfl) ?_
  refine lv_bipush (v := 28) hx hb dX10_isBeyondPart_1 (by decide) ?_
  refine lv_lshr (v := a0 >>> ((28 : Int32).toInt64 &&& 63)) hx hb dX10_isBeyondPart_3 rfl ?_
  refine lv_topl (fun v2 ev2 => ?_)
  have h := elet_at ev2 h
  clear ev2
  refine lv_lstore_n (lv' := [(2, .long v2), (0, .long a0)]) hx hb dX10_isBeyondPart_4 rfl hl (by decide) rfl (fun ls hl => ?_)
  refine lv_lload_n hx hb dX10_isBeyondPart_5 rfl (lv_at hl 0 rfl) ?_
  refine lv_lconst (v := 0) hx hb dX10_isBeyondPart_6 (by decide) ?_
  refine W.lcmp hx hb dX10_isBeyondPart_7 ?_
  refine lv_topi (fun v3 ev3 => ?_)
  have h := elet_at ev3 h
  clear ev3
  refine lv_if_eq (tgt := 23) hx hb dX10_isBeyondPart_8 (by decide) (fun c4 => ?_) (fun c4 => ?_)
  · have h := oif_pos c4 h
    have hl := lv_sub hl [] rfl
    exact u_X10_isBeyondPart_b23 E hN hml (fun ls gz => W.zret (v := r1) hx hb hr (nar01 gz) (fun t ht hW => ⟨r1, rfl, rfl, ht⟩) (fun _ h => absurd h List.not_mem_nil) dX10_isBeyondPart_24) _ h hl
  · have h := oif_neg c4 h
    refine lv_lload_n hx hb dX10_isBeyondPart_11 rfl (lv_at hl 0 rfl) ?_
    refine lv_ldc2 (v := -1) hx hb hown (hts (.constantLong RX10 65 (-1)) (.tail _ qA_97)) dX10_isBeyondPart_12 ?_
    refine W.lcmp hx hb dX10_isBeyondPart_15 ?_
    refine lv_topi (fun v5 ev5 => ?_)
    have h := elet_at ev5 h
    clear ev5
    refine lv_if_eq (tgt := 23) hx hb dX10_isBeyondPart_16 (by decide) (fun c6 => ?_) (fun c6 => ?_)
    · have h := oif_pos c6 h
      have hl := lv_sub hl [] rfl
      exact u_X10_isBeyondPart_b23 E hN hml (fun ls gz => W.zret (v := r1) hx hb hr (nar01 gz) (fun t ht hW => ⟨r1, rfl, rfl, ht⟩) (fun _ h => absurd h List.not_mem_nil) dX10_isBeyondPart_24) _ h hl
    · have h := oif_neg c6 h
      refine lv_iconst (v := 1) hx hb dX10_isBeyondPart_19 (by decide) ?_
      refine lv_goto (tgt := 24) hx hb dX10_isBeyondPart_20 (by decide) ?_
      have hl := lv_sub hl [] rfl
      exact u_X10_isBeyondPart_b24 E hN hml (fun ls gz => W.zret (v := r1) hx hb hr (nar01 gz) (fun t ht hW => ⟨r1, rfl, rfl, ht⟩) (fun _ h => absurd h List.not_mem_nil) dX10_isBeyondPart_24) _ _ h hl
def g_X10_widenTo_b108  (T : AT)  : Option (AT) := some T
def g_X10_widenTo_b40 (k5 : AT → Nat → Int32 → Int32 → Option (AT)) : Nat → AT → Nat → Int32 → Int32 → Int32 → Option (AT)
  | 0, _, _, _, _, _ => none
  | n + 1, T, l0, l1, l2, l3 => oif (oO T l0 10 = true) <| elet (T.2.2.1 l0 0) fun v3 => if v3 ≤ l3 then (elet (l2 + 1) fun v5 => oif (oO T l0 10 = true) <| elet (uI T l0 2 v5) fun T7 => elet (l2 + Int32.ofInt (1)) fun v8 => k5 T7 l0 l1 v8) else (oif (oO T l0 10 = true) <| obind (T.2.2.2.2 l0 1) fun n10 => elet (l2 - 1) fun v11 => oif (aA T n10 107 = true) <| oif (inb v11 (T.2.1 n10).2 = true) <| obind (T.2.2.2.2 n10 v11.toNatClampNeg) fun n14 => oif (aA T n14 101 = true) <| oif (inb l3 (T.2.1 n14).2 = true) <| elet (T.2.2.2.1 n14 l3.toNatClampNeg) fun v17 => oif (oO T l0 10 = true) <| obind (T.2.2.2.2 l0 1) fun n19 => elet (l2 - 1) fun v20 => oif (aA T n19 107 = true) <| oif (inb v20 (T.2.1 n19).2 = true) <| obind (T.2.2.2.2 n19 v20.toNatClampNeg) fun n23 => elet (v17 &&& (268435455 : Int64)) fun v24 => oif (aA T n23 101 = true) <| oif (inb l3 (T.2.1 n23).2 = true) <| elet (uJ T n23 l3.toNatClampNeg v24) fun T27 => oif (oO T27 l0 10 = true) <| obind (T27.2.2.2.2 l0 1) fun n29 => oif (aA T27 n29 107 = true) <| oif (inb l2 (T27.2.1 n29).2 = true) <| obind (T27.2.2.2.2 n29 l2.toNatClampNeg) fun n32 => elet (v17 >>> ((28 : Int32).toInt64 &&& 63)) fun v33 => oif (aA T27 n32 101 = true) <| oif (inb l3 (T27.2.1 n32).2 = true) <| elet (uJ T27 n32 l3.toNatClampNeg v33) fun T36 => elet (l3 + Int32.ofInt (1)) fun v37 => g_X10_widenTo_b40 k5 n T36 l0 l1 l2 v37)
def g_X10_widenTo_b38 (k5 : AT → Nat → Int32 → Int32 → Option (AT)) (T : AT) (l0 : Nat) (l1 : Int32) (l2 : Int32) : Option (AT) := g_X10_widenTo_b40 k5 16384 T l0 l1 l2 0
def g_X10_widenTo_b37 (k5 : AT → Nat → Int32 → Int32 → Option (AT)) (T : AT) (s0 : Nat) (s1 : Int32) (s2 : Nat) (l0 : Nat) (l1 : Int32) (l2 : Int32) : Option (AT) := oif (aA T s2 107 = true) <| oif (inb s1 (T.2.1 s2).2 = true) <| oif (aA T s0 101 = true) <| elet (uR T s2 s1.toNatClampNeg s0) fun T5 => g_X10_widenTo_b38 k5 T5 l0 l1 l2
def g_X10_widenTo_b5  : Nat → AT → Nat → Int32 → Int32 → Option (AT)
  | 0, _, _, _, _ => none
  | n + 1, T, l0, l1, l2 => if l1 ≤ l2 then (g_X10_widenTo_b108 T) else (if 40 ≤ l2 then (g_X10_widenTo_b108 T) else (oif (oO T l0 10 = true) <| obind (T.2.2.2.2 l0 1) fun n5 => oif (aA T n5 107 = true) <| oif (inb l2 (T.2.1 n5).2 = true) <| obind (T.2.2.2.2 n5 l2.toNatClampNeg) fun n8 => oif (aA T n8 101 = true) <| elet (nI (T.2.1 n8).2) fun v10 => if v10 = 0 then (oif (oO T l0 10 = true) <| obind (T.2.2.2.2 l0 1) fun n13 => oif (oO T l0 10 = true) <| elet (T.2.2.1 l0 0) fun v15 => oif (inb v15 100001 = true) <| elet (newJ T (v15.toNatClampNeg)) fun T17 => g_X10_widenTo_b37 (g_X10_widenTo_b5 n) T17 T.1 l2 n13 l0 l1 l2) else (g_X10_widenTo_b38 (g_X10_widenTo_b5 n) T l0 l1 l2)))
def g_X10_widenTo (T : AT) (o : Nat) (a0 : Int32) : Option (AT) := oif (oO T o 10 = true) <| elet (T.2.2.1 o 2) fun v3 => g_X10_widenTo_b5 16384 T o a0 v3
set_option maxHeartbeats 4000000 in
set_option maxRecDepth 100000 in
theorem s_X10_widenTo_b108 {T1 : AT} : ∀ (T : AT), g_X10_widenTo_b108 T = some T1 → GL T T1 := by
  intro T h
  have p0 := GL.rf T
  unfold g_X10_widenTo_b108 at h
  rw [← osome1 h]
  exact p0
set_option maxHeartbeats 4000000 in
set_option maxRecDepth 100000 in
theorem s_X10_widenTo_b40 {T1 : AT} {k5 : AT → Nat → Int32 → Int32 → Option (AT)} (hk5 : ∀ (T : AT) (l0 : Nat) (l1 : Int32) (l2 : Int32), k5 T l0 l1 l2 = some T1 → GL T T1) : ∀ n : Nat, ∀ (T : AT) (l0 : Nat) (l1 : Int32) (l2 : Int32) (l3 : Int32), g_X10_widenTo_b40 k5 n T l0 l1 l2 l3 = some T1 → GL T T1 := by
  intro n
  induction n with
  | zero =>
    intro T l0 l1 l2 l3 h
    have h : (none : Option (AT)) = some T1 := h
    cases h
  | succ n ih =>
    intro T l0 l1 l2 l3 h
    have p0 := GL.rf T
    unfold g_X10_widenTo_b40 at h
    obtain ⟨g2, h⟩ := oif_some h
    obtain ⟨v3, -, h⟩ := elet_some h
    rcases oif_or h with ⟨c4, h⟩ | ⟨c4, h⟩
    · have h := h
      obtain ⟨v5, -, h⟩ := elet_some h
      obtain ⟨g6, h⟩ := oif_some h
      obtain ⟨T7, eT7, h⟩ := elet_some h
      have p1 : GL T T7 := GL.tr p0 (by rw [eT7]; exact gl_sp sp_uI)
      obtain ⟨v8, ev8, h⟩ := elet_some h
      exact GL.tr p1 (hk5 _ _ _ _ h)
    · have h := h
      obtain ⟨g9, h⟩ := oif_some h
      obtain ⟨n10, en10, h⟩ := obind_some h
      obtain ⟨v11, -, h⟩ := elet_some h
      obtain ⟨g12, h⟩ := oif_some h
      obtain ⟨g13, h⟩ := oif_some h
      obtain ⟨n14, en14, h⟩ := obind_some h
      obtain ⟨g15, h⟩ := oif_some h
      obtain ⟨g16, h⟩ := oif_some h
      obtain ⟨v17, -, h⟩ := elet_some h
      obtain ⟨g18, h⟩ := oif_some h
      obtain ⟨n19, en19, h⟩ := obind_some h
      obtain ⟨v20, -, h⟩ := elet_some h
      obtain ⟨g21, h⟩ := oif_some h
      obtain ⟨g22, h⟩ := oif_some h
      obtain ⟨n23, en23, h⟩ := obind_some h
      obtain ⟨v24, -, h⟩ := elet_some h
      obtain ⟨g25, h⟩ := oif_some h
      obtain ⟨g26, h⟩ := oif_some h
      obtain ⟨T27, eT27, h⟩ := elet_some h
      have p1 : GL T T27 := GL.tr p0 (by rw [eT27]; exact gl_sp sp_uJ)
      obtain ⟨g28, h⟩ := oif_some h
      obtain ⟨n29, en29, h⟩ := obind_some h
      obtain ⟨g30, h⟩ := oif_some h
      obtain ⟨g31, h⟩ := oif_some h
      obtain ⟨n32, en32, h⟩ := obind_some h
      obtain ⟨v33, -, h⟩ := elet_some h
      obtain ⟨g34, h⟩ := oif_some h
      obtain ⟨g35, h⟩ := oif_some h
      obtain ⟨T36, eT36, h⟩ := elet_some h
      have p2 : GL T T36 := GL.tr p1 (by rw [eT36]; exact gl_sp sp_uJ)
      obtain ⟨v37, ev37, h⟩ := elet_some h
      exact GL.tr p2 (ih _ _ _ _ _ h)
set_option maxHeartbeats 4000000 in
set_option maxRecDepth 100000 in
theorem s_X10_widenTo_b38 {T1 : AT} {k5 : AT → Nat → Int32 → Int32 → Option (AT)} (hk5 : ∀ (T : AT) (l0 : Nat) (l1 : Int32) (l2 : Int32), k5 T l0 l1 l2 = some T1 → GL T T1) : ∀ (T : AT) (l0 : Nat) (l1 : Int32) (l2 : Int32), g_X10_widenTo_b38 k5 T l0 l1 l2 = some T1 → GL T T1 := by
  intro T l0 l1 l2 h
  have p0 := GL.rf T
  unfold g_X10_widenTo_b38 at h
  exact GL.tr p0 (s_X10_widenTo_b40 hk5 _ _ _ _ _ _ h)
set_option maxHeartbeats 4000000 in
set_option maxRecDepth 100000 in
theorem s_X10_widenTo_b37 {T1 : AT} {k5 : AT → Nat → Int32 → Int32 → Option (AT)} (hk5 : ∀ (T : AT) (l0 : Nat) (l1 : Int32) (l2 : Int32), k5 T l0 l1 l2 = some T1 → GL T T1) : ∀ (T : AT) (s0 : Nat) (s1 : Int32) (s2 : Nat) (l0 : Nat) (l1 : Int32) (l2 : Int32), g_X10_widenTo_b37 k5 T s0 s1 s2 l0 l1 l2 = some T1 → GL T T1 := by
  intro T s0 s1 s2 l0 l1 l2 h
  have p0 := GL.rf T
  unfold g_X10_widenTo_b37 at h
  obtain ⟨g2, h⟩ := oif_some h
  obtain ⟨g3, h⟩ := oif_some h
  obtain ⟨g4, h⟩ := oif_some h
  obtain ⟨T5, eT5, h⟩ := elet_some h
  have p1 : GL T T5 := GL.tr p0 (by rw [eT5]; exact gl_uR (aA_k g4).1)
  exact GL.tr p1 (s_X10_widenTo_b38 hk5 _ _ _ _ h)
set_option maxHeartbeats 4000000 in
set_option maxRecDepth 100000 in
theorem s_X10_widenTo_b5 {T1 : AT} : ∀ n : Nat, ∀ (T : AT) (l0 : Nat) (l1 : Int32) (l2 : Int32), g_X10_widenTo_b5 n T l0 l1 l2 = some T1 → GL T T1 := by
  intro n
  induction n with
  | zero =>
    intro T l0 l1 l2 h
    have h : (none : Option (AT)) = some T1 := h
    cases h
  | succ n ih =>
    intro T l0 l1 l2 h
    have p0 := GL.rf T
    unfold g_X10_widenTo_b5 at h
    rcases oif_or h with ⟨c2, h⟩ | ⟨c2, h⟩
    · have h := h
      exact GL.tr p0 (s_X10_widenTo_b108 _ h)
    · have h := h
      rcases oif_or h with ⟨c3, h⟩ | ⟨c3, h⟩
      · have h := h
        exact GL.tr p0 (s_X10_widenTo_b108 _ h)
      · have h := h
        obtain ⟨g4, h⟩ := oif_some h
        obtain ⟨n5, en5, h⟩ := obind_some h
        obtain ⟨g6, h⟩ := oif_some h
        obtain ⟨g7, h⟩ := oif_some h
        obtain ⟨n8, en8, h⟩ := obind_some h
        obtain ⟨g9, h⟩ := oif_some h
        obtain ⟨v10, -, h⟩ := elet_some h
        rcases oif_or h with ⟨c11, h⟩ | ⟨c11, h⟩
        · have h := h
          obtain ⟨g12, h⟩ := oif_some h
          obtain ⟨n13, en13, h⟩ := obind_some h
          obtain ⟨g14, h⟩ := oif_some h
          obtain ⟨v15, -, h⟩ := elet_some h
          obtain ⟨g16, h⟩ := oif_some h
          obtain ⟨T17, eT17, h⟩ := elet_some h
          have p1 : GL T T17 := GL.tr p0 (by rw [eT17]; exact gl_newJ)
          exact GL.tr p1 (s_X10_widenTo_b37 ih _ _ _ _ _ _ _ h)
        · have h := h
          exact GL.tr p0 (s_X10_widenTo_b38 ih _ _ _ _ h)
set_option maxHeartbeats 4000000 in
set_option maxRecDepth 100000 in
theorem s_X10_widenTo {T : AT} {o : Nat} {a0 : Int32} {T1 : AT} (h : g_X10_widenTo T o a0 = some T1) : GL T T1 := by
  have p0 := GL.rf T
  unfold g_X10_widenTo at h
  obtain ⟨g2, h⟩ := oif_some h
  obtain ⟨v3, -, h⟩ := elet_some h
  exact GL.tr p0 (s_X10_widenTo_b5 _ _ _ _ _ h)
set_option maxHeartbeats 4000000 in
set_option maxRecDepth 100000 in
theorem a_X10_widenTo_b108 {p : Program} {l : Launch} {e : Env} {s : State} {m : MethodId} {args : Array Value} {below : List Frame} {meth : Method} {c : Code} {Q : State → Prop} {D : va_G} {A : Nat → Prop} {cI cJ cZ cMic cSrc cSt cAI cAJ : ClassId} {ad0 : Nat → Nat} {T0 : AT} {T1 : AT} (E : cE p c cX10_widenTo s m args (Cond.code yX10_widenTo cX10_widenTo 6 none :: wsA) D RX10 (CT cI cJ cZ cMic cSrc cSt cAI cAJ)) (hA : ∀ q : Nat, s.heap.size ≤ q → A q) (hX : xT A s) (hN : nX s) (hml : c.maxLocals = 6) (hst : l.stackTraces = false) (kr108 : ∀ (ad : Nat → Nat) (H : Heap) (locs : List Loc) (ls : Array Slot), (∀ n, n < T0.1 → ad n = ad0 n) → gC cI cJ cZ cMic cSrc cSt cAI cAJ D ad A s.heap H locs T1 → W p l e { frames := 1, cells := T1.1 - T0.1, slots := sg T1 - sg T0, locals := 0 } s m args below meth c H locs (T1.1 - T0.1) (sg T1 - sg T0) Q (F0 m 108 ls [])) : ∀ (T : AT) (ad : Nat → Nat) (H : Heap) (locs : List Loc) (ls : Array Slot), g_X10_widenTo_b108 T = some T1 → GL T0 T → RC T → (∀ n, n < T0.1 → ad n = ad0 n) → gC cI cJ cZ cMic cSrc cSt cAI cAJ D ad A s.heap H locs T → lv_has ls 6 [] → W p l e { frames := 1, cells := T1.1 - T0.1, slots := sg T1 - sg T0, locals := 0 } s m args below meth c H locs (T.1 - T0.1) (sg T - sg T0) Q (F0 m 108 ls []) := by
  have hx := E.1
  have hb := E.2.1
  have hts := E.2.2.1
  have hown := E.2.2.2.1
  have hK := E.2.2.2.2
  intro T ad H locs ls h hgl hrc had G hl
  have hT1 := s_X10_widenTo_b108 _ h
  have hcs := cs_ok hgl hT1
  have cp0 := cpr0 hrc
  unfold g_X10_widenTo_b108 at h
  rw [osome1 h] at G
  refine w_cast (c2 := T1.1 - T0.1) (s2 := sg T1 - sg T0) (by rw [← osome1 h, cp0.1] <;> rfl) (by rw [← osome1 h, sg_cpr cp0] <;> rfl) ?_
  exact kr108 ad _ _ _ had G
set_option maxHeartbeats 4000000 in
set_option maxRecDepth 100000 in
theorem a_X10_widenTo_b40 {p : Program} {l : Launch} {e : Env} {s : State} {m : MethodId} {args : Array Value} {below : List Frame} {meth : Method} {c : Code} {Q : State → Prop} {D : va_G} {A : Nat → Prop} {cI cJ cZ cMic cSrc cSt cAI cAJ : ClassId} {ad0 : Nat → Nat} {T0 : AT} {T1 : AT} (E : cE p c cX10_widenTo s m args (Cond.code yX10_widenTo cX10_widenTo 6 none :: wsA) D RX10 (CT cI cJ cZ cMic cSrc cSt cAI cAJ)) (hA : ∀ q : Nat, s.heap.size ≤ q → A q) (hX : xT A s) (hN : nX s) (hml : c.maxLocals = 6) (hst : l.stackTraces = false) (kr108 : ∀ (ad : Nat → Nat) (H : Heap) (locs : List Loc) (ls : Array Slot), (∀ n, n < T0.1 → ad n = ad0 n) → gC cI cJ cZ cMic cSrc cSt cAI cAJ D ad A s.heap H locs T1 → W p l e { frames := 1, cells := T1.1 - T0.1, slots := sg T1 - sg T0, locals := 0 } s m args below meth c H locs (T1.1 - T0.1) (sg T1 - sg T0) Q (F0 m 108 ls [])) {k5 : AT → Nat → Int32 → Int32 → Option (AT)} (hs5 : ∀ (T : AT) (l0 : Nat) (l1 : Int32) (l2 : Int32), k5 T l0 l1 l2 = some T1 → GL T T1) (hk5 : ∀ (T : AT) (ad : Nat → Nat) (H : Heap) (locs : List Loc) (ls : Array Slot) (l0 : Nat) (l1 : Int32) (l2 : Int32), k5 T l0 l1 l2 = some T1 → GL T0 T → RC T → (∀ n, n < T0.1 → ad n = ad0 n) → l0 < T.1 → gC cI cJ cZ cMic cSrc cSt cAI cAJ D ad A s.heap H locs T → lv_has ls 6 [(0, .ref (ad l0)), (1, .int l1), (2, .int l2)] → W p l e { frames := 1, cells := T1.1 - T0.1, slots := sg T1 - sg T0, locals := 0 } s m args below meth c H locs (T.1 - T0.1) (sg T - sg T0) Q (F0 m 5 ls [])) : ∀ n : Nat, ∀ (T : AT) (ad : Nat → Nat) (H : Heap) (locs : List Loc) (ls : Array Slot) (l0 : Nat) (l1 : Int32) (l2 : Int32) (l3 : Int32), g_X10_widenTo_b40 k5 n T l0 l1 l2 l3 = some T1 → GL T0 T → RC T → (∀ n, n < T0.1 → ad n = ad0 n) → l0 < T.1 → gC cI cJ cZ cMic cSrc cSt cAI cAJ D ad A s.heap H locs T → lv_has ls 6 [(0, .ref (ad l0)), (1, .int l1), (2, .int l2), (3, .int l3)] → W p l e { frames := 1, cells := T1.1 - T0.1, slots := sg T1 - sg T0, locals := 0 } s m args below meth c H locs (T.1 - T0.1) (sg T - sg T0) Q (F0 m 40 ls []) := by
  have hx := E.1
  have hb := E.2.1
  have hts := E.2.2.1
  have hown := E.2.2.2.1
  have hK := E.2.2.2.2
  intro n
  induction n with
  | zero =>
    intro T ad H locs ls l0 l1 l2 l3 h
    have h : (none : Option (AT)) = some T1 := h
    cases h
  | succ n ih =>
    intro T ad H locs ls l0 l1 l2 l3 h hgl hrc had h_l0 G hl
    have hT1 := s_X10_widenTo_b40 hs5 _ _ _ _ _ _ h
    have hcs := cs_ok hgl hT1
    have cp0 := cpr0 hrc
    unfold g_X10_widenTo_b40 at h
    refine lv_iload_n hx hb dX10_widenTo_40 rfl (lv_at hl 3 rfl) ?_
    refine lv_aload_n hx hb dX10_widenTo_41 rfl (lv_at hl 0 rfl) ?_
    obtain ⟨g2, h⟩ := oif_some h
    refine c_get E G l0 0 (oO_k g2).1 (cc_o10 (oO_k g2).2) rfl (fun w h => .tail _ (iA_12 h)) (by decide) (.tail _ qA_20) rfl rfl dX10_widenTo_42 ?_
    refine lv_topi (fun v3 ev3 => ?_)
    have h := elet_at ev3 h
    clear ev3
    refine lv_icmp_ge (tgt := 95) hx hb dX10_widenTo_45 (by decide) (fun c4 => ?_) (fun c4 => ?_)
    · have h := oif_pos c4 h
      refine lv_aload_n hx hb dX10_widenTo_95 rfl (lv_at hl 0 rfl) ?_
      refine lv_iload_n hx hb dX10_widenTo_96 rfl (lv_at hl 2 rfl) ?_
      refine lv_iconst (v := 1) hx hb dX10_widenTo_97 (by decide) ?_
      refine lv_iadd hx hb dX10_widenTo_98 ?_
      refine lv_topi (fun v5 ev5 => ?_)
      have h := elet_at ev5 h
      clear ev5
      obtain ⟨g6, h⟩ := oif_some h
      refine c_put E G l0 2 (v := .int v5) (oO_k g6).1 (cc_o10 (oO_k g6).2) rfl (fun w h => .tail _ (iA_12 h)) tyX10 tyX10_ok nmX10 (by decide) (.tail _ qA_15) ⟨rfl, rfl, rfl⟩ rfl rfl (Nat.le_of_ble_eq_true rfl) dX10_widenTo_99 (fun H locs G => ?_)
      have G := gC_up_i (f := upd (T.2.2.1 l0) 2 v5) (by rw [(oO_k g6).2]; rfl) G
      obtain ⟨T7, eT7, h⟩ := elet_some h
      have G : gC cI cJ cZ cMic cSrc cSt cAI cAJ D ad A s.heap H locs T7 := by rw [eT7]; exact G
      have cp1 := show CPR T T7 from by rw [eT7]; exact cpr_sp cp0 sp_uI
      clear eT7
      obtain ⟨v8, ev8, h⟩ := elet_some h
      refine lv_iinc (v := v8) (lv' := [(2, .int v8), (0, .ref (ad l0)), (1, .int l1), (3, .int l3)]) hx hb dX10_widenTo_102 hl (k := 2) rfl ev8.symm (by decide) rfl (fun ls hl => ?_)
      refine lv_goto (tgt := 5) hx hb dX10_widenTo_105 (by decide) ?_
      have hl := lv_sub hl [1, 2, 0] rfl
      refine w_cast (c2 := T7.1 - T0.1) (s2 := sg T7 - sg T0) (by rw [cp1.1] <;> rfl) (by rw [sg_cpr cp1] <;> rfl) ?_
      exact hk5 _ _ _ _ _ _ _ _ h (gl_cpr hgl cp1) cp1.2.2 had (by rw [cp1.1]; exact h_l0) G hl
    · have h := oif_neg c4 h
      refine lv_aload_n hx hb dX10_widenTo_48 rfl (lv_at hl 0 rfl) ?_
      obtain ⟨g9, h⟩ := oif_some h
      obtain ⟨n10, en10, h⟩ := obind_some h
      have h_n10 : n10 < T.1 := by rw [← cp0.1]; exact cp0.2.2 _ _ _ en10
      refine c_get E G l0 1 (v := .ref (ad n10)) (oO_k g9).1 (cc_o10 (oO_k g9).2) rfl (fun w h => .tail _ (iA_12 h)) (by decide) (.tail _ qA_14) rfl (by rw [en10]; rfl) dX10_widenTo_49 ?_
      clear en10
      refine lv_iload_n hx hb dX10_widenTo_52 rfl (lv_at hl 2 rfl) ?_
      refine lv_iconst (v := 1) hx hb dX10_widenTo_53 (by decide) ?_
      refine lv_isub hx hb dX10_widenTo_54 ?_
      refine lv_topi (fun v11 ev11 => ?_)
      have h := elet_at ev11 h
      clear ev11
      obtain ⟨g12, h⟩ := oif_some h
      obtain ⟨g13, h⟩ := oif_some h
      obtain ⟨n14, en14, h⟩ := obind_some h
      have h_n14 : n14 < T.1 := by rw [← cp0.1]; exact cp0.2.2 _ _ _ en14
      refine c_alda E G n10 7 (k := v11.toNatClampNeg) (v := .ref (ad n14)) (aA_k g12).1 (cc_a107 (aA_k g12).2.1) rfl (inb_k g13).1 (inb_k g13).2 (aA_k g12).2.2 (by show va_rf ((T.2.2.2.2 n10 v11.toNatClampNeg).map ad) = _; rw [en14]; rfl) dX10_widenTo_55 ?_
      clear en14
      refine lv_iload_n hx hb dX10_widenTo_56 rfl (lv_at hl 3 rfl) ?_
      obtain ⟨g15, h⟩ := oif_some h
      obtain ⟨g16, h⟩ := oif_some h
      refine c_lald E G n14 1 (k := l3.toNatClampNeg) (aA_k g15).1 (cc_a101 (aA_k g15).2.1) rfl (inb_k g16).1 (inb_k g16).2 (aA_k g15).2.2 dX10_widenTo_57 ?_
      refine lv_topl (fun v17 ev17 => ?_)
      have h := elet_at ev17 h
      clear ev17
      refine lv_lstore (lv' := [(4, .long v17), (0, .ref (ad l0)), (1, .int l1), (2, .int l2), (3, .int l3)]) hx hb dX10_widenTo_58 hl (by decide) rfl (fun ls hl => ?_)
      refine lv_aload_n hx hb dX10_widenTo_60 rfl (lv_at hl 1 rfl) ?_
      obtain ⟨g18, h⟩ := oif_some h
      obtain ⟨n19, en19, h⟩ := obind_some h
      have h_n19 : n19 < T.1 := by rw [← cp0.1]; exact cp0.2.2 _ _ _ en19
      refine c_get E G l0 1 (v := .ref (ad n19)) (oO_k g18).1 (cc_o10 (oO_k g18).2) rfl (fun w h => .tail _ (iA_12 h)) (by decide) (.tail _ qA_14) rfl (by rw [en19]; rfl) dX10_widenTo_61 ?_
      clear en19
      refine lv_iload_n hx hb dX10_widenTo_64 rfl (lv_at hl 3 rfl) ?_
      refine lv_iconst (v := 1) hx hb dX10_widenTo_65 (by decide) ?_
      refine lv_isub hx hb dX10_widenTo_66 ?_
      refine lv_topi (fun v20 ev20 => ?_)
      have h := elet_at ev20 h
      clear ev20
      obtain ⟨g21, h⟩ := oif_some h
      obtain ⟨g22, h⟩ := oif_some h
      obtain ⟨n23, en23, h⟩ := obind_some h
      have h_n23 : n23 < T.1 := by rw [← cp0.1]; exact cp0.2.2 _ _ _ en23
      refine c_alda E G n19 7 (k := v20.toNatClampNeg) (v := .ref (ad n23)) (aA_k g21).1 (cc_a107 (aA_k g21).2.1) rfl (inb_k g22).1 (inb_k g22).2 (aA_k g21).2.2 (by show va_rf ((T.2.2.2.2 n19 v20.toNatClampNeg).map ad) = _; rw [en23]; rfl) dX10_widenTo_67 ?_
      clear en23
      refine lv_iload_n hx hb dX10_widenTo_68 rfl (lv_at hl 4 rfl) ?_
      refine lv_lload hx hb dX10_widenTo_69 (lv_at hl 0 rfl) ?_
      refine lv_ldc2 (v := 268435455) hx hb hown (hts (.constantLong RX10 59 (268435455)) (.tail _ qA_81)) dX10_widenTo_71 ?_
      refine lv_land hx hb dX10_widenTo_74 ?_
      refine lv_topl (fun v24 ev24 => ?_)
      have h := elet_at ev24 h
      clear ev24
      obtain ⟨g25, h⟩ := oif_some h
      obtain ⟨g26, h⟩ := oif_some h
      refine c_last E G n23 1 (k := l3.toNatClampNeg) (v := v24) (aA_k g25).1 (cc_a101 (aA_k g25).2.1) rfl (inb_k g26).1 (inb_k g26).2 (aA_k g25).2.2 dX10_widenTo_75 (fun H locs G => ?_)
      have G := gC_up_j (f := vp_updL (T.2.2.2.1 n23) l3.toNatClampNeg v24) (ccv_101 (aA_k g25).2.1) G
      obtain ⟨T27, eT27, h⟩ := elet_some h
      have G : gC cI cJ cZ cMic cSrc cSt cAI cAJ D ad A s.heap H locs T27 := by rw [eT27]; exact G
      have cp1 := show CPR T T27 from by rw [eT27]; exact cpr_sp cp0 sp_uJ
      clear eT27
      refine lv_aload_n hx hb dX10_widenTo_76 rfl (lv_at hl 1 rfl) ?_
      obtain ⟨g28, h⟩ := oif_some h
      obtain ⟨n29, en29, h⟩ := obind_some h
      have h_n29 : n29 < T.1 := by rw [← cp1.1]; exact cp1.2.2 _ _ _ en29
      refine c_get E G l0 1 (v := .ref (ad n29)) (oO_k g28).1 (cc_o10 (oO_k g28).2) rfl (fun w h => .tail _ (iA_12 h)) (by decide) (.tail _ qA_14) rfl (by rw [en29]; rfl) dX10_widenTo_77 ?_
      clear en29
      refine lv_iload_n hx hb dX10_widenTo_80 rfl (lv_at hl 3 rfl) ?_
      obtain ⟨g30, h⟩ := oif_some h
      obtain ⟨g31, h⟩ := oif_some h
      obtain ⟨n32, en32, h⟩ := obind_some h
      have h_n32 : n32 < T.1 := by rw [← cp1.1]; exact cp1.2.2 _ _ _ en32
      refine c_alda E G n29 7 (k := l2.toNatClampNeg) (v := .ref (ad n32)) (aA_k g30).1 (cc_a107 (aA_k g30).2.1) rfl (inb_k g31).1 (inb_k g31).2 (aA_k g30).2.2 (by show va_rf ((T27.2.2.2.2 n29 l2.toNatClampNeg).map ad) = _; rw [en32]; rfl) dX10_widenTo_81 ?_
      clear en32
      refine lv_iload_n hx hb dX10_widenTo_82 rfl (lv_at hl 4 rfl) ?_
      refine lv_lload hx hb dX10_widenTo_83 (lv_at hl 0 rfl) ?_
      refine lv_bipush (v := 28) hx hb dX10_widenTo_85 (by decide) ?_
      refine lv_lshr (v := v17 >>> ((28 : Int32).toInt64 &&& 63)) hx hb dX10_widenTo_87 rfl ?_
      refine lv_topl (fun v33 ev33 => ?_)
      have h := elet_at ev33 h
      clear ev33
      obtain ⟨g34, h⟩ := oif_some h
      obtain ⟨g35, h⟩ := oif_some h
      refine c_last E G n32 1 (k := l3.toNatClampNeg) (v := v33) (aA_k g34).1 (cc_a101 (aA_k g34).2.1) rfl (inb_k g35).1 (inb_k g35).2 (aA_k g34).2.2 dX10_widenTo_88 (fun H locs G => ?_)
      have G := gC_up_j (f := vp_updL (T27.2.2.2.1 n32) l3.toNatClampNeg v33) (ccv_101 (aA_k g34).2.1) G
      obtain ⟨T36, eT36, h⟩ := elet_some h
      have G : gC cI cJ cZ cMic cSrc cSt cAI cAJ D ad A s.heap H locs T36 := by rw [eT36]; exact G
      have cp2 := show CPR T T36 from by rw [eT36]; exact cpr_sp cp1 sp_uJ
      clear eT36
      obtain ⟨v37, ev37, h⟩ := elet_some h
      refine lv_iinc (v := v37) (lv' := [(3, .int v37), (4, .long v17), (0, .ref (ad l0)), (1, .int l1), (2, .int l2)]) hx hb dX10_widenTo_89 hl (k := 4) rfl ev37.symm (by decide) rfl (fun ls hl => ?_)
      refine lv_goto (tgt := 40) hx hb dX10_widenTo_92 (by decide) ?_
      have hl := lv_sub hl [2, 3, 4, 0] rfl
      refine w_cast (c2 := T36.1 - T0.1) (s2 := sg T36 - sg T0) (by rw [cp2.1] <;> rfl) (by rw [sg_cpr cp2] <;> rfl) ?_
      exact ih _ _ _ _ _ _ _ _ _ h (gl_cpr hgl cp2) cp2.2.2 had (by rw [cp2.1]; exact h_l0) G hl
set_option maxHeartbeats 4000000 in
set_option maxRecDepth 100000 in
theorem a_X10_widenTo_b38 {p : Program} {l : Launch} {e : Env} {s : State} {m : MethodId} {args : Array Value} {below : List Frame} {meth : Method} {c : Code} {Q : State → Prop} {D : va_G} {A : Nat → Prop} {cI cJ cZ cMic cSrc cSt cAI cAJ : ClassId} {ad0 : Nat → Nat} {T0 : AT} {T1 : AT} (E : cE p c cX10_widenTo s m args (Cond.code yX10_widenTo cX10_widenTo 6 none :: wsA) D RX10 (CT cI cJ cZ cMic cSrc cSt cAI cAJ)) (hA : ∀ q : Nat, s.heap.size ≤ q → A q) (hX : xT A s) (hN : nX s) (hml : c.maxLocals = 6) (hst : l.stackTraces = false) (kr108 : ∀ (ad : Nat → Nat) (H : Heap) (locs : List Loc) (ls : Array Slot), (∀ n, n < T0.1 → ad n = ad0 n) → gC cI cJ cZ cMic cSrc cSt cAI cAJ D ad A s.heap H locs T1 → W p l e { frames := 1, cells := T1.1 - T0.1, slots := sg T1 - sg T0, locals := 0 } s m args below meth c H locs (T1.1 - T0.1) (sg T1 - sg T0) Q (F0 m 108 ls [])) {k5 : AT → Nat → Int32 → Int32 → Option (AT)} (hs5 : ∀ (T : AT) (l0 : Nat) (l1 : Int32) (l2 : Int32), k5 T l0 l1 l2 = some T1 → GL T T1) (hk5 : ∀ (T : AT) (ad : Nat → Nat) (H : Heap) (locs : List Loc) (ls : Array Slot) (l0 : Nat) (l1 : Int32) (l2 : Int32), k5 T l0 l1 l2 = some T1 → GL T0 T → RC T → (∀ n, n < T0.1 → ad n = ad0 n) → l0 < T.1 → gC cI cJ cZ cMic cSrc cSt cAI cAJ D ad A s.heap H locs T → lv_has ls 6 [(0, .ref (ad l0)), (1, .int l1), (2, .int l2)] → W p l e { frames := 1, cells := T1.1 - T0.1, slots := sg T1 - sg T0, locals := 0 } s m args below meth c H locs (T.1 - T0.1) (sg T - sg T0) Q (F0 m 5 ls [])) : ∀ (T : AT) (ad : Nat → Nat) (H : Heap) (locs : List Loc) (ls : Array Slot) (l0 : Nat) (l1 : Int32) (l2 : Int32), g_X10_widenTo_b38 k5 T l0 l1 l2 = some T1 → GL T0 T → RC T → (∀ n, n < T0.1 → ad n = ad0 n) → l0 < T.1 → gC cI cJ cZ cMic cSrc cSt cAI cAJ D ad A s.heap H locs T → lv_has ls 6 [(0, .ref (ad l0)), (1, .int l1), (2, .int l2)] → W p l e { frames := 1, cells := T1.1 - T0.1, slots := sg T1 - sg T0, locals := 0 } s m args below meth c H locs (T.1 - T0.1) (sg T - sg T0) Q (F0 m 38 ls []) := by
  have hx := E.1
  have hb := E.2.1
  have hts := E.2.2.1
  have hown := E.2.2.2.1
  have hK := E.2.2.2.2
  intro T ad H locs ls l0 l1 l2 h hgl hrc had h_l0 G hl
  have hT1 := s_X10_widenTo_b38 hs5 _ _ _ _ h
  have hcs := cs_ok hgl hT1
  have cp0 := cpr0 hrc
  unfold g_X10_widenTo_b38 at h
  refine lv_iconst (v := 0) hx hb dX10_widenTo_38 (by decide) ?_
  refine lv_istore_n (lv' := [(3, .int 0), (0, .ref (ad l0)), (1, .int l1), (2, .int l2)]) hx hb dX10_widenTo_39 rfl hl (by decide) rfl (fun ls hl => ?_)
  have hl := lv_sub hl [1, 2, 3, 0] rfl
  refine w_cast (c2 := T.1 - T0.1) (s2 := sg T - sg T0) (by rw [cp0.1] <;> rfl) (by rw [sg_cpr cp0] <;> rfl) ?_
  exact a_X10_widenTo_b40 E hA hX hN hml hst kr108 hs5 hk5 _ _ _ _ _ _ _ _ _ _ h (gl_cpr hgl cp0) cp0.2.2 had (by rw [cp0.1]; exact h_l0) G hl
set_option maxHeartbeats 4000000 in
set_option maxRecDepth 100000 in
theorem a_X10_widenTo_b37 {p : Program} {l : Launch} {e : Env} {s : State} {m : MethodId} {args : Array Value} {below : List Frame} {meth : Method} {c : Code} {Q : State → Prop} {D : va_G} {A : Nat → Prop} {cI cJ cZ cMic cSrc cSt cAI cAJ : ClassId} {ad0 : Nat → Nat} {T0 : AT} {T1 : AT} (E : cE p c cX10_widenTo s m args (Cond.code yX10_widenTo cX10_widenTo 6 none :: wsA) D RX10 (CT cI cJ cZ cMic cSrc cSt cAI cAJ)) (hA : ∀ q : Nat, s.heap.size ≤ q → A q) (hX : xT A s) (hN : nX s) (hml : c.maxLocals = 6) (hst : l.stackTraces = false) (kr108 : ∀ (ad : Nat → Nat) (H : Heap) (locs : List Loc) (ls : Array Slot), (∀ n, n < T0.1 → ad n = ad0 n) → gC cI cJ cZ cMic cSrc cSt cAI cAJ D ad A s.heap H locs T1 → W p l e { frames := 1, cells := T1.1 - T0.1, slots := sg T1 - sg T0, locals := 0 } s m args below meth c H locs (T1.1 - T0.1) (sg T1 - sg T0) Q (F0 m 108 ls [])) {k5 : AT → Nat → Int32 → Int32 → Option (AT)} (hs5 : ∀ (T : AT) (l0 : Nat) (l1 : Int32) (l2 : Int32), k5 T l0 l1 l2 = some T1 → GL T T1) (hk5 : ∀ (T : AT) (ad : Nat → Nat) (H : Heap) (locs : List Loc) (ls : Array Slot) (l0 : Nat) (l1 : Int32) (l2 : Int32), k5 T l0 l1 l2 = some T1 → GL T0 T → RC T → (∀ n, n < T0.1 → ad n = ad0 n) → l0 < T.1 → gC cI cJ cZ cMic cSrc cSt cAI cAJ D ad A s.heap H locs T → lv_has ls 6 [(0, .ref (ad l0)), (1, .int l1), (2, .int l2)] → W p l e { frames := 1, cells := T1.1 - T0.1, slots := sg T1 - sg T0, locals := 0 } s m args below meth c H locs (T.1 - T0.1) (sg T - sg T0) Q (F0 m 5 ls [])) : ∀ (T : AT) (ad : Nat → Nat) (H : Heap) (locs : List Loc) (ls : Array Slot) (s0 : Nat) (s1 : Int32) (s2 : Nat) (l0 : Nat) (l1 : Int32) (l2 : Int32), g_X10_widenTo_b37 k5 T s0 s1 s2 l0 l1 l2 = some T1 → GL T0 T → RC T → (∀ n, n < T0.1 → ad n = ad0 n) → s0 < T.1 → s2 < T.1 → l0 < T.1 → gC cI cJ cZ cMic cSrc cSt cAI cAJ D ad A s.heap H locs T → lv_has ls 6 [(0, .ref (ad l0)), (1, .int l1), (2, .int l2)] → W p l e { frames := 1, cells := T1.1 - T0.1, slots := sg T1 - sg T0, locals := 0 } s m args below meth c H locs (T.1 - T0.1) (sg T - sg T0) Q (F0 m 37 ls [.ref (ad s0), .int s1, .ref (ad s2)]) := by
  have hx := E.1
  have hb := E.2.1
  have hts := E.2.2.1
  have hown := E.2.2.2.1
  have hK := E.2.2.2.2
  intro T ad H locs ls s0 s1 s2 l0 l1 l2 h hgl hrc had h_s0 h_s2 h_l0 G hl
  have hT1 := s_X10_widenTo_b37 hs5 _ _ _ _ _ _ _ h
  have hcs := cs_ok hgl hT1
  have cp0 := cpr0 hrc
  unfold g_X10_widenTo_b37 at h
  obtain ⟨g2, h⟩ := oif_some h
  obtain ⟨g3, h⟩ := oif_some h
  obtain ⟨g4, h⟩ := oif_some h
  refine n_asta E G s2 7 s0 (ty := .long) (k := s1.toNatClampNeg) (aA_k g2).1 rfl (cc_a107 (aA_k g2).2.1) rfl hN.2.2.2.2.1 (va_nm_long (hK.2 1 _ rfl).2) (aA_k g4).1 rfl (cc_a101 (aA_k g4).2.1) (inb_k g3).1 (inb_k g3).2 (aA_k g2).2.2 dX10_widenTo_37 (fun H locs G => ?_)
  have G := gC_up_r (f := va_up (T.2.2.2.2 s2) s1.toNatClampNeg (some s0)) (by rw [ccv_107 (aA_k g2).2.1, map_up]) G
  obtain ⟨T5, eT5, h⟩ := elet_some h
  have G : gC cI cJ cZ cMic cSrc cSt cAI cAJ D ad A s.heap H locs T5 := by rw [eT5]; exact G
  have cp1 := show CPR T T5 from by rw [eT5]; exact cpr_uR cp0 (aA_k g4).1
  clear eT5
  have hl := lv_sub hl [0, 1, 2] rfl
  refine w_cast (c2 := T5.1 - T0.1) (s2 := sg T5 - sg T0) (by rw [cp1.1] <;> rfl) (by rw [sg_cpr cp1] <;> rfl) ?_
  exact a_X10_widenTo_b38 E hA hX hN hml hst kr108 hs5 hk5 _ _ _ _ _ _ _ _ h (gl_cpr hgl cp1) cp1.2.2 had (by rw [cp1.1]; exact h_l0) G hl
set_option maxHeartbeats 4000000 in
set_option maxRecDepth 100000 in
theorem a_X10_widenTo_b5 {p : Program} {l : Launch} {e : Env} {s : State} {m : MethodId} {args : Array Value} {below : List Frame} {meth : Method} {c : Code} {Q : State → Prop} {D : va_G} {A : Nat → Prop} {cI cJ cZ cMic cSrc cSt cAI cAJ : ClassId} {ad0 : Nat → Nat} {T0 : AT} {T1 : AT} (E : cE p c cX10_widenTo s m args (Cond.code yX10_widenTo cX10_widenTo 6 none :: wsA) D RX10 (CT cI cJ cZ cMic cSrc cSt cAI cAJ)) (hA : ∀ q : Nat, s.heap.size ≤ q → A q) (hX : xT A s) (hN : nX s) (hml : c.maxLocals = 6) (hst : l.stackTraces = false) (kr108 : ∀ (ad : Nat → Nat) (H : Heap) (locs : List Loc) (ls : Array Slot), (∀ n, n < T0.1 → ad n = ad0 n) → gC cI cJ cZ cMic cSrc cSt cAI cAJ D ad A s.heap H locs T1 → W p l e { frames := 1, cells := T1.1 - T0.1, slots := sg T1 - sg T0, locals := 0 } s m args below meth c H locs (T1.1 - T0.1) (sg T1 - sg T0) Q (F0 m 108 ls [])) : ∀ n : Nat, ∀ (T : AT) (ad : Nat → Nat) (H : Heap) (locs : List Loc) (ls : Array Slot) (l0 : Nat) (l1 : Int32) (l2 : Int32), g_X10_widenTo_b5 n T l0 l1 l2 = some T1 → GL T0 T → RC T → (∀ n, n < T0.1 → ad n = ad0 n) → l0 < T.1 → gC cI cJ cZ cMic cSrc cSt cAI cAJ D ad A s.heap H locs T → lv_has ls 6 [(0, .ref (ad l0)), (1, .int l1), (2, .int l2)] → W p l e { frames := 1, cells := T1.1 - T0.1, slots := sg T1 - sg T0, locals := 0 } s m args below meth c H locs (T.1 - T0.1) (sg T - sg T0) Q (F0 m 5 ls []) := by
  have hx := E.1
  have hb := E.2.1
  have hts := E.2.2.1
  have hown := E.2.2.2.1
  have hK := E.2.2.2.2
  intro n
  induction n with
  | zero =>
    intro T ad H locs ls l0 l1 l2 h
    have h : (none : Option (AT)) = some T1 := h
    cases h
  | succ n ih =>
    intro T ad H locs ls l0 l1 l2 h hgl hrc had h_l0 G hl
    have hT1 := s_X10_widenTo_b5 _ _ _ _ _ h
    have hcs := cs_ok hgl hT1
    have cp0 := cpr0 hrc
    unfold g_X10_widenTo_b5 at h
    refine lv_iload_n hx hb dX10_widenTo_5 rfl (lv_at hl 2 rfl) ?_
    refine lv_iload_n hx hb dX10_widenTo_6 rfl (lv_at hl 1 rfl) ?_
    refine lv_icmp_ge (tgt := 108) hx hb dX10_widenTo_7 (by decide) (fun c2 => ?_) (fun c2 => ?_)
    · have h := oif_pos c2 h
      have hl := lv_sub hl [] rfl
      refine w_cast (c2 := T.1 - T0.1) (s2 := sg T - sg T0) (by rw [cp0.1] <;> rfl) (by rw [sg_cpr cp0] <;> rfl) ?_
      exact a_X10_widenTo_b108 E hA hX hN hml hst kr108 _ _ _ _ _ h (gl_cpr hgl cp0) cp0.2.2 had G hl
    · have h := oif_neg c2 h
      refine lv_iload_n hx hb dX10_widenTo_10 rfl (lv_at hl 2 rfl) ?_
      refine lv_bipush (v := 40) hx hb dX10_widenTo_11 (by decide) ?_
      refine lv_icmp_ge (tgt := 108) hx hb dX10_widenTo_13 (by decide) (fun c3 => ?_) (fun c3 => ?_)
      · have h := oif_pos c3 h
        have hl := lv_sub hl [] rfl
        refine w_cast (c2 := T.1 - T0.1) (s2 := sg T - sg T0) (by rw [cp0.1] <;> rfl) (by rw [sg_cpr cp0] <;> rfl) ?_
        exact a_X10_widenTo_b108 E hA hX hN hml hst kr108 _ _ _ _ _ h (gl_cpr hgl cp0) cp0.2.2 had G hl
      · have h := oif_neg c3 h
        refine lv_aload_n hx hb dX10_widenTo_16 rfl (lv_at hl 0 rfl) ?_
        obtain ⟨g4, h⟩ := oif_some h
        obtain ⟨n5, en5, h⟩ := obind_some h
        have h_n5 : n5 < T.1 := by rw [← cp0.1]; exact cp0.2.2 _ _ _ en5
        refine c_get E G l0 1 (v := .ref (ad n5)) (oO_k g4).1 (cc_o10 (oO_k g4).2) rfl (fun w h => .tail _ (iA_12 h)) (by decide) (.tail _ qA_14) rfl (by rw [en5]; rfl) dX10_widenTo_17 ?_
        clear en5
        refine lv_iload_n hx hb dX10_widenTo_20 rfl (lv_at hl 2 rfl) ?_
        obtain ⟨g6, h⟩ := oif_some h
        obtain ⟨g7, h⟩ := oif_some h
        obtain ⟨n8, en8, h⟩ := obind_some h
        have h_n8 : n8 < T.1 := by rw [← cp0.1]; exact cp0.2.2 _ _ _ en8
        refine c_alda E G n5 7 (k := l2.toNatClampNeg) (v := .ref (ad n8)) (aA_k g6).1 (cc_a107 (aA_k g6).2.1) rfl (inb_k g7).1 (inb_k g7).2 (aA_k g6).2.2 (by show va_rf ((T.2.2.2.2 n5 l2.toNatClampNeg).map ad) = _; rw [en8]; rfl) dX10_widenTo_21 ?_
        clear en8
        obtain ⟨g9, h⟩ := oif_some h
        refine va_alen hx hb hK G.1 n8 1 (cW_e (aA_k g9).1 (cc_a101 (aA_k g9).2.1)) rfl (v := nI (T.2.1 n8).2) rfl dX10_widenTo_22 ?_
        refine lv_topi (fun v10 ev10 => ?_)
        have h := elet_at ev10 h
        clear ev10
        refine lv_if_ne (tgt := 38) hx hb dX10_widenTo_23 (by decide) (fun c11 => ?_) (fun c11 => ?_)
        · have h := oif_neg c11 h
          have hl := lv_sub hl [0, 1, 2] rfl
          refine w_cast (c2 := T.1 - T0.1) (s2 := sg T - sg T0) (by rw [cp0.1] <;> rfl) (by rw [sg_cpr cp0] <;> rfl) ?_
          exact a_X10_widenTo_b38 E hA hX hN hml hst kr108 (s_X10_widenTo_b5 n) ih _ _ _ _ _ _ _ _ h (gl_cpr hgl cp0) cp0.2.2 had (by rw [cp0.1]; exact h_l0) G hl
        · have h := oif_pos c11 h
          refine lv_aload_n hx hb dX10_widenTo_26 rfl (lv_at hl 0 rfl) ?_
          obtain ⟨g12, h⟩ := oif_some h
          obtain ⟨n13, en13, h⟩ := obind_some h
          have h_n13 : n13 < T.1 := by rw [← cp0.1]; exact cp0.2.2 _ _ _ en13
          refine c_get E G l0 1 (v := .ref (ad n13)) (oO_k g12).1 (cc_o10 (oO_k g12).2) rfl (fun w h => .tail _ (iA_12 h)) (by decide) (.tail _ qA_14) rfl (by rw [en13]; rfl) dX10_widenTo_27 ?_
          clear en13
          refine lv_iload_n hx hb dX10_widenTo_30 rfl (lv_at hl 2 rfl) ?_
          refine lv_aload_n hx hb dX10_widenTo_31 rfl (lv_at hl 0 rfl) ?_
          obtain ⟨g14, h⟩ := oif_some h
          refine c_get E G l0 0 (oO_k g14).1 (cc_o10 (oO_k g14).2) rfl (fun w h => .tail _ (iA_12 h)) (by decide) (.tail _ qA_20) rfl rfl dX10_widenTo_32 ?_
          refine lv_topi (fun v15 ev15 => ?_)
          have h := elet_at ev15 h
          clear ev15
          obtain ⟨g16, h⟩ := oif_some h
          obtain ⟨T17, eT17, h⟩ := elet_some h
          have hT2 := s_X10_widenTo_b37 (s_X10_widenTo_b5 n) _ _ _ _ _ _ _ h
          have hg2 : GL T T17 := by rw [eT17]; exact gl_newJ
          have hcn := cs_new hgl cp0 hT2 (by rw [eT17]; rfl) (by rw [eT17]; exact sg_newJ)
          refine n_newl E G hA 1 (K := v15.toNatClampNeg) (.tail _ qA_13) rfl (inb_k g16).1 (Nat.le_of_lt_succ (inb_k g16).2) hcn.1 hcn.2 dX10_widenTo_35 (fun q18 H G => ?_)
          have G := gC_new cp0.2.2 G
          rw [← eT17] at G
          have hga : ∀ n, n < T.1 → cat T.1 ad (fun _ => q18) n = ad n := fun n hn => cat_lo hn
          have hnew : cat T.1 ad (fun _ => q18) T.1 = q18 := cat_hi (Nat.le_refl _)
          have hrc2 := hg2.2.2 cp0.2.2
          refine w_cast (c2 := T17.1 - T0.1) (s2 := sg T17 - sg T0) (cs_e1 hgl cp0 (by rw [eT17]; rfl)) (cs_e2 hgl cp0 (by rw [eT17]; exact sg_newJ)) ?_
          have h_new : T.1 < T17.1 := by rw [eT17]; exact Nat.lt_succ_self _
          rw [← hnew]
          generalize cat T.1 ad (fun _ => q18) = ad2 at G hga ⊢
          have hl := lv_sub hl [0, 1, 2] rfl
          rw [show ad l0 = ad2 l0 from (hga l0 (by rw [cp0.1]; exact h_l0)).symm] at hl
          refine w_st (st2 := [.ref (ad2 T.1), .int l2, .ref (ad2 n13)]) (by rw [hga n13 (by rw [cp0.1]; exact h_n13)]) ?_
          exact a_X10_widenTo_b37 E hA hX hN hml hst kr108 (s_X10_widenTo_b5 n) ih _ _ _ _ _ _ _ _ _ _ _ h (GL.tr (gl_cpr hgl cp0) hg2) hrc2 (fun n hn => (hga n (by rw [cp0.1]; exact Nat.lt_of_lt_of_le hn hgl.1)).trans (had n hn)) h_new (Nat.lt_of_lt_of_le (by rw [cp0.1]; exact h_n13) hg2.1) (Nat.lt_of_lt_of_le (by rw [cp0.1]; exact h_l0) hg2.1) G hl
set_option maxHeartbeats 4000000 in
set_option maxRecDepth 100000 in
theorem a_X10_widenTo (l : Launch) (hst : l.stackTraces = false) (D : va_G) (cI cJ cZ cMic cSrc cSt cAI cAJ : ClassId) (ad : Nat → Nat) (T : AT) (o : Nat) (a0 : Int32) {T1 : AT} (h : g_X10_widenTo T o a0 = some T1) (hrc : RC T) (h_o : o < T.1) : kAv l yX10_widenTo (Cond.code yX10_widenTo cX10_widenTo 6 none :: wsA) 1 0 cI cJ cZ cMic cSrc cSt cAI cAJ D ad T [.ref (ad o), .int a0] T1 := by
  intro sz
  refine pro_in (cc := cX10_widenTo) (maxL := 6) (ret := none) (by exact pn_RX10) rfl (by exact Nat.le_of_ble_eq_true rfl) (fun p e s m below meth c ls hx hb hr hts hown hlocks hml hv hl => ?_)
  obtain ⟨hsz, hP, hK, hD0, hX, hN⟩ := hv
  subst hsz
  have hD := hD0.self (sz := s.heap.size)
  generalize hAe : va_A (cW ad T.1 (cc cI cJ cZ cMic cSrc cSt cAI cAJ ad T)) s.heap.size = A at hD hX ⊢
  have hA : ∀ q : Nat, s.heap.size ≤ q → A q := fun q h => by rw [← hAe]; exact Or.inr h
  have G : gC cI cJ cZ cMic cSrc cSt cAI cAJ D ad A s.heap s.heap [] T := ⟨hP, hD, va_S.rf⟩
  have E : cE p c cX10_widenTo s m ([.ref (ad o), .int a0] : List Value).toArray (Cond.code yX10_widenTo cX10_widenTo 6 none :: wsA) D RX10 (CT cI cJ cZ cMic cSrc cSt cAI cAJ) := ⟨hx, hb, hts, hown, hK⟩
  have hl : lv_has ls 6 [(0, .ref (ad o)), (1, .int a0)] := hl
  have hgl := GL.rf T
  have had : ∀ n, n < T.1 → ad n = ad n := fun _ _ => rfl
  have hT1 := s_X10_widenTo h
  have hcs := cs_ok hgl hT1
  refine w_cast (Nat.sub_self T.1).symm (Nat.sub_self (sg T)).symm ?_
  have cp0 := cpr0 hrc
  unfold g_X10_widenTo at h
  refine lv_aload_n hx hb dX10_widenTo_0 rfl (lv_at hl 0 rfl) ?_
  obtain ⟨g2, h⟩ := oif_some h
  refine c_get E G o 2 (oO_k g2).1 (cc_o10 (oO_k g2).2) rfl (fun w h => .tail _ (iA_12 h)) (by decide) (.tail _ qA_15) rfl rfl dX10_widenTo_1 ?_
  refine lv_topi (fun v3 ev3 => ?_)
  have h := elet_at ev3 h
  clear ev3
  refine lv_istore_n (lv' := [(2, .int v3), (0, .ref (ad o)), (1, .int a0)]) hx hb dX10_widenTo_4 rfl hl (by decide) rfl (fun ls hl => ?_)
  have hl := lv_sub hl [1, 2, 0] rfl
  refine w_cast (c2 := T.1 - T.1) (s2 := sg T - sg T) (by rw [cp0.1] <;> rfl) (by rw [sg_cpr cp0] <;> rfl) ?_
  exact a_X10_widenTo_b5 E hA hX hN hml hst (fun ad H locs ls had G => W.vret hx hb hr (fun t ht hW => ⟨⟨(T1, ad), rfl, ⟨rfl, had⟩, ⟨by rw [ht]; exact G.1, va_K.moved hW.alike hK, G.2.1⟩⟩, G.2.2.F ht⟩) G.2.2.2.2 dX10_widenTo_108) _ _ _ _ _ _ _ _ _ h (gl_cpr hgl cp0) cp0.2.2 had (by rw [cp0.1]; exact h_o) G hl
def g_X10_settle_b99  (T : AT)  : Option (AT) := some T
def g_X10_settle_b93 (k64 : AT → Nat → Int32 → Int32 → Option (AT)) (T : AT) (l0 : Nat) (l1 : Int32) (l2 : Int32) : Option (AT) := elet (l2 + Int32.ofInt (1)) fun v2 => k64 T l0 l1 v2
def g_X10_settle_b64  : Nat → AT → Nat → Int32 → Int32 → Option (AT)
  | 0, _, _, _, _ => none
  | n + 1, T, l0, l1, l2 => elet (l2 + 1) fun v2 => if 40 ≤ v2 then (g_X10_settle_b99 T) else (oif (oO T l0 10 = true) <| obind (T.2.2.2.2 l0 1) fun n5 => oif (aA T n5 107 = true) <| oif (inb l2 (T.2.1 n5).2 = true) <| obind (T.2.2.2.2 n5 l2.toNatClampNeg) fun n8 => oif (aA T n8 101 = true) <| oif (inb l1 (T.2.1 n8).2 = true) <| elet (T.2.2.2.1 n8 l1.toNatClampNeg) fun v11 => obind (g_X10_isBeyondPart v11) fun r12 => if r12 = 0 then (g_X10_settle_b99 T) else (elet (l2 + 2) fun v15 => oif (oO T l0 10 = true) <| obind (g_X10_widenTo T l0 v15) fun T17 => g_X10_settle_b93 (g_X10_settle_b64 n) T17 l0 l1 l2))
def g_X10_settle_b2  : Nat → AT → Nat → Int32 → Int32 → Option (AT)
  | 0, _, _, _, _ => none
  | n + 1, T, l0, l1, l2 => elet (l2 + 1) fun v2 => oif (oO T l0 10 = true) <| elet (T.2.2.1 l0 2) fun v4 => if v4 ≤ v2 then (oif (oO T l0 10 = true) <| elet (T.2.2.1 l0 2) fun v7 => elet (v7 - 1) fun v8 => g_X10_settle_b64 16384 T l0 l1 v8) else (oif (oO T l0 10 = true) <| obind (T.2.2.2.2 l0 1) fun n10 => oif (aA T n10 107 = true) <| oif (inb l2 (T.2.1 n10).2 = true) <| obind (T.2.2.2.2 n10 l2.toNatClampNeg) fun n13 => oif (aA T n13 101 = true) <| oif (inb l1 (T.2.1 n13).2 = true) <| elet (T.2.2.2.1 n13 l1.toNatClampNeg) fun v16 => oif (oO T l0 10 = true) <| obind (T.2.2.2.2 l0 1) fun n18 => oif (aA T n18 107 = true) <| oif (inb l2 (T.2.1 n18).2 = true) <| obind (T.2.2.2.2 n18 l2.toNatClampNeg) fun n21 => elet (v16 &&& (268435455 : Int64)) fun v22 => oif (aA T n21 101 = true) <| oif (inb l1 (T.2.1 n21).2 = true) <| elet (uJ T n21 l1.toNatClampNeg v22) fun T25 => oif (oO T25 l0 10 = true) <| obind (T25.2.2.2.2 l0 1) fun n27 => elet (l2 + 1) fun v28 => oif (aA T25 n27 107 = true) <| oif (inb v28 (T25.2.1 n27).2 = true) <| obind (T25.2.2.2.2 n27 v28.toNatClampNeg) fun n31 => oif (aA T25 n31 101 = true) <| oif (inb l1 (T25.2.1 n31).2 = true) <| elet (T25.2.2.2.1 n31 l1.toNatClampNeg) fun v34 => elet (v16 >>> ((28 : Int32).toInt64 &&& 63)) fun v35 => elet (v34 + v35) fun v36 => oif (aA T25 n31 101 = true) <| oif (inb l1 (T25.2.1 n31).2 = true) <| elet (uJ T25 n31 l1.toNatClampNeg v36) fun T39 => elet (l2 + Int32.ofInt (1)) fun v40 => g_X10_settle_b2 n T39 l0 l1 v40)
def g_X10_settle (T : AT) (o : Nat) (a0 : Int32) : Option (AT) := g_X10_settle_b2 16384 T o a0 0
set_option maxHeartbeats 4000000 in
set_option maxRecDepth 100000 in
theorem s_X10_settle_b99 {T1 : AT} : ∀ (T : AT), g_X10_settle_b99 T = some T1 → GL T T1 := by
  intro T h
  have p0 := GL.rf T
  unfold g_X10_settle_b99 at h
  rw [← osome1 h]
  exact p0
set_option maxHeartbeats 4000000 in
set_option maxRecDepth 100000 in
theorem s_X10_settle_b93 {T1 : AT} {k64 : AT → Nat → Int32 → Int32 → Option (AT)} (hk64 : ∀ (T : AT) (l0 : Nat) (l1 : Int32) (l2 : Int32), k64 T l0 l1 l2 = some T1 → GL T T1) : ∀ (T : AT) (l0 : Nat) (l1 : Int32) (l2 : Int32), g_X10_settle_b93 k64 T l0 l1 l2 = some T1 → GL T T1 := by
  intro T l0 l1 l2 h
  have p0 := GL.rf T
  unfold g_X10_settle_b93 at h
  obtain ⟨v2, ev2, h⟩ := elet_some h
  exact GL.tr p0 (hk64 _ _ _ _ h)
set_option maxHeartbeats 4000000 in
set_option maxRecDepth 100000 in
theorem s_X10_settle_b64 {T1 : AT} : ∀ n : Nat, ∀ (T : AT) (l0 : Nat) (l1 : Int32) (l2 : Int32), g_X10_settle_b64 n T l0 l1 l2 = some T1 → GL T T1 := by
  intro n
  induction n with
  | zero =>
    intro T l0 l1 l2 h
    have h : (none : Option (AT)) = some T1 := h
    cases h
  | succ n ih =>
    intro T l0 l1 l2 h
    have p0 := GL.rf T
    unfold g_X10_settle_b64 at h
    obtain ⟨v2, -, h⟩ := elet_some h
    rcases oif_or h with ⟨c3, h⟩ | ⟨c3, h⟩
    · have h := h
      exact GL.tr p0 (s_X10_settle_b99 _ h)
    · have h := h
      obtain ⟨g4, h⟩ := oif_some h
      obtain ⟨n5, en5, h⟩ := obind_some h
      obtain ⟨g6, h⟩ := oif_some h
      obtain ⟨g7, h⟩ := oif_some h
      obtain ⟨n8, en8, h⟩ := obind_some h
      obtain ⟨g9, h⟩ := oif_some h
      obtain ⟨g10, h⟩ := oif_some h
      obtain ⟨v11, -, h⟩ := elet_some h
      obtain ⟨r12, -, h⟩ := obind_some h
      rcases oif_or h with ⟨c13, h⟩ | ⟨c13, h⟩
      · have h := h
        exact GL.tr p0 (s_X10_settle_b99 _ h)
      · have h := h
        obtain ⟨v14, -, h⟩ := elet_some h
        obtain ⟨g15, h⟩ := oif_some h
        obtain ⟨T16, eT16, h⟩ := obind_some h
        have p1 : GL T T16 := GL.tr p0 (s_X10_widenTo eT16)
        exact GL.tr p1 (s_X10_settle_b93 ih _ _ _ _ h)
set_option maxHeartbeats 4000000 in
set_option maxRecDepth 100000 in
theorem s_X10_settle_b2 {T1 : AT} : ∀ n : Nat, ∀ (T : AT) (l0 : Nat) (l1 : Int32) (l2 : Int32), g_X10_settle_b2 n T l0 l1 l2 = some T1 → GL T T1 := by
  intro n
  induction n with
  | zero =>
    intro T l0 l1 l2 h
    have h : (none : Option (AT)) = some T1 := h
    cases h
  | succ n ih =>
    intro T l0 l1 l2 h
    have p0 := GL.rf T
    unfold g_X10_settle_b2 at h
    obtain ⟨v2, -, h⟩ := elet_some h
    obtain ⟨g3, h⟩ := oif_some h
    obtain ⟨v4, -, h⟩ := elet_some h
    rcases oif_or h with ⟨c5, h⟩ | ⟨c5, h⟩
    · have h := h
      obtain ⟨g6, h⟩ := oif_some h
      obtain ⟨v7, -, h⟩ := elet_some h
      obtain ⟨v8, -, h⟩ := elet_some h
      exact GL.tr p0 (s_X10_settle_b64 _ _ _ _ _ h)
    · have h := h
      obtain ⟨g9, h⟩ := oif_some h
      obtain ⟨n10, en10, h⟩ := obind_some h
      obtain ⟨g11, h⟩ := oif_some h
      obtain ⟨g12, h⟩ := oif_some h
      obtain ⟨n13, en13, h⟩ := obind_some h
      obtain ⟨g14, h⟩ := oif_some h
      obtain ⟨g15, h⟩ := oif_some h
      obtain ⟨v16, -, h⟩ := elet_some h
      obtain ⟨g17, h⟩ := oif_some h
      obtain ⟨n18, en18, h⟩ := obind_some h
      obtain ⟨g19, h⟩ := oif_some h
      obtain ⟨g20, h⟩ := oif_some h
      obtain ⟨n21, en21, h⟩ := obind_some h
      obtain ⟨v22, -, h⟩ := elet_some h
      obtain ⟨g23, h⟩ := oif_some h
      obtain ⟨g24, h⟩ := oif_some h
      obtain ⟨T25, eT25, h⟩ := elet_some h
      have p1 : GL T T25 := GL.tr p0 (by rw [eT25]; exact gl_sp sp_uJ)
      obtain ⟨g26, h⟩ := oif_some h
      obtain ⟨n27, en27, h⟩ := obind_some h
      obtain ⟨v28, -, h⟩ := elet_some h
      obtain ⟨g29, h⟩ := oif_some h
      obtain ⟨g30, h⟩ := oif_some h
      obtain ⟨n31, en31, h⟩ := obind_some h
      obtain ⟨g32, h⟩ := oif_some h
      obtain ⟨g33, h⟩ := oif_some h
      obtain ⟨v34, -, h⟩ := elet_some h
      obtain ⟨v35, -, h⟩ := elet_some h
      obtain ⟨v36, -, h⟩ := elet_some h
      obtain ⟨g37, h⟩ := oif_some h
      obtain ⟨g38, h⟩ := oif_some h
      obtain ⟨T39, eT39, h⟩ := elet_some h
      have p2 : GL T T39 := GL.tr p1 (by rw [eT39]; exact gl_sp sp_uJ)
      obtain ⟨v40, ev40, h⟩ := elet_some h
      exact GL.tr p2 (ih _ _ _ _ h)
set_option maxHeartbeats 4000000 in
set_option maxRecDepth 100000 in
theorem s_X10_settle {T : AT} {o : Nat} {a0 : Int32} {T1 : AT} (h : g_X10_settle T o a0 = some T1) : GL T T1 := by
  have p0 := GL.rf T
  unfold g_X10_settle at h
  exact GL.tr p0 (s_X10_settle_b2 _ _ _ _ _ h)
set_option maxHeartbeats 4000000 in
set_option maxRecDepth 100000 in
theorem a_X10_settle_b99 {p : Program} {l : Launch} {e : Env} {s : State} {m : MethodId} {args : Array Value} {below : List Frame} {meth : Method} {c : Code} {Q : State → Prop} {D : va_G} {A : Nat → Prop} {cI cJ cZ cMic cSrc cSt cAI cAJ : ClassId} {ad0 : Nat → Nat} {T0 : AT} {T1 : AT} (E : cE p c cX10_settle s m args (Cond.code yX10_settle cX10_settle 5 none :: wsA) D RX10 (CT cI cJ cZ cMic cSrc cSt cAI cAJ)) (hA : ∀ q : Nat, s.heap.size ≤ q → A q) (hX : xT A s) (hN : nX s) (hml : c.maxLocals = 5) (hst : l.stackTraces = false) (kr99 : ∀ (ad : Nat → Nat) (H : Heap) (locs : List Loc) (ls : Array Slot), (∀ n, n < T0.1 → ad n = ad0 n) → gC cI cJ cZ cMic cSrc cSt cAI cAJ D ad A s.heap H locs T1 → W p l e { frames := 2, cells := T1.1 - T0.1, slots := sg T1 - sg T0, locals := 25 } s m args below meth c H locs (T1.1 - T0.1) (sg T1 - sg T0) Q (F0 m 99 ls [])) : ∀ (T : AT) (ad : Nat → Nat) (H : Heap) (locs : List Loc) (ls : Array Slot), g_X10_settle_b99 T = some T1 → GL T0 T → RC T → (∀ n, n < T0.1 → ad n = ad0 n) → gC cI cJ cZ cMic cSrc cSt cAI cAJ D ad A s.heap H locs T → lv_has ls 5 [] → W p l e { frames := 2, cells := T1.1 - T0.1, slots := sg T1 - sg T0, locals := 25 } s m args below meth c H locs (T.1 - T0.1) (sg T - sg T0) Q (F0 m 99 ls []) := by
  have hx := E.1
  have hb := E.2.1
  have hts := E.2.2.1
  have hown := E.2.2.2.1
  have hK := E.2.2.2.2
  intro T ad H locs ls h hgl hrc had G hl
  have hT1 := s_X10_settle_b99 _ h
  have hcs := cs_ok hgl hT1
  have cp0 := cpr0 hrc
  unfold g_X10_settle_b99 at h
  rw [osome1 h] at G
  refine w_cast (c2 := T1.1 - T0.1) (s2 := sg T1 - sg T0) (by rw [← osome1 h, cp0.1] <;> rfl) (by rw [← osome1 h, sg_cpr cp0] <;> rfl) ?_
  exact kr99 ad _ _ _ had G
set_option maxHeartbeats 4000000 in
set_option maxRecDepth 100000 in
theorem a_X10_settle_b93 {p : Program} {l : Launch} {e : Env} {s : State} {m : MethodId} {args : Array Value} {below : List Frame} {meth : Method} {c : Code} {Q : State → Prop} {D : va_G} {A : Nat → Prop} {cI cJ cZ cMic cSrc cSt cAI cAJ : ClassId} {ad0 : Nat → Nat} {T0 : AT} {T1 : AT} (E : cE p c cX10_settle s m args (Cond.code yX10_settle cX10_settle 5 none :: wsA) D RX10 (CT cI cJ cZ cMic cSrc cSt cAI cAJ)) (hA : ∀ q : Nat, s.heap.size ≤ q → A q) (hX : xT A s) (hN : nX s) (hml : c.maxLocals = 5) (hst : l.stackTraces = false) (kr99 : ∀ (ad : Nat → Nat) (H : Heap) (locs : List Loc) (ls : Array Slot), (∀ n, n < T0.1 → ad n = ad0 n) → gC cI cJ cZ cMic cSrc cSt cAI cAJ D ad A s.heap H locs T1 → W p l e { frames := 2, cells := T1.1 - T0.1, slots := sg T1 - sg T0, locals := 25 } s m args below meth c H locs (T1.1 - T0.1) (sg T1 - sg T0) Q (F0 m 99 ls [])) {k64 : AT → Nat → Int32 → Int32 → Option (AT)} (hs64 : ∀ (T : AT) (l0 : Nat) (l1 : Int32) (l2 : Int32), k64 T l0 l1 l2 = some T1 → GL T T1) (hk64 : ∀ (T : AT) (ad : Nat → Nat) (H : Heap) (locs : List Loc) (ls : Array Slot) (l0 : Nat) (l1 : Int32) (l2 : Int32), k64 T l0 l1 l2 = some T1 → GL T0 T → RC T → (∀ n, n < T0.1 → ad n = ad0 n) → l0 < T.1 → gC cI cJ cZ cMic cSrc cSt cAI cAJ D ad A s.heap H locs T → lv_has ls 5 [(0, .ref (ad l0)), (1, .int l1), (2, .int l2)] → W p l e { frames := 2, cells := T1.1 - T0.1, slots := sg T1 - sg T0, locals := 25 } s m args below meth c H locs (T.1 - T0.1) (sg T - sg T0) Q (F0 m 64 ls [])) : ∀ (T : AT) (ad : Nat → Nat) (H : Heap) (locs : List Loc) (ls : Array Slot) (l0 : Nat) (l1 : Int32) (l2 : Int32), g_X10_settle_b93 k64 T l0 l1 l2 = some T1 → GL T0 T → RC T → (∀ n, n < T0.1 → ad n = ad0 n) → l0 < T.1 → gC cI cJ cZ cMic cSrc cSt cAI cAJ D ad A s.heap H locs T → lv_has ls 5 [(0, .ref (ad l0)), (1, .int l1), (2, .int l2)] → W p l e { frames := 2, cells := T1.1 - T0.1, slots := sg T1 - sg T0, locals := 25 } s m args below meth c H locs (T.1 - T0.1) (sg T - sg T0) Q (F0 m 93 ls []) := by
  have hx := E.1
  have hb := E.2.1
  have hts := E.2.2.1
  have hown := E.2.2.2.1
  have hK := E.2.2.2.2
  intro T ad H locs ls l0 l1 l2 h hgl hrc had h_l0 G hl
  have hT1 := s_X10_settle_b93 hs64 _ _ _ _ h
  have hcs := cs_ok hgl hT1
  have cp0 := cpr0 hrc
  unfold g_X10_settle_b93 at h
  obtain ⟨v2, ev2, h⟩ := elet_some h
  refine lv_iinc (v := v2) (lv' := [(2, .int v2), (0, .ref (ad l0)), (1, .int l1)]) hx hb dX10_settle_93 hl (k := 2) rfl ev2.symm (by decide) rfl (fun ls hl => ?_)
  refine lv_goto (tgt := 64) hx hb dX10_settle_96 (by decide) ?_
  have hl := lv_sub hl [1, 2, 0] rfl
  refine w_cast (c2 := T.1 - T0.1) (s2 := sg T - sg T0) (by rw [cp0.1] <;> rfl) (by rw [sg_cpr cp0] <;> rfl) ?_
  exact hk64 _ _ _ _ _ _ _ _ h (gl_cpr hgl cp0) cp0.2.2 had (by rw [cp0.1]; exact h_l0) G hl
set_option maxHeartbeats 4000000 in
set_option maxRecDepth 100000 in
theorem a_X10_settle_b64 {p : Program} {l : Launch} {e : Env} {s : State} {m : MethodId} {args : Array Value} {below : List Frame} {meth : Method} {c : Code} {Q : State → Prop} {D : va_G} {A : Nat → Prop} {cI cJ cZ cMic cSrc cSt cAI cAJ : ClassId} {ad0 : Nat → Nat} {T0 : AT} {T1 : AT} (E : cE p c cX10_settle s m args (Cond.code yX10_settle cX10_settle 5 none :: wsA) D RX10 (CT cI cJ cZ cMic cSrc cSt cAI cAJ)) (hA : ∀ q : Nat, s.heap.size ≤ q → A q) (hX : xT A s) (hN : nX s) (hml : c.maxLocals = 5) (hst : l.stackTraces = false) (kr99 : ∀ (ad : Nat → Nat) (H : Heap) (locs : List Loc) (ls : Array Slot), (∀ n, n < T0.1 → ad n = ad0 n) → gC cI cJ cZ cMic cSrc cSt cAI cAJ D ad A s.heap H locs T1 → W p l e { frames := 2, cells := T1.1 - T0.1, slots := sg T1 - sg T0, locals := 25 } s m args below meth c H locs (T1.1 - T0.1) (sg T1 - sg T0) Q (F0 m 99 ls [])) : ∀ n : Nat, ∀ (T : AT) (ad : Nat → Nat) (H : Heap) (locs : List Loc) (ls : Array Slot) (l0 : Nat) (l1 : Int32) (l2 : Int32), g_X10_settle_b64 n T l0 l1 l2 = some T1 → GL T0 T → RC T → (∀ n, n < T0.1 → ad n = ad0 n) → l0 < T.1 → gC cI cJ cZ cMic cSrc cSt cAI cAJ D ad A s.heap H locs T → lv_has ls 5 [(0, .ref (ad l0)), (1, .int l1), (2, .int l2)] → W p l e { frames := 2, cells := T1.1 - T0.1, slots := sg T1 - sg T0, locals := 25 } s m args below meth c H locs (T.1 - T0.1) (sg T - sg T0) Q (F0 m 64 ls []) := by
  have hx := E.1
  have hb := E.2.1
  have hts := E.2.2.1
  have hown := E.2.2.2.1
  have hK := E.2.2.2.2
  intro n
  induction n with
  | zero =>
    intro T ad H locs ls l0 l1 l2 h
    have h : (none : Option (AT)) = some T1 := h
    cases h
  | succ n ih =>
    intro T ad H locs ls l0 l1 l2 h hgl hrc had h_l0 G hl
    have hT1 := s_X10_settle_b64 _ _ _ _ _ h
    have hcs := cs_ok hgl hT1
    have cp0 := cpr0 hrc
    unfold g_X10_settle_b64 at h
    refine lv_iload_n hx hb dX10_settle_64 rfl (lv_at hl 2 rfl) ?_
    refine lv_iconst (v := 1) hx hb dX10_settle_65 (by decide) ?_
    refine lv_iadd hx hb dX10_settle_66 ?_
    refine lv_topi (fun v2 ev2 => ?_)
    have h := elet_at ev2 h
    clear ev2
    refine lv_bipush (v := 40) hx hb dX10_settle_67 (by decide) ?_
    refine lv_icmp_ge (tgt := 99) hx hb dX10_settle_69 (by decide) (fun c3 => ?_) (fun c3 => ?_)
    · have h := oif_pos c3 h
      have hl := lv_sub hl [] rfl
      refine w_cast (c2 := T.1 - T0.1) (s2 := sg T - sg T0) (by rw [cp0.1] <;> rfl) (by rw [sg_cpr cp0] <;> rfl) ?_
      exact a_X10_settle_b99 E hA hX hN hml hst kr99 _ _ _ _ _ h (gl_cpr hgl cp0) cp0.2.2 had G hl
    · have h := oif_neg c3 h
      refine lv_aload_n hx hb dX10_settle_72 rfl (lv_at hl 0 rfl) ?_
      obtain ⟨g4, h⟩ := oif_some h
      obtain ⟨n5, en5, h⟩ := obind_some h
      have h_n5 : n5 < T.1 := by rw [← cp0.1]; exact cp0.2.2 _ _ _ en5
      refine c_get E G l0 1 (v := .ref (ad n5)) (oO_k g4).1 (cc_o10 (oO_k g4).2) rfl (fun w h => .tail _ (iA_12 h)) (by decide) (.tail _ qA_14) rfl (by rw [en5]; rfl) dX10_settle_73 ?_
      clear en5
      refine lv_iload_n hx hb dX10_settle_76 rfl (lv_at hl 2 rfl) ?_
      obtain ⟨g6, h⟩ := oif_some h
      obtain ⟨g7, h⟩ := oif_some h
      obtain ⟨n8, en8, h⟩ := obind_some h
      have h_n8 : n8 < T.1 := by rw [← cp0.1]; exact cp0.2.2 _ _ _ en8
      refine c_alda E G n5 7 (k := l2.toNatClampNeg) (v := .ref (ad n8)) (aA_k g6).1 (cc_a107 (aA_k g6).2.1) rfl (inb_k g7).1 (inb_k g7).2 (aA_k g6).2.2 (by show va_rf ((T.2.2.2.2 n5 l2.toNatClampNeg).map ad) = _; rw [en8]; rfl) dX10_settle_77 ?_
      clear en8
      refine lv_iload_n hx hb dX10_settle_78 rfl (lv_at hl 1 rfl) ?_
      obtain ⟨g9, h⟩ := oif_some h
      obtain ⟨g10, h⟩ := oif_some h
      refine c_lald E G n8 1 (k := l1.toNatClampNeg) (aA_k g9).1 (cc_a101 (aA_k g9).2.1) rfl (inb_k g10).1 (inb_k g10).2 (aA_k g9).2.2 dX10_settle_79 ?_
      refine lv_topl (fun v11 ev11 => ?_)
      have h := elet_at ev11 h
      clear ev11
      obtain ⟨r12, er12, h⟩ := obind_some h
      refine q_sti (As := [.long v11]) (rest := []) ⟨hx, hb, hml, hown, hts⟩ hN (u_X10_isBeyondPart l v11 er12) (cwS 1 hts (gaS qA_94 qA_95 qA_6 qA_96) rfl rfl rfl (by decide +kernel) ⟨Nat.le_of_ble_eq_true rfl, Nat.le_of_ble_eq_true rfl⟩) rfl hl.1 rfl (lv_room (Nat.le_of_ble_eq_true rfl)) dX10_settle_80 hcs (fun q13 hq => ?_)
      refine lv_to hq ?_
      clear hq er12
      refine lv_if_eq (tgt := 99) hx hb dX10_settle_83 (by decide) (fun c14 => ?_) (fun c14 => ?_)
      · have h := oif_pos c14 h
        have hl := lv_sub hl [] rfl
        refine w_cast (c2 := T.1 - T0.1) (s2 := sg T - sg T0) (by rw [cp0.1] <;> rfl) (by rw [sg_cpr cp0] <;> rfl) ?_
        exact a_X10_settle_b99 E hA hX hN hml hst kr99 _ _ _ _ _ h (gl_cpr hgl cp0) cp0.2.2 had G hl
      · have h := oif_neg c14 h
        refine lv_aload_n hx hb dX10_settle_86 rfl (lv_at hl 0 rfl) ?_
        refine lv_iload_n hx hb dX10_settle_87 rfl (lv_at hl 2 rfl) ?_
        refine lv_iconst (v := 2) hx hb dX10_settle_88 (by decide) ?_
        refine lv_iadd hx hb dX10_settle_89 ?_
        refine lv_topi (fun v15 ev15 => ?_)
        have h := elet_at ev15 h
        clear ev15
        obtain ⟨g16, h⟩ := oif_some h
        obtain ⟨T17, eT17, h⟩ := obind_some h
        have hg2 := s_X10_widenTo eT17
        have hrc2 := hg2.2.2 cp0.2.2
        have hT2 := s_X10_settle_b93 (s_X10_settle_b64 n) _ _ _ _ h
        refine q_avv (As := [.int v15]) (rest := []) E G hA hX hN hml (a_X10_widenTo l hst D cI cJ cZ cMic cSrc cSt cAI cAJ ad T l0 v15 eT17 cp0.2.2 (by rw [cp0.1]; exact h_l0)) (cwV 1 hts (gaV qA_98 qA_78 qA_79 qA_6 qA_80) rfl rfl rfl (by decide +kernel) ⟨Nat.le_of_ble_eq_true rfl, Nat.le_of_ble_eq_true rfl⟩) (oO_k g16).1 (cc_o10 (oO_k g16).2) rfl rfl hl.1 rfl (lv_room (Nat.le_of_ble_eq_true rfl)) dX10_settle_90 (cs_av hgl cp0 hg2 hT2) (fun ad2 H locs hga G => ?_)
        refine w_cast (c2 := T17.1 - T0.1) (s2 := sg T17 - sg T0) (cs_f1 hgl cp0 hg2) (cs_f2 hgl cp0 hg2) ?_
        have hl := lv_sub hl [0, 1, 2] rfl
        rw [show ad l0 = ad2 l0 from (hga l0 (by rw [cp0.1]; exact h_l0)).symm] at hl
        exact a_X10_settle_b93 E hA hX hN hml hst kr99 (s_X10_settle_b64 n) ih _ _ _ _ _ _ _ _ h (GL.tr (gl_cpr hgl cp0) hg2) hrc2 (fun n hn => (hga n (by rw [cp0.1]; exact Nat.lt_of_lt_of_le hn hgl.1)).trans (had n hn)) (Nat.lt_of_lt_of_le (by rw [cp0.1]; exact h_l0) hg2.1) G hl
set_option maxHeartbeats 4000000 in
set_option maxRecDepth 100000 in
theorem a_X10_settle_b2 {p : Program} {l : Launch} {e : Env} {s : State} {m : MethodId} {args : Array Value} {below : List Frame} {meth : Method} {c : Code} {Q : State → Prop} {D : va_G} {A : Nat → Prop} {cI cJ cZ cMic cSrc cSt cAI cAJ : ClassId} {ad0 : Nat → Nat} {T0 : AT} {T1 : AT} (E : cE p c cX10_settle s m args (Cond.code yX10_settle cX10_settle 5 none :: wsA) D RX10 (CT cI cJ cZ cMic cSrc cSt cAI cAJ)) (hA : ∀ q : Nat, s.heap.size ≤ q → A q) (hX : xT A s) (hN : nX s) (hml : c.maxLocals = 5) (hst : l.stackTraces = false) (kr99 : ∀ (ad : Nat → Nat) (H : Heap) (locs : List Loc) (ls : Array Slot), (∀ n, n < T0.1 → ad n = ad0 n) → gC cI cJ cZ cMic cSrc cSt cAI cAJ D ad A s.heap H locs T1 → W p l e { frames := 2, cells := T1.1 - T0.1, slots := sg T1 - sg T0, locals := 25 } s m args below meth c H locs (T1.1 - T0.1) (sg T1 - sg T0) Q (F0 m 99 ls [])) : ∀ n : Nat, ∀ (T : AT) (ad : Nat → Nat) (H : Heap) (locs : List Loc) (ls : Array Slot) (l0 : Nat) (l1 : Int32) (l2 : Int32), g_X10_settle_b2 n T l0 l1 l2 = some T1 → GL T0 T → RC T → (∀ n, n < T0.1 → ad n = ad0 n) → l0 < T.1 → gC cI cJ cZ cMic cSrc cSt cAI cAJ D ad A s.heap H locs T → lv_has ls 5 [(0, .ref (ad l0)), (1, .int l1), (2, .int l2)] → W p l e { frames := 2, cells := T1.1 - T0.1, slots := sg T1 - sg T0, locals := 25 } s m args below meth c H locs (T.1 - T0.1) (sg T - sg T0) Q (F0 m 2 ls []) := by
  have hx := E.1
  have hb := E.2.1
  have hts := E.2.2.1
  have hown := E.2.2.2.1
  have hK := E.2.2.2.2
  intro n
  induction n with
  | zero =>
    intro T ad H locs ls l0 l1 l2 h
    have h : (none : Option (AT)) = some T1 := h
    cases h
  | succ n ih =>
    intro T ad H locs ls l0 l1 l2 h hgl hrc had h_l0 G hl
    have hT1 := s_X10_settle_b2 _ _ _ _ _ h
    have hcs := cs_ok hgl hT1
    have cp0 := cpr0 hrc
    unfold g_X10_settle_b2 at h
    refine lv_iload_n hx hb dX10_settle_2 rfl (lv_at hl 2 rfl) ?_
    refine lv_iconst (v := 1) hx hb dX10_settle_3 (by decide) ?_
    refine lv_iadd hx hb dX10_settle_4 ?_
    refine lv_topi (fun v2 ev2 => ?_)
    have h := elet_at ev2 h
    clear ev2
    refine lv_aload_n hx hb dX10_settle_5 rfl (lv_at hl 0 rfl) ?_
    obtain ⟨g3, h⟩ := oif_some h
    refine c_get E G l0 2 (oO_k g3).1 (cc_o10 (oO_k g3).2) rfl (fun w h => .tail _ (iA_12 h)) (by decide) (.tail _ qA_15) rfl rfl dX10_settle_6 ?_
    refine lv_topi (fun v4 ev4 => ?_)
    have h := elet_at ev4 h
    clear ev4
    refine lv_icmp_ge (tgt := 57) hx hb dX10_settle_9 (by decide) (fun c5 => ?_) (fun c5 => ?_)
    · have h := oif_pos c5 h
      refine lv_aload_n hx hb dX10_settle_57 rfl (lv_at hl 0 rfl) ?_
      obtain ⟨g6, h⟩ := oif_some h
      refine c_get E G l0 2 (oO_k g6).1 (cc_o10 (oO_k g6).2) rfl (fun w h => .tail _ (iA_12 h)) (by decide) (.tail _ qA_15) rfl rfl dX10_settle_58 ?_
      refine lv_topi (fun v7 ev7 => ?_)
      have h := elet_at ev7 h
      clear ev7
      refine lv_iconst (v := 1) hx hb dX10_settle_61 (by decide) ?_
      refine lv_isub hx hb dX10_settle_62 ?_
      refine lv_topi (fun v8 ev8 => ?_)
      have h := elet_at ev8 h
      clear ev8
      refine lv_istore_n (lv' := [(2, .int v8), (0, .ref (ad l0)), (1, .int l1)]) hx hb dX10_settle_63 rfl hl (by decide) rfl (fun ls hl => ?_)
      have hl := lv_sub hl [1, 2, 0] rfl
      refine w_cast (c2 := T.1 - T0.1) (s2 := sg T - sg T0) (by rw [cp0.1] <;> rfl) (by rw [sg_cpr cp0] <;> rfl) ?_
      exact a_X10_settle_b64 E hA hX hN hml hst kr99 _ _ _ _ _ _ _ _ _ h (gl_cpr hgl cp0) cp0.2.2 had (by rw [cp0.1]; exact h_l0) G hl
    · have h := oif_neg c5 h
      refine lv_aload_n hx hb dX10_settle_12 rfl (lv_at hl 0 rfl) ?_
      obtain ⟨g9, h⟩ := oif_some h
      obtain ⟨n10, en10, h⟩ := obind_some h
      have h_n10 : n10 < T.1 := by rw [← cp0.1]; exact cp0.2.2 _ _ _ en10
      refine c_get E G l0 1 (v := .ref (ad n10)) (oO_k g9).1 (cc_o10 (oO_k g9).2) rfl (fun w h => .tail _ (iA_12 h)) (by decide) (.tail _ qA_14) rfl (by rw [en10]; rfl) dX10_settle_13 ?_
      clear en10
      refine lv_iload_n hx hb dX10_settle_16 rfl (lv_at hl 2 rfl) ?_
      obtain ⟨g11, h⟩ := oif_some h
      obtain ⟨g12, h⟩ := oif_some h
      obtain ⟨n13, en13, h⟩ := obind_some h
      have h_n13 : n13 < T.1 := by rw [← cp0.1]; exact cp0.2.2 _ _ _ en13
      refine c_alda E G n10 7 (k := l2.toNatClampNeg) (v := .ref (ad n13)) (aA_k g11).1 (cc_a107 (aA_k g11).2.1) rfl (inb_k g12).1 (inb_k g12).2 (aA_k g11).2.2 (by show va_rf ((T.2.2.2.2 n10 l2.toNatClampNeg).map ad) = _; rw [en13]; rfl) dX10_settle_17 ?_
      clear en13
      refine lv_iload_n hx hb dX10_settle_18 rfl (lv_at hl 1 rfl) ?_
      obtain ⟨g14, h⟩ := oif_some h
      obtain ⟨g15, h⟩ := oif_some h
      refine c_lald E G n13 1 (k := l1.toNatClampNeg) (aA_k g14).1 (cc_a101 (aA_k g14).2.1) rfl (inb_k g15).1 (inb_k g15).2 (aA_k g14).2.2 dX10_settle_19 ?_
      refine lv_topl (fun v16 ev16 => ?_)
      have h := elet_at ev16 h
      clear ev16
      refine lv_lstore_n (lv' := [(3, .long v16), (0, .ref (ad l0)), (1, .int l1), (2, .int l2)]) hx hb dX10_settle_20 rfl hl (by decide) rfl (fun ls hl => ?_)
      refine lv_aload_n hx hb dX10_settle_21 rfl (lv_at hl 1 rfl) ?_
      obtain ⟨g17, h⟩ := oif_some h
      obtain ⟨n18, en18, h⟩ := obind_some h
      have h_n18 : n18 < T.1 := by rw [← cp0.1]; exact cp0.2.2 _ _ _ en18
      refine c_get E G l0 1 (v := .ref (ad n18)) (oO_k g17).1 (cc_o10 (oO_k g17).2) rfl (fun w h => .tail _ (iA_12 h)) (by decide) (.tail _ qA_14) rfl (by rw [en18]; rfl) dX10_settle_22 ?_
      clear en18
      refine lv_iload_n hx hb dX10_settle_25 rfl (lv_at hl 3 rfl) ?_
      obtain ⟨g19, h⟩ := oif_some h
      obtain ⟨g20, h⟩ := oif_some h
      obtain ⟨n21, en21, h⟩ := obind_some h
      have h_n21 : n21 < T.1 := by rw [← cp0.1]; exact cp0.2.2 _ _ _ en21
      refine c_alda E G n18 7 (k := l2.toNatClampNeg) (v := .ref (ad n21)) (aA_k g19).1 (cc_a107 (aA_k g19).2.1) rfl (inb_k g20).1 (inb_k g20).2 (aA_k g19).2.2 (by show va_rf ((T.2.2.2.2 n18 l2.toNatClampNeg).map ad) = _; rw [en21]; rfl) dX10_settle_26 ?_
      clear en21
      refine lv_iload_n hx hb dX10_settle_27 rfl (lv_at hl 2 rfl) ?_
      refine lv_lload_n hx hb dX10_settle_28 rfl (lv_at hl 0 rfl) ?_
      refine lv_ldc2 (v := 268435455) hx hb hown (hts (.constantLong RX10 59 (268435455)) (.tail _ qA_81)) dX10_settle_29 ?_
      refine lv_land hx hb dX10_settle_32 ?_
      refine lv_topl (fun v22 ev22 => ?_)
      have h := elet_at ev22 h
      clear ev22
      obtain ⟨g23, h⟩ := oif_some h
      obtain ⟨g24, h⟩ := oif_some h
      refine c_last E G n21 1 (k := l1.toNatClampNeg) (v := v22) (aA_k g23).1 (cc_a101 (aA_k g23).2.1) rfl (inb_k g24).1 (inb_k g24).2 (aA_k g23).2.2 dX10_settle_33 (fun H locs G => ?_)
      have G := gC_up_j (f := vp_updL (T.2.2.2.1 n21) l1.toNatClampNeg v22) (ccv_101 (aA_k g23).2.1) G
      obtain ⟨T25, eT25, h⟩ := elet_some h
      have G : gC cI cJ cZ cMic cSrc cSt cAI cAJ D ad A s.heap H locs T25 := by rw [eT25]; exact G
      have cp1 := show CPR T T25 from by rw [eT25]; exact cpr_sp cp0 sp_uJ
      clear eT25
      refine lv_aload_n hx hb dX10_settle_34 rfl (lv_at hl 1 rfl) ?_
      obtain ⟨g26, h⟩ := oif_some h
      obtain ⟨n27, en27, h⟩ := obind_some h
      have h_n27 : n27 < T.1 := by rw [← cp1.1]; exact cp1.2.2 _ _ _ en27
      refine c_get E G l0 1 (v := .ref (ad n27)) (oO_k g26).1 (cc_o10 (oO_k g26).2) rfl (fun w h => .tail _ (iA_12 h)) (by decide) (.tail _ qA_14) rfl (by rw [en27]; rfl) dX10_settle_35 ?_
      clear en27
      refine lv_iload_n hx hb dX10_settle_38 rfl (lv_at hl 3 rfl) ?_
      refine lv_iconst (v := 1) hx hb dX10_settle_39 (by decide) ?_
      refine lv_iadd hx hb dX10_settle_40 ?_
      refine lv_topi (fun v28 ev28 => ?_)
      have h := elet_at ev28 h
      clear ev28
      obtain ⟨g29, h⟩ := oif_some h
      obtain ⟨g30, h⟩ := oif_some h
      obtain ⟨n31, en31, h⟩ := obind_some h
      have h_n31 : n31 < T.1 := by rw [← cp1.1]; exact cp1.2.2 _ _ _ en31
      refine c_alda E G n27 7 (k := v28.toNatClampNeg) (v := .ref (ad n31)) (aA_k g29).1 (cc_a107 (aA_k g29).2.1) rfl (inb_k g30).1 (inb_k g30).2 (aA_k g29).2.2 (by show va_rf ((T25.2.2.2.2 n27 v28.toNatClampNeg).map ad) = _; rw [en31]; rfl) dX10_settle_41 ?_
      clear en31
      refine lv_iload_n hx hb dX10_settle_42 rfl (lv_at hl 2 rfl) ?_
      refine lv_dup2_11 hx hb dX10_settle_43 rfl rfl ?_
      obtain ⟨g32, h⟩ := oif_some h
      obtain ⟨g33, h⟩ := oif_some h
      refine c_lald E G n31 1 (k := l1.toNatClampNeg) (aA_k g32).1 (cc_a101 (aA_k g32).2.1) rfl (inb_k g33).1 (inb_k g33).2 (aA_k g32).2.2 dX10_settle_44 ?_
      refine lv_topl (fun v34 ev34 => ?_)
      have h := elet_at ev34 h
      clear ev34
      refine lv_lload_n hx hb dX10_settle_45 rfl (lv_at hl 0 rfl) ?_
      refine lv_bipush (v := 28) hx hb dX10_settle_46 (by decide) ?_
      refine lv_lshr (v := v16 >>> ((28 : Int32).toInt64 &&& 63)) hx hb dX10_settle_48 rfl ?_
      refine lv_topl (fun v35 ev35 => ?_)
      have h := elet_at ev35 h
      clear ev35
      refine lv_ladd hx hb dX10_settle_49 ?_
      refine lv_topl (fun v36 ev36 => ?_)
      have h := elet_at ev36 h
      clear ev36
      obtain ⟨g37, h⟩ := oif_some h
      obtain ⟨g38, h⟩ := oif_some h
      refine c_last E G n31 1 (k := l1.toNatClampNeg) (v := v36) (aA_k g37).1 (cc_a101 (aA_k g37).2.1) rfl (inb_k g38).1 (inb_k g38).2 (aA_k g37).2.2 dX10_settle_50 (fun H locs G => ?_)
      have G := gC_up_j (f := vp_updL (T25.2.2.2.1 n31) l1.toNatClampNeg v36) (ccv_101 (aA_k g37).2.1) G
      obtain ⟨T39, eT39, h⟩ := elet_some h
      have G : gC cI cJ cZ cMic cSrc cSt cAI cAJ D ad A s.heap H locs T39 := by rw [eT39]; exact G
      have cp2 := show CPR T T39 from by rw [eT39]; exact cpr_sp cp1 sp_uJ
      clear eT39
      obtain ⟨v40, ev40, h⟩ := elet_some h
      refine lv_iinc (v := v40) (lv' := [(2, .int v40), (3, .long v16), (0, .ref (ad l0)), (1, .int l1)]) hx hb dX10_settle_51 hl (k := 3) rfl ev40.symm (by decide) rfl (fun ls hl => ?_)
      refine lv_goto (tgt := 2) hx hb dX10_settle_54 (by decide) ?_
      have hl := lv_sub hl [2, 3, 0] rfl
      refine w_cast (c2 := T39.1 - T0.1) (s2 := sg T39 - sg T0) (by rw [cp2.1] <;> rfl) (by rw [sg_cpr cp2] <;> rfl) ?_
      exact ih _ _ _ _ _ _ _ _ h (gl_cpr hgl cp2) cp2.2.2 had (by rw [cp2.1]; exact h_l0) G hl
set_option maxHeartbeats 4000000 in
set_option maxRecDepth 100000 in
theorem a_X10_settle (l : Launch) (hst : l.stackTraces = false) (D : va_G) (cI cJ cZ cMic cSrc cSt cAI cAJ : ClassId) (ad : Nat → Nat) (T : AT) (o : Nat) (a0 : Int32) {T1 : AT} (h : g_X10_settle T o a0 = some T1) (hrc : RC T) (h_o : o < T.1) : kAv l yX10_settle (Cond.code yX10_settle cX10_settle 5 none :: wsA) 2 25 cI cJ cZ cMic cSrc cSt cAI cAJ D ad T [.ref (ad o), .int a0] T1 := by
  intro sz
  refine pro_in (cc := cX10_settle) (maxL := 5) (ret := none) (by exact pn_RX10) rfl (by exact Nat.le_of_ble_eq_true rfl) (fun p e s m below meth c ls hx hb hr hts hown hlocks hml hv hl => ?_)
  obtain ⟨hsz, hP, hK, hD0, hX, hN⟩ := hv
  subst hsz
  have hD := hD0.self (sz := s.heap.size)
  generalize hAe : va_A (cW ad T.1 (cc cI cJ cZ cMic cSrc cSt cAI cAJ ad T)) s.heap.size = A at hD hX ⊢
  have hA : ∀ q : Nat, s.heap.size ≤ q → A q := fun q h => by rw [← hAe]; exact Or.inr h
  have G : gC cI cJ cZ cMic cSrc cSt cAI cAJ D ad A s.heap s.heap [] T := ⟨hP, hD, va_S.rf⟩
  have E : cE p c cX10_settle s m ([.ref (ad o), .int a0] : List Value).toArray (Cond.code yX10_settle cX10_settle 5 none :: wsA) D RX10 (CT cI cJ cZ cMic cSrc cSt cAI cAJ) := ⟨hx, hb, hts, hown, hK⟩
  have hl : lv_has ls 5 [(0, .ref (ad o)), (1, .int a0)] := hl
  have hgl := GL.rf T
  have had : ∀ n, n < T.1 → ad n = ad n := fun _ _ => rfl
  have hT1 := s_X10_settle h
  have hcs := cs_ok hgl hT1
  refine w_cast (Nat.sub_self T.1).symm (Nat.sub_self (sg T)).symm ?_
  have cp0 := cpr0 hrc
  unfold g_X10_settle at h
  refine lv_iconst (v := 0) hx hb dX10_settle_0 (by decide) ?_
  refine lv_istore_n (lv' := [(2, .int 0), (0, .ref (ad o)), (1, .int a0)]) hx hb dX10_settle_1 rfl hl (by decide) rfl (fun ls hl => ?_)
  have hl := lv_sub hl [1, 2, 0] rfl
  refine w_cast (c2 := T.1 - T.1) (s2 := sg T - sg T) (by rw [cp0.1] <;> rfl) (by rw [sg_cpr cp0] <;> rfl) ?_
  exact a_X10_settle_b2 E hA hX hN hml hst (fun ad H locs ls had G => W.vret hx hb hr (fun t ht hW => ⟨⟨(T1, ad), rfl, ⟨rfl, had⟩, ⟨by rw [ht]; exact G.1, va_K.moved hW.alike hK, G.2.1⟩⟩, G.2.2.F ht⟩) G.2.2.2.2 dX10_settle_99) _ _ _ _ _ _ _ _ _ h (gl_cpr hgl cp0) cp0.2.2 had (by rw [cp0.1]; exact h_o) G hl
def g_J9_floorDiv_f86c9_b27   (l4 : Int64) : Option (Int64) := some l4
set_option maxHeartbeats 4000000 in
set_option maxRecDepth 100000 in
theorem u_J9_floorDiv_f86c9_b27 {p : Program} {l : Launch} {e : Env} {s : State} {m : MethodId} {args : Array Value} {below : List Frame} {meth : Method} {c : Code} {Q : State → Prop} {r1 : Int64}  (E : p.tables.exec = Jvm.exec ∧ c.code = cJ9_floorDiv_f86c9 ∧ (∀ w ∈ (Cond.code yJ9_floorDiv_f86c9 cJ9_floorDiv_f86c9 6 (some .long) :: wsA), w.before args s = true) ∧ s.vm.findClass RJ9 = some m.cls) (hN : nX s) (hml : c.maxLocals = 6) (kr26 : ∀ (ls : Array Slot), W p l e { frames := 1, cells := 0, slots := 0, locals := 0 } s m args below meth c s.heap [] 0 0 Q (F0 m 26 ls [.long r1])) (kr29 : ∀ (ls : Array Slot), W p l e { frames := 1, cells := 0, slots := 0, locals := 0 } s m args below meth c s.heap [] 0 0 Q (F0 m 29 ls [.long r1])) : ∀ (ls : Array Slot) (l4 : Int64), g_J9_floorDiv_f86c9_b27 l4 = some r1 → lv_has ls 6 [(4, .long l4)] → W p l e { frames := 1, cells := 0, slots := 0, locals := 0 } s m args below meth c s.heap [] 0 0 Q (F0 m 27 ls []) := by
  have hx := E.1
  have hb := E.2.1
  have hts := E.2.2.1
  have hown := E.2.2.2
  intro ls l4 h hl
  unfold g_J9_floorDiv_f86c9_b27 at h
  refine lv_lload hx hb dJ9_floorDiv_f86c9_27 (lv_at hl 0 rfl) ?_
  refine lv_tol (osome1 h) ?_
  exact kr29 _
def g_J9_floorDiv_f86c9  (a0 : Int64) (a1 : Int64) : Option (Int64) := oif (¬ a1 = 0) <| elet (a0 / a1) fun v3 => elet (a0 ^^^ a1) fun v4 => elet (lg_cmp v4 (0 : Int64)) fun v5 => if 0 ≤ v5 then (g_J9_floorDiv_f86c9_b27 v3) else (elet (v3 * a1) fun v7 => elet (lg_cmp v7 a0) fun v8 => if v8 = 0 then (g_J9_floorDiv_f86c9_b27 v3) else (elet (v3 - (1 : Int64)) fun v10 => some v10))
set_option maxHeartbeats 4000000 in
set_option maxRecDepth 100000 in
theorem u_J9_floorDiv_f86c9 (l : Launch) (a0 : Int64) (a1 : Int64) {r1 : Int64} (h : g_J9_floorDiv_f86c9 a0 a1 = some r1) : Met l yJ9_floorDiv_f86c9 (Cond.code yJ9_floorDiv_f86c9 cJ9_floorDiv_f86c9 6 (some .long) :: wsA) { frames := 1, cells := 0, slots := 0, locals := 0 } (va_Pc [.long a0, .long a1] nX) (vp_Sl (fun r => r = r1)) 0 0 (fun _ => False) := by
  refine met_ofF (cc := cJ9_floorDiv_f86c9) (maxL := 6) (ret := (some .long)) (by decide +kernel) rfl ?_
  intro p e s m args below meth c s₁ B hml hv
  obtain ⟨rfl, hN⟩ := hv
  have hx := B.exec
  have hb := B.bytes
  have hr := B.returns
  have hts := atoms_spec (ws := (Cond.code yJ9_floorDiv_f86c9 cJ9_floorDiv_f86c9 6 (some .long) :: wsA)) B.pre
  have hown : s.vm.findClass RJ9 = some m.cls := findClass_of_methodNamed B.named
  have hlocks := B.notSynchronized
  have E : p.tables.exec = Jvm.exec ∧ c.code = cJ9_floorDiv_f86c9 ∧ (∀ w ∈ (Cond.code yJ9_floorDiv_f86c9 cJ9_floorDiv_f86c9 6 (some .long) :: wsA), w.before ([.long a0, .long a1] : List Value).toArray s = true) ∧ s.vm.findClass RJ9 = some m.cls := ⟨hx, hb, hts, hown⟩
  have hl := lv_entry ([.long a0, .long a1]) (n := 6) (Nat.le_of_ble_eq_true rfl)
  rw [lg_entry_eq]
  generalize (lg_sl ([.long a0, .long a1]) ++ List.replicate (6 - (lg_sl ([.long a0, .long a1])).length) Slot.unset).toArray = ls at hl ⊢
  have hl : lv_has ls 6 [(0, .long a0), (2, .long a1)] := hl
  unfold g_J9_floorDiv_f86c9 at h
  refine lv_lload_n hx hb dJ9_floorDiv_f86c9_0 rfl (lv_at hl 0 rfl) ?_
  refine lv_lload_n hx hb dJ9_floorDiv_f86c9_1 rfl (lv_at hl 1 rfl) ?_
  obtain ⟨g2, h⟩ := oif_some h
  refine lv_ldiv hx hb dJ9_floorDiv_f86c9_2 g2 ?_
  refine lv_topl (fun v3 ev3 => ?_)
  have h := elet_at ev3 h
  clear ev3
  refine lv_lstore (lv' := [(4, .long v3), (0, .long a0), (2, .long a1)]) hx hb dJ9_floorDiv_f86c9_3 hl (by decide) rfl (fun ls hl => ?_)
  refine lv_lload_n hx hb dJ9_floorDiv_f86c9_5 rfl (lv_at hl 1 rfl) ?_
  refine lv_lload_n hx hb dJ9_floorDiv_f86c9_6 rfl (lv_at hl 2 rfl) ?_
  refine lv_lxor hx hb dJ9_floorDiv_f86c9_7 ?_
  refine lv_topl (fun v4 ev4 => ?_)
  have h := elet_at ev4 h
  clear ev4
  refine lv_lconst (v := 0) hx hb dJ9_floorDiv_f86c9_8 (by decide) ?_
  refine W.lcmp hx hb dJ9_floorDiv_f86c9_9 ?_
  refine lv_topi (fun v5 ev5 => ?_)
  have h := elet_at ev5 h
  clear ev5
  refine lv_if_ge (tgt := 27) hx hb dJ9_floorDiv_f86c9_10 (by decide) (fun c6 => ?_) (fun c6 => ?_)
  · have h := oif_pos c6 h
    have hl := lv_sub hl [0] rfl
    exact u_J9_floorDiv_f86c9_b27 E hN hml (fun ls => W.lret (v := r1) hx hb hr (fun t ht hW => ⟨r1, rfl, rfl, ht⟩) (fun _ h => absurd h List.not_mem_nil) dJ9_floorDiv_f86c9_26) (fun ls => W.lret (v := r1) hx hb hr (fun t ht hW => ⟨r1, rfl, rfl, ht⟩) (fun _ h => absurd h List.not_mem_nil) dJ9_floorDiv_f86c9_29) _ _ h hl
  · have h := oif_neg c6 h
    refine lv_lload hx hb dJ9_floorDiv_f86c9_13 (lv_at hl 0 rfl) ?_
    refine lv_lload_n hx hb dJ9_floorDiv_f86c9_15 rfl (lv_at hl 2 rfl) ?_
    refine lv_lmul hx hb dJ9_floorDiv_f86c9_16 ?_
    refine lv_topl (fun v7 ev7 => ?_)
    have h := elet_at ev7 h
    clear ev7
    refine lv_lload_n hx hb dJ9_floorDiv_f86c9_17 rfl (lv_at hl 1 rfl) ?_
    refine W.lcmp hx hb dJ9_floorDiv_f86c9_18 ?_
    refine lv_topi (fun v8 ev8 => ?_)
    have h := elet_at ev8 h
    clear ev8
    refine lv_if_eq (tgt := 27) hx hb dJ9_floorDiv_f86c9_19 (by decide) (fun c9 => ?_) (fun c9 => ?_)
    · have h := oif_pos c9 h
      have hl := lv_sub hl [0] rfl
      exact u_J9_floorDiv_f86c9_b27 E hN hml (fun ls => W.lret (v := r1) hx hb hr (fun t ht hW => ⟨r1, rfl, rfl, ht⟩) (fun _ h => absurd h List.not_mem_nil) dJ9_floorDiv_f86c9_26) (fun ls => W.lret (v := r1) hx hb hr (fun t ht hW => ⟨r1, rfl, rfl, ht⟩) (fun _ h => absurd h List.not_mem_nil) dJ9_floorDiv_f86c9_29) _ _ h hl
    · have h := oif_neg c9 h
      refine lv_lload hx hb dJ9_floorDiv_f86c9_22 (lv_at hl 0 rfl) ?_
      refine lv_lconst (v := 1) hx hb dJ9_floorDiv_f86c9_24 (by decide) ?_
      refine lv_lsub hx hb dJ9_floorDiv_f86c9_25 ?_
      refine lv_topl (fun v10 ev10 => ?_)
      have h := elet_at ev10 h
      clear ev10
      exact W.lret (v := v10) hx hb hr (fun t ht hW => ⟨v10, rfl, osome1 h, ht⟩) (fun _ h => absurd h List.not_mem_nil) dJ9_floorDiv_f86c9_26
def g_J9_floorMod_f86c9_b25   (l4 : Int64) : Option (Int64) := some l4
set_option maxHeartbeats 4000000 in
set_option maxRecDepth 100000 in
theorem u_J9_floorMod_f86c9_b25 {p : Program} {l : Launch} {e : Env} {s : State} {m : MethodId} {args : Array Value} {below : List Frame} {meth : Method} {c : Code} {Q : State → Prop} {r1 : Int64}  (E : p.tables.exec = Jvm.exec ∧ c.code = cJ9_floorMod_f86c9 ∧ (∀ w ∈ (Cond.code yJ9_floorMod_f86c9 cJ9_floorMod_f86c9 6 (some .long) :: wsA), w.before args s = true) ∧ s.vm.findClass RJ9 = some m.cls) (hN : nX s) (hml : c.maxLocals = 6) (kr24 : ∀ (ls : Array Slot), W p l e { frames := 1, cells := 0, slots := 0, locals := 0 } s m args below meth c s.heap [] 0 0 Q (F0 m 24 ls [.long r1])) (kr27 : ∀ (ls : Array Slot), W p l e { frames := 1, cells := 0, slots := 0, locals := 0 } s m args below meth c s.heap [] 0 0 Q (F0 m 27 ls [.long r1])) : ∀ (ls : Array Slot) (l4 : Int64), g_J9_floorMod_f86c9_b25 l4 = some r1 → lv_has ls 6 [(4, .long l4)] → W p l e { frames := 1, cells := 0, slots := 0, locals := 0 } s m args below meth c s.heap [] 0 0 Q (F0 m 25 ls []) := by
  have hx := E.1
  have hb := E.2.1
  have hts := E.2.2.1
  have hown := E.2.2.2
  intro ls l4 h hl
  unfold g_J9_floorMod_f86c9_b25 at h
  refine lv_lload hx hb dJ9_floorMod_f86c9_25 (lv_at hl 0 rfl) ?_
  refine lv_tol (osome1 h) ?_
  exact kr27 _
def g_J9_floorMod_f86c9  (a0 : Int64) (a1 : Int64) : Option (Int64) := oif (¬ a1 = 0) <| elet (a0 - a0 / a1 * a1) fun v3 => elet (a0 ^^^ a1) fun v4 => elet (lg_cmp v4 (0 : Int64)) fun v5 => if 0 ≤ v5 then (g_J9_floorMod_f86c9_b25 v3) else (elet (lg_cmp v3 (0 : Int64)) fun v7 => if v7 = 0 then (g_J9_floorMod_f86c9_b25 v3) else (elet (v3 + a1) fun v9 => some v9))
set_option maxHeartbeats 4000000 in
set_option maxRecDepth 100000 in
theorem u_J9_floorMod_f86c9 (l : Launch) (a0 : Int64) (a1 : Int64) {r1 : Int64} (h : g_J9_floorMod_f86c9 a0 a1 = some r1) : Met l yJ9_floorMod_f86c9 (Cond.code yJ9_floorMod_f86c9 cJ9_floorMod_f86c9 6 (some .long) :: wsA) { frames := 1, cells := 0, slots := 0, locals := 0 } (va_Pc [.long a0, .long a1] nX) (vp_Sl (fun r => r = r1)) 0 0 (fun _ => False) := by
  refine met_ofF (cc := cJ9_floorMod_f86c9) (maxL := 6) (ret := (some .long)) (by decide +kernel) rfl ?_
  intro p e s m args below meth c s₁ B hml hv
  obtain ⟨rfl, hN⟩ := hv
  have hx := B.exec
  have hb := B.bytes
  have hr := B.returns
  have hts := atoms_spec (ws := (Cond.code yJ9_floorMod_f86c9 cJ9_floorMod_f86c9 6 (some .long) :: wsA)) B.pre
  have hown : s.vm.findClass RJ9 = some m.cls := findClass_of_methodNamed B.named
  have hlocks := B.notSynchronized
  have E : p.tables.exec = Jvm.exec ∧ c.code = cJ9_floorMod_f86c9 ∧ (∀ w ∈ (Cond.code yJ9_floorMod_f86c9 cJ9_floorMod_f86c9 6 (some .long) :: wsA), w.before ([.long a0, .long a1] : List Value).toArray s = true) ∧ s.vm.findClass RJ9 = some m.cls := ⟨hx, hb, hts, hown⟩
  have hl := lv_entry ([.long a0, .long a1]) (n := 6) (Nat.le_of_ble_eq_true rfl)
  rw [lg_entry_eq]
  generalize (lg_sl ([.long a0, .long a1]) ++ List.replicate (6 - (lg_sl ([.long a0, .long a1])).length) Slot.unset).toArray = ls at hl ⊢
  have hl : lv_has ls 6 [(0, .long a0), (2, .long a1)] := hl
  unfold g_J9_floorMod_f86c9 at h
  refine lv_lload_n hx hb dJ9_floorMod_f86c9_0 rfl (lv_at hl 0 rfl) ?_
  refine lv_lload_n hx hb dJ9_floorMod_f86c9_1 rfl (lv_at hl 1 rfl) ?_
  obtain ⟨g2, h⟩ := oif_some h
  refine lv_lrem hx hb dJ9_floorMod_f86c9_2 g2 ?_
  refine lv_topl (fun v3 ev3 => ?_)
  have h := elet_at ev3 h
  clear ev3
  refine lv_lstore (lv' := [(4, .long v3), (0, .long a0), (2, .long a1)]) hx hb dJ9_floorMod_f86c9_3 hl (by decide) rfl (fun ls hl => ?_)
  refine lv_lload_n hx hb dJ9_floorMod_f86c9_5 rfl (lv_at hl 1 rfl) ?_
  refine lv_lload_n hx hb dJ9_floorMod_f86c9_6 rfl (lv_at hl 2 rfl) ?_
  refine lv_lxor hx hb dJ9_floorMod_f86c9_7 ?_
  refine lv_topl (fun v4 ev4 => ?_)
  have h := elet_at ev4 h
  clear ev4
  refine lv_lconst (v := 0) hx hb dJ9_floorMod_f86c9_8 (by decide) ?_
  refine W.lcmp hx hb dJ9_floorMod_f86c9_9 ?_
  refine lv_topi (fun v5 ev5 => ?_)
  have h := elet_at ev5 h
  clear ev5
  refine lv_if_ge (tgt := 25) hx hb dJ9_floorMod_f86c9_10 (by decide) (fun c6 => ?_) (fun c6 => ?_)
  · have h := oif_pos c6 h
    have hl := lv_sub hl [0] rfl
    exact u_J9_floorMod_f86c9_b25 E hN hml (fun ls => W.lret (v := r1) hx hb hr (fun t ht hW => ⟨r1, rfl, rfl, ht⟩) (fun _ h => absurd h List.not_mem_nil) dJ9_floorMod_f86c9_24) (fun ls => W.lret (v := r1) hx hb hr (fun t ht hW => ⟨r1, rfl, rfl, ht⟩) (fun _ h => absurd h List.not_mem_nil) dJ9_floorMod_f86c9_27) _ _ h hl
  · have h := oif_neg c6 h
    refine lv_lload hx hb dJ9_floorMod_f86c9_13 (lv_at hl 0 rfl) ?_
    refine lv_lconst (v := 0) hx hb dJ9_floorMod_f86c9_15 (by decide) ?_
    refine W.lcmp hx hb dJ9_floorMod_f86c9_16 ?_
    refine lv_topi (fun v7 ev7 => ?_)
    have h := elet_at ev7 h
    clear ev7
    refine lv_if_eq (tgt := 25) hx hb dJ9_floorMod_f86c9_17 (by decide) (fun c8 => ?_) (fun c8 => ?_)
    · have h := oif_pos c8 h
      have hl := lv_sub hl [0] rfl
      exact u_J9_floorMod_f86c9_b25 E hN hml (fun ls => W.lret (v := r1) hx hb hr (fun t ht hW => ⟨r1, rfl, rfl, ht⟩) (fun _ h => absurd h List.not_mem_nil) dJ9_floorMod_f86c9_24) (fun ls => W.lret (v := r1) hx hb hr (fun t ht hW => ⟨r1, rfl, rfl, ht⟩) (fun _ h => absurd h List.not_mem_nil) dJ9_floorMod_f86c9_27) _ _ h hl
    · have h := oif_neg c8 h
      refine lv_lload hx hb dJ9_floorMod_f86c9_20 (lv_at hl 0 rfl) ?_
      refine lv_lload_n hx hb dJ9_floorMod_f86c9_22 rfl (lv_at hl 2 rfl) ?_
      refine lv_ladd hx hb dJ9_floorMod_f86c9_23 ?_
      refine lv_topl (fun v9 ev9 => ?_)
      have h := elet_at ev9 h
      clear ev9
      exact W.lret (v := v9) hx hb hr (fun t ht hW => ⟨v9, rfl, osome1 h, ht⟩) (fun _ h => absurd h List.not_mem_nil) dJ9_floorMod_f86c9_24
def g_X10_divide_b121  (T : AT)  : Option (AT) := some T
def g_X10_divide_b40  : Nat → AT → Nat → Int32 → Int32 → Int32 → Int64 → Int32 → Option (AT)
  | 0, _, _, _, _, _, _, _ => none
  | n + 1, T, l0, l1, l2, l3, l4, l6 => if l6 < 0 then (if l3 = 0 then (g_X10_divide_b121 T) else (elet (lg_cmp l4 (0 : Int64)) fun v4 => if v4 ≤ 0 then (g_X10_divide_b121 T) else (oif (oO T l0 10 = true) <| obind (T.2.2.2.2 l0 1) fun n7 => oif (aA T n7 107 = true) <| oif (inb 0 (T.2.1 n7).2 = true) <| obind (T.2.2.2.2 n7 (0 : Int32).toNatClampNeg) fun n10 => oif (aA T n10 101 = true) <| oif (inb l1 (T.2.1 n10).2 = true) <| elet (T.2.2.2.1 n10 l1.toNatClampNeg) fun v13 => elet (v13 + (1 : Int64)) fun v14 => oif (aA T n10 101 = true) <| oif (inb l1 (T.2.1 n10).2 = true) <| elet (uJ T n10 l1.toNatClampNeg v14) fun T17 => oif (oO T17 l0 10 = true) <| obind (g_X10_settle T17 l0 l1) fun T19 => g_X10_divide_b121 T19))) else (elet (l4 <<< ((28 : Int32).toInt64 &&& 63)) fun v21 => oif (oO T l0 10 = true) <| obind (T.2.2.2.2 l0 1) fun n23 => oif (aA T n23 107 = true) <| oif (inb l6 (T.2.1 n23).2 = true) <| obind (T.2.2.2.2 n23 l6.toNatClampNeg) fun n26 => oif (aA T n26 101 = true) <| oif (inb l1 (T.2.1 n26).2 = true) <| elet (T.2.2.2.1 n26 l1.toNatClampNeg) fun v29 => elet (v21 + v29) fun v30 => oif (oO T l0 10 = true) <| obind (T.2.2.2.2 l0 1) fun n32 => oif (aA T n32 107 = true) <| oif (inb l6 (T.2.1 n32).2 = true) <| obind (T.2.2.2.2 n32 l6.toNatClampNeg) fun n35 => elet (l2.toInt64) fun v36 => obind (g_J9_floorDiv_f86c9 v30 v36) fun r37 => oif (aA T n35 101 = true) <| oif (inb l1 (T.2.1 n35).2 = true) <| elet (uJ T n35 l1.toNatClampNeg r37) fun T41 => elet (l2.toInt64) fun v42 => obind (g_J9_floorMod_f86c9 v30 v42) fun r43 => elet (l6 + Int32.ofInt (-1)) fun v45 => g_X10_divide_b40 n T41 l0 l1 l2 l3 r43 v45)
def g_X10_divide_b28  (T : AT) (s0 : Int32) (l0 : Nat) (l1 : Int32) (l2 : Int32) : Option (AT) := oif (oO T l0 10 = true) <| elet (T.2.2.1 l0 2) fun v3 => elet (v3 - 1) fun v4 => g_X10_divide_b40 16384 T l0 l1 l2 s0 (0 : Int64) v4
def g_X10_divide (T : AT) (o : Nat) (a0 : Int32) (a1 : Int32) : Option (AT) := if 0 < a1 then (oif (oO T o 10 = true) <| obind (T.2.2.2.2 o 1) fun n4 => oif (oO T o 10 = true) <| elet (T.2.2.1 o 2) fun v6 => elet (v6 - 1) fun v7 => oif (aA T n4 107 = true) <| oif (inb v7 (T.2.1 n4).2 = true) <| obind (T.2.2.2.2 n4 v7.toNatClampNeg) fun n10 => oif (aA T n10 101 = true) <| oif (inb a0 (T.2.1 n10).2 = true) <| elet (T.2.2.2.1 n10 a0.toNatClampNeg) fun v13 => elet (lg_cmp v13 (0 : Int64)) fun v14 => if 0 ≤ v14 then (g_X10_divide_b28 T 0 o a0 a1) else (g_X10_divide_b28 T 1 o a0 a1)) else (some T)
set_option maxHeartbeats 4000000 in
set_option maxRecDepth 100000 in
theorem s_X10_divide_b121 {T1 : AT} : ∀ (T : AT), g_X10_divide_b121 T = some T1 → GL T T1 := by
  intro T h
  have p0 := GL.rf T
  unfold g_X10_divide_b121 at h
  rw [← osome1 h]
  exact p0
set_option maxHeartbeats 4000000 in
set_option maxRecDepth 100000 in
theorem s_X10_divide_b40 {T1 : AT} : ∀ n : Nat, ∀ (T : AT) (l0 : Nat) (l1 : Int32) (l2 : Int32) (l3 : Int32) (l4 : Int64) (l6 : Int32), g_X10_divide_b40 n T l0 l1 l2 l3 l4 l6 = some T1 → GL T T1 := by
  intro n
  induction n with
  | zero =>
    intro T l0 l1 l2 l3 l4 l6 h
    have h : (none : Option (AT)) = some T1 := h
    cases h
  | succ n ih =>
    intro T l0 l1 l2 l3 l4 l6 h
    have p0 := GL.rf T
    unfold g_X10_divide_b40 at h
    rcases oif_or h with ⟨c2, h⟩ | ⟨c2, h⟩
    · have h := h
      rcases oif_or h with ⟨c3, h⟩ | ⟨c3, h⟩
      · have h := h
        exact GL.tr p0 (s_X10_divide_b121 _ h)
      · have h := h
        obtain ⟨v4, -, h⟩ := elet_some h
        rcases oif_or h with ⟨c5, h⟩ | ⟨c5, h⟩
        · have h := h
          exact GL.tr p0 (s_X10_divide_b121 _ h)
        · have h := h
          obtain ⟨g6, h⟩ := oif_some h
          obtain ⟨n7, en7, h⟩ := obind_some h
          obtain ⟨g8, h⟩ := oif_some h
          obtain ⟨g9, h⟩ := oif_some h
          obtain ⟨n10, en10, h⟩ := obind_some h
          obtain ⟨g11, h⟩ := oif_some h
          obtain ⟨g12, h⟩ := oif_some h
          obtain ⟨v13, -, h⟩ := elet_some h
          obtain ⟨v14, -, h⟩ := elet_some h
          obtain ⟨g15, h⟩ := oif_some h
          obtain ⟨g16, h⟩ := oif_some h
          obtain ⟨T17, eT17, h⟩ := elet_some h
          have p1 : GL T T17 := GL.tr p0 (by rw [eT17]; exact gl_sp sp_uJ)
          obtain ⟨g18, h⟩ := oif_some h
          obtain ⟨T19, eT19, h⟩ := obind_some h
          have p2 : GL T T19 := GL.tr p1 (s_X10_settle eT19)
          exact GL.tr p2 (s_X10_divide_b121 _ h)
    · have h := h
      obtain ⟨v21, -, h⟩ := elet_some h
      obtain ⟨g22, h⟩ := oif_some h
      obtain ⟨n23, en23, h⟩ := obind_some h
      obtain ⟨g24, h⟩ := oif_some h
      obtain ⟨g25, h⟩ := oif_some h
      obtain ⟨n26, en26, h⟩ := obind_some h
      obtain ⟨g27, h⟩ := oif_some h
      obtain ⟨g28, h⟩ := oif_some h
      obtain ⟨v29, -, h⟩ := elet_some h
      obtain ⟨v30, -, h⟩ := elet_some h
      obtain ⟨g31, h⟩ := oif_some h
      obtain ⟨n32, en32, h⟩ := obind_some h
      obtain ⟨g33, h⟩ := oif_some h
      obtain ⟨g34, h⟩ := oif_some h
      obtain ⟨n35, en35, h⟩ := obind_some h
      obtain ⟨v36, -, h⟩ := elet_some h
      obtain ⟨r37, -, h⟩ := obind_some h
      obtain ⟨g38, h⟩ := oif_some h
      obtain ⟨g39, h⟩ := oif_some h
      obtain ⟨T40, eT40, h⟩ := elet_some h
      have p1 : GL T T40 := GL.tr p0 (by rw [eT40]; exact gl_sp sp_uJ)
      obtain ⟨v41, -, h⟩ := elet_some h
      obtain ⟨r42, -, h⟩ := obind_some h
      obtain ⟨v43, ev43, h⟩ := elet_some h
      exact GL.tr p1 (ih _ _ _ _ _ _ _ h)
set_option maxHeartbeats 4000000 in
set_option maxRecDepth 100000 in
theorem s_X10_divide_b28 {T1 : AT} : ∀ (T : AT) (s0 : Int32) (l0 : Nat) (l1 : Int32) (l2 : Int32), g_X10_divide_b28 T s0 l0 l1 l2 = some T1 → GL T T1 := by
  intro T s0 l0 l1 l2 h
  have p0 := GL.rf T
  unfold g_X10_divide_b28 at h
  obtain ⟨g2, h⟩ := oif_some h
  obtain ⟨v3, -, h⟩ := elet_some h
  obtain ⟨v4, -, h⟩ := elet_some h
  exact GL.tr p0 (s_X10_divide_b40 _ _ _ _ _ _ _ _ h)
set_option maxHeartbeats 4000000 in
set_option maxRecDepth 100000 in
theorem s_X10_divide {T : AT} {o : Nat} {a0 : Int32} {a1 : Int32} {T1 : AT} (h : g_X10_divide T o a0 a1 = some T1) : GL T T1 := by
  have p0 := GL.rf T
  unfold g_X10_divide at h
  rcases oif_or h with ⟨c2, h⟩ | ⟨c2, h⟩
  · have h := h
    obtain ⟨g3, h⟩ := oif_some h
    obtain ⟨n4, en4, h⟩ := obind_some h
    obtain ⟨g5, h⟩ := oif_some h
    obtain ⟨v6, -, h⟩ := elet_some h
    obtain ⟨v7, -, h⟩ := elet_some h
    obtain ⟨g8, h⟩ := oif_some h
    obtain ⟨g9, h⟩ := oif_some h
    obtain ⟨n10, en10, h⟩ := obind_some h
    obtain ⟨g11, h⟩ := oif_some h
    obtain ⟨g12, h⟩ := oif_some h
    obtain ⟨v13, -, h⟩ := elet_some h
    obtain ⟨v14, -, h⟩ := elet_some h
    rcases oif_or h with ⟨c15, h⟩ | ⟨c15, h⟩
    · have h := h
      exact GL.tr p0 (s_X10_divide_b28 _ _ _ _ _ h)
    · have h := h
      exact GL.tr p0 (s_X10_divide_b28 _ _ _ _ _ h)
  · have h := h
    rw [← osome1 h]
    exact p0
set_option maxHeartbeats 4000000 in
set_option maxRecDepth 100000 in
theorem a_X10_divide_b121 {p : Program} {l : Launch} {e : Env} {s : State} {m : MethodId} {args : Array Value} {below : List Frame} {meth : Method} {c : Code} {Q : State → Prop} {D : va_G} {A : Nat → Prop} {cI cJ cZ cMic cSrc cSt cAI cAJ : ClassId} {ad0 : Nat → Nat} {T0 : AT} {T1 : AT} (E : cE p c cX10_divide s m args (Cond.code yX10_divide cX10_divide 9 none :: wsA) D RX10 (CT cI cJ cZ cMic cSrc cSt cAI cAJ)) (hA : ∀ q : Nat, s.heap.size ≤ q → A q) (hX : xT A s) (hN : nX s) (hml : c.maxLocals = 9) (hst : l.stackTraces = false) (kr4 : ∀ (ad : Nat → Nat) (H : Heap) (locs : List Loc) (ls : Array Slot), (∀ n, n < T0.1 → ad n = ad0 n) → gC cI cJ cZ cMic cSrc cSt cAI cAJ D ad A s.heap H locs T1 → W p l e { frames := 3, cells := T1.1 - T0.1, slots := sg T1 - sg T0, locals := 49 } s m args below meth c H locs (T1.1 - T0.1) (sg T1 - sg T0) Q (F0 m 4 ls [])) (kr121 : ∀ (ad : Nat → Nat) (H : Heap) (locs : List Loc) (ls : Array Slot), (∀ n, n < T0.1 → ad n = ad0 n) → gC cI cJ cZ cMic cSrc cSt cAI cAJ D ad A s.heap H locs T1 → W p l e { frames := 3, cells := T1.1 - T0.1, slots := sg T1 - sg T0, locals := 49 } s m args below meth c H locs (T1.1 - T0.1) (sg T1 - sg T0) Q (F0 m 121 ls [])) : ∀ (T : AT) (ad : Nat → Nat) (H : Heap) (locs : List Loc) (ls : Array Slot), g_X10_divide_b121 T = some T1 → GL T0 T → RC T → (∀ n, n < T0.1 → ad n = ad0 n) → gC cI cJ cZ cMic cSrc cSt cAI cAJ D ad A s.heap H locs T → lv_has ls 9 [] → W p l e { frames := 3, cells := T1.1 - T0.1, slots := sg T1 - sg T0, locals := 49 } s m args below meth c H locs (T.1 - T0.1) (sg T - sg T0) Q (F0 m 121 ls []) := by
  have hx := E.1
  have hb := E.2.1
  have hts := E.2.2.1
  have hown := E.2.2.2.1
  have hK := E.2.2.2.2
  intro T ad H locs ls h hgl hrc had G hl
  have hT1 := s_X10_divide_b121 _ h
  have hcs := cs_ok hgl hT1
  have cp0 := cpr0 hrc
  unfold g_X10_divide_b121 at h
  rw [osome1 h] at G
  refine w_cast (c2 := T1.1 - T0.1) (s2 := sg T1 - sg T0) (by rw [← osome1 h, cp0.1] <;> rfl) (by rw [← osome1 h, sg_cpr cp0] <;> rfl) ?_
  exact kr121 ad _ _ _ had G
set_option maxHeartbeats 4000000 in
set_option maxRecDepth 100000 in
theorem a_X10_divide_b40 {p : Program} {l : Launch} {e : Env} {s : State} {m : MethodId} {args : Array Value} {below : List Frame} {meth : Method} {c : Code} {Q : State → Prop} {D : va_G} {A : Nat → Prop} {cI cJ cZ cMic cSrc cSt cAI cAJ : ClassId} {ad0 : Nat → Nat} {T0 : AT} {T1 : AT} (E : cE p c cX10_divide s m args (Cond.code yX10_divide cX10_divide 9 none :: wsA) D RX10 (CT cI cJ cZ cMic cSrc cSt cAI cAJ)) (hA : ∀ q : Nat, s.heap.size ≤ q → A q) (hX : xT A s) (hN : nX s) (hml : c.maxLocals = 9) (hst : l.stackTraces = false) (kr4 : ∀ (ad : Nat → Nat) (H : Heap) (locs : List Loc) (ls : Array Slot), (∀ n, n < T0.1 → ad n = ad0 n) → gC cI cJ cZ cMic cSrc cSt cAI cAJ D ad A s.heap H locs T1 → W p l e { frames := 3, cells := T1.1 - T0.1, slots := sg T1 - sg T0, locals := 49 } s m args below meth c H locs (T1.1 - T0.1) (sg T1 - sg T0) Q (F0 m 4 ls [])) (kr121 : ∀ (ad : Nat → Nat) (H : Heap) (locs : List Loc) (ls : Array Slot), (∀ n, n < T0.1 → ad n = ad0 n) → gC cI cJ cZ cMic cSrc cSt cAI cAJ D ad A s.heap H locs T1 → W p l e { frames := 3, cells := T1.1 - T0.1, slots := sg T1 - sg T0, locals := 49 } s m args below meth c H locs (T1.1 - T0.1) (sg T1 - sg T0) Q (F0 m 121 ls [])) : ∀ n : Nat, ∀ (T : AT) (ad : Nat → Nat) (H : Heap) (locs : List Loc) (ls : Array Slot) (l0 : Nat) (l1 : Int32) (l2 : Int32) (l3 : Int32) (l4 : Int64) (l6 : Int32), g_X10_divide_b40 n T l0 l1 l2 l3 l4 l6 = some T1 → GL T0 T → RC T → (∀ n, n < T0.1 → ad n = ad0 n) → l0 < T.1 → gC cI cJ cZ cMic cSrc cSt cAI cAJ D ad A s.heap H locs T → lv_has ls 9 [(0, .ref (ad l0)), (1, .int l1), (2, .int l2), (3, .int l3), (4, .long l4), (6, .int l6)] → W p l e { frames := 3, cells := T1.1 - T0.1, slots := sg T1 - sg T0, locals := 49 } s m args below meth c H locs (T.1 - T0.1) (sg T - sg T0) Q (F0 m 40 ls []) := by
  have hx := E.1
  have hb := E.2.1
  have hts := E.2.2.1
  have hown := E.2.2.2.1
  have hK := E.2.2.2.2
  intro n
  induction n with
  | zero =>
    intro T ad H locs ls l0 l1 l2 l3 l4 l6 h
    have h : (none : Option (AT)) = some T1 := h
    cases h
  | succ n ih =>
    intro T ad H locs ls l0 l1 l2 l3 l4 l6 h hgl hrc had h_l0 G hl
    have hT1 := s_X10_divide_b40 _ _ _ _ _ _ _ _ h
    have hcs := cs_ok hgl hT1
    have cp0 := cpr0 hrc
    unfold g_X10_divide_b40 at h
    refine lv_iload hx hb dX10_divide_40 (lv_at hl 5 rfl) ?_
    refine lv_if_lt (tgt := 93) hx hb dX10_divide_42 (by decide) (fun c2 => ?_) (fun c2 => ?_)
    · have h := oif_pos c2 h
      refine lv_iload_n hx hb dX10_divide_93 rfl (lv_at hl 3 rfl) ?_
      refine lv_if_eq (tgt := 121) hx hb dX10_divide_94 (by decide) (fun c3 => ?_) (fun c3 => ?_)
      · have h := oif_pos c3 h
        have hl := lv_sub hl [] rfl
        refine w_cast (c2 := T.1 - T0.1) (s2 := sg T - sg T0) (by rw [cp0.1] <;> rfl) (by rw [sg_cpr cp0] <;> rfl) ?_
        exact a_X10_divide_b121 E hA hX hN hml hst kr4 kr121 _ _ _ _ _ h (gl_cpr hgl cp0) cp0.2.2 had G hl
      · have h := oif_neg c3 h
        refine lv_lload hx hb dX10_divide_97 (lv_at hl 4 rfl) ?_
        refine lv_lconst (v := 0) hx hb dX10_divide_99 (by decide) ?_
        refine W.lcmp hx hb dX10_divide_100 ?_
        refine lv_topi (fun v4 ev4 => ?_)
        have h := elet_at ev4 h
        clear ev4
        refine lv_if_le (tgt := 121) hx hb dX10_divide_101 (by decide) (fun c5 => ?_) (fun c5 => ?_)
        · have h := oif_pos c5 h
          have hl := lv_sub hl [] rfl
          refine w_cast (c2 := T.1 - T0.1) (s2 := sg T - sg T0) (by rw [cp0.1] <;> rfl) (by rw [sg_cpr cp0] <;> rfl) ?_
          exact a_X10_divide_b121 E hA hX hN hml hst kr4 kr121 _ _ _ _ _ h (gl_cpr hgl cp0) cp0.2.2 had G hl
        · have h := oif_neg c5 h
          refine lv_aload_n hx hb dX10_divide_104 rfl (lv_at hl 0 rfl) ?_
          obtain ⟨g6, h⟩ := oif_some h
          obtain ⟨n7, en7, h⟩ := obind_some h
          have h_n7 : n7 < T.1 := by rw [← cp0.1]; exact cp0.2.2 _ _ _ en7
          refine c_get E G l0 1 (v := .ref (ad n7)) (oO_k g6).1 (cc_o10 (oO_k g6).2) rfl (fun w h => .tail _ (iA_12 h)) (by decide) (.tail _ qA_14) rfl (by rw [en7]; rfl) dX10_divide_105 ?_
          clear en7
          refine lv_iconst (v := 0) hx hb dX10_divide_108 (by decide) ?_
          obtain ⟨g8, h⟩ := oif_some h
          obtain ⟨g9, h⟩ := oif_some h
          obtain ⟨n10, en10, h⟩ := obind_some h
          have h_n10 : n10 < T.1 := by rw [← cp0.1]; exact cp0.2.2 _ _ _ en10
          refine c_alda E G n7 7 (k := (0 : Int32).toNatClampNeg) (v := .ref (ad n10)) (aA_k g8).1 (cc_a107 (aA_k g8).2.1) rfl (inb_k g9).1 (inb_k g9).2 (aA_k g8).2.2 (by show va_rf ((T.2.2.2.2 n7 (0 : Int32).toNatClampNeg).map ad) = _; rw [en10]; rfl) dX10_divide_109 ?_
          clear en10
          refine lv_iload_n hx hb dX10_divide_110 rfl (lv_at hl 1 rfl) ?_
          refine lv_dup2_11 hx hb dX10_divide_111 rfl rfl ?_
          obtain ⟨g11, h⟩ := oif_some h
          obtain ⟨g12, h⟩ := oif_some h
          refine c_lald E G n10 1 (k := l1.toNatClampNeg) (aA_k g11).1 (cc_a101 (aA_k g11).2.1) rfl (inb_k g12).1 (inb_k g12).2 (aA_k g11).2.2 dX10_divide_112 ?_
          refine lv_topl (fun v13 ev13 => ?_)
          have h := elet_at ev13 h
          clear ev13
          refine lv_lconst (v := 1) hx hb dX10_divide_113 (by decide) ?_
          refine lv_ladd hx hb dX10_divide_114 ?_
          refine lv_topl (fun v14 ev14 => ?_)
          have h := elet_at ev14 h
          clear ev14
          obtain ⟨g15, h⟩ := oif_some h
          obtain ⟨g16, h⟩ := oif_some h
          refine c_last E G n10 1 (k := l1.toNatClampNeg) (v := v14) (aA_k g15).1 (cc_a101 (aA_k g15).2.1) rfl (inb_k g16).1 (inb_k g16).2 (aA_k g15).2.2 dX10_divide_115 (fun H locs G => ?_)
          have G := gC_up_j (f := vp_updL (T.2.2.2.1 n10) l1.toNatClampNeg v14) (ccv_101 (aA_k g15).2.1) G
          obtain ⟨T17, eT17, h⟩ := elet_some h
          have G : gC cI cJ cZ cMic cSrc cSt cAI cAJ D ad A s.heap H locs T17 := by rw [eT17]; exact G
          have cp1 := show CPR T T17 from by rw [eT17]; exact cpr_sp cp0 sp_uJ
          clear eT17
          refine lv_aload_n hx hb dX10_divide_116 rfl (lv_at hl 0 rfl) ?_
          refine lv_iload_n hx hb dX10_divide_117 rfl (lv_at hl 1 rfl) ?_
          obtain ⟨g18, h⟩ := oif_some h
          obtain ⟨T19, eT19, h⟩ := obind_some h
          have hg2 := s_X10_settle eT19
          have hrc2 := hg2.2.2 cp1.2.2
          have hT2 := s_X10_divide_b121 _ h
          refine q_avv (As := [.int l1]) (rest := []) E G hA hX hN hml (a_X10_settle l hst D cI cJ cZ cMic cSrc cSt cAI cAJ ad T17 l0 l1 eT19 cp1.2.2 (by rw [cp1.1]; exact h_l0)) (cwV 1 hts (gaV qA_103 qA_91 qA_92 qA_6 qA_93) rfl rfl rfl (by decide +kernel) ⟨Nat.le_of_ble_eq_true rfl, Nat.le_of_ble_eq_true rfl⟩) (oO_k g18).1 (cc_o10 (oO_k g18).2) rfl rfl hl.1 rfl (lv_room (Nat.le_of_ble_eq_true rfl)) dX10_divide_118 (cs_av hgl cp1 hg2 hT2) (fun ad2 H locs hga G => ?_)
          refine w_cast (c2 := T19.1 - T0.1) (s2 := sg T19 - sg T0) (cs_f1 hgl cp1 hg2) (cs_f2 hgl cp1 hg2) ?_
          have hl := lv_sub hl [] rfl
          exact a_X10_divide_b121 E hA hX hN hml hst kr4 kr121 _ _ _ _ _ h (GL.tr (gl_cpr hgl cp1) hg2) hrc2 (fun n hn => (hga n (by rw [cp1.1]; exact Nat.lt_of_lt_of_le hn hgl.1)).trans (had n hn)) G hl
    · have h := oif_neg c2 h
      refine lv_lload hx hb dX10_divide_45 (lv_at hl 4 rfl) ?_
      refine lv_bipush (v := 28) hx hb dX10_divide_47 (by decide) ?_
      refine lv_lshl (v := l4 <<< ((28 : Int32).toInt64 &&& 63)) hx hb dX10_divide_49 rfl ?_
      refine lv_topl (fun v21 ev21 => ?_)
      have h := elet_at ev21 h
      clear ev21
      refine lv_aload_n hx hb dX10_divide_50 rfl (lv_at hl 0 rfl) ?_
      obtain ⟨g22, h⟩ := oif_some h
      obtain ⟨n23, en23, h⟩ := obind_some h
      have h_n23 : n23 < T.1 := by rw [← cp0.1]; exact cp0.2.2 _ _ _ en23
      refine c_get E G l0 1 (v := .ref (ad n23)) (oO_k g22).1 (cc_o10 (oO_k g22).2) rfl (fun w h => .tail _ (iA_12 h)) (by decide) (.tail _ qA_14) rfl (by rw [en23]; rfl) dX10_divide_51 ?_
      clear en23
      refine lv_iload hx hb dX10_divide_54 (lv_at hl 5 rfl) ?_
      obtain ⟨g24, h⟩ := oif_some h
      obtain ⟨g25, h⟩ := oif_some h
      obtain ⟨n26, en26, h⟩ := obind_some h
      have h_n26 : n26 < T.1 := by rw [← cp0.1]; exact cp0.2.2 _ _ _ en26
      refine c_alda E G n23 7 (k := l6.toNatClampNeg) (v := .ref (ad n26)) (aA_k g24).1 (cc_a107 (aA_k g24).2.1) rfl (inb_k g25).1 (inb_k g25).2 (aA_k g24).2.2 (by show va_rf ((T.2.2.2.2 n23 l6.toNatClampNeg).map ad) = _; rw [en26]; rfl) dX10_divide_56 ?_
      clear en26
      refine lv_iload_n hx hb dX10_divide_57 rfl (lv_at hl 1 rfl) ?_
      obtain ⟨g27, h⟩ := oif_some h
      obtain ⟨g28, h⟩ := oif_some h
      refine c_lald E G n26 1 (k := l1.toNatClampNeg) (aA_k g27).1 (cc_a101 (aA_k g27).2.1) rfl (inb_k g28).1 (inb_k g28).2 (aA_k g27).2.2 dX10_divide_58 ?_
      refine lv_topl (fun v29 ev29 => ?_)
      have h := elet_at ev29 h
      clear ev29
      refine lv_ladd hx hb dX10_divide_59 ?_
      refine lv_topl (fun v30 ev30 => ?_)
      have h := elet_at ev30 h
      clear ev30
      refine lv_lstore (lv' := [(7, .long v30), (0, .ref (ad l0)), (1, .int l1), (2, .int l2), (3, .int l3), (4, .long l4), (6, .int l6)]) hx hb dX10_divide_60 hl (by decide) rfl (fun ls hl => ?_)
      refine lv_aload_n hx hb dX10_divide_62 rfl (lv_at hl 1 rfl) ?_
      obtain ⟨g31, h⟩ := oif_some h
      obtain ⟨n32, en32, h⟩ := obind_some h
      have h_n32 : n32 < T.1 := by rw [← cp0.1]; exact cp0.2.2 _ _ _ en32
      refine c_get E G l0 1 (v := .ref (ad n32)) (oO_k g31).1 (cc_o10 (oO_k g31).2) rfl (fun w h => .tail _ (iA_12 h)) (by decide) (.tail _ qA_14) rfl (by rw [en32]; rfl) dX10_divide_63 ?_
      clear en32
      refine lv_iload hx hb dX10_divide_66 (lv_at hl 6 rfl) ?_
      obtain ⟨g33, h⟩ := oif_some h
      obtain ⟨g34, h⟩ := oif_some h
      obtain ⟨n35, en35, h⟩ := obind_some h
      have h_n35 : n35 < T.1 := by rw [← cp0.1]; exact cp0.2.2 _ _ _ en35
      refine c_alda E G n32 7 (k := l6.toNatClampNeg) (v := .ref (ad n35)) (aA_k g33).1 (cc_a107 (aA_k g33).2.1) rfl (inb_k g34).1 (inb_k g34).2 (aA_k g33).2.2 (by show va_rf ((T.2.2.2.2 n32 l6.toNatClampNeg).map ad) = _; rw [en35]; rfl) dX10_divide_68 ?_
      clear en35
      refine lv_iload_n hx hb dX10_divide_69 rfl (lv_at hl 2 rfl) ?_
      refine lv_lload hx hb dX10_divide_70 (lv_at hl 0 rfl) ?_
      refine lv_iload_n hx hb dX10_divide_72 rfl (lv_at hl 3 rfl) ?_
      refine lv_i2l (v := l2.toInt64) hx hb dX10_divide_73 rfl ?_
      refine lv_topl (fun v36 ev36 => ?_)
      have h := elet_at ev36 h
      clear ev36
      obtain ⟨r37, er37, h⟩ := obind_some h
      refine q_stl (As := [.long v30, .long v36]) (rest := [.int l1, .ref (ad n35)]) ⟨hx, hb, hml, hown, hts⟩ hN (u_J9_floorDiv_f86c9 l v30 v36 er37) ⟨callB_of 2 hts (gaC qA_111) rfl rfl rfl (hts _ (.tail _ qA_18)) (hts _ (.tail _ qA_108)) (by decide +kernel) ⟨Nat.le_of_ble_eq_true rfl, Nat.le_of_ble_eq_true rfl⟩, hts _ (.tail _ qA_109)⟩ rfl hl.1 rfl (lv_room (Nat.le_of_ble_eq_true rfl)) dX10_divide_74 hcs (fun q38 hq => ?_)
      refine lv_tol hq ?_
      clear hq er37
      obtain ⟨g39, h⟩ := oif_some h
      obtain ⟨g40, h⟩ := oif_some h
      refine c_last E G n35 1 (k := l1.toNatClampNeg) (v := r37) (aA_k g39).1 (cc_a101 (aA_k g39).2.1) rfl (inb_k g40).1 (inb_k g40).2 (aA_k g39).2.2 dX10_divide_77 (fun H locs G => ?_)
      have G := gC_up_j (f := vp_updL (T.2.2.2.1 n35) l1.toNatClampNeg r37) (ccv_101 (aA_k g39).2.1) G
      obtain ⟨T41, eT41, h⟩ := elet_some h
      have G : gC cI cJ cZ cMic cSrc cSt cAI cAJ D ad A s.heap H locs T41 := by rw [eT41]; exact G
      have cp1 := show CPR T T41 from by rw [eT41]; exact cpr_sp cp0 sp_uJ
      clear eT41
      refine lv_lload hx hb dX10_divide_78 (lv_at hl 0 rfl) ?_
      refine lv_iload_n hx hb dX10_divide_80 rfl (lv_at hl 3 rfl) ?_
      refine lv_i2l (v := l2.toInt64) hx hb dX10_divide_81 rfl ?_
      refine lv_topl (fun v42 ev42 => ?_)
      have h := elet_at ev42 h
      clear ev42
      obtain ⟨r43, er43, h⟩ := obind_some h
      refine q_stl (As := [.long v30, .long v42]) (rest := []) ⟨hx, hb, hml, hown, hts⟩ hN (u_J9_floorMod_f86c9 l v30 v42 er43) ⟨callB_of 2 hts (gaC qA_114) rfl rfl rfl (hts _ (.tail _ qA_18)) (hts _ (.tail _ qA_112)) (by decide +kernel) ⟨Nat.le_of_ble_eq_true rfl, Nat.le_of_ble_eq_true rfl⟩, hts _ (.tail _ qA_113)⟩ rfl hl.1 rfl (lv_room (Nat.le_of_ble_eq_true rfl)) dX10_divide_82 hcs (fun q44 hq => ?_)
      refine lv_tol hq ?_
      clear hq er43
      refine lv_lstore (lv' := [(4, .long r43), (7, .long v30), (0, .ref (ad l0)), (1, .int l1), (2, .int l2), (3, .int l3), (6, .int l6)]) hx hb dX10_divide_85 hl (by decide) rfl (fun ls hl => ?_)
      obtain ⟨v45, ev45, h⟩ := elet_some h
      refine lv_iinc (v := v45) (lv' := [(6, .int v45), (4, .long r43), (7, .long v30), (0, .ref (ad l0)), (1, .int l1), (2, .int l2), (3, .int l3)]) hx hb dX10_divide_87 hl (k := 6) rfl ev45.symm (by decide) rfl (fun ls hl => ?_)
      refine lv_goto (tgt := 40) hx hb dX10_divide_90 (by decide) ?_
      have hl := lv_sub hl [3, 4, 5, 6, 1, 0] rfl
      refine w_cast (c2 := T41.1 - T0.1) (s2 := sg T41 - sg T0) (by rw [cp1.1] <;> rfl) (by rw [sg_cpr cp1] <;> rfl) ?_
      exact ih _ _ _ _ _ _ _ _ _ _ _ h (gl_cpr hgl cp1) cp1.2.2 had (by rw [cp1.1]; exact h_l0) G hl
set_option maxHeartbeats 4000000 in
set_option maxRecDepth 100000 in
theorem a_X10_divide_b28 {p : Program} {l : Launch} {e : Env} {s : State} {m : MethodId} {args : Array Value} {below : List Frame} {meth : Method} {c : Code} {Q : State → Prop} {D : va_G} {A : Nat → Prop} {cI cJ cZ cMic cSrc cSt cAI cAJ : ClassId} {ad0 : Nat → Nat} {T0 : AT} {T1 : AT} (E : cE p c cX10_divide s m args (Cond.code yX10_divide cX10_divide 9 none :: wsA) D RX10 (CT cI cJ cZ cMic cSrc cSt cAI cAJ)) (hA : ∀ q : Nat, s.heap.size ≤ q → A q) (hX : xT A s) (hN : nX s) (hml : c.maxLocals = 9) (hst : l.stackTraces = false) (kr4 : ∀ (ad : Nat → Nat) (H : Heap) (locs : List Loc) (ls : Array Slot), (∀ n, n < T0.1 → ad n = ad0 n) → gC cI cJ cZ cMic cSrc cSt cAI cAJ D ad A s.heap H locs T1 → W p l e { frames := 3, cells := T1.1 - T0.1, slots := sg T1 - sg T0, locals := 49 } s m args below meth c H locs (T1.1 - T0.1) (sg T1 - sg T0) Q (F0 m 4 ls [])) (kr121 : ∀ (ad : Nat → Nat) (H : Heap) (locs : List Loc) (ls : Array Slot), (∀ n, n < T0.1 → ad n = ad0 n) → gC cI cJ cZ cMic cSrc cSt cAI cAJ D ad A s.heap H locs T1 → W p l e { frames := 3, cells := T1.1 - T0.1, slots := sg T1 - sg T0, locals := 49 } s m args below meth c H locs (T1.1 - T0.1) (sg T1 - sg T0) Q (F0 m 121 ls [])) : ∀ (T : AT) (ad : Nat → Nat) (H : Heap) (locs : List Loc) (ls : Array Slot) (s0 : Int32) (l0 : Nat) (l1 : Int32) (l2 : Int32), g_X10_divide_b28 T s0 l0 l1 l2 = some T1 → GL T0 T → RC T → (∀ n, n < T0.1 → ad n = ad0 n) → l0 < T.1 → gC cI cJ cZ cMic cSrc cSt cAI cAJ D ad A s.heap H locs T → lv_has ls 9 [(0, .ref (ad l0)), (1, .int l1), (2, .int l2)] → W p l e { frames := 3, cells := T1.1 - T0.1, slots := sg T1 - sg T0, locals := 49 } s m args below meth c H locs (T.1 - T0.1) (sg T - sg T0) Q (F0 m 28 ls [.int s0]) := by
  have hx := E.1
  have hb := E.2.1
  have hts := E.2.2.1
  have hown := E.2.2.2.1
  have hK := E.2.2.2.2
  intro T ad H locs ls s0 l0 l1 l2 h hgl hrc had h_l0 G hl
  have hT1 := s_X10_divide_b28 _ _ _ _ _ h
  have hcs := cs_ok hgl hT1
  have cp0 := cpr0 hrc
  unfold g_X10_divide_b28 at h
  refine lv_istore_n (lv' := [(3, .int s0), (0, .ref (ad l0)), (1, .int l1), (2, .int l2)]) hx hb dX10_divide_28 rfl hl (by decide) rfl (fun ls hl => ?_)
  refine lv_lconst (v := 0) hx hb dX10_divide_29 (by decide) ?_
  refine lv_lstore (lv' := [(4, .long (0 : Int64)), (3, .int s0), (0, .ref (ad l0)), (1, .int l1), (2, .int l2)]) hx hb dX10_divide_30 hl (by decide) rfl (fun ls hl => ?_)
  refine lv_aload_n hx hb dX10_divide_32 rfl (lv_at hl 2 rfl) ?_
  obtain ⟨g2, h⟩ := oif_some h
  refine c_get E G l0 2 (oO_k g2).1 (cc_o10 (oO_k g2).2) rfl (fun w h => .tail _ (iA_12 h)) (by decide) (.tail _ qA_15) rfl rfl dX10_divide_33 ?_
  refine lv_topi (fun v3 ev3 => ?_)
  have h := elet_at ev3 h
  clear ev3
  refine lv_iconst (v := 1) hx hb dX10_divide_36 (by decide) ?_
  refine lv_isub hx hb dX10_divide_37 ?_
  refine lv_topi (fun v4 ev4 => ?_)
  have h := elet_at ev4 h
  clear ev4
  refine lv_istore (lv' := [(6, .int v4), (4, .long (0 : Int64)), (3, .int s0), (0, .ref (ad l0)), (1, .int l1), (2, .int l2)]) hx hb dX10_divide_38 hl (by decide) rfl (fun ls hl => ?_)
  have hl := lv_sub hl [3, 4, 5, 2, 1, 0] rfl
  refine w_cast (c2 := T.1 - T0.1) (s2 := sg T - sg T0) (by rw [cp0.1] <;> rfl) (by rw [sg_cpr cp0] <;> rfl) ?_
  exact a_X10_divide_b40 E hA hX hN hml hst kr4 kr121 _ _ _ _ _ _ _ _ _ _ _ _ h (gl_cpr hgl cp0) cp0.2.2 had (by rw [cp0.1]; exact h_l0) G hl
set_option maxHeartbeats 4000000 in
set_option maxRecDepth 100000 in
theorem a_X10_divide (l : Launch) (hst : l.stackTraces = false) (D : va_G) (cI cJ cZ cMic cSrc cSt cAI cAJ : ClassId) (ad : Nat → Nat) (T : AT) (o : Nat) (a0 : Int32) (a1 : Int32) {T1 : AT} (h : g_X10_divide T o a0 a1 = some T1) (hrc : RC T) (h_o : o < T.1) : kAv l yX10_divide (Cond.code yX10_divide cX10_divide 9 none :: wsA) 3 49 cI cJ cZ cMic cSrc cSt cAI cAJ D ad T [.ref (ad o), .int a0, .int a1] T1 := by
  intro sz
  refine pro_in (cc := cX10_divide) (maxL := 9) (ret := none) (by exact pn_RX10) rfl (by exact Nat.le_of_ble_eq_true rfl) (fun p e s m below meth c ls hx hb hr hts hown hlocks hml hv hl => ?_)
  obtain ⟨hsz, hP, hK, hD0, hX, hN⟩ := hv
  subst hsz
  have hD := hD0.self (sz := s.heap.size)
  generalize hAe : va_A (cW ad T.1 (cc cI cJ cZ cMic cSrc cSt cAI cAJ ad T)) s.heap.size = A at hD hX ⊢
  have hA : ∀ q : Nat, s.heap.size ≤ q → A q := fun q h => by rw [← hAe]; exact Or.inr h
  have G : gC cI cJ cZ cMic cSrc cSt cAI cAJ D ad A s.heap s.heap [] T := ⟨hP, hD, va_S.rf⟩
  have E : cE p c cX10_divide s m ([.ref (ad o), .int a0, .int a1] : List Value).toArray (Cond.code yX10_divide cX10_divide 9 none :: wsA) D RX10 (CT cI cJ cZ cMic cSrc cSt cAI cAJ) := ⟨hx, hb, hts, hown, hK⟩
  have hl : lv_has ls 9 [(0, .ref (ad o)), (1, .int a0), (2, .int a1)] := hl
  have hgl := GL.rf T
  have had : ∀ n, n < T.1 → ad n = ad n := fun _ _ => rfl
  have hT1 := s_X10_divide h
  have hcs := cs_ok hgl hT1
  refine w_cast (Nat.sub_self T.1).symm (Nat.sub_self (sg T)).symm ?_
  have cp0 := cpr0 hrc
  unfold g_X10_divide at h
  refine lv_iload_n hx hb dX10_divide_0 rfl (lv_at hl 2 rfl) ?_
  refine lv_if_gt (tgt := 5) hx hb dX10_divide_1 (by decide) (fun c2 => ?_) (fun c2 => ?_)
  · have h := oif_pos c2 h
    refine lv_aload_n hx hb dX10_divide_5 rfl (lv_at hl 0 rfl) ?_
    obtain ⟨g3, h⟩ := oif_some h
    obtain ⟨n4, en4, h⟩ := obind_some h
    have h_n4 : n4 < T.1 := by rw [← cp0.1]; exact cp0.2.2 _ _ _ en4
    refine c_get E G o 1 (v := .ref (ad n4)) (oO_k g3).1 (cc_o10 (oO_k g3).2) rfl (fun w h => .tail _ (iA_12 h)) (by decide) (.tail _ qA_14) rfl (by rw [en4]; rfl) dX10_divide_6 ?_
    clear en4
    refine lv_aload_n hx hb dX10_divide_9 rfl (lv_at hl 0 rfl) ?_
    obtain ⟨g5, h⟩ := oif_some h
    refine c_get E G o 2 (oO_k g5).1 (cc_o10 (oO_k g5).2) rfl (fun w h => .tail _ (iA_12 h)) (by decide) (.tail _ qA_15) rfl rfl dX10_divide_10 ?_
    refine lv_topi (fun v6 ev6 => ?_)
    have h := elet_at ev6 h
    clear ev6
    refine lv_iconst (v := 1) hx hb dX10_divide_13 (by decide) ?_
    refine lv_isub hx hb dX10_divide_14 ?_
    refine lv_topi (fun v7 ev7 => ?_)
    have h := elet_at ev7 h
    clear ev7
    obtain ⟨g8, h⟩ := oif_some h
    obtain ⟨g9, h⟩ := oif_some h
    obtain ⟨n10, en10, h⟩ := obind_some h
    have h_n10 : n10 < T.1 := by rw [← cp0.1]; exact cp0.2.2 _ _ _ en10
    refine c_alda E G n4 7 (k := v7.toNatClampNeg) (v := .ref (ad n10)) (aA_k g8).1 (cc_a107 (aA_k g8).2.1) rfl (inb_k g9).1 (inb_k g9).2 (aA_k g8).2.2 (by show va_rf ((T.2.2.2.2 n4 v7.toNatClampNeg).map ad) = _; rw [en10]; rfl) dX10_divide_15 ?_
    clear en10
    refine lv_iload_n hx hb dX10_divide_16 rfl (lv_at hl 1 rfl) ?_
    obtain ⟨g11, h⟩ := oif_some h
    obtain ⟨g12, h⟩ := oif_some h
    refine c_lald E G n10 1 (k := a0.toNatClampNeg) (aA_k g11).1 (cc_a101 (aA_k g11).2.1) rfl (inb_k g12).1 (inb_k g12).2 (aA_k g11).2.2 dX10_divide_17 ?_
    refine lv_topl (fun v13 ev13 => ?_)
    have h := elet_at ev13 h
    clear ev13
    refine lv_lconst (v := 0) hx hb dX10_divide_18 (by decide) ?_
    refine W.lcmp hx hb dX10_divide_19 ?_
    refine lv_topi (fun v14 ev14 => ?_)
    have h := elet_at ev14 h
    clear ev14
    refine lv_if_ge (tgt := 27) hx hb dX10_divide_20 (by decide) (fun c15 => ?_) (fun c15 => ?_)
    · have h := oif_pos c15 h
      refine lv_iconst (v := 0) hx hb dX10_divide_27 (by decide) ?_
      have hl := lv_sub hl [0, 1, 2] rfl
      refine w_cast (c2 := T.1 - T.1) (s2 := sg T - sg T) (by rw [cp0.1] <;> rfl) (by rw [sg_cpr cp0] <;> rfl) ?_
      exact a_X10_divide_b28 E hA hX hN hml hst (fun ad H locs ls had G => W.vret hx hb hr (fun t ht hW => ⟨⟨(T1, ad), rfl, ⟨rfl, had⟩, ⟨by rw [ht]; exact G.1, va_K.moved hW.alike hK, G.2.1⟩⟩, G.2.2.F ht⟩) G.2.2.2.2 dX10_divide_4) (fun ad H locs ls had G => W.vret hx hb hr (fun t ht hW => ⟨⟨(T1, ad), rfl, ⟨rfl, had⟩, ⟨by rw [ht]; exact G.1, va_K.moved hW.alike hK, G.2.1⟩⟩, G.2.2.F ht⟩) G.2.2.2.2 dX10_divide_121) _ _ _ _ _ _ _ _ _ h (gl_cpr hgl cp0) cp0.2.2 had (by rw [cp0.1]; exact h_o) G hl
    · have h := oif_neg c15 h
      refine lv_iconst (v := 1) hx hb dX10_divide_23 (by decide) ?_
      refine lv_goto (tgt := 28) hx hb dX10_divide_24 (by decide) ?_
      have hl := lv_sub hl [0, 1, 2] rfl
      refine w_cast (c2 := T.1 - T.1) (s2 := sg T - sg T) (by rw [cp0.1] <;> rfl) (by rw [sg_cpr cp0] <;> rfl) ?_
      exact a_X10_divide_b28 E hA hX hN hml hst (fun ad H locs ls had G => W.vret hx hb hr (fun t ht hW => ⟨⟨(T1, ad), rfl, ⟨rfl, had⟩, ⟨by rw [ht]; exact G.1, va_K.moved hW.alike hK, G.2.1⟩⟩, G.2.2.F ht⟩) G.2.2.2.2 dX10_divide_4) (fun ad H locs ls had G => W.vret hx hb hr (fun t ht hW => ⟨⟨(T1, ad), rfl, ⟨rfl, had⟩, ⟨by rw [ht]; exact G.1, va_K.moved hW.alike hK, G.2.1⟩⟩, G.2.2.F ht⟩) G.2.2.2.2 dX10_divide_121) _ _ _ _ _ _ _ _ _ h (gl_cpr hgl cp0) cp0.2.2 had (by rw [cp0.1]; exact h_o) G hl
  · have h := oif_neg c2 h
    rw [osome1 h] at G
    refine w_cast (c2 := T1.1 - T.1) (s2 := sg T1 - sg T) (by rw [← osome1 h, cp0.1] <;> rfl) (by rw [← osome1 h, sg_cpr cp0] <;> rfl) ?_
    exact W.vret hx hb hr (fun t ht hW => ⟨⟨(T1, ad), rfl, ⟨rfl, had⟩, ⟨by rw [ht]; exact G.1, va_K.moved hW.alike hK, G.2.1⟩⟩, G.2.2.F ht⟩) G.2.2.2.2 dX10_divide_4
def g_X8_placeOf  (a0 : Int32) (a1 : Int32) : Option (Int32) := elet (a0 * 200) fun v2 => elet (v2 + a1) fun v3 => some v3
set_option maxHeartbeats 4000000 in
set_option maxRecDepth 100000 in
theorem u_X8_placeOf (l : Launch) (a0 : Int32) (a1 : Int32) {r1 : Int32} (h : g_X8_placeOf a0 a1 = some r1) : Met l yX8_placeOf (Cond.code yX8_placeOf cX8_placeOf 2 (some .int) :: wsA) { frames := 1, cells := 0, slots := 0, locals := 0 } (va_Pc [.int a0, .int a1] nX) (vp_Si (fun r => r = r1)) 0 0 (fun _ => False) := by
  refine pro_in (cc := cX8_placeOf) (maxL := 2) (ret := (some .int)) (by exact pn_RX8) rfl (by exact Nat.le_of_ble_eq_true rfl) (fun p e s m below meth c ls hx hb hr hts hown hlocks hml hv hl => ?_)
  have hN := hv
  have E : p.tables.exec = Jvm.exec ∧ c.code = cX8_placeOf ∧ (∀ w ∈ (Cond.code yX8_placeOf cX8_placeOf 2 (some .int) :: wsA), w.before ([.int a0, .int a1] : List Value).toArray s = true) ∧ s.vm.findClass RX8 = some m.cls := ⟨hx, hb, hts, hown⟩
  have hl : lv_has ls 2 [(0, .int a0), (1, .int a1)] := hl
  unfold g_X8_placeOf at h
  refine lv_iload_n hx hb dX8_placeOf_0 rfl (lv_at hl 0 rfl) ?_
  refine lv_sipush (v := 200) hx hb dX8_placeOf_1 (by decide) ?_
  refine lv_imul hx hb dX8_placeOf_4 ?_
  refine lv_topi (fun v2 ev2 => ?_)
  have h := elet_at ev2 h
  clear ev2
  refine lv_iload_n hx hb dX8_placeOf_5 rfl (lv_at hl 1 rfl) ?_
  refine lv_iadd hx hb dX8_placeOf_6 ?_
  refine lv_topi (fun v3 ev3 => ?_)
  have h := elet_at ev3 h
  clear ev3
  exact W.iret (v := v3) hx hb hr (fun t ht hW => ⟨v3, rfl, osome1 h, ht⟩) (fun _ h => absurd h List.not_mem_nil) dX8_placeOf_7
def g_X8_weighted_b70 (k6 : AT → Nat → Nat → Nat → Int32 → Int64 → Int32 → Option (Int64 × AT)) (T : AT) (l0 : Nat) (l1 : Nat) (l2 : Nat) (l3 : Int32) (l4 : Int64) (l6 : Int32) : Option (Int64 × AT) := elet (l6 + Int32.ofInt (1)) fun v2 => k6 T l0 l1 l2 l3 l4 v2
set_option maxHeartbeats 4000000 in
set_option maxRecDepth 100000 in
theorem u_X8_weighted_b70 {p : Program} {l : Launch} {e : Env} {s : State} {m : MethodId} {args : Array Value} {below : List Frame} {meth : Method} {c : Code} {Q : State → Prop} {D : va_G} {A : Nat → Prop} {cI cJ cZ cMic cSrc cSt cAI cAJ : ClassId} {ad : Nat → Nat} {r1 : Int64} {T1 : AT} (E : cE p c cX8_weighted s m args (Cond.code yX8_weighted cX8_weighted 8 (some .long) :: wsA) D RX8 (CT cI cJ cZ cMic cSrc cSt cAI cAJ)) (hA : ∀ q : Nat, s.heap.size ≤ q → A q) (hX : xT A s) (hN : nX s) (hml : c.maxLocals = 8) (hst : l.stackTraces = false) (kr78 : ∀ (H : Heap) (locs : List Loc) (ls : Array Slot), gC cI cJ cZ cMic cSrc cSt cAI cAJ D ad A s.heap H locs T1 → W p l e { frames := 2, cells := 0, slots := 0, locals := 21 } s m args below meth c H locs 0 0 Q (F0 m 78 ls [.long r1])) {k6 : AT → Nat → Nat → Nat → Int32 → Int64 → Int32 → Option (Int64 × AT)} (hk6 : ∀ (T : AT) (H : Heap) (locs : List Loc) (ls : Array Slot) (l0 : Nat) (l1 : Nat) (l2 : Nat) (l3 : Int32) (l4 : Int64) (l6 : Int32), k6 T l0 l1 l2 l3 l4 l6 = some (r1, T1) → gC cI cJ cZ cMic cSrc cSt cAI cAJ D ad A s.heap H locs T → lv_has ls 8 [(0, .ref (ad l0)), (1, .ref (ad l1)), (2, .ref (ad l2)), (3, .int l3), (4, .long l4), (6, .int l6)] → W p l e { frames := 2, cells := 0, slots := 0, locals := 21 } s m args below meth c H locs 0 0 Q (F0 m 6 ls [])) : ∀ (T : AT) (H : Heap) (locs : List Loc) (ls : Array Slot) (l0 : Nat) (l1 : Nat) (l2 : Nat) (l3 : Int32) (l4 : Int64) (l6 : Int32), g_X8_weighted_b70 k6 T l0 l1 l2 l3 l4 l6 = some (r1, T1) → gC cI cJ cZ cMic cSrc cSt cAI cAJ D ad A s.heap H locs T → lv_has ls 8 [(0, .ref (ad l0)), (1, .ref (ad l1)), (2, .ref (ad l2)), (3, .int l3), (4, .long l4), (6, .int l6)] → W p l e { frames := 2, cells := 0, slots := 0, locals := 21 } s m args below meth c H locs 0 0 Q (F0 m 70 ls []) := by
  have hx := E.1
  have hb := E.2.1
  have hts := E.2.2.1
  have hown := E.2.2.2.1
  have hK := E.2.2.2.2
  intro T H locs ls l0 l1 l2 l3 l4 l6 h G hl
  unfold g_X8_weighted_b70 at h
  obtain ⟨v2, ev2, h⟩ := elet_some h
  refine lv_iinc (v := v2) (lv' := [(6, .int v2), (0, .ref (ad l0)), (1, .ref (ad l1)), (2, .ref (ad l2)), (3, .int l3), (4, .long l4)]) hx hb dX8_weighted_70 hl (k := 5) rfl ev2.symm (by decide) rfl (fun ls hl => ?_)
  refine lv_goto (tgt := 6) hx hb dX8_weighted_73 (by decide) ?_
  have hl := lv_sub hl [1, 2, 3, 4, 5, 0] rfl
  exact hk6 _ _ _ _ _ _ _ _ _ _ h G hl
def g_X8_weighted_b6  : Nat → AT → Nat → Nat → Nat → Int32 → Int64 → Int32 → Option (Int64 × AT)
  | 0, _, _, _, _, _, _, _ => none
  | n + 1, T, l0, l1, l2, l3, l4, l6 => oif (oO T l0 8 = true) <| elet (T.2.2.1 l0 0) fun v3 => if v3 ≤ l6 then (some (l4, T)) else (oif (aA T l2 100 = true) <| oif (inb l6 (T.2.1 l2).2 = true) <| elet (T.2.2.1 l2 l6.toNatClampNeg) fun v7 => elet (l3 + v7) fun v8 => oif (oO T l0 8 = true) <| obind (T.2.2.2.2 l0 3) fun n10 => oif (aA T n10 102 = true) <| oif (inb l6 (T.2.1 n10).2 = true) <| elet (T.2.2.1 n10 l6.toNatClampNeg) fun v13 => if v13 = 0 then (if v8 < 0 then (g_X8_weighted_b70 (g_X8_weighted_b6 n) T l0 l1 l2 l3 l4 l6) else (oif (oO T l0 8 = true) <| elet (T.2.2.1 l0 1) fun v17 => if v17 ≤ v8 then (g_X8_weighted_b70 (g_X8_weighted_b6 n) T l0 l1 l2 l3 l4 l6) else (oif (oO T l0 8 = true) <| obind (T.2.2.2.2 l0 4) fun n20 => oif (aA T n20 100 = true) <| oif (inb l6 (T.2.1 n20).2 = true) <| elet (T.2.2.1 n20 l6.toNatClampNeg) fun v23 => elet (v23.toInt64) fun v24 => obind (g_X8_placeOf l6 v8) fun r25 => oif (aA T l1 101 = true) <| oif (inb r25 (T.2.1 l1).2 = true) <| elet (T.2.2.2.1 l1 r25.toNatClampNeg) fun v29 => elet (v24 * v29) fun v30 => elet (l4 + v30) fun v31 => g_X8_weighted_b70 (g_X8_weighted_b6 n) T l0 l1 l2 l3 v31 l6))) else (g_X8_weighted_b70 (g_X8_weighted_b6 n) T l0 l1 l2 l3 l4 l6))
set_option maxHeartbeats 4000000 in
set_option maxRecDepth 100000 in
theorem u_X8_weighted_b6 {p : Program} {l : Launch} {e : Env} {s : State} {m : MethodId} {args : Array Value} {below : List Frame} {meth : Method} {c : Code} {Q : State → Prop} {D : va_G} {A : Nat → Prop} {cI cJ cZ cMic cSrc cSt cAI cAJ : ClassId} {ad : Nat → Nat} {r1 : Int64} {T1 : AT} (E : cE p c cX8_weighted s m args (Cond.code yX8_weighted cX8_weighted 8 (some .long) :: wsA) D RX8 (CT cI cJ cZ cMic cSrc cSt cAI cAJ)) (hA : ∀ q : Nat, s.heap.size ≤ q → A q) (hX : xT A s) (hN : nX s) (hml : c.maxLocals = 8) (hst : l.stackTraces = false) (kr78 : ∀ (H : Heap) (locs : List Loc) (ls : Array Slot), gC cI cJ cZ cMic cSrc cSt cAI cAJ D ad A s.heap H locs T1 → W p l e { frames := 2, cells := 0, slots := 0, locals := 21 } s m args below meth c H locs 0 0 Q (F0 m 78 ls [.long r1])) : ∀ n : Nat, ∀ (T : AT) (H : Heap) (locs : List Loc) (ls : Array Slot) (l0 : Nat) (l1 : Nat) (l2 : Nat) (l3 : Int32) (l4 : Int64) (l6 : Int32), g_X8_weighted_b6 n T l0 l1 l2 l3 l4 l6 = some (r1, T1) → gC cI cJ cZ cMic cSrc cSt cAI cAJ D ad A s.heap H locs T → lv_has ls 8 [(0, .ref (ad l0)), (1, .ref (ad l1)), (2, .ref (ad l2)), (3, .int l3), (4, .long l4), (6, .int l6)] → W p l e { frames := 2, cells := 0, slots := 0, locals := 21 } s m args below meth c H locs 0 0 Q (F0 m 6 ls []) := by
  have hx := E.1
  have hb := E.2.1
  have hts := E.2.2.1
  have hown := E.2.2.2.1
  have hK := E.2.2.2.2
  intro n
  induction n with
  | zero =>
    intro T H locs ls l0 l1 l2 l3 l4 l6 h
    have h : (none : Option (Int64 × AT)) = some (r1, T1) := h
    cases h
  | succ n ih =>
    intro T H locs ls l0 l1 l2 l3 l4 l6 h G hl
    unfold g_X8_weighted_b6 at h
    refine lv_iload hx hb dX8_weighted_6 (lv_at hl 5 rfl) ?_
    refine lv_aload_n hx hb dX8_weighted_8 rfl (lv_at hl 0 rfl) ?_
    obtain ⟨g2, h⟩ := oif_some h
    refine c_get E G l0 0 (oO_k g2).1 (cc_o8 (oO_k g2).2) rfl (fun w h => .tail _ (iA_16 h)) (by decide) (.tail _ qA_63) rfl rfl dX8_weighted_9 ?_
    refine lv_topi (fun v3 ev3 => ?_)
    have h := elet_at ev3 h
    clear ev3
    refine lv_icmp_ge (tgt := 76) hx hb dX8_weighted_12 (by decide) (fun c4 => ?_) (fun c4 => ?_)
    · have h := oif_pos c4 h
      refine lv_lload hx hb dX8_weighted_76 (lv_at hl 4 rfl) ?_
      rw [(osome2 h).2] at G
      refine lv_tol (osome2 h).1 ?_
      exact kr78 _ _ _ G
    · have h := oif_neg c4 h
      refine lv_iload_n hx hb dX8_weighted_15 rfl (lv_at hl 3 rfl) ?_
      refine lv_aload_n hx hb dX8_weighted_16 rfl (lv_at hl 2 rfl) ?_
      refine lv_iload hx hb dX8_weighted_17 (lv_at hl 5 rfl) ?_
      obtain ⟨g5, h⟩ := oif_some h
      obtain ⟨g6, h⟩ := oif_some h
      refine c_iald E G l2 0 (k := l6.toNatClampNeg) (aA_k g5).1 (cc_a100 (aA_k g5).2.1) rfl (inb_k g6).1 (inb_k g6).2 (aA_k g5).2.2 dX8_weighted_19 ?_
      refine lv_topi (fun v7 ev7 => ?_)
      have h := elet_at ev7 h
      clear ev7
      refine lv_iadd hx hb dX8_weighted_20 ?_
      refine lv_topi (fun v8 ev8 => ?_)
      have h := elet_at ev8 h
      clear ev8
      refine lv_istore (lv' := [(7, .int v8), (0, .ref (ad l0)), (1, .ref (ad l1)), (2, .ref (ad l2)), (3, .int l3), (4, .long l4), (6, .int l6)]) hx hb dX8_weighted_21 hl (by decide) rfl (fun ls hl => ?_)
      refine lv_aload_n hx hb dX8_weighted_23 rfl (lv_at hl 1 rfl) ?_
      obtain ⟨g9, h⟩ := oif_some h
      obtain ⟨n10, en10, h⟩ := obind_some h
      refine c_get E G l0 3 (v := .ref (ad n10)) (oO_k g9).1 (cc_o8 (oO_k g9).2) rfl (fun w h => .tail _ (iA_16 h)) (by decide) (.tail _ qA_64) rfl (by rw [en10]; rfl) dX8_weighted_24 ?_
      clear en10
      refine lv_iload hx hb dX8_weighted_27 (lv_at hl 6 rfl) ?_
      obtain ⟨g11, h⟩ := oif_some h
      obtain ⟨g12, h⟩ := oif_some h
      refine c_zald E G n10 2 (k := l6.toNatClampNeg) (aA_k g11).1 (cc_a102 (aA_k g11).2.1) rfl (inb_k g12).1 (inb_k g12).2 (aA_k g11).2.2 dX8_weighted_29 ?_
      refine lv_topi (fun v13 ev13 => ?_)
      have h := elet_at ev13 h
      clear ev13
      refine lv_if_ne (tgt := 70) hx hb dX8_weighted_30 (by decide) (fun c14 => ?_) (fun c14 => ?_)
      · have h := oif_neg c14 h
        have hl := lv_sub hl [1, 2, 3, 4, 5, 6] rfl
        exact u_X8_weighted_b70 E hA hX hN hml hst kr78 ih _ _ _ _ _ _ _ _ _ _ h G hl
      · have h := oif_pos c14 h
        refine lv_iload hx hb dX8_weighted_33 (lv_at hl 0 rfl) ?_
        refine lv_if_lt (tgt := 70) hx hb dX8_weighted_35 (by decide) (fun c15 => ?_) (fun c15 => ?_)
        · have h := oif_pos c15 h
          have hl := lv_sub hl [1, 2, 3, 4, 5, 6] rfl
          exact u_X8_weighted_b70 E hA hX hN hml hst kr78 ih _ _ _ _ _ _ _ _ _ _ h G hl
        · have h := oif_neg c15 h
          refine lv_iload hx hb dX8_weighted_38 (lv_at hl 0 rfl) ?_
          refine lv_aload_n hx hb dX8_weighted_40 rfl (lv_at hl 1 rfl) ?_
          obtain ⟨g16, h⟩ := oif_some h
          refine c_get E G l0 1 (oO_k g16).1 (cc_o8 (oO_k g16).2) rfl (fun w h => .tail _ (iA_16 h)) (by decide) (.tail _ qA_57) rfl rfl dX8_weighted_41 ?_
          refine lv_topi (fun v17 ev17 => ?_)
          have h := elet_at ev17 h
          clear ev17
          refine lv_icmp_ge (tgt := 70) hx hb dX8_weighted_44 (by decide) (fun c18 => ?_) (fun c18 => ?_)
          · have h := oif_pos c18 h
            have hl := lv_sub hl [1, 2, 3, 4, 5, 6] rfl
            exact u_X8_weighted_b70 E hA hX hN hml hst kr78 ih _ _ _ _ _ _ _ _ _ _ h G hl
          · have h := oif_neg c18 h
            refine lv_lload hx hb dX8_weighted_47 (lv_at hl 5 rfl) ?_
            refine lv_aload_n hx hb dX8_weighted_49 rfl (lv_at hl 1 rfl) ?_
            obtain ⟨g19, h⟩ := oif_some h
            obtain ⟨n20, en20, h⟩ := obind_some h
            refine c_get E G l0 4 (v := .ref (ad n20)) (oO_k g19).1 (cc_o8 (oO_k g19).2) rfl (fun w h => .tail _ (iA_16 h)) (by decide) (.tail _ qA_86) rfl (by rw [en20]; rfl) dX8_weighted_50 ?_
            clear en20
            refine lv_iload hx hb dX8_weighted_53 (lv_at hl 6 rfl) ?_
            obtain ⟨g21, h⟩ := oif_some h
            obtain ⟨g22, h⟩ := oif_some h
            refine c_iald E G n20 0 (k := l6.toNatClampNeg) (aA_k g21).1 (cc_a100 (aA_k g21).2.1) rfl (inb_k g22).1 (inb_k g22).2 (aA_k g21).2.2 dX8_weighted_55 ?_
            refine lv_topi (fun v23 ev23 => ?_)
            have h := elet_at ev23 h
            clear ev23
            refine lv_i2l (v := v23.toInt64) hx hb dX8_weighted_56 rfl ?_
            refine lv_topl (fun v24 ev24 => ?_)
            have h := elet_at ev24 h
            clear ev24
            refine lv_aload_n hx hb dX8_weighted_57 rfl (lv_at hl 2 rfl) ?_
            refine lv_iload hx hb dX8_weighted_58 (lv_at hl 6 rfl) ?_
            refine lv_iload hx hb dX8_weighted_60 (lv_at hl 0 rfl) ?_
            obtain ⟨r25, er25, h⟩ := obind_some h
            refine q_sti (As := [.int l6, .int v8]) (rest := [.ref (ad l1), .long v24, .long l4]) ⟨hx, hb, hml, hown, hts⟩ hN (u_X8_placeOf l l6 v8 er25) (cwS 2 hts (gaS qA_87 qA_88 qA_47 qA_89) rfl rfl rfl (by decide +kernel) ⟨Nat.le_of_ble_eq_true rfl, Nat.le_of_ble_eq_true rfl⟩) rfl hl.1 rfl (lv_room (Nat.le_of_ble_eq_true rfl)) dX8_weighted_62 ⟨Nat.zero_le _, Nat.zero_le _⟩ (fun q26 hq => ?_)
            refine lv_to hq ?_
            clear hq er25
            obtain ⟨g27, h⟩ := oif_some h
            obtain ⟨g28, h⟩ := oif_some h
            refine c_lald E G l1 1 (k := r25.toNatClampNeg) (aA_k g27).1 (cc_a101 (aA_k g27).2.1) rfl (inb_k g28).1 (inb_k g28).2 (aA_k g27).2.2 dX8_weighted_65 ?_
            refine lv_topl (fun v29 ev29 => ?_)
            have h := elet_at ev29 h
            clear ev29
            refine lv_lmul hx hb dX8_weighted_66 ?_
            refine lv_topl (fun v30 ev30 => ?_)
            have h := elet_at ev30 h
            clear ev30
            refine lv_ladd hx hb dX8_weighted_67 ?_
            refine lv_topl (fun v31 ev31 => ?_)
            have h := elet_at ev31 h
            clear ev31
            refine lv_lstore (lv' := [(4, .long v31), (7, .int v8), (0, .ref (ad l0)), (1, .ref (ad l1)), (2, .ref (ad l2)), (3, .int l3), (6, .int l6)]) hx hb dX8_weighted_68 hl (by decide) rfl (fun ls hl => ?_)
            have hl := lv_sub hl [2, 3, 4, 5, 0, 6] rfl
            exact u_X8_weighted_b70 E hA hX hN hml hst kr78 ih _ _ _ _ _ _ _ _ _ _ h G hl
def g_X8_weighted (T : AT) (o : Nat) (a0 : Nat) (a1 : Nat) (a2 : Int32) : Option (Int64 × AT) := g_X8_weighted_b6 16384 T o a0 a1 a2 (0 : Int64) 0
set_option maxHeartbeats 4000000 in
set_option maxRecDepth 100000 in
theorem u_X8_weighted (l : Launch) (hst : l.stackTraces = false) (D : va_G) (cI cJ cZ cMic cSrc cSt cAI cAJ : ClassId) (ad : Nat → Nat) (T : AT) (o : Nat) (a0 : Nat) (a1 : Nat) (a2 : Int32) {r1 : Int64} {T1 : AT} (h : g_X8_weighted T o a0 a1 a2 = some (r1, T1)) : kCl l yX8_weighted (Cond.code yX8_weighted cX8_weighted 8 (some .long) :: wsA) 2 21 cI cJ cZ cMic cSrc cSt cAI cAJ D ad T [.ref (ad o), .ref (ad a0), .ref (ad a1), .int a2] (fun r T9 => r = r1 ∧ T9 = T1) := by
  intro sz
  refine pro_in (cc := cX8_weighted) (maxL := 8) (ret := (some .long)) (by exact pn_RX8) rfl (by exact Nat.le_of_ble_eq_true rfl) (fun p e s m below meth c ls hx hb hr hts hown hlocks hml hv hl => ?_)
  obtain ⟨hsz, hP, hK, hD0, hX, hN⟩ := hv
  subst hsz
  have hD := hD0.self (sz := s.heap.size)
  generalize hAe : va_A (cW ad T.1 (cc cI cJ cZ cMic cSrc cSt cAI cAJ ad T)) s.heap.size = A at hD hX ⊢
  have hA : ∀ q : Nat, s.heap.size ≤ q → A q := fun q h => by rw [← hAe]; exact Or.inr h
  have G : gC cI cJ cZ cMic cSrc cSt cAI cAJ D ad A s.heap s.heap [] T := ⟨hP, hD, va_S.rf⟩
  have E : cE p c cX8_weighted s m ([.ref (ad o), .ref (ad a0), .ref (ad a1), .int a2] : List Value).toArray (Cond.code yX8_weighted cX8_weighted 8 (some .long) :: wsA) D RX8 (CT cI cJ cZ cMic cSrc cSt cAI cAJ) := ⟨hx, hb, hts, hown, hK⟩
  have hl : lv_has ls 8 [(0, .ref (ad o)), (1, .ref (ad a0)), (2, .ref (ad a1)), (3, .int a2)] := hl
  unfold g_X8_weighted at h
  refine lv_lconst (v := 0) hx hb dX8_weighted_0 (by decide) ?_
  refine lv_lstore (lv' := [(4, .long (0 : Int64)), (0, .ref (ad o)), (1, .ref (ad a0)), (2, .ref (ad a1)), (3, .int a2)]) hx hb dX8_weighted_1 hl (by decide) rfl (fun ls hl => ?_)
  refine lv_iconst (v := 0) hx hb dX8_weighted_3 (by decide) ?_
  refine lv_istore (lv' := [(6, .int 0), (4, .long (0 : Int64)), (0, .ref (ad o)), (1, .ref (ad a0)), (2, .ref (ad a1)), (3, .int a2)]) hx hb dX8_weighted_4 hl (by decide) rfl (fun ls hl => ?_)
  have hl := lv_sub hl [2, 3, 4, 5, 1, 0] rfl
  exact u_X8_weighted_b6 E hA hX hN hml hst (fun H locs ls G => W.lret (v := r1) hx hb hr (fun t ht hW => ⟨⟨r1, T1, rfl, ⟨rfl, rfl⟩, ⟨by rw [ht]; exact G.1, va_K.moved hW.alike hK, G.2.1⟩⟩, G.2.2.F ht⟩) G.2.2.2.2 dX8_weighted_78) _ _ _ _ _ _ _ _ _ _ _ h G hl
set_option maxHeartbeats 4000000 in
set_option maxRecDepth 100000 in
theorem s_X8_weighted_b70 {r1 : Int64} {T1 : AT} {k6 : AT → Nat → Nat → Nat → Int32 → Int64 → Int32 → Option (Int64 × AT)} (hk6 : ∀ (T : AT) (l0 : Nat) (l1 : Nat) (l2 : Nat) (l3 : Int32) (l4 : Int64) (l6 : Int32), k6 T l0 l1 l2 l3 l4 l6 = some (r1, T1) → SP T T1) : ∀ (T : AT) (l0 : Nat) (l1 : Nat) (l2 : Nat) (l3 : Int32) (l4 : Int64) (l6 : Int32), g_X8_weighted_b70 k6 T l0 l1 l2 l3 l4 l6 = some (r1, T1) → SP T T1 := by
  intro T l0 l1 l2 l3 l4 l6 h
  have p0 := SP.rf T
  unfold g_X8_weighted_b70 at h
  obtain ⟨v2, ev2, h⟩ := elet_some h
  exact SP.tr p0 (hk6 _ _ _ _ _ _ _ h)
set_option maxHeartbeats 4000000 in
set_option maxRecDepth 100000 in
theorem s_X8_weighted_b6 {r1 : Int64} {T1 : AT} : ∀ n : Nat, ∀ (T : AT) (l0 : Nat) (l1 : Nat) (l2 : Nat) (l3 : Int32) (l4 : Int64) (l6 : Int32), g_X8_weighted_b6 n T l0 l1 l2 l3 l4 l6 = some (r1, T1) → SP T T1 := by
  intro n
  induction n with
  | zero =>
    intro T l0 l1 l2 l3 l4 l6 h
    have h : (none : Option (Int64 × AT)) = some (r1, T1) := h
    cases h
  | succ n ih =>
    intro T l0 l1 l2 l3 l4 l6 h
    have p0 := SP.rf T
    unfold g_X8_weighted_b6 at h
    obtain ⟨g2, h⟩ := oif_some h
    obtain ⟨v3, -, h⟩ := elet_some h
    rcases oif_or h with ⟨c4, h⟩ | ⟨c4, h⟩
    · have h := h
      rw [← (osome2 h).2]
      exact p0
    · have h := h
      obtain ⟨g5, h⟩ := oif_some h
      obtain ⟨g6, h⟩ := oif_some h
      obtain ⟨v7, -, h⟩ := elet_some h
      obtain ⟨v8, -, h⟩ := elet_some h
      obtain ⟨g9, h⟩ := oif_some h
      obtain ⟨n10, en10, h⟩ := obind_some h
      obtain ⟨g11, h⟩ := oif_some h
      obtain ⟨g12, h⟩ := oif_some h
      obtain ⟨v13, -, h⟩ := elet_some h
      rcases oif_or h with ⟨c14, h⟩ | ⟨c14, h⟩
      · have h := h
        rcases oif_or h with ⟨c15, h⟩ | ⟨c15, h⟩
        · have h := h
          exact SP.tr p0 (s_X8_weighted_b70 ih _ _ _ _ _ _ _ h)
        · have h := h
          obtain ⟨g16, h⟩ := oif_some h
          obtain ⟨v17, -, h⟩ := elet_some h
          rcases oif_or h with ⟨c18, h⟩ | ⟨c18, h⟩
          · have h := h
            exact SP.tr p0 (s_X8_weighted_b70 ih _ _ _ _ _ _ _ h)
          · have h := h
            obtain ⟨g19, h⟩ := oif_some h
            obtain ⟨n20, en20, h⟩ := obind_some h
            obtain ⟨g21, h⟩ := oif_some h
            obtain ⟨g22, h⟩ := oif_some h
            obtain ⟨v23, -, h⟩ := elet_some h
            obtain ⟨v24, -, h⟩ := elet_some h
            obtain ⟨r25, -, h⟩ := obind_some h
            obtain ⟨g26, h⟩ := oif_some h
            obtain ⟨g27, h⟩ := oif_some h
            obtain ⟨v28, -, h⟩ := elet_some h
            obtain ⟨v29, -, h⟩ := elet_some h
            obtain ⟨v30, -, h⟩ := elet_some h
            exact SP.tr p0 (s_X8_weighted_b70 ih _ _ _ _ _ _ _ h)
      · have h := h
        exact SP.tr p0 (s_X8_weighted_b70 ih _ _ _ _ _ _ _ h)
set_option maxHeartbeats 4000000 in
set_option maxRecDepth 100000 in
theorem s_X8_weighted {T : AT} {o : Nat} {a0 : Nat} {a1 : Nat} {a2 : Int32} {r1 : Int64} {T1 : AT} (h : g_X8_weighted T o a0 a1 a2 = some (r1, T1)) : SP T T1 := by
  have p0 := SP.rf T
  unfold g_X8_weighted at h
  exact SP.tr p0 (s_X8_weighted_b6 _ _ _ _ _ _ _ _ h)
def g_X8_focus_b74  (T : AT)  : Option (AT) := some T
def g_X8_focus_b23  : Nat → AT → Nat → Nat → Int32 → Int32 → Option (AT)
  | 0, _, _, _, _, _ => none
  | n + 1, T, l0, l1, l2, l3 => oif (oO T l0 8 = true) <| obind (T.2.2.2.2 l0 10) fun n3 => oif (oO T n3 10 = true) <| elet (T.2.2.1 n3 2) fun v5 => if v5 ≤ l3 then (oif (oO T l0 8 = true) <| obind (T.2.2.2.2 l0 11) fun n8 => oif (oO T n8 10 = true) <| obind (g_X10_settle T n8 (0 : Int32)) fun T10 => g_X8_focus_b74 T10) else (oif (oO T l0 8 = true) <| obind (T.2.2.2.2 l0 11) fun n13 => oif (oO T n13 10 = true) <| obind (T.2.2.2.2 n13 1) fun n15 => oif (aA T n15 107 = true) <| oif (inb l3 (T.2.1 n15).2 = true) <| obind (T.2.2.2.2 n15 l3.toNatClampNeg) fun n18 => oif (oO T l0 8 = true) <| obind (T.2.2.2.2 l0 10) fun n20 => oif (oO T n20 10 = true) <| obind (T.2.2.2.2 n20 1) fun n22 => oif (aA T n22 107 = true) <| oif (inb l3 (T.2.1 n22).2 = true) <| obind (T.2.2.2.2 n22 l3.toNatClampNeg) fun n25 => oif (oO T l0 8 = true) <| obind2 (g_X8_weighted T l0 n25 l1 l2) fun r29 T27 => oif (aA T27 n18 101 = true) <| oif (inb 0 (T27.2.1 n18).2 = true) <| elet (uJ T27 n18 (0 : Int32).toNatClampNeg r29) fun T33 => elet (l3 + Int32.ofInt (1)) fun v34 => g_X8_focus_b23 n T33 l0 l1 l2 v34)
def g_X8_focus_b21  (T : AT) (l0 : Nat) (l1 : Nat) (l2 : Int32) : Option (AT) := g_X8_focus_b23 16384 T l0 l1 l2 0
def g_X8_focus (T : AT) (o : Nat) (a0 : Nat) (a1 : Int32) : Option (AT) := oif (oO T o 8 = true) <| obind (T.2.2.2.2 o 11) fun n3 => oif (oO T n3 10 = true) <| obind (g_X10_narrow T n3) fun T5 => oif (oO T5 o 8 = true) <| obind (T5.2.2.2.2 o 11) fun n8 => oif (oO T5 o 8 = true) <| obind (T5.2.2.2.2 o 10) fun n10 => oif (oO T5 n10 10 = true) <| elet (T5.2.2.1 n10 2) fun v12 => oif (oO T5 n8 10 = true) <| obind (g_X10_widenTo T5 n8 v12) fun T14 => g_X8_focus_b21 T14 o a0 a1
set_option maxHeartbeats 4000000 in
set_option maxRecDepth 100000 in
theorem s_X8_focus_b74 {T1 : AT} : ∀ (T : AT), g_X8_focus_b74 T = some T1 → GL T T1 := by
  intro T h
  have p0 := GL.rf T
  unfold g_X8_focus_b74 at h
  rw [← osome1 h]
  exact p0
set_option maxHeartbeats 4000000 in
set_option maxRecDepth 100000 in
theorem s_X8_focus_b23 {T1 : AT} : ∀ n : Nat, ∀ (T : AT) (l0 : Nat) (l1 : Nat) (l2 : Int32) (l3 : Int32), g_X8_focus_b23 n T l0 l1 l2 l3 = some T1 → GL T T1 := by
  intro n
  induction n with
  | zero =>
    intro T l0 l1 l2 l3 h
    have h : (none : Option (AT)) = some T1 := h
    cases h
  | succ n ih =>
    intro T l0 l1 l2 l3 h
    have p0 := GL.rf T
    unfold g_X8_focus_b23 at h
    obtain ⟨g2, h⟩ := oif_some h
    obtain ⟨n3, en3, h⟩ := obind_some h
    obtain ⟨g4, h⟩ := oif_some h
    obtain ⟨v5, -, h⟩ := elet_some h
    rcases oif_or h with ⟨c6, h⟩ | ⟨c6, h⟩
    · have h := h
      obtain ⟨g7, h⟩ := oif_some h
      obtain ⟨n8, en8, h⟩ := obind_some h
      obtain ⟨g9, h⟩ := oif_some h
      obtain ⟨T10, eT10, h⟩ := obind_some h
      have p1 : GL T T10 := GL.tr p0 (s_X10_settle eT10)
      exact GL.tr p1 (s_X8_focus_b74 _ h)
    · have h := h
      obtain ⟨g12, h⟩ := oif_some h
      obtain ⟨n13, en13, h⟩ := obind_some h
      obtain ⟨g14, h⟩ := oif_some h
      obtain ⟨n15, en15, h⟩ := obind_some h
      obtain ⟨g16, h⟩ := oif_some h
      obtain ⟨g17, h⟩ := oif_some h
      obtain ⟨n18, en18, h⟩ := obind_some h
      obtain ⟨g19, h⟩ := oif_some h
      obtain ⟨n20, en20, h⟩ := obind_some h
      obtain ⟨g21, h⟩ := oif_some h
      obtain ⟨n22, en22, h⟩ := obind_some h
      obtain ⟨g23, h⟩ := oif_some h
      obtain ⟨g24, h⟩ := oif_some h
      obtain ⟨n25, en25, h⟩ := obind_some h
      obtain ⟨g26, h⟩ := oif_some h
      obtain ⟨r28, T27, eT27, h⟩ := obind2_some h
      have p1 : GL T T27 := GL.tr p0 (gl_sp (s_X8_weighted eT27))
      obtain ⟨g29, h⟩ := oif_some h
      obtain ⟨g30, h⟩ := oif_some h
      obtain ⟨T31, eT31, h⟩ := elet_some h
      have p2 : GL T T31 := GL.tr p1 (by rw [eT31]; exact gl_sp sp_uJ)
      obtain ⟨v32, ev32, h⟩ := elet_some h
      exact GL.tr p2 (ih _ _ _ _ _ h)
set_option maxHeartbeats 4000000 in
set_option maxRecDepth 100000 in
theorem s_X8_focus_b21 {T1 : AT} : ∀ (T : AT) (l0 : Nat) (l1 : Nat) (l2 : Int32), g_X8_focus_b21 T l0 l1 l2 = some T1 → GL T T1 := by
  intro T l0 l1 l2 h
  have p0 := GL.rf T
  unfold g_X8_focus_b21 at h
  exact GL.tr p0 (s_X8_focus_b23 _ _ _ _ _ _ h)
set_option maxHeartbeats 4000000 in
set_option maxRecDepth 100000 in
theorem s_X8_focus {T : AT} {o : Nat} {a0 : Nat} {a1 : Int32} {T1 : AT} (h : g_X8_focus T o a0 a1 = some T1) : GL T T1 := by
  have p0 := GL.rf T
  unfold g_X8_focus at h
  obtain ⟨g2, h⟩ := oif_some h
  obtain ⟨n3, en3, h⟩ := obind_some h
  obtain ⟨g4, h⟩ := oif_some h
  obtain ⟨T5, eT5, h⟩ := obind_some h
  have p1 : GL T T5 := GL.tr p0 (gl_sp (s_X10_narrow eT5))
  obtain ⟨g7, h⟩ := oif_some h
  obtain ⟨n8, en8, h⟩ := obind_some h
  obtain ⟨g9, h⟩ := oif_some h
  obtain ⟨n10, en10, h⟩ := obind_some h
  obtain ⟨g11, h⟩ := oif_some h
  obtain ⟨v12, -, h⟩ := elet_some h
  obtain ⟨g13, h⟩ := oif_some h
  obtain ⟨T14, eT14, h⟩ := obind_some h
  have p2 : GL T T14 := GL.tr p1 (s_X10_widenTo eT14)
  exact GL.tr p2 (s_X8_focus_b21 _ _ _ _ h)
set_option maxHeartbeats 4000000 in
set_option maxRecDepth 100000 in
theorem a_X8_focus_b74 {p : Program} {l : Launch} {e : Env} {s : State} {m : MethodId} {args : Array Value} {below : List Frame} {meth : Method} {c : Code} {Q : State → Prop} {D : va_G} {A : Nat → Prop} {cI cJ cZ cMic cSrc cSt cAI cAJ : ClassId} {ad0 : Nat → Nat} {T0 : AT} {T1 : AT} (E : cE p c cX8_focus s m args (Cond.code yX8_focus cX8_focus 4 none :: wsA) D RX8 (CT cI cJ cZ cMic cSrc cSt cAI cAJ)) (hA : ∀ q : Nat, s.heap.size ≤ q → A q) (hX : xT A s) (hN : nX s) (hml : c.maxLocals = 4) (hst : l.stackTraces = false) (kr74 : ∀ (ad : Nat → Nat) (H : Heap) (locs : List Loc) (ls : Array Slot), (∀ n, n < T0.1 → ad n = ad0 n) → gC cI cJ cZ cMic cSrc cSt cAI cAJ D ad A s.heap H locs T1 → W p l e { frames := 3, cells := T1.1 - T0.1, slots := sg T1 - sg T0, locals := 49 } s m args below meth c H locs (T1.1 - T0.1) (sg T1 - sg T0) Q (F0 m 74 ls [])) : ∀ (T : AT) (ad : Nat → Nat) (H : Heap) (locs : List Loc) (ls : Array Slot), g_X8_focus_b74 T = some T1 → GL T0 T → RC T → (∀ n, n < T0.1 → ad n = ad0 n) → gC cI cJ cZ cMic cSrc cSt cAI cAJ D ad A s.heap H locs T → lv_has ls 4 [] → W p l e { frames := 3, cells := T1.1 - T0.1, slots := sg T1 - sg T0, locals := 49 } s m args below meth c H locs (T.1 - T0.1) (sg T - sg T0) Q (F0 m 74 ls []) := by
  have hx := E.1
  have hb := E.2.1
  have hts := E.2.2.1
  have hown := E.2.2.2.1
  have hK := E.2.2.2.2
  intro T ad H locs ls h hgl hrc had G hl
  have hT1 := s_X8_focus_b74 _ h
  have hcs := cs_ok hgl hT1
  have cp0 := cpr0 hrc
  unfold g_X8_focus_b74 at h
  rw [osome1 h] at G
  refine w_cast (c2 := T1.1 - T0.1) (s2 := sg T1 - sg T0) (by rw [← osome1 h, cp0.1] <;> rfl) (by rw [← osome1 h, sg_cpr cp0] <;> rfl) ?_
  exact kr74 ad _ _ _ had G
set_option maxHeartbeats 4000000 in
set_option maxRecDepth 100000 in
theorem a_X8_focus_b23 {p : Program} {l : Launch} {e : Env} {s : State} {m : MethodId} {args : Array Value} {below : List Frame} {meth : Method} {c : Code} {Q : State → Prop} {D : va_G} {A : Nat → Prop} {cI cJ cZ cMic cSrc cSt cAI cAJ : ClassId} {ad0 : Nat → Nat} {T0 : AT} {T1 : AT} (E : cE p c cX8_focus s m args (Cond.code yX8_focus cX8_focus 4 none :: wsA) D RX8 (CT cI cJ cZ cMic cSrc cSt cAI cAJ)) (hA : ∀ q : Nat, s.heap.size ≤ q → A q) (hX : xT A s) (hN : nX s) (hml : c.maxLocals = 4) (hst : l.stackTraces = false) (kr74 : ∀ (ad : Nat → Nat) (H : Heap) (locs : List Loc) (ls : Array Slot), (∀ n, n < T0.1 → ad n = ad0 n) → gC cI cJ cZ cMic cSrc cSt cAI cAJ D ad A s.heap H locs T1 → W p l e { frames := 3, cells := T1.1 - T0.1, slots := sg T1 - sg T0, locals := 49 } s m args below meth c H locs (T1.1 - T0.1) (sg T1 - sg T0) Q (F0 m 74 ls [])) : ∀ n : Nat, ∀ (T : AT) (ad : Nat → Nat) (H : Heap) (locs : List Loc) (ls : Array Slot) (l0 : Nat) (l1 : Nat) (l2 : Int32) (l3 : Int32), g_X8_focus_b23 n T l0 l1 l2 l3 = some T1 → GL T0 T → RC T → (∀ n, n < T0.1 → ad n = ad0 n) → l0 < T.1 → l1 < T.1 → gC cI cJ cZ cMic cSrc cSt cAI cAJ D ad A s.heap H locs T → lv_has ls 4 [(0, .ref (ad l0)), (1, .ref (ad l1)), (2, .int l2), (3, .int l3)] → W p l e { frames := 3, cells := T1.1 - T0.1, slots := sg T1 - sg T0, locals := 49 } s m args below meth c H locs (T.1 - T0.1) (sg T - sg T0) Q (F0 m 23 ls []) := by
  have hx := E.1
  have hb := E.2.1
  have hts := E.2.2.1
  have hown := E.2.2.2.1
  have hK := E.2.2.2.2
  intro n
  induction n with
  | zero =>
    intro T ad H locs ls l0 l1 l2 l3 h
    have h : (none : Option (AT)) = some T1 := h
    cases h
  | succ n ih =>
    intro T ad H locs ls l0 l1 l2 l3 h hgl hrc had h_l0 h_l1 G hl
    have hT1 := s_X8_focus_b23 _ _ _ _ _ _ h
    have hcs := cs_ok hgl hT1
    have cp0 := cpr0 hrc
    unfold g_X8_focus_b23 at h
    refine lv_iload_n hx hb dX8_focus_23 rfl (lv_at hl 3 rfl) ?_
    refine lv_aload_n hx hb dX8_focus_24 rfl (lv_at hl 0 rfl) ?_
    obtain ⟨g2, h⟩ := oif_some h
    obtain ⟨n3, en3, h⟩ := obind_some h
    have h_n3 : n3 < T.1 := by rw [← cp0.1]; exact cp0.2.2 _ _ _ en3
    refine c_get E G l0 10 (v := .ref (ad n3)) (oO_k g2).1 (cc_o8 (oO_k g2).2) rfl (fun w h => .tail _ (iA_16 h)) (by decide) (.tail _ qA_73) rfl (by rw [en3]; rfl) dX8_focus_25 ?_
    clear en3
    obtain ⟨g4, h⟩ := oif_some h
    refine c_get E G n3 2 (oO_k g4).1 (cc_o10 (oO_k g4).2) rfl (fun w h => .tail _ (iA_12 h)) (by decide) (.tail _ qA_74) rfl rfl dX8_focus_28 ?_
    refine lv_topi (fun v5 ev5 => ?_)
    have h := elet_at ev5 h
    clear ev5
    refine lv_icmp_ge (tgt := 66) hx hb dX8_focus_31 (by decide) (fun c6 => ?_) (fun c6 => ?_)
    · have h := oif_pos c6 h
      refine lv_aload_n hx hb dX8_focus_66 rfl (lv_at hl 0 rfl) ?_
      obtain ⟨g7, h⟩ := oif_some h
      obtain ⟨n8, en8, h⟩ := obind_some h
      have h_n8 : n8 < T.1 := by rw [← cp0.1]; exact cp0.2.2 _ _ _ en8
      refine c_get E G l0 11 (v := .ref (ad n8)) (oO_k g7).1 (cc_o8 (oO_k g7).2) rfl (fun w h => .tail _ (iA_16 h)) (by decide) (.tail _ qA_52) rfl (by rw [en8]; rfl) dX8_focus_67 ?_
      clear en8
      refine lv_iconst (v := 0) hx hb dX8_focus_70 (by decide) ?_
      obtain ⟨g9, h⟩ := oif_some h
      obtain ⟨T10, eT10, h⟩ := obind_some h
      have hg2 := s_X10_settle eT10
      have hrc2 := hg2.2.2 cp0.2.2
      have hT2 := s_X8_focus_b74 _ h
      refine q_avv (As := [.int 0]) (rest := []) E G hA hX hN hml (a_X10_settle l hst D cI cJ cZ cMic cSrc cSt cAI cAJ ad T n8 (0 : Int32) eT10 cp0.2.2 (by rw [cp0.1]; exact h_n8)) (cwV 1 hts (gaV qA_90 qA_91 qA_92 qA_6 qA_93) rfl rfl rfl (by decide +kernel) ⟨Nat.le_of_ble_eq_true rfl, Nat.le_of_ble_eq_true rfl⟩) (oO_k g9).1 (cc_o10 (oO_k g9).2) rfl rfl hl.1 rfl (lv_room (Nat.le_of_ble_eq_true rfl)) dX8_focus_71 (cs_av hgl cp0 hg2 hT2) (fun ad2 H locs hga G => ?_)
      refine w_cast (c2 := T10.1 - T0.1) (s2 := sg T10 - sg T0) (cs_f1 hgl cp0 hg2) (cs_f2 hgl cp0 hg2) ?_
      have hl := lv_sub hl [] rfl
      exact a_X8_focus_b74 E hA hX hN hml hst kr74 _ _ _ _ _ h (GL.tr (gl_cpr hgl cp0) hg2) hrc2 (fun n hn => (hga n (by rw [cp0.1]; exact Nat.lt_of_lt_of_le hn hgl.1)).trans (had n hn)) G hl
    · have h := oif_neg c6 h
      refine lv_aload_n hx hb dX8_focus_34 rfl (lv_at hl 0 rfl) ?_
      obtain ⟨g12, h⟩ := oif_some h
      obtain ⟨n13, en13, h⟩ := obind_some h
      have h_n13 : n13 < T.1 := by rw [← cp0.1]; exact cp0.2.2 _ _ _ en13
      refine c_get E G l0 11 (v := .ref (ad n13)) (oO_k g12).1 (cc_o8 (oO_k g12).2) rfl (fun w h => .tail _ (iA_16 h)) (by decide) (.tail _ qA_52) rfl (by rw [en13]; rfl) dX8_focus_35 ?_
      clear en13
      obtain ⟨g14, h⟩ := oif_some h
      obtain ⟨n15, en15, h⟩ := obind_some h
      have h_n15 : n15 < T.1 := by rw [← cp0.1]; exact cp0.2.2 _ _ _ en15
      refine c_get E G n13 1 (v := .ref (ad n15)) (oO_k g14).1 (cc_o10 (oO_k g14).2) rfl (fun w h => .tail _ (iA_12 h)) (by decide) (.tail _ qA_75) rfl (by rw [en15]; rfl) dX8_focus_38 ?_
      clear en15
      refine lv_iload_n hx hb dX8_focus_41 rfl (lv_at hl 3 rfl) ?_
      obtain ⟨g16, h⟩ := oif_some h
      obtain ⟨g17, h⟩ := oif_some h
      obtain ⟨n18, en18, h⟩ := obind_some h
      have h_n18 : n18 < T.1 := by rw [← cp0.1]; exact cp0.2.2 _ _ _ en18
      refine c_alda E G n15 7 (k := l3.toNatClampNeg) (v := .ref (ad n18)) (aA_k g16).1 (cc_a107 (aA_k g16).2.1) rfl (inb_k g17).1 (inb_k g17).2 (aA_k g16).2.2 (by show va_rf ((T.2.2.2.2 n15 l3.toNatClampNeg).map ad) = _; rw [en18]; rfl) dX8_focus_42 ?_
      clear en18
      refine lv_iconst (v := 0) hx hb dX8_focus_43 (by decide) ?_
      refine lv_aload_n hx hb dX8_focus_44 rfl (lv_at hl 0 rfl) ?_
      refine lv_aload_n hx hb dX8_focus_45 rfl (lv_at hl 0 rfl) ?_
      obtain ⟨g19, h⟩ := oif_some h
      obtain ⟨n20, en20, h⟩ := obind_some h
      have h_n20 : n20 < T.1 := by rw [← cp0.1]; exact cp0.2.2 _ _ _ en20
      refine c_get E G l0 10 (v := .ref (ad n20)) (oO_k g19).1 (cc_o8 (oO_k g19).2) rfl (fun w h => .tail _ (iA_16 h)) (by decide) (.tail _ qA_73) rfl (by rw [en20]; rfl) dX8_focus_46 ?_
      clear en20
      obtain ⟨g21, h⟩ := oif_some h
      obtain ⟨n22, en22, h⟩ := obind_some h
      have h_n22 : n22 < T.1 := by rw [← cp0.1]; exact cp0.2.2 _ _ _ en22
      refine c_get E G n20 1 (v := .ref (ad n22)) (oO_k g21).1 (cc_o10 (oO_k g21).2) rfl (fun w h => .tail _ (iA_12 h)) (by decide) (.tail _ qA_75) rfl (by rw [en22]; rfl) dX8_focus_49 ?_
      clear en22
      refine lv_iload_n hx hb dX8_focus_52 rfl (lv_at hl 3 rfl) ?_
      obtain ⟨g23, h⟩ := oif_some h
      obtain ⟨g24, h⟩ := oif_some h
      obtain ⟨n25, en25, h⟩ := obind_some h
      have h_n25 : n25 < T.1 := by rw [← cp0.1]; exact cp0.2.2 _ _ _ en25
      refine c_alda E G n22 7 (k := l3.toNatClampNeg) (v := .ref (ad n25)) (aA_k g23).1 (cc_a107 (aA_k g23).2.1) rfl (inb_k g24).1 (inb_k g24).2 (aA_k g23).2.2 (by show va_rf ((T.2.2.2.2 n22 l3.toNatClampNeg).map ad) = _; rw [en25]; rfl) dX8_focus_53 ?_
      clear en25
      refine lv_aload_n hx hb dX8_focus_54 rfl (lv_at hl 1 rfl) ?_
      refine lv_iload_n hx hb dX8_focus_55 rfl (lv_at hl 2 rfl) ?_
      obtain ⟨g26, h⟩ := oif_some h
      obtain ⟨r29, T27, eT27, h⟩ := obind2_some h
      refine q_cvl (As := [.ref (ad n25), .ref (ad l1), .int l2]) (rest := [.int 0, .ref (ad n18)]) E G hA hX hN hml (u_X8_weighted l hst D cI cJ cZ cMic cSrc cSt cAI cAJ ad T l0 n25 l1 l2 eT27) (cwV 3 hts (gaV qA_82 qA_83 qA_84 qA_47 qA_85) rfl rfl rfl (by decide +kernel) ⟨Nat.le_of_ble_eq_true rfl, Nat.le_of_ble_eq_true rfl⟩) (oO_k g26).1 (cc_o8 (oO_k g26).2) rfl rfl hl.1 rfl (lv_room (Nat.le_of_ble_eq_true rfl)) dX8_focus_56 hcs (fun q30 T28 H locs hq G => ?_)
      obtain ⟨hq1, hq2⟩ := hq
      rw [hq2] at G
      refine lv_tol hq1 ?_
      clear hq1 hq2
      have cp1 := cpr_sp cp0 (s_X8_weighted eT27)
      obtain ⟨g31, h⟩ := oif_some h
      obtain ⟨g32, h⟩ := oif_some h
      refine c_last E G n18 1 (k := (0 : Int32).toNatClampNeg) (v := r29) (aA_k g31).1 (cc_a101 (aA_k g31).2.1) rfl (inb_k g32).1 (inb_k g32).2 (aA_k g31).2.2 dX8_focus_59 (fun H locs G => ?_)
      have G := gC_up_j (f := vp_updL (T27.2.2.2.1 n18) (0 : Int32).toNatClampNeg r29) (ccv_101 (aA_k g31).2.1) G
      obtain ⟨T33, eT33, h⟩ := elet_some h
      have G : gC cI cJ cZ cMic cSrc cSt cAI cAJ D ad A s.heap H locs T33 := by rw [eT33]; exact G
      have cp2 := show CPR T T33 from by rw [eT33]; exact cpr_sp cp1 sp_uJ
      clear eT33
      obtain ⟨v34, ev34, h⟩ := elet_some h
      refine lv_iinc (v := v34) (lv' := [(3, .int v34), (0, .ref (ad l0)), (1, .ref (ad l1)), (2, .int l2)]) hx hb dX8_focus_60 hl (k := 3) rfl ev34.symm (by decide) rfl (fun ls hl => ?_)
      refine lv_goto (tgt := 23) hx hb dX8_focus_63 (by decide) ?_
      have hl := lv_sub hl [1, 2, 3, 0] rfl
      refine w_cast (c2 := T33.1 - T0.1) (s2 := sg T33 - sg T0) (by rw [cp2.1] <;> rfl) (by rw [sg_cpr cp2] <;> rfl) ?_
      exact ih _ _ _ _ _ _ _ _ _ h (gl_cpr hgl cp2) cp2.2.2 had (by rw [cp2.1]; exact h_l0) (by rw [cp2.1]; exact h_l1) G hl
set_option maxHeartbeats 4000000 in
set_option maxRecDepth 100000 in
theorem a_X8_focus_b21 {p : Program} {l : Launch} {e : Env} {s : State} {m : MethodId} {args : Array Value} {below : List Frame} {meth : Method} {c : Code} {Q : State → Prop} {D : va_G} {A : Nat → Prop} {cI cJ cZ cMic cSrc cSt cAI cAJ : ClassId} {ad0 : Nat → Nat} {T0 : AT} {T1 : AT} (E : cE p c cX8_focus s m args (Cond.code yX8_focus cX8_focus 4 none :: wsA) D RX8 (CT cI cJ cZ cMic cSrc cSt cAI cAJ)) (hA : ∀ q : Nat, s.heap.size ≤ q → A q) (hX : xT A s) (hN : nX s) (hml : c.maxLocals = 4) (hst : l.stackTraces = false) (kr74 : ∀ (ad : Nat → Nat) (H : Heap) (locs : List Loc) (ls : Array Slot), (∀ n, n < T0.1 → ad n = ad0 n) → gC cI cJ cZ cMic cSrc cSt cAI cAJ D ad A s.heap H locs T1 → W p l e { frames := 3, cells := T1.1 - T0.1, slots := sg T1 - sg T0, locals := 49 } s m args below meth c H locs (T1.1 - T0.1) (sg T1 - sg T0) Q (F0 m 74 ls [])) : ∀ (T : AT) (ad : Nat → Nat) (H : Heap) (locs : List Loc) (ls : Array Slot) (l0 : Nat) (l1 : Nat) (l2 : Int32), g_X8_focus_b21 T l0 l1 l2 = some T1 → GL T0 T → RC T → (∀ n, n < T0.1 → ad n = ad0 n) → l0 < T.1 → l1 < T.1 → gC cI cJ cZ cMic cSrc cSt cAI cAJ D ad A s.heap H locs T → lv_has ls 4 [(0, .ref (ad l0)), (1, .ref (ad l1)), (2, .int l2)] → W p l e { frames := 3, cells := T1.1 - T0.1, slots := sg T1 - sg T0, locals := 49 } s m args below meth c H locs (T.1 - T0.1) (sg T - sg T0) Q (F0 m 21 ls []) := by
  have hx := E.1
  have hb := E.2.1
  have hts := E.2.2.1
  have hown := E.2.2.2.1
  have hK := E.2.2.2.2
  intro T ad H locs ls l0 l1 l2 h hgl hrc had h_l0 h_l1 G hl
  have hT1 := s_X8_focus_b21 _ _ _ _ h
  have hcs := cs_ok hgl hT1
  have cp0 := cpr0 hrc
  unfold g_X8_focus_b21 at h
  refine lv_iconst (v := 0) hx hb dX8_focus_21 (by decide) ?_
  refine lv_istore_n (lv' := [(3, .int 0), (0, .ref (ad l0)), (1, .ref (ad l1)), (2, .int l2)]) hx hb dX8_focus_22 rfl hl (by decide) rfl (fun ls hl => ?_)
  have hl := lv_sub hl [1, 2, 3, 0] rfl
  refine w_cast (c2 := T.1 - T0.1) (s2 := sg T - sg T0) (by rw [cp0.1] <;> rfl) (by rw [sg_cpr cp0] <;> rfl) ?_
  exact a_X8_focus_b23 E hA hX hN hml hst kr74 _ _ _ _ _ _ _ _ _ _ h (gl_cpr hgl cp0) cp0.2.2 had (by rw [cp0.1]; exact h_l0) (by rw [cp0.1]; exact h_l1) G hl
set_option maxHeartbeats 4000000 in
set_option maxRecDepth 100000 in
theorem a_X8_focus (l : Launch) (hst : l.stackTraces = false) (D : va_G) (cI cJ cZ cMic cSrc cSt cAI cAJ : ClassId) (ad : Nat → Nat) (T : AT) (o : Nat) (a0 : Nat) (a1 : Int32) {T1 : AT} (h : g_X8_focus T o a0 a1 = some T1) (hrc : RC T) (h_o : o < T.1) (h_a0 : a0 < T.1) : kAv l yX8_focus (Cond.code yX8_focus cX8_focus 4 none :: wsA) 3 49 cI cJ cZ cMic cSrc cSt cAI cAJ D ad T [.ref (ad o), .ref (ad a0), .int a1] T1 := by
  intro sz
  refine pro_in (cc := cX8_focus) (maxL := 4) (ret := none) (by exact pn_RX8) rfl (by exact Nat.le_of_ble_eq_true rfl) (fun p e s m below meth c ls hx hb hr hts hown hlocks hml hv hl => ?_)
  obtain ⟨hsz, hP, hK, hD0, hX, hN⟩ := hv
  subst hsz
  have hD := hD0.self (sz := s.heap.size)
  generalize hAe : va_A (cW ad T.1 (cc cI cJ cZ cMic cSrc cSt cAI cAJ ad T)) s.heap.size = A at hD hX ⊢
  have hA : ∀ q : Nat, s.heap.size ≤ q → A q := fun q h => by rw [← hAe]; exact Or.inr h
  have G : gC cI cJ cZ cMic cSrc cSt cAI cAJ D ad A s.heap s.heap [] T := ⟨hP, hD, va_S.rf⟩
  have E : cE p c cX8_focus s m ([.ref (ad o), .ref (ad a0), .int a1] : List Value).toArray (Cond.code yX8_focus cX8_focus 4 none :: wsA) D RX8 (CT cI cJ cZ cMic cSrc cSt cAI cAJ) := ⟨hx, hb, hts, hown, hK⟩
  have hl : lv_has ls 4 [(0, .ref (ad o)), (1, .ref (ad a0)), (2, .int a1)] := hl
  have hgl := GL.rf T
  have had : ∀ n, n < T.1 → ad n = ad n := fun _ _ => rfl
  have hT1 := s_X8_focus h
  have hcs := cs_ok hgl hT1
  refine w_cast (Nat.sub_self T.1).symm (Nat.sub_self (sg T)).symm ?_
  have cp0 := cpr0 hrc
  unfold g_X8_focus at h
  refine lv_aload_n hx hb dX8_focus_0 rfl (lv_at hl 0 rfl) ?_
  obtain ⟨g2, h⟩ := oif_some h
  obtain ⟨n3, en3, h⟩ := obind_some h
  have h_n3 : n3 < T.1 := by rw [← cp0.1]; exact cp0.2.2 _ _ _ en3
  refine c_get E G o 11 (v := .ref (ad n3)) (oO_k g2).1 (cc_o8 (oO_k g2).2) rfl (fun w h => .tail _ (iA_16 h)) (by decide) (.tail _ qA_52) rfl (by rw [en3]; rfl) dX8_focus_1 ?_
  clear en3
  obtain ⟨g4, h⟩ := oif_some h
  obtain ⟨T5, eT5, h⟩ := obind_some h
  refine q_cvv (As := []) (rest := []) E G hA hX hN hml (u_X10_narrow l hst D cI cJ cZ cMic cSrc cSt cAI cAJ ad T n3 eT5) (cwV 0 hts (gaV qA_76 qA_25 qA_26 qA_6 qA_27) rfl rfl rfl (by decide +kernel) ⟨Nat.le_of_ble_eq_true rfl, Nat.le_of_ble_eq_true rfl⟩) (oO_k g4).1 (cc_o10 (oO_k g4).2) rfl rfl hl.1 rfl (lv_room (Nat.le_of_ble_eq_true rfl)) dX8_focus_4 hcs (fun T6 H locs hq G => ?_)
  rw [hq] at G
  clear hq
  have cp1 := cpr_sp cp0 (s_X10_narrow eT5)
  refine lv_aload_n hx hb dX8_focus_7 rfl (lv_at hl 0 rfl) ?_
  obtain ⟨g7, h⟩ := oif_some h
  obtain ⟨n8, en8, h⟩ := obind_some h
  have h_n8 : n8 < T.1 := by rw [← cp1.1]; exact cp1.2.2 _ _ _ en8
  refine c_get E G o 11 (v := .ref (ad n8)) (oO_k g7).1 (cc_o8 (oO_k g7).2) rfl (fun w h => .tail _ (iA_16 h)) (by decide) (.tail _ qA_52) rfl (by rw [en8]; rfl) dX8_focus_8 ?_
  clear en8
  refine lv_aload_n hx hb dX8_focus_11 rfl (lv_at hl 0 rfl) ?_
  obtain ⟨g9, h⟩ := oif_some h
  obtain ⟨n10, en10, h⟩ := obind_some h
  have h_n10 : n10 < T.1 := by rw [← cp1.1]; exact cp1.2.2 _ _ _ en10
  refine c_get E G o 10 (v := .ref (ad n10)) (oO_k g9).1 (cc_o8 (oO_k g9).2) rfl (fun w h => .tail _ (iA_16 h)) (by decide) (.tail _ qA_73) rfl (by rw [en10]; rfl) dX8_focus_12 ?_
  clear en10
  obtain ⟨g11, h⟩ := oif_some h
  refine c_get E G n10 2 (oO_k g11).1 (cc_o10 (oO_k g11).2) rfl (fun w h => .tail _ (iA_12 h)) (by decide) (.tail _ qA_74) rfl rfl dX8_focus_15 ?_
  refine lv_topi (fun v12 ev12 => ?_)
  have h := elet_at ev12 h
  clear ev12
  obtain ⟨g13, h⟩ := oif_some h
  obtain ⟨T14, eT14, h⟩ := obind_some h
  have hg2 := s_X10_widenTo eT14
  have hrc2 := hg2.2.2 cp1.2.2
  have hT2 := s_X8_focus_b21 _ _ _ _ h
  refine q_avv (As := [.int v12]) (rest := []) E G hA hX hN hml (a_X10_widenTo l hst D cI cJ cZ cMic cSrc cSt cAI cAJ ad T5 n8 v12 eT14 cp1.2.2 (by rw [cp1.1]; exact h_n8)) (cwV 1 hts (gaV qA_77 qA_78 qA_79 qA_6 qA_80) rfl rfl rfl (by decide +kernel) ⟨Nat.le_of_ble_eq_true rfl, Nat.le_of_ble_eq_true rfl⟩) (oO_k g13).1 (cc_o10 (oO_k g13).2) rfl rfl hl.1 rfl (lv_room (Nat.le_of_ble_eq_true rfl)) dX8_focus_18 (cs_av hgl cp1 hg2 hT2) (fun ad2 H locs hga G => ?_)
  refine w_cast (c2 := T14.1 - T.1) (s2 := sg T14 - sg T) (cs_f1 hgl cp1 hg2) (cs_f2 hgl cp1 hg2) ?_
  have hl := lv_sub hl [0, 1, 2] rfl
  rw [show ad o = ad2 o from (hga o (by rw [cp1.1]; exact h_o)).symm] at hl
  rw [show ad a0 = ad2 a0 from (hga a0 (by rw [cp1.1]; exact h_a0)).symm] at hl
  exact a_X8_focus_b21 E hA hX hN hml hst (fun ad H locs ls had G => W.vret hx hb hr (fun t ht hW => ⟨⟨(T1, ad), rfl, ⟨rfl, had⟩, ⟨by rw [ht]; exact G.1, va_K.moved hW.alike hK, G.2.1⟩⟩, G.2.2.F ht⟩) G.2.2.2.2 dX8_focus_74) _ _ _ _ _ _ _ _ h (GL.tr (gl_cpr hgl cp1) hg2) hrc2 (fun n hn => (hga n (by rw [cp1.1]; exact Nat.lt_of_lt_of_le hn hgl.1)).trans (had n hn)) (Nat.lt_of_lt_of_le (by rw [cp1.1]; exact h_o) hg2.1) (Nat.lt_of_lt_of_le (by rw [cp1.1]; exact h_a0) hg2.1) G hl
end
section
/-! 11kc.cd2.lean.txt -/
def g_X10_addProduct_b138  (T : AT)  : Option (AT) := some T
def g_X10_addProduct_b133  (T : AT) (l0 : Nat) (l1 : Int32) : Option (AT) := oif (oO T l0 10 = true) <| obind (g_X10_settle T l0 l1) fun T3 => g_X10_addProduct_b138 T3
def g_X10_addProduct_b113 (k17 : AT → Nat → Int32 → Nat → Int32 → Nat → Int32 → Int32 → Option (AT)) (T : AT) (l0 : Nat) (l1 : Int32) (l2 : Nat) (l3 : Int32) (l4 : Nat) (l5 : Int32) (l6 : Int32) (l7 : Int64) : Option (AT) := oif (oO T l0 10 = true) <| obind (T.2.2.2.2 l0 1) fun n3 => oif (aA T n3 107 = true) <| oif (inb l6 (T.2.1 n3).2 = true) <| obind (T.2.2.2.2 n3 l6.toNatClampNeg) fun n6 => oif (aA T n6 101 = true) <| oif (inb l1 (T.2.1 n6).2 = true) <| elet (T.2.2.2.1 n6 l1.toNatClampNeg) fun v9 => elet (v9 + l7) fun v10 => oif (aA T n6 101 = true) <| oif (inb l1 (T.2.1 n6).2 = true) <| elet (uJ T n6 l1.toNatClampNeg v10) fun T13 => elet (l6 + Int32.ofInt (1)) fun v14 => k17 T13 l0 l1 l2 l3 l4 l5 v14
def g_X10_addProduct_b62 (k17 : AT → Nat → Int32 → Nat → Int32 → Nat → Int32 → Int32 → Option (AT)) : Nat → AT → Nat → Int32 → Nat → Int32 → Nat → Int32 → Int32 → Int64 → Int32 → Option (AT)
  | 0, _, _, _, _, _, _, _, _, _, _ => none
  | n + 1, T, l0, l1, l2, l3, l4, l5, l6, l7, l9 => if l6 < l9 then (g_X10_addProduct_b113 k17 T l0 l1 l2 l3 l4 l5 l6 l7) else (oif (oO T l2 10 = true) <| elet (T.2.2.1 l2 2) fun v4 => if v4 ≤ l9 then (g_X10_addProduct_b113 k17 T l0 l1 l2 l3 l4 l5 l6 l7) else (oif (oO T l2 10 = true) <| obind (T.2.2.2.2 l2 1) fun n7 => oif (aA T n7 107 = true) <| oif (inb l9 (T.2.1 n7).2 = true) <| obind (T.2.2.2.2 n7 l9.toNatClampNeg) fun n10 => oif (aA T n10 101 = true) <| oif (inb l3 (T.2.1 n10).2 = true) <| elet (T.2.2.2.1 n10 l3.toNatClampNeg) fun v13 => oif (oO T l4 10 = true) <| obind (T.2.2.2.2 l4 1) fun n15 => elet (l6 - l9) fun v16 => oif (aA T n15 107 = true) <| oif (inb v16 (T.2.1 n15).2 = true) <| obind (T.2.2.2.2 n15 v16.toNatClampNeg) fun n19 => oif (aA T n19 101 = true) <| oif (inb l5 (T.2.1 n19).2 = true) <| elet (T.2.2.2.1 n19 l5.toNatClampNeg) fun v22 => elet (v13 * v22) fun v23 => elet (l7 + v23) fun v24 => elet (l9 + Int32.ofInt (1)) fun v25 => g_X10_addProduct_b62 k17 n T l0 l1 l2 l3 l4 l5 l6 v24 v25))
def g_X10_addProduct_b17  : Nat → AT → Nat → Int32 → Nat → Int32 → Nat → Int32 → Int32 → Option (AT)
  | 0, _, _, _, _, _, _, _, _ => none
  | n + 1, T, l0, l1, l2, l3, l4, l5, l6 => oif (oO T l0 10 = true) <| elet (T.2.2.1 l0 2) fun v3 => if v3 ≤ l6 then (g_X10_addProduct_b133 T l0 l1) else (oif (oO T l2 10 = true) <| elet (T.2.2.1 l2 2) fun v6 => oif (oO T l4 10 = true) <| elet (T.2.2.1 l4 2) fun v8 => elet (v6 + v8) fun v9 => elet (v9 - 1) fun v10 => if v10 ≤ l6 then (g_X10_addProduct_b133 T l0 l1) else (oif (oO T l4 10 = true) <| elet (T.2.2.1 l4 2) fun v13 => elet (l6 - v13) fun v14 => elet (v14 + 1) fun v15 => elet (if v15 < 0 then 0 else v15) fun v16 => g_X10_addProduct_b62 (g_X10_addProduct_b17 n) 16384 T l0 l1 l2 l3 l4 l5 l6 (0 : Int64) v16))
def g_X10_addProduct_b14  (T : AT) (l0 : Nat) (l1 : Int32) (l2 : Nat) (l3 : Int32) (l4 : Nat) (l5 : Int32) : Option (AT) := g_X10_addProduct_b17 16384 T l0 l1 l2 l3 l4 l5 0
def g_X10_addProduct (T : AT) (o : Nat) (a0 : Int32) (a1 : Nat) (a2 : Int32) (a3 : Nat) (a4 : Int32) : Option (AT) := oif (oO T a1 10 = true) <| elet (T.2.2.1 a1 2) fun v3 => oif (oO T a3 10 = true) <| elet (T.2.2.1 a3 2) fun v5 => elet (v3 + v5) fun v6 => oif (oO T o 10 = true) <| obind (g_X10_widenTo T o v6) fun T8 => g_X10_addProduct_b14 T8 o a0 a1 a2 a3 a4
set_option maxHeartbeats 4000000 in
set_option maxRecDepth 100000 in
theorem s_X10_addProduct_b138 {T1 : AT} : ∀ (T : AT), g_X10_addProduct_b138 T = some T1 → GL T T1 := by
  intro T h
  have p0 := GL.rf T
  unfold g_X10_addProduct_b138 at h
  rw [← osome1 h]
  exact p0
set_option maxHeartbeats 4000000 in
set_option maxRecDepth 100000 in
theorem s_X10_addProduct_b133 {T1 : AT} : ∀ (T : AT) (l0 : Nat) (l1 : Int32), g_X10_addProduct_b133 T l0 l1 = some T1 → GL T T1 := by
  intro T l0 l1 h
  have p0 := GL.rf T
  unfold g_X10_addProduct_b133 at h
  obtain ⟨g2, h⟩ := oif_some h
  obtain ⟨T3, eT3, h⟩ := obind_some h
  have p1 : GL T T3 := GL.tr p0 (s_X10_settle eT3)
  exact GL.tr p1 (s_X10_addProduct_b138 _ h)
set_option maxHeartbeats 4000000 in
set_option maxRecDepth 100000 in
theorem s_X10_addProduct_b113 {T1 : AT} {k17 : AT → Nat → Int32 → Nat → Int32 → Nat → Int32 → Int32 → Option (AT)} (hk17 : ∀ (T : AT) (l0 : Nat) (l1 : Int32) (l2 : Nat) (l3 : Int32) (l4 : Nat) (l5 : Int32) (l6 : Int32), k17 T l0 l1 l2 l3 l4 l5 l6 = some T1 → GL T T1) : ∀ (T : AT) (l0 : Nat) (l1 : Int32) (l2 : Nat) (l3 : Int32) (l4 : Nat) (l5 : Int32) (l6 : Int32) (l7 : Int64), g_X10_addProduct_b113 k17 T l0 l1 l2 l3 l4 l5 l6 l7 = some T1 → GL T T1 := by
  intro T l0 l1 l2 l3 l4 l5 l6 l7 h
  have p0 := GL.rf T
  unfold g_X10_addProduct_b113 at h
  obtain ⟨g2, h⟩ := oif_some h
  obtain ⟨n3, en3, h⟩ := obind_some h
  obtain ⟨g4, h⟩ := oif_some h
  obtain ⟨g5, h⟩ := oif_some h
  obtain ⟨n6, en6, h⟩ := obind_some h
  obtain ⟨g7, h⟩ := oif_some h
  obtain ⟨g8, h⟩ := oif_some h
  obtain ⟨v9, -, h⟩ := elet_some h
  obtain ⟨v10, -, h⟩ := elet_some h
  obtain ⟨g11, h⟩ := oif_some h
  obtain ⟨g12, h⟩ := oif_some h
  obtain ⟨T13, eT13, h⟩ := elet_some h
  have p1 : GL T T13 := GL.tr p0 (by rw [eT13]; exact gl_sp sp_uJ)
  obtain ⟨v14, ev14, h⟩ := elet_some h
  exact GL.tr p1 (hk17 _ _ _ _ _ _ _ _ h)
set_option maxHeartbeats 4000000 in
set_option maxRecDepth 100000 in
theorem s_X10_addProduct_b62 {T1 : AT} {k17 : AT → Nat → Int32 → Nat → Int32 → Nat → Int32 → Int32 → Option (AT)} (hk17 : ∀ (T : AT) (l0 : Nat) (l1 : Int32) (l2 : Nat) (l3 : Int32) (l4 : Nat) (l5 : Int32) (l6 : Int32), k17 T l0 l1 l2 l3 l4 l5 l6 = some T1 → GL T T1) : ∀ n : Nat, ∀ (T : AT) (l0 : Nat) (l1 : Int32) (l2 : Nat) (l3 : Int32) (l4 : Nat) (l5 : Int32) (l6 : Int32) (l7 : Int64) (l9 : Int32), g_X10_addProduct_b62 k17 n T l0 l1 l2 l3 l4 l5 l6 l7 l9 = some T1 → GL T T1 := by
  intro n
  induction n with
  | zero =>
    intro T l0 l1 l2 l3 l4 l5 l6 l7 l9 h
    have h : (none : Option (AT)) = some T1 := h
    cases h
  | succ n ih =>
    intro T l0 l1 l2 l3 l4 l5 l6 l7 l9 h
    have p0 := GL.rf T
    unfold g_X10_addProduct_b62 at h
    rcases oif_or h with ⟨c2, h⟩ | ⟨c2, h⟩
    · have h := h
      exact GL.tr p0 (s_X10_addProduct_b113 hk17 _ _ _ _ _ _ _ _ _ h)
    · have h := h
      obtain ⟨g3, h⟩ := oif_some h
      obtain ⟨v4, -, h⟩ := elet_some h
      rcases oif_or h with ⟨c5, h⟩ | ⟨c5, h⟩
      · have h := h
        exact GL.tr p0 (s_X10_addProduct_b113 hk17 _ _ _ _ _ _ _ _ _ h)
      · have h := h
        obtain ⟨g6, h⟩ := oif_some h
        obtain ⟨n7, en7, h⟩ := obind_some h
        obtain ⟨g8, h⟩ := oif_some h
        obtain ⟨g9, h⟩ := oif_some h
        obtain ⟨n10, en10, h⟩ := obind_some h
        obtain ⟨g11, h⟩ := oif_some h
        obtain ⟨g12, h⟩ := oif_some h
        obtain ⟨v13, -, h⟩ := elet_some h
        obtain ⟨g14, h⟩ := oif_some h
        obtain ⟨n15, en15, h⟩ := obind_some h
        obtain ⟨v16, -, h⟩ := elet_some h
        obtain ⟨g17, h⟩ := oif_some h
        obtain ⟨g18, h⟩ := oif_some h
        obtain ⟨n19, en19, h⟩ := obind_some h
        obtain ⟨g20, h⟩ := oif_some h
        obtain ⟨g21, h⟩ := oif_some h
        obtain ⟨v22, -, h⟩ := elet_some h
        obtain ⟨v23, -, h⟩ := elet_some h
        obtain ⟨v24, -, h⟩ := elet_some h
        obtain ⟨v25, ev25, h⟩ := elet_some h
        exact GL.tr p0 (ih _ _ _ _ _ _ _ _ _ _ h)
set_option maxHeartbeats 4000000 in
set_option maxRecDepth 100000 in
theorem s_X10_addProduct_b17 {T1 : AT} : ∀ n : Nat, ∀ (T : AT) (l0 : Nat) (l1 : Int32) (l2 : Nat) (l3 : Int32) (l4 : Nat) (l5 : Int32) (l6 : Int32), g_X10_addProduct_b17 n T l0 l1 l2 l3 l4 l5 l6 = some T1 → GL T T1 := by
  intro n
  induction n with
  | zero =>
    intro T l0 l1 l2 l3 l4 l5 l6 h
    have h : (none : Option (AT)) = some T1 := h
    cases h
  | succ n ih =>
    intro T l0 l1 l2 l3 l4 l5 l6 h
    have p0 := GL.rf T
    unfold g_X10_addProduct_b17 at h
    obtain ⟨g2, h⟩ := oif_some h
    obtain ⟨v3, -, h⟩ := elet_some h
    rcases oif_or h with ⟨c4, h⟩ | ⟨c4, h⟩
    · have h := h
      exact GL.tr p0 (s_X10_addProduct_b133 _ _ _ h)
    · have h := h
      obtain ⟨g5, h⟩ := oif_some h
      obtain ⟨v6, -, h⟩ := elet_some h
      obtain ⟨g7, h⟩ := oif_some h
      obtain ⟨v8, -, h⟩ := elet_some h
      obtain ⟨v9, -, h⟩ := elet_some h
      obtain ⟨v10, -, h⟩ := elet_some h
      rcases oif_or h with ⟨c11, h⟩ | ⟨c11, h⟩
      · have h := h
        exact GL.tr p0 (s_X10_addProduct_b133 _ _ _ h)
      · have h := h
        obtain ⟨g12, h⟩ := oif_some h
        obtain ⟨v13, -, h⟩ := elet_some h
        obtain ⟨v14, -, h⟩ := elet_some h
        obtain ⟨v15, -, h⟩ := elet_some h
        obtain ⟨v16, -, h⟩ := elet_some h
        exact GL.tr p0 (s_X10_addProduct_b62 ih _ _ _ _ _ _ _ _ _ _ _ h)
set_option maxHeartbeats 4000000 in
set_option maxRecDepth 100000 in
theorem s_X10_addProduct_b14 {T1 : AT} : ∀ (T : AT) (l0 : Nat) (l1 : Int32) (l2 : Nat) (l3 : Int32) (l4 : Nat) (l5 : Int32), g_X10_addProduct_b14 T l0 l1 l2 l3 l4 l5 = some T1 → GL T T1 := by
  intro T l0 l1 l2 l3 l4 l5 h
  have p0 := GL.rf T
  unfold g_X10_addProduct_b14 at h
  exact GL.tr p0 (s_X10_addProduct_b17 _ _ _ _ _ _ _ _ _ h)
set_option maxHeartbeats 4000000 in
set_option maxRecDepth 100000 in
theorem s_X10_addProduct {T : AT} {o : Nat} {a0 : Int32} {a1 : Nat} {a2 : Int32} {a3 : Nat} {a4 : Int32} {T1 : AT} (h : g_X10_addProduct T o a0 a1 a2 a3 a4 = some T1) : GL T T1 := by
  have p0 := GL.rf T
  unfold g_X10_addProduct at h
  obtain ⟨g2, h⟩ := oif_some h
  obtain ⟨v3, -, h⟩ := elet_some h
  obtain ⟨g4, h⟩ := oif_some h
  obtain ⟨v5, -, h⟩ := elet_some h
  obtain ⟨v6, -, h⟩ := elet_some h
  obtain ⟨g7, h⟩ := oif_some h
  obtain ⟨T8, eT8, h⟩ := obind_some h
  have p1 : GL T T8 := GL.tr p0 (s_X10_widenTo eT8)
  exact GL.tr p1 (s_X10_addProduct_b14 _ _ _ _ _ _ _ h)
set_option maxHeartbeats 4000000 in
set_option maxRecDepth 100000 in
theorem a_X10_addProduct_b138 {p : Program} {l : Launch} {e : Env} {s : State} {m : MethodId} {args : Array Value} {below : List Frame} {meth : Method} {c : Code} {Q : State → Prop} {D : va_G} {A : Nat → Prop} {cI cJ cZ cMic cSrc cSt cAI cAJ : ClassId} {ad0 : Nat → Nat} {T0 : AT} {T1 : AT} (E : cE p c cX10_addProduct s m args (Cond.code yX10_addProduct cX10_addProduct 10 none :: wsA) D RX10 (CT cI cJ cZ cMic cSrc cSt cAI cAJ)) (hA : ∀ q : Nat, s.heap.size ≤ q → A q) (hX : xT A s) (hN : nX s) (hml : c.maxLocals = 10) (hst : l.stackTraces = false) (kr138 : ∀ (ad : Nat → Nat) (H : Heap) (locs : List Loc) (ls : Array Slot), (∀ n, n < T0.1 → ad n = ad0 n) → gC cI cJ cZ cMic cSrc cSt cAI cAJ D ad A s.heap H locs T1 → W p l e { frames := 3, cells := T1.1 - T0.1, slots := sg T1 - sg T0, locals := 49 } s m args below meth c H locs (T1.1 - T0.1) (sg T1 - sg T0) Q (F0 m 138 ls [])) : ∀ (T : AT) (ad : Nat → Nat) (H : Heap) (locs : List Loc) (ls : Array Slot), g_X10_addProduct_b138 T = some T1 → GL T0 T → RC T → (∀ n, n < T0.1 → ad n = ad0 n) → gC cI cJ cZ cMic cSrc cSt cAI cAJ D ad A s.heap H locs T → lv_has ls 10 [] → W p l e { frames := 3, cells := T1.1 - T0.1, slots := sg T1 - sg T0, locals := 49 } s m args below meth c H locs (T.1 - T0.1) (sg T - sg T0) Q (F0 m 138 ls []) := by
  have hx := E.1
  have hb := E.2.1
  have hts := E.2.2.1
  have hown := E.2.2.2.1
  have hK := E.2.2.2.2
  intro T ad H locs ls h hgl hrc had G hl
  have hT1 := s_X10_addProduct_b138 _ h
  have hcs := cs_ok hgl hT1
  have cp0 := cpr0 hrc
  unfold g_X10_addProduct_b138 at h
  rw [osome1 h] at G
  refine w_cast (c2 := T1.1 - T0.1) (s2 := sg T1 - sg T0) (by rw [← osome1 h, cp0.1] <;> rfl) (by rw [← osome1 h, sg_cpr cp0] <;> rfl) ?_
  exact kr138 ad _ _ _ had G
set_option maxHeartbeats 4000000 in
set_option maxRecDepth 100000 in
theorem a_X10_addProduct_b133 {p : Program} {l : Launch} {e : Env} {s : State} {m : MethodId} {args : Array Value} {below : List Frame} {meth : Method} {c : Code} {Q : State → Prop} {D : va_G} {A : Nat → Prop} {cI cJ cZ cMic cSrc cSt cAI cAJ : ClassId} {ad0 : Nat → Nat} {T0 : AT} {T1 : AT} (E : cE p c cX10_addProduct s m args (Cond.code yX10_addProduct cX10_addProduct 10 none :: wsA) D RX10 (CT cI cJ cZ cMic cSrc cSt cAI cAJ)) (hA : ∀ q : Nat, s.heap.size ≤ q → A q) (hX : xT A s) (hN : nX s) (hml : c.maxLocals = 10) (hst : l.stackTraces = false) (kr138 : ∀ (ad : Nat → Nat) (H : Heap) (locs : List Loc) (ls : Array Slot), (∀ n, n < T0.1 → ad n = ad0 n) → gC cI cJ cZ cMic cSrc cSt cAI cAJ D ad A s.heap H locs T1 → W p l e { frames := 3, cells := T1.1 - T0.1, slots := sg T1 - sg T0, locals := 49 } s m args below meth c H locs (T1.1 - T0.1) (sg T1 - sg T0) Q (F0 m 138 ls [])) : ∀ (T : AT) (ad : Nat → Nat) (H : Heap) (locs : List Loc) (ls : Array Slot) (l0 : Nat) (l1 : Int32), g_X10_addProduct_b133 T l0 l1 = some T1 → GL T0 T → RC T → (∀ n, n < T0.1 → ad n = ad0 n) → l0 < T.1 → gC cI cJ cZ cMic cSrc cSt cAI cAJ D ad A s.heap H locs T → lv_has ls 10 [(0, .ref (ad l0)), (1, .int l1)] → W p l e { frames := 3, cells := T1.1 - T0.1, slots := sg T1 - sg T0, locals := 49 } s m args below meth c H locs (T.1 - T0.1) (sg T - sg T0) Q (F0 m 133 ls []) := by
  have hx := E.1
  have hb := E.2.1
  have hts := E.2.2.1
  have hown := E.2.2.2.1
  have hK := E.2.2.2.2
  intro T ad H locs ls l0 l1 h hgl hrc had h_l0 G hl
  have hT1 := s_X10_addProduct_b133 _ _ _ h
  have hcs := cs_ok hgl hT1
  have cp0 := cpr0 hrc
  unfold g_X10_addProduct_b133 at h
  refine lv_aload_n hx hb dX10_addProduct_133 rfl (lv_at hl 0 rfl) ?_
  refine lv_iload_n hx hb dX10_addProduct_134 rfl (lv_at hl 1 rfl) ?_
  obtain ⟨g2, h⟩ := oif_some h
  obtain ⟨T3, eT3, h⟩ := obind_some h
  have hg2 := s_X10_settle eT3
  have hrc2 := hg2.2.2 cp0.2.2
  have hT2 := s_X10_addProduct_b138 _ h
  refine q_avv (As := [.int l1]) (rest := []) E G hA hX hN hml (a_X10_settle l hst D cI cJ cZ cMic cSrc cSt cAI cAJ ad T l0 l1 eT3 cp0.2.2 (by rw [cp0.1]; exact h_l0)) (cwV 1 hts (gaV qA_103 qA_91 qA_92 qA_6 qA_93) rfl rfl rfl (by decide +kernel) ⟨Nat.le_of_ble_eq_true rfl, Nat.le_of_ble_eq_true rfl⟩) (oO_k g2).1 (cc_o10 (oO_k g2).2) rfl rfl hl.1 rfl (lv_room (Nat.le_of_ble_eq_true rfl)) dX10_addProduct_135 (cs_av hgl cp0 hg2 hT2) (fun ad2 H locs hga G => ?_)
  refine w_cast (c2 := T3.1 - T0.1) (s2 := sg T3 - sg T0) (cs_f1 hgl cp0 hg2) (cs_f2 hgl cp0 hg2) ?_
  have hl := lv_sub hl [] rfl
  exact a_X10_addProduct_b138 E hA hX hN hml hst kr138 _ _ _ _ _ h (GL.tr (gl_cpr hgl cp0) hg2) hrc2 (fun n hn => (hga n (by rw [cp0.1]; exact Nat.lt_of_lt_of_le hn hgl.1)).trans (had n hn)) G hl
set_option maxHeartbeats 4000000 in
set_option maxRecDepth 100000 in
theorem a_X10_addProduct_b113 {p : Program} {l : Launch} {e : Env} {s : State} {m : MethodId} {args : Array Value} {below : List Frame} {meth : Method} {c : Code} {Q : State → Prop} {D : va_G} {A : Nat → Prop} {cI cJ cZ cMic cSrc cSt cAI cAJ : ClassId} {ad0 : Nat → Nat} {T0 : AT} {T1 : AT} (E : cE p c cX10_addProduct s m args (Cond.code yX10_addProduct cX10_addProduct 10 none :: wsA) D RX10 (CT cI cJ cZ cMic cSrc cSt cAI cAJ)) (hA : ∀ q : Nat, s.heap.size ≤ q → A q) (hX : xT A s) (hN : nX s) (hml : c.maxLocals = 10) (hst : l.stackTraces = false) (kr138 : ∀ (ad : Nat → Nat) (H : Heap) (locs : List Loc) (ls : Array Slot), (∀ n, n < T0.1 → ad n = ad0 n) → gC cI cJ cZ cMic cSrc cSt cAI cAJ D ad A s.heap H locs T1 → W p l e { frames := 3, cells := T1.1 - T0.1, slots := sg T1 - sg T0, locals := 49 } s m args below meth c H locs (T1.1 - T0.1) (sg T1 - sg T0) Q (F0 m 138 ls [])) {k17 : AT → Nat → Int32 → Nat → Int32 → Nat → Int32 → Int32 → Option (AT)} (hs17 : ∀ (T : AT) (l0 : Nat) (l1 : Int32) (l2 : Nat) (l3 : Int32) (l4 : Nat) (l5 : Int32) (l6 : Int32), k17 T l0 l1 l2 l3 l4 l5 l6 = some T1 → GL T T1) (hk17 : ∀ (T : AT) (ad : Nat → Nat) (H : Heap) (locs : List Loc) (ls : Array Slot) (l0 : Nat) (l1 : Int32) (l2 : Nat) (l3 : Int32) (l4 : Nat) (l5 : Int32) (l6 : Int32), k17 T l0 l1 l2 l3 l4 l5 l6 = some T1 → GL T0 T → RC T → (∀ n, n < T0.1 → ad n = ad0 n) → l0 < T.1 → l2 < T.1 → l4 < T.1 → gC cI cJ cZ cMic cSrc cSt cAI cAJ D ad A s.heap H locs T → lv_has ls 10 [(0, .ref (ad l0)), (1, .int l1), (2, .ref (ad l2)), (3, .int l3), (4, .ref (ad l4)), (5, .int l5), (6, .int l6)] → W p l e { frames := 3, cells := T1.1 - T0.1, slots := sg T1 - sg T0, locals := 49 } s m args below meth c H locs (T.1 - T0.1) (sg T - sg T0) Q (F0 m 17 ls [])) : ∀ (T : AT) (ad : Nat → Nat) (H : Heap) (locs : List Loc) (ls : Array Slot) (l0 : Nat) (l1 : Int32) (l2 : Nat) (l3 : Int32) (l4 : Nat) (l5 : Int32) (l6 : Int32) (l7 : Int64), g_X10_addProduct_b113 k17 T l0 l1 l2 l3 l4 l5 l6 l7 = some T1 → GL T0 T → RC T → (∀ n, n < T0.1 → ad n = ad0 n) → l0 < T.1 → l2 < T.1 → l4 < T.1 → gC cI cJ cZ cMic cSrc cSt cAI cAJ D ad A s.heap H locs T → lv_has ls 10 [(0, .ref (ad l0)), (1, .int l1), (2, .ref (ad l2)), (3, .int l3), (4, .ref (ad l4)), (5, .int l5), (6, .int l6), (7, .long l7)] → W p l e { frames := 3, cells := T1.1 - T0.1, slots := sg T1 - sg T0, locals := 49 } s m args below meth c H locs (T.1 - T0.1) (sg T - sg T0) Q (F0 m 113 ls []) := by
  have hx := E.1
  have hb := E.2.1
  have hts := E.2.2.1
  have hown := E.2.2.2.1
  have hK := E.2.2.2.2
  intro T ad H locs ls l0 l1 l2 l3 l4 l5 l6 l7 h hgl hrc had h_l0 h_l2 h_l4 G hl
  have hT1 := s_X10_addProduct_b113 hs17 _ _ _ _ _ _ _ _ _ h
  have hcs := cs_ok hgl hT1
  have cp0 := cpr0 hrc
  unfold g_X10_addProduct_b113 at h
  refine lv_aload_n hx hb dX10_addProduct_113 rfl (lv_at hl 0 rfl) ?_
  obtain ⟨g2, h⟩ := oif_some h
  obtain ⟨n3, en3, h⟩ := obind_some h
  have h_n3 : n3 < T.1 := by rw [← cp0.1]; exact cp0.2.2 _ _ _ en3
  refine c_get E G l0 1 (v := .ref (ad n3)) (oO_k g2).1 (cc_o10 (oO_k g2).2) rfl (fun w h => .tail _ (iA_12 h)) (by decide) (.tail _ qA_14) rfl (by rw [en3]; rfl) dX10_addProduct_114 ?_
  clear en3
  refine lv_iload hx hb dX10_addProduct_117 (lv_at hl 6 rfl) ?_
  obtain ⟨g4, h⟩ := oif_some h
  obtain ⟨g5, h⟩ := oif_some h
  obtain ⟨n6, en6, h⟩ := obind_some h
  have h_n6 : n6 < T.1 := by rw [← cp0.1]; exact cp0.2.2 _ _ _ en6
  refine c_alda E G n3 7 (k := l6.toNatClampNeg) (v := .ref (ad n6)) (aA_k g4).1 (cc_a107 (aA_k g4).2.1) rfl (inb_k g5).1 (inb_k g5).2 (aA_k g4).2.2 (by show va_rf ((T.2.2.2.2 n3 l6.toNatClampNeg).map ad) = _; rw [en6]; rfl) dX10_addProduct_119 ?_
  clear en6
  refine lv_iload_n hx hb dX10_addProduct_120 rfl (lv_at hl 1 rfl) ?_
  refine lv_dup2_11 hx hb dX10_addProduct_121 rfl rfl ?_
  obtain ⟨g7, h⟩ := oif_some h
  obtain ⟨g8, h⟩ := oif_some h
  refine c_lald E G n6 1 (k := l1.toNatClampNeg) (aA_k g7).1 (cc_a101 (aA_k g7).2.1) rfl (inb_k g8).1 (inb_k g8).2 (aA_k g7).2.2 dX10_addProduct_122 ?_
  refine lv_topl (fun v9 ev9 => ?_)
  have h := elet_at ev9 h
  clear ev9
  refine lv_lload hx hb dX10_addProduct_123 (lv_at hl 7 rfl) ?_
  refine lv_ladd hx hb dX10_addProduct_125 ?_
  refine lv_topl (fun v10 ev10 => ?_)
  have h := elet_at ev10 h
  clear ev10
  obtain ⟨g11, h⟩ := oif_some h
  obtain ⟨g12, h⟩ := oif_some h
  refine c_last E G n6 1 (k := l1.toNatClampNeg) (v := v10) (aA_k g11).1 (cc_a101 (aA_k g11).2.1) rfl (inb_k g12).1 (inb_k g12).2 (aA_k g11).2.2 dX10_addProduct_126 (fun H locs G => ?_)
  have G := gC_up_j (f := vp_updL (T.2.2.2.1 n6) l1.toNatClampNeg v10) (ccv_101 (aA_k g11).2.1) G
  obtain ⟨T13, eT13, h⟩ := elet_some h
  have G : gC cI cJ cZ cMic cSrc cSt cAI cAJ D ad A s.heap H locs T13 := by rw [eT13]; exact G
  have cp1 := show CPR T T13 from by rw [eT13]; exact cpr_sp cp0 sp_uJ
  clear eT13
  obtain ⟨v14, ev14, h⟩ := elet_some h
  refine lv_iinc (v := v14) (lv' := [(6, .int v14), (0, .ref (ad l0)), (1, .int l1), (2, .ref (ad l2)), (3, .int l3), (4, .ref (ad l4)), (5, .int l5), (7, .long l7)]) hx hb dX10_addProduct_127 hl (k := 6) rfl ev14.symm (by decide) rfl (fun ls hl => ?_)
  refine lv_goto (tgt := 17) hx hb dX10_addProduct_130 (by decide) ?_
  have hl := lv_sub hl [1, 2, 3, 4, 5, 6, 0] rfl
  refine w_cast (c2 := T13.1 - T0.1) (s2 := sg T13 - sg T0) (by rw [cp1.1] <;> rfl) (by rw [sg_cpr cp1] <;> rfl) ?_
  exact hk17 _ _ _ _ _ _ _ _ _ _ _ _ h (gl_cpr hgl cp1) cp1.2.2 had (by rw [cp1.1]; exact h_l0) (by rw [cp1.1]; exact h_l2) (by rw [cp1.1]; exact h_l4) G hl
set_option maxHeartbeats 4000000 in
set_option maxRecDepth 100000 in
theorem a_X10_addProduct_b62 {p : Program} {l : Launch} {e : Env} {s : State} {m : MethodId} {args : Array Value} {below : List Frame} {meth : Method} {c : Code} {Q : State → Prop} {D : va_G} {A : Nat → Prop} {cI cJ cZ cMic cSrc cSt cAI cAJ : ClassId} {ad0 : Nat → Nat} {T0 : AT} {T1 : AT} (E : cE p c cX10_addProduct s m args (Cond.code yX10_addProduct cX10_addProduct 10 none :: wsA) D RX10 (CT cI cJ cZ cMic cSrc cSt cAI cAJ)) (hA : ∀ q : Nat, s.heap.size ≤ q → A q) (hX : xT A s) (hN : nX s) (hml : c.maxLocals = 10) (hst : l.stackTraces = false) (kr138 : ∀ (ad : Nat → Nat) (H : Heap) (locs : List Loc) (ls : Array Slot), (∀ n, n < T0.1 → ad n = ad0 n) → gC cI cJ cZ cMic cSrc cSt cAI cAJ D ad A s.heap H locs T1 → W p l e { frames := 3, cells := T1.1 - T0.1, slots := sg T1 - sg T0, locals := 49 } s m args below meth c H locs (T1.1 - T0.1) (sg T1 - sg T0) Q (F0 m 138 ls [])) {k17 : AT → Nat → Int32 → Nat → Int32 → Nat → Int32 → Int32 → Option (AT)} (hs17 : ∀ (T : AT) (l0 : Nat) (l1 : Int32) (l2 : Nat) (l3 : Int32) (l4 : Nat) (l5 : Int32) (l6 : Int32), k17 T l0 l1 l2 l3 l4 l5 l6 = some T1 → GL T T1) (hk17 : ∀ (T : AT) (ad : Nat → Nat) (H : Heap) (locs : List Loc) (ls : Array Slot) (l0 : Nat) (l1 : Int32) (l2 : Nat) (l3 : Int32) (l4 : Nat) (l5 : Int32) (l6 : Int32), k17 T l0 l1 l2 l3 l4 l5 l6 = some T1 → GL T0 T → RC T → (∀ n, n < T0.1 → ad n = ad0 n) → l0 < T.1 → l2 < T.1 → l4 < T.1 → gC cI cJ cZ cMic cSrc cSt cAI cAJ D ad A s.heap H locs T → lv_has ls 10 [(0, .ref (ad l0)), (1, .int l1), (2, .ref (ad l2)), (3, .int l3), (4, .ref (ad l4)), (5, .int l5), (6, .int l6)] → W p l e { frames := 3, cells := T1.1 - T0.1, slots := sg T1 - sg T0, locals := 49 } s m args below meth c H locs (T.1 - T0.1) (sg T - sg T0) Q (F0 m 17 ls [])) : ∀ n : Nat, ∀ (T : AT) (ad : Nat → Nat) (H : Heap) (locs : List Loc) (ls : Array Slot) (l0 : Nat) (l1 : Int32) (l2 : Nat) (l3 : Int32) (l4 : Nat) (l5 : Int32) (l6 : Int32) (l7 : Int64) (l9 : Int32), g_X10_addProduct_b62 k17 n T l0 l1 l2 l3 l4 l5 l6 l7 l9 = some T1 → GL T0 T → RC T → (∀ n, n < T0.1 → ad n = ad0 n) → l0 < T.1 → l2 < T.1 → l4 < T.1 → gC cI cJ cZ cMic cSrc cSt cAI cAJ D ad A s.heap H locs T → lv_has ls 10 [(0, .ref (ad l0)), (1, .int l1), (2, .ref (ad l2)), (3, .int l3), (4, .ref (ad l4)), (5, .int l5), (6, .int l6), (7, .long l7), (9, .int l9)] → W p l e { frames := 3, cells := T1.1 - T0.1, slots := sg T1 - sg T0, locals := 49 } s m args below meth c H locs (T.1 - T0.1) (sg T - sg T0) Q (F0 m 62 ls []) := by
  have hx := E.1
  have hb := E.2.1
  have hts := E.2.2.1
  have hown := E.2.2.2.1
  have hK := E.2.2.2.2
  intro n
  induction n with
  | zero =>
    intro T ad H locs ls l0 l1 l2 l3 l4 l5 l6 l7 l9 h
    have h : (none : Option (AT)) = some T1 := h
    cases h
  | succ n ih =>
    intro T ad H locs ls l0 l1 l2 l3 l4 l5 l6 l7 l9 h hgl hrc had h_l0 h_l2 h_l4 G hl
    have hT1 := s_X10_addProduct_b62 hs17 _ _ _ _ _ _ _ _ _ _ _ h
    have hcs := cs_ok hgl hT1
    have cp0 := cpr0 hrc
    unfold g_X10_addProduct_b62 at h
    refine lv_iload hx hb dX10_addProduct_62 (lv_at hl 8 rfl) ?_
    refine lv_iload hx hb dX10_addProduct_64 (lv_at hl 6 rfl) ?_
    refine lv_icmp_gt (tgt := 113) hx hb dX10_addProduct_66 (by decide) (fun c2 => ?_) (fun c2 => ?_)
    · have h := oif_pos c2 h
      have hl := lv_sub hl [0, 1, 2, 3, 4, 5, 6, 7] rfl
      refine w_cast (c2 := T.1 - T0.1) (s2 := sg T - sg T0) (by rw [cp0.1] <;> rfl) (by rw [sg_cpr cp0] <;> rfl) ?_
      exact a_X10_addProduct_b113 E hA hX hN hml hst kr138 hs17 hk17 _ _ _ _ _ _ _ _ _ _ _ _ _ h (gl_cpr hgl cp0) cp0.2.2 had (by rw [cp0.1]; exact h_l0) (by rw [cp0.1]; exact h_l2) (by rw [cp0.1]; exact h_l4) G hl
    · have h := oif_neg c2 h
      refine lv_iload hx hb dX10_addProduct_69 (lv_at hl 8 rfl) ?_
      refine lv_aload_n hx hb dX10_addProduct_71 rfl (lv_at hl 2 rfl) ?_
      obtain ⟨g3, h⟩ := oif_some h
      refine c_get E G l2 2 (oO_k g3).1 (cc_o10 (oO_k g3).2) rfl (fun w h => .tail _ (iA_12 h)) (by decide) (.tail _ qA_15) rfl rfl dX10_addProduct_72 ?_
      refine lv_topi (fun v4 ev4 => ?_)
      have h := elet_at ev4 h
      clear ev4
      refine lv_icmp_ge (tgt := 113) hx hb dX10_addProduct_75 (by decide) (fun c5 => ?_) (fun c5 => ?_)
      · have h := oif_pos c5 h
        have hl := lv_sub hl [0, 1, 2, 3, 4, 5, 6, 7] rfl
        refine w_cast (c2 := T.1 - T0.1) (s2 := sg T - sg T0) (by rw [cp0.1] <;> rfl) (by rw [sg_cpr cp0] <;> rfl) ?_
        exact a_X10_addProduct_b113 E hA hX hN hml hst kr138 hs17 hk17 _ _ _ _ _ _ _ _ _ _ _ _ _ h (gl_cpr hgl cp0) cp0.2.2 had (by rw [cp0.1]; exact h_l0) (by rw [cp0.1]; exact h_l2) (by rw [cp0.1]; exact h_l4) G hl
      · have h := oif_neg c5 h
        refine lv_lload hx hb dX10_addProduct_78 (lv_at hl 7 rfl) ?_
        refine lv_aload_n hx hb dX10_addProduct_80 rfl (lv_at hl 2 rfl) ?_
        obtain ⟨g6, h⟩ := oif_some h
        obtain ⟨n7, en7, h⟩ := obind_some h
        have h_n7 : n7 < T.1 := by rw [← cp0.1]; exact cp0.2.2 _ _ _ en7
        refine c_get E G l2 1 (v := .ref (ad n7)) (oO_k g6).1 (cc_o10 (oO_k g6).2) rfl (fun w h => .tail _ (iA_12 h)) (by decide) (.tail _ qA_14) rfl (by rw [en7]; rfl) dX10_addProduct_81 ?_
        clear en7
        refine lv_iload hx hb dX10_addProduct_84 (lv_at hl 8 rfl) ?_
        obtain ⟨g8, h⟩ := oif_some h
        obtain ⟨g9, h⟩ := oif_some h
        obtain ⟨n10, en10, h⟩ := obind_some h
        have h_n10 : n10 < T.1 := by rw [← cp0.1]; exact cp0.2.2 _ _ _ en10
        refine c_alda E G n7 7 (k := l9.toNatClampNeg) (v := .ref (ad n10)) (aA_k g8).1 (cc_a107 (aA_k g8).2.1) rfl (inb_k g9).1 (inb_k g9).2 (aA_k g8).2.2 (by show va_rf ((T.2.2.2.2 n7 l9.toNatClampNeg).map ad) = _; rw [en10]; rfl) dX10_addProduct_86 ?_
        clear en10
        refine lv_iload_n hx hb dX10_addProduct_87 rfl (lv_at hl 3 rfl) ?_
        obtain ⟨g11, h⟩ := oif_some h
        obtain ⟨g12, h⟩ := oif_some h
        refine c_lald E G n10 1 (k := l3.toNatClampNeg) (aA_k g11).1 (cc_a101 (aA_k g11).2.1) rfl (inb_k g12).1 (inb_k g12).2 (aA_k g11).2.2 dX10_addProduct_88 ?_
        refine lv_topl (fun v13 ev13 => ?_)
        have h := elet_at ev13 h
        clear ev13
        refine lv_aload hx hb dX10_addProduct_89 (lv_at hl 4 rfl) ?_
        obtain ⟨g14, h⟩ := oif_some h
        obtain ⟨n15, en15, h⟩ := obind_some h
        have h_n15 : n15 < T.1 := by rw [← cp0.1]; exact cp0.2.2 _ _ _ en15
        refine c_get E G l4 1 (v := .ref (ad n15)) (oO_k g14).1 (cc_o10 (oO_k g14).2) rfl (fun w h => .tail _ (iA_12 h)) (by decide) (.tail _ qA_14) rfl (by rw [en15]; rfl) dX10_addProduct_91 ?_
        clear en15
        refine lv_iload hx hb dX10_addProduct_94 (lv_at hl 6 rfl) ?_
        refine lv_iload hx hb dX10_addProduct_96 (lv_at hl 8 rfl) ?_
        refine lv_isub hx hb dX10_addProduct_98 ?_
        refine lv_topi (fun v16 ev16 => ?_)
        have h := elet_at ev16 h
        clear ev16
        obtain ⟨g17, h⟩ := oif_some h
        obtain ⟨g18, h⟩ := oif_some h
        obtain ⟨n19, en19, h⟩ := obind_some h
        have h_n19 : n19 < T.1 := by rw [← cp0.1]; exact cp0.2.2 _ _ _ en19
        refine c_alda E G n15 7 (k := v16.toNatClampNeg) (v := .ref (ad n19)) (aA_k g17).1 (cc_a107 (aA_k g17).2.1) rfl (inb_k g18).1 (inb_k g18).2 (aA_k g17).2.2 (by show va_rf ((T.2.2.2.2 n15 v16.toNatClampNeg).map ad) = _; rw [en19]; rfl) dX10_addProduct_99 ?_
        clear en19
        refine lv_iload hx hb dX10_addProduct_100 (lv_at hl 5 rfl) ?_
        obtain ⟨g20, h⟩ := oif_some h
        obtain ⟨g21, h⟩ := oif_some h
        refine c_lald E G n19 1 (k := l5.toNatClampNeg) (aA_k g20).1 (cc_a101 (aA_k g20).2.1) rfl (inb_k g21).1 (inb_k g21).2 (aA_k g20).2.2 dX10_addProduct_102 ?_
        refine lv_topl (fun v22 ev22 => ?_)
        have h := elet_at ev22 h
        clear ev22
        refine lv_lmul hx hb dX10_addProduct_103 ?_
        refine lv_topl (fun v23 ev23 => ?_)
        have h := elet_at ev23 h
        clear ev23
        refine lv_ladd hx hb dX10_addProduct_104 ?_
        refine lv_topl (fun v24 ev24 => ?_)
        have h := elet_at ev24 h
        clear ev24
        refine lv_lstore (lv' := [(7, .long v24), (0, .ref (ad l0)), (1, .int l1), (2, .ref (ad l2)), (3, .int l3), (4, .ref (ad l4)), (5, .int l5), (6, .int l6), (9, .int l9)]) hx hb dX10_addProduct_105 hl (by decide) rfl (fun ls hl => ?_)
        obtain ⟨v25, ev25, h⟩ := elet_some h
        refine lv_iinc (v := v25) (lv' := [(9, .int v25), (7, .long v24), (0, .ref (ad l0)), (1, .int l1), (2, .ref (ad l2)), (3, .int l3), (4, .ref (ad l4)), (5, .int l5), (6, .int l6)]) hx hb dX10_addProduct_107 hl (k := 8) rfl ev25.symm (by decide) rfl (fun ls hl => ?_)
        refine lv_goto (tgt := 62) hx hb dX10_addProduct_110 (by decide) ?_
        have hl := lv_sub hl [2, 3, 4, 5, 6, 7, 8, 1, 0] rfl
        refine w_cast (c2 := T.1 - T0.1) (s2 := sg T - sg T0) (by rw [cp0.1] <;> rfl) (by rw [sg_cpr cp0] <;> rfl) ?_
        exact ih _ _ _ _ _ _ _ _ _ _ _ _ _ _ h (gl_cpr hgl cp0) cp0.2.2 had (by rw [cp0.1]; exact h_l0) (by rw [cp0.1]; exact h_l2) (by rw [cp0.1]; exact h_l4) G hl
set_option maxHeartbeats 4000000 in
set_option maxRecDepth 100000 in
theorem a_X10_addProduct_b17 {p : Program} {l : Launch} {e : Env} {s : State} {m : MethodId} {args : Array Value} {below : List Frame} {meth : Method} {c : Code} {Q : State → Prop} {D : va_G} {A : Nat → Prop} {cI cJ cZ cMic cSrc cSt cAI cAJ : ClassId} {ad0 : Nat → Nat} {T0 : AT} {T1 : AT} (E : cE p c cX10_addProduct s m args (Cond.code yX10_addProduct cX10_addProduct 10 none :: wsA) D RX10 (CT cI cJ cZ cMic cSrc cSt cAI cAJ)) (hA : ∀ q : Nat, s.heap.size ≤ q → A q) (hX : xT A s) (hN : nX s) (hml : c.maxLocals = 10) (hst : l.stackTraces = false) (kr138 : ∀ (ad : Nat → Nat) (H : Heap) (locs : List Loc) (ls : Array Slot), (∀ n, n < T0.1 → ad n = ad0 n) → gC cI cJ cZ cMic cSrc cSt cAI cAJ D ad A s.heap H locs T1 → W p l e { frames := 3, cells := T1.1 - T0.1, slots := sg T1 - sg T0, locals := 49 } s m args below meth c H locs (T1.1 - T0.1) (sg T1 - sg T0) Q (F0 m 138 ls [])) : ∀ n : Nat, ∀ (T : AT) (ad : Nat → Nat) (H : Heap) (locs : List Loc) (ls : Array Slot) (l0 : Nat) (l1 : Int32) (l2 : Nat) (l3 : Int32) (l4 : Nat) (l5 : Int32) (l6 : Int32), g_X10_addProduct_b17 n T l0 l1 l2 l3 l4 l5 l6 = some T1 → GL T0 T → RC T → (∀ n, n < T0.1 → ad n = ad0 n) → l0 < T.1 → l2 < T.1 → l4 < T.1 → gC cI cJ cZ cMic cSrc cSt cAI cAJ D ad A s.heap H locs T → lv_has ls 10 [(0, .ref (ad l0)), (1, .int l1), (2, .ref (ad l2)), (3, .int l3), (4, .ref (ad l4)), (5, .int l5), (6, .int l6)] → W p l e { frames := 3, cells := T1.1 - T0.1, slots := sg T1 - sg T0, locals := 49 } s m args below meth c H locs (T.1 - T0.1) (sg T - sg T0) Q (F0 m 17 ls []) := by
  have hx := E.1
  have hb := E.2.1
  have hts := E.2.2.1
  have hown := E.2.2.2.1
  have hK := E.2.2.2.2
  intro n
  induction n with
  | zero =>
    intro T ad H locs ls l0 l1 l2 l3 l4 l5 l6 h
    have h : (none : Option (AT)) = some T1 := h
    cases h
  | succ n ih =>
    intro T ad H locs ls l0 l1 l2 l3 l4 l5 l6 h hgl hrc had h_l0 h_l2 h_l4 G hl
    have hT1 := s_X10_addProduct_b17 _ _ _ _ _ _ _ _ _ h
    have hcs := cs_ok hgl hT1
    have cp0 := cpr0 hrc
    unfold g_X10_addProduct_b17 at h
    refine lv_iload hx hb dX10_addProduct_17 (lv_at hl 6 rfl) ?_
    refine lv_aload_n hx hb dX10_addProduct_19 rfl (lv_at hl 0 rfl) ?_
    obtain ⟨g2, h⟩ := oif_some h
    refine c_get E G l0 2 (oO_k g2).1 (cc_o10 (oO_k g2).2) rfl (fun w h => .tail _ (iA_12 h)) (by decide) (.tail _ qA_15) rfl rfl dX10_addProduct_20 ?_
    refine lv_topi (fun v3 ev3 => ?_)
    have h := elet_at ev3 h
    clear ev3
    refine lv_icmp_ge (tgt := 133) hx hb dX10_addProduct_23 (by decide) (fun c4 => ?_) (fun c4 => ?_)
    · have h := oif_pos c4 h
      have hl := lv_sub hl [0, 1] rfl
      refine w_cast (c2 := T.1 - T0.1) (s2 := sg T - sg T0) (by rw [cp0.1] <;> rfl) (by rw [sg_cpr cp0] <;> rfl) ?_
      exact a_X10_addProduct_b133 E hA hX hN hml hst kr138 _ _ _ _ _ _ _ h (gl_cpr hgl cp0) cp0.2.2 had (by rw [cp0.1]; exact h_l0) G hl
    · have h := oif_neg c4 h
      refine lv_iload hx hb dX10_addProduct_26 (lv_at hl 6 rfl) ?_
      refine lv_aload_n hx hb dX10_addProduct_28 rfl (lv_at hl 2 rfl) ?_
      obtain ⟨g5, h⟩ := oif_some h
      refine c_get E G l2 2 (oO_k g5).1 (cc_o10 (oO_k g5).2) rfl (fun w h => .tail _ (iA_12 h)) (by decide) (.tail _ qA_15) rfl rfl dX10_addProduct_29 ?_
      refine lv_topi (fun v6 ev6 => ?_)
      have h := elet_at ev6 h
      clear ev6
      refine lv_aload hx hb dX10_addProduct_32 (lv_at hl 4 rfl) ?_
      obtain ⟨g7, h⟩ := oif_some h
      refine c_get E G l4 2 (oO_k g7).1 (cc_o10 (oO_k g7).2) rfl (fun w h => .tail _ (iA_12 h)) (by decide) (.tail _ qA_15) rfl rfl dX10_addProduct_34 ?_
      refine lv_topi (fun v8 ev8 => ?_)
      have h := elet_at ev8 h
      clear ev8
      refine lv_iadd hx hb dX10_addProduct_37 ?_
      refine lv_topi (fun v9 ev9 => ?_)
      have h := elet_at ev9 h
      clear ev9
      refine lv_iconst (v := 1) hx hb dX10_addProduct_38 (by decide) ?_
      refine lv_isub hx hb dX10_addProduct_39 ?_
      refine lv_topi (fun v10 ev10 => ?_)
      have h := elet_at ev10 h
      clear ev10
      refine lv_icmp_ge (tgt := 133) hx hb dX10_addProduct_40 (by decide) (fun c11 => ?_) (fun c11 => ?_)
      · have h := oif_pos c11 h
        have hl := lv_sub hl [0, 1] rfl
        refine w_cast (c2 := T.1 - T0.1) (s2 := sg T - sg T0) (by rw [cp0.1] <;> rfl) (by rw [sg_cpr cp0] <;> rfl) ?_
        exact a_X10_addProduct_b133 E hA hX hN hml hst kr138 _ _ _ _ _ _ _ h (gl_cpr hgl cp0) cp0.2.2 had (by rw [cp0.1]; exact h_l0) G hl
      · have h := oif_neg c11 h
        refine lv_lconst (v := 0) hx hb dX10_addProduct_43 (by decide) ?_
        refine lv_lstore (lv' := [(7, .long (0 : Int64)), (0, .ref (ad l0)), (1, .int l1), (2, .ref (ad l2)), (3, .int l3), (4, .ref (ad l4)), (5, .int l5), (6, .int l6)]) hx hb dX10_addProduct_44 hl (by decide) rfl (fun ls hl => ?_)
        refine lv_iload hx hb dX10_addProduct_46 (lv_at hl 7 rfl) ?_
        refine lv_aload hx hb dX10_addProduct_48 (lv_at hl 5 rfl) ?_
        obtain ⟨g12, h⟩ := oif_some h
        refine c_get E G l4 2 (oO_k g12).1 (cc_o10 (oO_k g12).2) rfl (fun w h => .tail _ (iA_12 h)) (by decide) (.tail _ qA_15) rfl rfl dX10_addProduct_50 ?_
        refine lv_topi (fun v13 ev13 => ?_)
        have h := elet_at ev13 h
        clear ev13
        refine lv_isub hx hb dX10_addProduct_53 ?_
        refine lv_topi (fun v14 ev14 => ?_)
        have h := elet_at ev14 h
        clear ev14
        refine lv_iconst (v := 1) hx hb dX10_addProduct_54 (by decide) ?_
        refine lv_iadd hx hb dX10_addProduct_55 ?_
        refine lv_topi (fun v15 ev15 => ?_)
        have h := elet_at ev15 h
        clear ev15
        refine lv_iconst (v := 0) hx hb dX10_addProduct_56 (by decide) ?_
        refine va_mmax hx hb (hml.trans hl.1.symm) hown (hts _ (.tail _ qA_16)) (hts _ (.tail _ qA_17)) (hts _ (.tail _ qA_18)) (hts _ (.tail _ qA_19)) (Nat.le_of_ble_eq_true rfl) (Nat.le_of_ble_eq_true rfl) hcs.1 hcs.2 dX10_addProduct_57 ?_
        refine lv_topi (fun v16 ev16 => ?_)
        have h := elet_at ev16 h
        clear ev16
        refine lv_istore (lv' := [(9, .int v16), (7, .long (0 : Int64)), (0, .ref (ad l0)), (1, .int l1), (2, .ref (ad l2)), (3, .int l3), (4, .ref (ad l4)), (5, .int l5), (6, .int l6)]) hx hb dX10_addProduct_60 hl (by decide) rfl (fun ls hl => ?_)
        have hl := lv_sub hl [2, 3, 4, 5, 6, 7, 8, 1, 0] rfl
        refine w_cast (c2 := T.1 - T0.1) (s2 := sg T - sg T0) (by rw [cp0.1] <;> rfl) (by rw [sg_cpr cp0] <;> rfl) ?_
        exact a_X10_addProduct_b62 E hA hX hN hml hst kr138 (s_X10_addProduct_b17 n) ih _ _ _ _ _ _ _ _ _ _ _ _ _ _ _ h (gl_cpr hgl cp0) cp0.2.2 had (by rw [cp0.1]; exact h_l0) (by rw [cp0.1]; exact h_l2) (by rw [cp0.1]; exact h_l4) G hl
set_option maxHeartbeats 4000000 in
set_option maxRecDepth 100000 in
theorem a_X10_addProduct_b14 {p : Program} {l : Launch} {e : Env} {s : State} {m : MethodId} {args : Array Value} {below : List Frame} {meth : Method} {c : Code} {Q : State → Prop} {D : va_G} {A : Nat → Prop} {cI cJ cZ cMic cSrc cSt cAI cAJ : ClassId} {ad0 : Nat → Nat} {T0 : AT} {T1 : AT} (E : cE p c cX10_addProduct s m args (Cond.code yX10_addProduct cX10_addProduct 10 none :: wsA) D RX10 (CT cI cJ cZ cMic cSrc cSt cAI cAJ)) (hA : ∀ q : Nat, s.heap.size ≤ q → A q) (hX : xT A s) (hN : nX s) (hml : c.maxLocals = 10) (hst : l.stackTraces = false) (kr138 : ∀ (ad : Nat → Nat) (H : Heap) (locs : List Loc) (ls : Array Slot), (∀ n, n < T0.1 → ad n = ad0 n) → gC cI cJ cZ cMic cSrc cSt cAI cAJ D ad A s.heap H locs T1 → W p l e { frames := 3, cells := T1.1 - T0.1, slots := sg T1 - sg T0, locals := 49 } s m args below meth c H locs (T1.1 - T0.1) (sg T1 - sg T0) Q (F0 m 138 ls [])) : ∀ (T : AT) (ad : Nat → Nat) (H : Heap) (locs : List Loc) (ls : Array Slot) (l0 : Nat) (l1 : Int32) (l2 : Nat) (l3 : Int32) (l4 : Nat) (l5 : Int32), g_X10_addProduct_b14 T l0 l1 l2 l3 l4 l5 = some T1 → GL T0 T → RC T → (∀ n, n < T0.1 → ad n = ad0 n) → l0 < T.1 → l2 < T.1 → l4 < T.1 → gC cI cJ cZ cMic cSrc cSt cAI cAJ D ad A s.heap H locs T → lv_has ls 10 [(0, .ref (ad l0)), (1, .int l1), (2, .ref (ad l2)), (3, .int l3), (4, .ref (ad l4)), (5, .int l5)] → W p l e { frames := 3, cells := T1.1 - T0.1, slots := sg T1 - sg T0, locals := 49 } s m args below meth c H locs (T.1 - T0.1) (sg T - sg T0) Q (F0 m 14 ls []) := by
  have hx := E.1
  have hb := E.2.1
  have hts := E.2.2.1
  have hown := E.2.2.2.1
  have hK := E.2.2.2.2
  intro T ad H locs ls l0 l1 l2 l3 l4 l5 h hgl hrc had h_l0 h_l2 h_l4 G hl
  have hT1 := s_X10_addProduct_b14 _ _ _ _ _ _ _ h
  have hcs := cs_ok hgl hT1
  have cp0 := cpr0 hrc
  unfold g_X10_addProduct_b14 at h
  refine lv_iconst (v := 0) hx hb dX10_addProduct_14 (by decide) ?_
  refine lv_istore (lv' := [(6, .int 0), (0, .ref (ad l0)), (1, .int l1), (2, .ref (ad l2)), (3, .int l3), (4, .ref (ad l4)), (5, .int l5)]) hx hb dX10_addProduct_15 hl (by decide) rfl (fun ls hl => ?_)
  have hl := lv_sub hl [1, 2, 3, 4, 5, 6, 0] rfl
  refine w_cast (c2 := T.1 - T0.1) (s2 := sg T - sg T0) (by rw [cp0.1] <;> rfl) (by rw [sg_cpr cp0] <;> rfl) ?_
  exact a_X10_addProduct_b17 E hA hX hN hml hst kr138 _ _ _ _ _ _ _ _ _ _ _ _ _ h (gl_cpr hgl cp0) cp0.2.2 had (by rw [cp0.1]; exact h_l0) (by rw [cp0.1]; exact h_l2) (by rw [cp0.1]; exact h_l4) G hl
set_option maxHeartbeats 4000000 in
set_option maxRecDepth 100000 in
theorem a_X10_addProduct (l : Launch) (hst : l.stackTraces = false) (D : va_G) (cI cJ cZ cMic cSrc cSt cAI cAJ : ClassId) (ad : Nat → Nat) (T : AT) (o : Nat) (a0 : Int32) (a1 : Nat) (a2 : Int32) (a3 : Nat) (a4 : Int32) {T1 : AT} (h : g_X10_addProduct T o a0 a1 a2 a3 a4 = some T1) (hrc : RC T) (h_o : o < T.1) (h_a1 : a1 < T.1) (h_a3 : a3 < T.1) : kAv l yX10_addProduct (Cond.code yX10_addProduct cX10_addProduct 10 none :: wsA) 3 49 cI cJ cZ cMic cSrc cSt cAI cAJ D ad T [.ref (ad o), .int a0, .ref (ad a1), .int a2, .ref (ad a3), .int a4] T1 := by
  intro sz
  refine pro_in (cc := cX10_addProduct) (maxL := 10) (ret := none) (by exact pn_RX10) rfl (by exact Nat.le_of_ble_eq_true rfl) (fun p e s m below meth c ls hx hb hr hts hown hlocks hml hv hl => ?_)
  obtain ⟨hsz, hP, hK, hD0, hX, hN⟩ := hv
  subst hsz
  have hD := hD0.self (sz := s.heap.size)
  generalize hAe : va_A (cW ad T.1 (cc cI cJ cZ cMic cSrc cSt cAI cAJ ad T)) s.heap.size = A at hD hX ⊢
  have hA : ∀ q : Nat, s.heap.size ≤ q → A q := fun q h => by rw [← hAe]; exact Or.inr h
  have G : gC cI cJ cZ cMic cSrc cSt cAI cAJ D ad A s.heap s.heap [] T := ⟨hP, hD, va_S.rf⟩
  have E : cE p c cX10_addProduct s m ([.ref (ad o), .int a0, .ref (ad a1), .int a2, .ref (ad a3), .int a4] : List Value).toArray (Cond.code yX10_addProduct cX10_addProduct 10 none :: wsA) D RX10 (CT cI cJ cZ cMic cSrc cSt cAI cAJ) := ⟨hx, hb, hts, hown, hK⟩
  have hl : lv_has ls 10 [(0, .ref (ad o)), (1, .int a0), (2, .ref (ad a1)), (3, .int a2), (4, .ref (ad a3)), (5, .int a4)] := hl
  have hgl := GL.rf T
  have had : ∀ n, n < T.1 → ad n = ad n := fun _ _ => rfl
  have hT1 := s_X10_addProduct h
  have hcs := cs_ok hgl hT1
  refine w_cast (Nat.sub_self T.1).symm (Nat.sub_self (sg T)).symm ?_
  have cp0 := cpr0 hrc
  unfold g_X10_addProduct at h
  refine lv_aload_n hx hb dX10_addProduct_0 rfl (lv_at hl 0 rfl) ?_
  refine lv_aload_n hx hb dX10_addProduct_1 rfl (lv_at hl 2 rfl) ?_
  obtain ⟨g2, h⟩ := oif_some h
  refine c_get E G a1 2 (oO_k g2).1 (cc_o10 (oO_k g2).2) rfl (fun w h => .tail _ (iA_12 h)) (by decide) (.tail _ qA_15) rfl rfl dX10_addProduct_2 ?_
  refine lv_topi (fun v3 ev3 => ?_)
  have h := elet_at ev3 h
  clear ev3
  refine lv_aload hx hb dX10_addProduct_5 (lv_at hl 4 rfl) ?_
  obtain ⟨g4, h⟩ := oif_some h
  refine c_get E G a3 2 (oO_k g4).1 (cc_o10 (oO_k g4).2) rfl (fun w h => .tail _ (iA_12 h)) (by decide) (.tail _ qA_15) rfl rfl dX10_addProduct_7 ?_
  refine lv_topi (fun v5 ev5 => ?_)
  have h := elet_at ev5 h
  clear ev5
  refine lv_iadd hx hb dX10_addProduct_10 ?_
  refine lv_topi (fun v6 ev6 => ?_)
  have h := elet_at ev6 h
  clear ev6
  obtain ⟨g7, h⟩ := oif_some h
  obtain ⟨T8, eT8, h⟩ := obind_some h
  have hg2 := s_X10_widenTo eT8
  have hrc2 := hg2.2.2 cp0.2.2
  have hT2 := s_X10_addProduct_b14 _ _ _ _ _ _ _ h
  refine q_avv (As := [.int v6]) (rest := []) E G hA hX hN hml (a_X10_widenTo l hst D cI cJ cZ cMic cSrc cSt cAI cAJ ad T o v6 eT8 cp0.2.2 (by rw [cp0.1]; exact h_o)) (cwV 1 hts (gaV qA_98 qA_78 qA_79 qA_6 qA_80) rfl rfl rfl (by decide +kernel) ⟨Nat.le_of_ble_eq_true rfl, Nat.le_of_ble_eq_true rfl⟩) (oO_k g7).1 (cc_o10 (oO_k g7).2) rfl rfl hl.1 rfl (lv_room (Nat.le_of_ble_eq_true rfl)) dX10_addProduct_11 (cs_av hgl cp0 hg2 hT2) (fun ad2 H locs hga G => ?_)
  refine w_cast (c2 := T8.1 - T.1) (s2 := sg T8 - sg T) (cs_f1 hgl cp0 hg2) (cs_f2 hgl cp0 hg2) ?_
  have hl := lv_sub hl [0, 1, 2, 3, 4, 5] rfl
  rw [show ad o = ad2 o from (hga o (by rw [cp0.1]; exact h_o)).symm] at hl
  rw [show ad a1 = ad2 a1 from (hga a1 (by rw [cp0.1]; exact h_a1)).symm] at hl
  rw [show ad a3 = ad2 a3 from (hga a3 (by rw [cp0.1]; exact h_a3)).symm] at hl
  exact a_X10_addProduct_b14 E hA hX hN hml hst (fun ad H locs ls had G => W.vret hx hb hr (fun t ht hW => ⟨⟨(T1, ad), rfl, ⟨rfl, had⟩, ⟨by rw [ht]; exact G.1, va_K.moved hW.alike hK, G.2.1⟩⟩, G.2.2.F ht⟩) G.2.2.2.2 dX10_addProduct_138) _ _ _ _ _ _ _ _ _ _ _ h (GL.tr (gl_cpr hgl cp0) hg2) hrc2 (fun n hn => (hga n (by rw [cp0.1]; exact Nat.lt_of_lt_of_le hn hgl.1)).trans (had n hn)) (Nat.lt_of_lt_of_le (by rw [cp0.1]; exact h_o) hg2.1) (Nat.lt_of_lt_of_le (by rw [cp0.1]; exact h_a1) hg2.1) (Nat.lt_of_lt_of_le (by rw [cp0.1]; exact h_a3) hg2.1) G hl
def g_X8_blockPowerOf_b68  (T : AT)  : Option (AT) := some T
def g_X8_blockPowerOf_b54 (k23 : AT → Nat → Nat → Int32 → Nat → Int32 → Int32 → Int32 → Option (AT)) (T : AT) (l0 : Nat) (l1 : Nat) (l3 : Int32) (l4 : Nat) (l5 : Int32) (l6 : Int32) (l7 : Int32) : Option (AT) := elet (l7 + Int32.ofInt (1)) fun v2 => k23 T l0 l1 l3 l4 l5 l6 v2
def g_X8_blockPowerOf_b37 (k23 : AT → Nat → Nat → Int32 → Nat → Int32 → Int32 → Int32 → Option (AT)) (T : AT) (l0 : Nat) (l1 : Nat) (l3 : Int32) (l4 : Nat) (l5 : Int32) (l6 : Int32) (l7 : Int32) : Option (AT) := oif (oO T l0 8 = true) <| obind (T.2.2.2.2 l0 11) fun n3 => oif (oO T l0 8 = true) <| obind (T.2.2.2.2 l0 11) fun n5 => oif (oO T l4 10 = true) <| obind (g_X10_addProduct T l4 l5 n3 (0 : Int32) n5 (0 : Int32)) fun T7 => g_X8_blockPowerOf_b54 k23 T7 l0 l1 l3 l4 l5 l6 l7
def g_X8_blockPowerOf_b23  : Nat → AT → Nat → Nat → Int32 → Nat → Int32 → Int32 → Int32 → Option (AT)
  | 0, _, _, _, _, _, _, _, _ => none
  | n + 1, T, l0, l1, l3, l4, l5, l6, l7 => if l6 ≤ l7 then (oif (oO T l4 10 = true) <| obind (g_X10_divide T l4 l5 l3) fun T4 => g_X8_blockPowerOf_b68 T4) else (oif (oO T l0 8 = true) <| obind (g_X8_focus T l0 l1 l7) fun T7 => g_X8_blockPowerOf_b37 (g_X8_blockPowerOf_b23 n) T7 l0 l1 l3 l4 l5 l6 l7)
def g_X8_blockPowerOf (T : AT) (o : Nat) (a0 : Nat) (a1 : Int32) (a2 : Int32) (a3 : Nat) (a4 : Int32) : Option (AT) := elet (a1 + a2) fun v2 => oif (oO T o 8 = true) <| obind2 (g_X8_windowOf T o a0) fun r6 T4 => elet (if r6 < v2 then r6 else v2) fun v8 => oif (oO T4 a3 10 = true) <| obind (g_X10_clear T4 a3 a4) fun T10 => g_X8_blockPowerOf_b23 16384 T10 o a0 a2 a3 a4 v8 a1
set_option maxHeartbeats 4000000 in
set_option maxRecDepth 100000 in
theorem s_X8_blockPowerOf_b68 {T1 : AT} : ∀ (T : AT), g_X8_blockPowerOf_b68 T = some T1 → GL T T1 := by
  intro T h
  have p0 := GL.rf T
  unfold g_X8_blockPowerOf_b68 at h
  rw [← osome1 h]
  exact p0
set_option maxHeartbeats 4000000 in
set_option maxRecDepth 100000 in
theorem s_X8_blockPowerOf_b54 {T1 : AT} {k23 : AT → Nat → Nat → Int32 → Nat → Int32 → Int32 → Int32 → Option (AT)} (hk23 : ∀ (T : AT) (l0 : Nat) (l1 : Nat) (l3 : Int32) (l4 : Nat) (l5 : Int32) (l6 : Int32) (l7 : Int32), k23 T l0 l1 l3 l4 l5 l6 l7 = some T1 → GL T T1) : ∀ (T : AT) (l0 : Nat) (l1 : Nat) (l3 : Int32) (l4 : Nat) (l5 : Int32) (l6 : Int32) (l7 : Int32), g_X8_blockPowerOf_b54 k23 T l0 l1 l3 l4 l5 l6 l7 = some T1 → GL T T1 := by
  intro T l0 l1 l3 l4 l5 l6 l7 h
  have p0 := GL.rf T
  unfold g_X8_blockPowerOf_b54 at h
  obtain ⟨v2, ev2, h⟩ := elet_some h
  exact GL.tr p0 (hk23 _ _ _ _ _ _ _ _ h)
set_option maxHeartbeats 4000000 in
set_option maxRecDepth 100000 in
theorem s_X8_blockPowerOf_b37 {T1 : AT} {k23 : AT → Nat → Nat → Int32 → Nat → Int32 → Int32 → Int32 → Option (AT)} (hk23 : ∀ (T : AT) (l0 : Nat) (l1 : Nat) (l3 : Int32) (l4 : Nat) (l5 : Int32) (l6 : Int32) (l7 : Int32), k23 T l0 l1 l3 l4 l5 l6 l7 = some T1 → GL T T1) : ∀ (T : AT) (l0 : Nat) (l1 : Nat) (l3 : Int32) (l4 : Nat) (l5 : Int32) (l6 : Int32) (l7 : Int32), g_X8_blockPowerOf_b37 k23 T l0 l1 l3 l4 l5 l6 l7 = some T1 → GL T T1 := by
  intro T l0 l1 l3 l4 l5 l6 l7 h
  have p0 := GL.rf T
  unfold g_X8_blockPowerOf_b37 at h
  obtain ⟨g2, h⟩ := oif_some h
  obtain ⟨n3, en3, h⟩ := obind_some h
  obtain ⟨g4, h⟩ := oif_some h
  obtain ⟨n5, en5, h⟩ := obind_some h
  obtain ⟨g6, h⟩ := oif_some h
  obtain ⟨T7, eT7, h⟩ := obind_some h
  have p1 : GL T T7 := GL.tr p0 (s_X10_addProduct eT7)
  exact GL.tr p1 (s_X8_blockPowerOf_b54 hk23 _ _ _ _ _ _ _ _ h)
set_option maxHeartbeats 4000000 in
set_option maxRecDepth 100000 in
theorem s_X8_blockPowerOf_b23 {T1 : AT} : ∀ n : Nat, ∀ (T : AT) (l0 : Nat) (l1 : Nat) (l3 : Int32) (l4 : Nat) (l5 : Int32) (l6 : Int32) (l7 : Int32), g_X8_blockPowerOf_b23 n T l0 l1 l3 l4 l5 l6 l7 = some T1 → GL T T1 := by
  intro n
  induction n with
  | zero =>
    intro T l0 l1 l3 l4 l5 l6 l7 h
    have h : (none : Option (AT)) = some T1 := h
    cases h
  | succ n ih =>
    intro T l0 l1 l3 l4 l5 l6 l7 h
    have p0 := GL.rf T
    unfold g_X8_blockPowerOf_b23 at h
    rcases oif_or h with ⟨c2, h⟩ | ⟨c2, h⟩
    · have h := h
      obtain ⟨g3, h⟩ := oif_some h
      obtain ⟨T4, eT4, h⟩ := obind_some h
      have p1 : GL T T4 := GL.tr p0 (s_X10_divide eT4)
      exact GL.tr p1 (s_X8_blockPowerOf_b68 _ h)
    · have h := h
      obtain ⟨g6, h⟩ := oif_some h
      obtain ⟨T7, eT7, h⟩ := obind_some h
      have p1 : GL T T7 := GL.tr p0 (s_X8_focus eT7)
      exact GL.tr p1 (s_X8_blockPowerOf_b37 ih _ _ _ _ _ _ _ _ h)
set_option maxHeartbeats 4000000 in
set_option maxRecDepth 100000 in
theorem s_X8_blockPowerOf {T : AT} {o : Nat} {a0 : Nat} {a1 : Int32} {a2 : Int32} {a3 : Nat} {a4 : Int32} {T1 : AT} (h : g_X8_blockPowerOf T o a0 a1 a2 a3 a4 = some T1) : GL T T1 := by
  have p0 := GL.rf T
  unfold g_X8_blockPowerOf at h
  obtain ⟨v2, -, h⟩ := elet_some h
  obtain ⟨g3, h⟩ := oif_some h
  obtain ⟨r5, T4, eT4, h⟩ := obind2_some h
  have p1 : GL T T4 := GL.tr p0 (gl_sp (s_X8_windowOf eT4))
  obtain ⟨v6, -, h⟩ := elet_some h
  obtain ⟨g7, h⟩ := oif_some h
  obtain ⟨T8, eT8, h⟩ := obind_some h
  have p2 : GL T T8 := GL.tr p1 (gl_sp (s_X10_clear eT8))
  exact GL.tr p2 (s_X8_blockPowerOf_b23 _ _ _ _ _ _ _ _ _ h)
set_option maxHeartbeats 4000000 in
set_option maxRecDepth 100000 in
theorem a_X8_blockPowerOf_b68 {p : Program} {l : Launch} {e : Env} {s : State} {m : MethodId} {args : Array Value} {below : List Frame} {meth : Method} {c : Code} {Q : State → Prop} {D : va_G} {A : Nat → Prop} {cI cJ cZ cMic cSrc cSt cAI cAJ : ClassId} {ad0 : Nat → Nat} {T0 : AT} {T1 : AT} (E : cE p c cX8_blockPowerOf s m args (Cond.code yX8_blockPowerOf cX8_blockPowerOf 8 none :: wsA) D RX8 (CT cI cJ cZ cMic cSrc cSt cAI cAJ)) (hA : ∀ q : Nat, s.heap.size ≤ q → A q) (hX : xT A s) (hN : nX s) (hml : c.maxLocals = 8) (hst : l.stackTraces = false) (kr68 : ∀ (ad : Nat → Nat) (H : Heap) (locs : List Loc) (ls : Array Slot), (∀ n, n < T0.1 → ad n = ad0 n) → gC cI cJ cZ cMic cSrc cSt cAI cAJ D ad A s.heap H locs T1 → W p l e { frames := 4, cells := T1.1 - T0.1, slots := sg T1 - sg T0, locals := 78 } s m args below meth c H locs (T1.1 - T0.1) (sg T1 - sg T0) Q (F0 m 68 ls [])) : ∀ (T : AT) (ad : Nat → Nat) (H : Heap) (locs : List Loc) (ls : Array Slot), g_X8_blockPowerOf_b68 T = some T1 → GL T0 T → RC T → (∀ n, n < T0.1 → ad n = ad0 n) → gC cI cJ cZ cMic cSrc cSt cAI cAJ D ad A s.heap H locs T → lv_has ls 8 [] → W p l e { frames := 4, cells := T1.1 - T0.1, slots := sg T1 - sg T0, locals := 78 } s m args below meth c H locs (T.1 - T0.1) (sg T - sg T0) Q (F0 m 68 ls []) := by
  have hx := E.1
  have hb := E.2.1
  have hts := E.2.2.1
  have hown := E.2.2.2.1
  have hK := E.2.2.2.2
  intro T ad H locs ls h hgl hrc had G hl
  have hT1 := s_X8_blockPowerOf_b68 _ h
  have hcs := cs_ok hgl hT1
  have cp0 := cpr0 hrc
  unfold g_X8_blockPowerOf_b68 at h
  rw [osome1 h] at G
  refine w_cast (c2 := T1.1 - T0.1) (s2 := sg T1 - sg T0) (by rw [← osome1 h, cp0.1] <;> rfl) (by rw [← osome1 h, sg_cpr cp0] <;> rfl) ?_
  exact kr68 ad _ _ _ had G
set_option maxHeartbeats 4000000 in
set_option maxRecDepth 100000 in
theorem a_X8_blockPowerOf_b54 {p : Program} {l : Launch} {e : Env} {s : State} {m : MethodId} {args : Array Value} {below : List Frame} {meth : Method} {c : Code} {Q : State → Prop} {D : va_G} {A : Nat → Prop} {cI cJ cZ cMic cSrc cSt cAI cAJ : ClassId} {ad0 : Nat → Nat} {T0 : AT} {T1 : AT} (E : cE p c cX8_blockPowerOf s m args (Cond.code yX8_blockPowerOf cX8_blockPowerOf 8 none :: wsA) D RX8 (CT cI cJ cZ cMic cSrc cSt cAI cAJ)) (hA : ∀ q : Nat, s.heap.size ≤ q → A q) (hX : xT A s) (hN : nX s) (hml : c.maxLocals = 8) (hst : l.stackTraces = false) (kr68 : ∀ (ad : Nat → Nat) (H : Heap) (locs : List Loc) (ls : Array Slot), (∀ n, n < T0.1 → ad n = ad0 n) → gC cI cJ cZ cMic cSrc cSt cAI cAJ D ad A s.heap H locs T1 → W p l e { frames := 4, cells := T1.1 - T0.1, slots := sg T1 - sg T0, locals := 78 } s m args below meth c H locs (T1.1 - T0.1) (sg T1 - sg T0) Q (F0 m 68 ls [])) {k23 : AT → Nat → Nat → Int32 → Nat → Int32 → Int32 → Int32 → Option (AT)} (hs23 : ∀ (T : AT) (l0 : Nat) (l1 : Nat) (l3 : Int32) (l4 : Nat) (l5 : Int32) (l6 : Int32) (l7 : Int32), k23 T l0 l1 l3 l4 l5 l6 l7 = some T1 → GL T T1) (hk23 : ∀ (T : AT) (ad : Nat → Nat) (H : Heap) (locs : List Loc) (ls : Array Slot) (l0 : Nat) (l1 : Nat) (l3 : Int32) (l4 : Nat) (l5 : Int32) (l6 : Int32) (l7 : Int32), k23 T l0 l1 l3 l4 l5 l6 l7 = some T1 → GL T0 T → RC T → (∀ n, n < T0.1 → ad n = ad0 n) → l0 < T.1 → l1 < T.1 → l4 < T.1 → gC cI cJ cZ cMic cSrc cSt cAI cAJ D ad A s.heap H locs T → lv_has ls 8 [(0, .ref (ad l0)), (1, .ref (ad l1)), (3, .int l3), (4, .ref (ad l4)), (5, .int l5), (6, .int l6), (7, .int l7)] → W p l e { frames := 4, cells := T1.1 - T0.1, slots := sg T1 - sg T0, locals := 78 } s m args below meth c H locs (T.1 - T0.1) (sg T - sg T0) Q (F0 m 23 ls [])) : ∀ (T : AT) (ad : Nat → Nat) (H : Heap) (locs : List Loc) (ls : Array Slot) (l0 : Nat) (l1 : Nat) (l3 : Int32) (l4 : Nat) (l5 : Int32) (l6 : Int32) (l7 : Int32), g_X8_blockPowerOf_b54 k23 T l0 l1 l3 l4 l5 l6 l7 = some T1 → GL T0 T → RC T → (∀ n, n < T0.1 → ad n = ad0 n) → l0 < T.1 → l1 < T.1 → l4 < T.1 → gC cI cJ cZ cMic cSrc cSt cAI cAJ D ad A s.heap H locs T → lv_has ls 8 [(0, .ref (ad l0)), (1, .ref (ad l1)), (3, .int l3), (4, .ref (ad l4)), (5, .int l5), (6, .int l6), (7, .int l7)] → W p l e { frames := 4, cells := T1.1 - T0.1, slots := sg T1 - sg T0, locals := 78 } s m args below meth c H locs (T.1 - T0.1) (sg T - sg T0) Q (F0 m 54 ls []) := by
  have hx := E.1
  have hb := E.2.1
  have hts := E.2.2.1
  have hown := E.2.2.2.1
  have hK := E.2.2.2.2
  intro T ad H locs ls l0 l1 l3 l4 l5 l6 l7 h hgl hrc had h_l0 h_l1 h_l4 G hl
  have hT1 := s_X8_blockPowerOf_b54 hs23 _ _ _ _ _ _ _ _ h
  have hcs := cs_ok hgl hT1
  have cp0 := cpr0 hrc
  unfold g_X8_blockPowerOf_b54 at h
  obtain ⟨v2, ev2, h⟩ := elet_some h
  refine lv_iinc (v := v2) (lv' := [(7, .int v2), (0, .ref (ad l0)), (1, .ref (ad l1)), (3, .int l3), (4, .ref (ad l4)), (5, .int l5), (6, .int l6)]) hx hb dX8_blockPowerOf_54 hl (k := 6) rfl ev2.symm (by decide) rfl (fun ls hl => ?_)
  refine lv_goto (tgt := 23) hx hb dX8_blockPowerOf_57 (by decide) ?_
  have hl := lv_sub hl [1, 2, 3, 4, 5, 6, 0] rfl
  refine w_cast (c2 := T.1 - T0.1) (s2 := sg T - sg T0) (by rw [cp0.1] <;> rfl) (by rw [sg_cpr cp0] <;> rfl) ?_
  exact hk23 _ _ _ _ _ _ _ _ _ _ _ _ h (gl_cpr hgl cp0) cp0.2.2 had (by rw [cp0.1]; exact h_l0) (by rw [cp0.1]; exact h_l1) (by rw [cp0.1]; exact h_l4) G hl
set_option maxHeartbeats 4000000 in
set_option maxRecDepth 100000 in
theorem a_X8_blockPowerOf_b37 {p : Program} {l : Launch} {e : Env} {s : State} {m : MethodId} {args : Array Value} {below : List Frame} {meth : Method} {c : Code} {Q : State → Prop} {D : va_G} {A : Nat → Prop} {cI cJ cZ cMic cSrc cSt cAI cAJ : ClassId} {ad0 : Nat → Nat} {T0 : AT} {T1 : AT} (E : cE p c cX8_blockPowerOf s m args (Cond.code yX8_blockPowerOf cX8_blockPowerOf 8 none :: wsA) D RX8 (CT cI cJ cZ cMic cSrc cSt cAI cAJ)) (hA : ∀ q : Nat, s.heap.size ≤ q → A q) (hX : xT A s) (hN : nX s) (hml : c.maxLocals = 8) (hst : l.stackTraces = false) (kr68 : ∀ (ad : Nat → Nat) (H : Heap) (locs : List Loc) (ls : Array Slot), (∀ n, n < T0.1 → ad n = ad0 n) → gC cI cJ cZ cMic cSrc cSt cAI cAJ D ad A s.heap H locs T1 → W p l e { frames := 4, cells := T1.1 - T0.1, slots := sg T1 - sg T0, locals := 78 } s m args below meth c H locs (T1.1 - T0.1) (sg T1 - sg T0) Q (F0 m 68 ls [])) {k23 : AT → Nat → Nat → Int32 → Nat → Int32 → Int32 → Int32 → Option (AT)} (hs23 : ∀ (T : AT) (l0 : Nat) (l1 : Nat) (l3 : Int32) (l4 : Nat) (l5 : Int32) (l6 : Int32) (l7 : Int32), k23 T l0 l1 l3 l4 l5 l6 l7 = some T1 → GL T T1) (hk23 : ∀ (T : AT) (ad : Nat → Nat) (H : Heap) (locs : List Loc) (ls : Array Slot) (l0 : Nat) (l1 : Nat) (l3 : Int32) (l4 : Nat) (l5 : Int32) (l6 : Int32) (l7 : Int32), k23 T l0 l1 l3 l4 l5 l6 l7 = some T1 → GL T0 T → RC T → (∀ n, n < T0.1 → ad n = ad0 n) → l0 < T.1 → l1 < T.1 → l4 < T.1 → gC cI cJ cZ cMic cSrc cSt cAI cAJ D ad A s.heap H locs T → lv_has ls 8 [(0, .ref (ad l0)), (1, .ref (ad l1)), (3, .int l3), (4, .ref (ad l4)), (5, .int l5), (6, .int l6), (7, .int l7)] → W p l e { frames := 4, cells := T1.1 - T0.1, slots := sg T1 - sg T0, locals := 78 } s m args below meth c H locs (T.1 - T0.1) (sg T - sg T0) Q (F0 m 23 ls [])) : ∀ (T : AT) (ad : Nat → Nat) (H : Heap) (locs : List Loc) (ls : Array Slot) (l0 : Nat) (l1 : Nat) (l3 : Int32) (l4 : Nat) (l5 : Int32) (l6 : Int32) (l7 : Int32), g_X8_blockPowerOf_b37 k23 T l0 l1 l3 l4 l5 l6 l7 = some T1 → GL T0 T → RC T → (∀ n, n < T0.1 → ad n = ad0 n) → l0 < T.1 → l1 < T.1 → l4 < T.1 → gC cI cJ cZ cMic cSrc cSt cAI cAJ D ad A s.heap H locs T → lv_has ls 8 [(0, .ref (ad l0)), (1, .ref (ad l1)), (3, .int l3), (4, .ref (ad l4)), (5, .int l5), (6, .int l6), (7, .int l7)] → W p l e { frames := 4, cells := T1.1 - T0.1, slots := sg T1 - sg T0, locals := 78 } s m args below meth c H locs (T.1 - T0.1) (sg T - sg T0) Q (F0 m 37 ls []) := by
  have hx := E.1
  have hb := E.2.1
  have hts := E.2.2.1
  have hown := E.2.2.2.1
  have hK := E.2.2.2.2
  intro T ad H locs ls l0 l1 l3 l4 l5 l6 l7 h hgl hrc had h_l0 h_l1 h_l4 G hl
  have hT1 := s_X8_blockPowerOf_b37 hs23 _ _ _ _ _ _ _ _ h
  have hcs := cs_ok hgl hT1
  have cp0 := cpr0 hrc
  unfold g_X8_blockPowerOf_b37 at h
  refine lv_aload hx hb dX8_blockPowerOf_37 (lv_at hl 3 rfl) ?_
  refine lv_iload hx hb dX8_blockPowerOf_39 (lv_at hl 4 rfl) ?_
  refine lv_aload_n hx hb dX8_blockPowerOf_41 rfl (lv_at hl 0 rfl) ?_
  obtain ⟨g2, h⟩ := oif_some h
  obtain ⟨n3, en3, h⟩ := obind_some h
  have h_n3 : n3 < T.1 := by rw [← cp0.1]; exact cp0.2.2 _ _ _ en3
  refine c_get E G l0 11 (v := .ref (ad n3)) (oO_k g2).1 (cc_o8 (oO_k g2).2) rfl (fun w h => .tail _ (iA_16 h)) (by decide) (.tail _ qA_52) rfl (by rw [en3]; rfl) dX8_blockPowerOf_42 ?_
  clear en3
  refine lv_iconst (v := 0) hx hb dX8_blockPowerOf_45 (by decide) ?_
  refine lv_aload_n hx hb dX8_blockPowerOf_46 rfl (lv_at hl 0 rfl) ?_
  obtain ⟨g4, h⟩ := oif_some h
  obtain ⟨n5, en5, h⟩ := obind_some h
  have h_n5 : n5 < T.1 := by rw [← cp0.1]; exact cp0.2.2 _ _ _ en5
  refine c_get E G l0 11 (v := .ref (ad n5)) (oO_k g4).1 (cc_o8 (oO_k g4).2) rfl (fun w h => .tail _ (iA_16 h)) (by decide) (.tail _ qA_52) rfl (by rw [en5]; rfl) dX8_blockPowerOf_47 ?_
  clear en5
  refine lv_iconst (v := 0) hx hb dX8_blockPowerOf_50 (by decide) ?_
  obtain ⟨g6, h⟩ := oif_some h
  obtain ⟨T7, eT7, h⟩ := obind_some h
  have hg2 := s_X10_addProduct eT7
  have hrc2 := hg2.2.2 cp0.2.2
  have hT2 := s_X8_blockPowerOf_b54 hs23 _ _ _ _ _ _ _ _ h
  refine q_avv (As := [.int l5, .ref (ad n3), .int 0, .ref (ad n5), .int 0]) (rest := []) E G hA hX hN hml (a_X10_addProduct l hst D cI cJ cZ cMic cSrc cSt cAI cAJ ad T l4 l5 n3 (0 : Int32) n5 (0 : Int32) eT7 cp0.2.2 (by rw [cp0.1]; exact h_l4) (by rw [cp0.1]; exact h_n3) (by rw [cp0.1]; exact h_n5)) (cwV 5 hts (gaV qA_99 qA_100 qA_101 qA_6 qA_102) rfl rfl rfl (by decide +kernel) ⟨Nat.le_of_ble_eq_true rfl, Nat.le_of_ble_eq_true rfl⟩) (oO_k g6).1 (cc_o10 (oO_k g6).2) rfl rfl hl.1 rfl (lv_room (Nat.le_of_ble_eq_true rfl)) dX8_blockPowerOf_51 (cs_av hgl cp0 hg2 hT2) (fun ad2 H locs hga G => ?_)
  refine w_cast (c2 := T7.1 - T0.1) (s2 := sg T7 - sg T0) (cs_f1 hgl cp0 hg2) (cs_f2 hgl cp0 hg2) ?_
  have hl := lv_sub hl [0, 1, 2, 3, 4, 5, 6] rfl
  rw [show ad l0 = ad2 l0 from (hga l0 (by rw [cp0.1]; exact h_l0)).symm] at hl
  rw [show ad l1 = ad2 l1 from (hga l1 (by rw [cp0.1]; exact h_l1)).symm] at hl
  rw [show ad l4 = ad2 l4 from (hga l4 (by rw [cp0.1]; exact h_l4)).symm] at hl
  exact a_X8_blockPowerOf_b54 E hA hX hN hml hst kr68 hs23 hk23 _ _ _ _ _ _ _ _ _ _ _ _ h (GL.tr (gl_cpr hgl cp0) hg2) hrc2 (fun n hn => (hga n (by rw [cp0.1]; exact Nat.lt_of_lt_of_le hn hgl.1)).trans (had n hn)) (Nat.lt_of_lt_of_le (by rw [cp0.1]; exact h_l0) hg2.1) (Nat.lt_of_lt_of_le (by rw [cp0.1]; exact h_l1) hg2.1) (Nat.lt_of_lt_of_le (by rw [cp0.1]; exact h_l4) hg2.1) G hl
set_option maxHeartbeats 4000000 in
set_option maxRecDepth 100000 in
theorem a_X8_blockPowerOf_b23 {p : Program} {l : Launch} {e : Env} {s : State} {m : MethodId} {args : Array Value} {below : List Frame} {meth : Method} {c : Code} {Q : State → Prop} {D : va_G} {A : Nat → Prop} {cI cJ cZ cMic cSrc cSt cAI cAJ : ClassId} {ad0 : Nat → Nat} {T0 : AT} {T1 : AT} (E : cE p c cX8_blockPowerOf s m args (Cond.code yX8_blockPowerOf cX8_blockPowerOf 8 none :: wsA) D RX8 (CT cI cJ cZ cMic cSrc cSt cAI cAJ)) (hA : ∀ q : Nat, s.heap.size ≤ q → A q) (hX : xT A s) (hN : nX s) (hml : c.maxLocals = 8) (hst : l.stackTraces = false) (kr68 : ∀ (ad : Nat → Nat) (H : Heap) (locs : List Loc) (ls : Array Slot), (∀ n, n < T0.1 → ad n = ad0 n) → gC cI cJ cZ cMic cSrc cSt cAI cAJ D ad A s.heap H locs T1 → W p l e { frames := 4, cells := T1.1 - T0.1, slots := sg T1 - sg T0, locals := 78 } s m args below meth c H locs (T1.1 - T0.1) (sg T1 - sg T0) Q (F0 m 68 ls [])) : ∀ n : Nat, ∀ (T : AT) (ad : Nat → Nat) (H : Heap) (locs : List Loc) (ls : Array Slot) (l0 : Nat) (l1 : Nat) (l3 : Int32) (l4 : Nat) (l5 : Int32) (l6 : Int32) (l7 : Int32), g_X8_blockPowerOf_b23 n T l0 l1 l3 l4 l5 l6 l7 = some T1 → GL T0 T → RC T → (∀ n, n < T0.1 → ad n = ad0 n) → l0 < T.1 → l1 < T.1 → l4 < T.1 → gC cI cJ cZ cMic cSrc cSt cAI cAJ D ad A s.heap H locs T → lv_has ls 8 [(0, .ref (ad l0)), (1, .ref (ad l1)), (3, .int l3), (4, .ref (ad l4)), (5, .int l5), (6, .int l6), (7, .int l7)] → W p l e { frames := 4, cells := T1.1 - T0.1, slots := sg T1 - sg T0, locals := 78 } s m args below meth c H locs (T.1 - T0.1) (sg T - sg T0) Q (F0 m 23 ls []) := by
  have hx := E.1
  have hb := E.2.1
  have hts := E.2.2.1
  have hown := E.2.2.2.1
  have hK := E.2.2.2.2
  intro n
  induction n with
  | zero =>
    intro T ad H locs ls l0 l1 l3 l4 l5 l6 l7 h
    have h : (none : Option (AT)) = some T1 := h
    cases h
  | succ n ih =>
    intro T ad H locs ls l0 l1 l3 l4 l5 l6 l7 h hgl hrc had h_l0 h_l1 h_l4 G hl
    have hT1 := s_X8_blockPowerOf_b23 _ _ _ _ _ _ _ _ _ h
    have hcs := cs_ok hgl hT1
    have cp0 := cpr0 hrc
    unfold g_X8_blockPowerOf_b23 at h
    refine lv_iload hx hb dX8_blockPowerOf_23 (lv_at hl 6 rfl) ?_
    refine lv_iload hx hb dX8_blockPowerOf_25 (lv_at hl 5 rfl) ?_
    refine lv_icmp_ge (tgt := 60) hx hb dX8_blockPowerOf_27 (by decide) (fun c2 => ?_) (fun c2 => ?_)
    · have h := oif_pos c2 h
      refine lv_aload hx hb dX8_blockPowerOf_60 (lv_at hl 3 rfl) ?_
      refine lv_iload hx hb dX8_blockPowerOf_62 (lv_at hl 4 rfl) ?_
      refine lv_iload_n hx hb dX8_blockPowerOf_64 rfl (lv_at hl 2 rfl) ?_
      obtain ⟨g3, h⟩ := oif_some h
      obtain ⟨T4, eT4, h⟩ := obind_some h
      have hg2 := s_X10_divide eT4
      have hrc2 := hg2.2.2 cp0.2.2
      have hT2 := s_X8_blockPowerOf_b68 _ h
      refine q_avv (As := [.int l5, .int l3]) (rest := []) E G hA hX hN hml (a_X10_divide l hst D cI cJ cZ cMic cSrc cSt cAI cAJ ad T l4 l5 l3 eT4 cp0.2.2 (by rw [cp0.1]; exact h_l4)) (cwV 2 hts (gaV qA_104 qA_105 qA_106 qA_6 qA_107) rfl rfl rfl (by decide +kernel) ⟨Nat.le_of_ble_eq_true rfl, Nat.le_of_ble_eq_true rfl⟩) (oO_k g3).1 (cc_o10 (oO_k g3).2) rfl rfl hl.1 rfl (lv_room (Nat.le_of_ble_eq_true rfl)) dX8_blockPowerOf_65 (cs_av hgl cp0 hg2 hT2) (fun ad2 H locs hga G => ?_)
      refine w_cast (c2 := T4.1 - T0.1) (s2 := sg T4 - sg T0) (cs_f1 hgl cp0 hg2) (cs_f2 hgl cp0 hg2) ?_
      have hl := lv_sub hl [] rfl
      exact a_X8_blockPowerOf_b68 E hA hX hN hml hst kr68 _ _ _ _ _ h (GL.tr (gl_cpr hgl cp0) hg2) hrc2 (fun n hn => (hga n (by rw [cp0.1]; exact Nat.lt_of_lt_of_le hn hgl.1)).trans (had n hn)) G hl
    · have h := oif_neg c2 h
      refine lv_aload_n hx hb dX8_blockPowerOf_30 rfl (lv_at hl 0 rfl) ?_
      refine lv_aload_n hx hb dX8_blockPowerOf_31 rfl (lv_at hl 1 rfl) ?_
      refine lv_iload hx hb dX8_blockPowerOf_32 (lv_at hl 6 rfl) ?_
      obtain ⟨g6, h⟩ := oif_some h
      obtain ⟨T7, eT7, h⟩ := obind_some h
      have hg2 := s_X8_focus eT7
      have hrc2 := hg2.2.2 cp0.2.2
      have hT2 := s_X8_blockPowerOf_b37 (s_X8_blockPowerOf_b23 n) _ _ _ _ _ _ _ _ h
      refine q_avv (As := [.ref (ad l1), .int l7]) (rest := []) E G hA hX hN hml (a_X8_focus l hst D cI cJ cZ cMic cSrc cSt cAI cAJ ad T l0 l1 l7 eT7 cp0.2.2 (by rw [cp0.1]; exact h_l0) (by rw [cp0.1]; exact h_l1)) (cwV 2 hts (gaV qA_69 qA_70 qA_71 qA_47 qA_72) rfl rfl rfl (by decide +kernel) ⟨Nat.le_of_ble_eq_true rfl, Nat.le_of_ble_eq_true rfl⟩) (oO_k g6).1 (cc_o8 (oO_k g6).2) rfl rfl hl.1 rfl (lv_room (Nat.le_of_ble_eq_true rfl)) dX8_blockPowerOf_34 (cs_av hgl cp0 hg2 hT2) (fun ad2 H locs hga G => ?_)
      refine w_cast (c2 := T7.1 - T0.1) (s2 := sg T7 - sg T0) (cs_f1 hgl cp0 hg2) (cs_f2 hgl cp0 hg2) ?_
      have hl := lv_sub hl [0, 1, 2, 3, 4, 5, 6] rfl
      rw [show ad l0 = ad2 l0 from (hga l0 (by rw [cp0.1]; exact h_l0)).symm] at hl
      rw [show ad l1 = ad2 l1 from (hga l1 (by rw [cp0.1]; exact h_l1)).symm] at hl
      rw [show ad l4 = ad2 l4 from (hga l4 (by rw [cp0.1]; exact h_l4)).symm] at hl
      exact a_X8_blockPowerOf_b37 E hA hX hN hml hst kr68 (s_X8_blockPowerOf_b23 n) ih _ _ _ _ _ _ _ _ _ _ _ _ h (GL.tr (gl_cpr hgl cp0) hg2) hrc2 (fun n hn => (hga n (by rw [cp0.1]; exact Nat.lt_of_lt_of_le hn hgl.1)).trans (had n hn)) (Nat.lt_of_lt_of_le (by rw [cp0.1]; exact h_l0) hg2.1) (Nat.lt_of_lt_of_le (by rw [cp0.1]; exact h_l1) hg2.1) (Nat.lt_of_lt_of_le (by rw [cp0.1]; exact h_l4) hg2.1) G hl
set_option maxHeartbeats 4000000 in
set_option maxRecDepth 100000 in
theorem a_X8_blockPowerOf (l : Launch) (hst : l.stackTraces = false) (D : va_G) (cI cJ cZ cMic cSrc cSt cAI cAJ : ClassId) (ad : Nat → Nat) (T : AT) (o : Nat) (a0 : Nat) (a1 : Int32) (a2 : Int32) (a3 : Nat) (a4 : Int32) {T1 : AT} (h : g_X8_blockPowerOf T o a0 a1 a2 a3 a4 = some T1) (hrc : RC T) (h_o : o < T.1) (h_a0 : a0 < T.1) (h_a3 : a3 < T.1) : kAv l yX8_blockPowerOf (Cond.code yX8_blockPowerOf cX8_blockPowerOf 8 none :: wsA) 4 78 cI cJ cZ cMic cSrc cSt cAI cAJ D ad T [.ref (ad o), .ref (ad a0), .int a1, .int a2, .ref (ad a3), .int a4] T1 := by
  intro sz
  refine pro_in (cc := cX8_blockPowerOf) (maxL := 8) (ret := none) (by exact pn_RX8) rfl (by exact Nat.le_of_ble_eq_true rfl) (fun p e s m below meth c ls hx hb hr hts hown hlocks hml hv hl => ?_)
  obtain ⟨hsz, hP, hK, hD0, hX, hN⟩ := hv
  subst hsz
  have hD := hD0.self (sz := s.heap.size)
  generalize hAe : va_A (cW ad T.1 (cc cI cJ cZ cMic cSrc cSt cAI cAJ ad T)) s.heap.size = A at hD hX ⊢
  have hA : ∀ q : Nat, s.heap.size ≤ q → A q := fun q h => by rw [← hAe]; exact Or.inr h
  have G : gC cI cJ cZ cMic cSrc cSt cAI cAJ D ad A s.heap s.heap [] T := ⟨hP, hD, va_S.rf⟩
  have E : cE p c cX8_blockPowerOf s m ([.ref (ad o), .ref (ad a0), .int a1, .int a2, .ref (ad a3), .int a4] : List Value).toArray (Cond.code yX8_blockPowerOf cX8_blockPowerOf 8 none :: wsA) D RX8 (CT cI cJ cZ cMic cSrc cSt cAI cAJ) := ⟨hx, hb, hts, hown, hK⟩
  have hl : lv_has ls 8 [(0, .ref (ad o)), (1, .ref (ad a0)), (2, .int a1), (3, .int a2), (4, .ref (ad a3)), (5, .int a4)] := hl
  have hgl := GL.rf T
  have had : ∀ n, n < T.1 → ad n = ad n := fun _ _ => rfl
  have hT1 := s_X8_blockPowerOf h
  have hcs := cs_ok hgl hT1
  refine w_cast (Nat.sub_self T.1).symm (Nat.sub_self (sg T)).symm ?_
  have cp0 := cpr0 hrc
  unfold g_X8_blockPowerOf at h
  refine lv_iload_n hx hb dX8_blockPowerOf_0 rfl (lv_at hl 2 rfl) ?_
  refine lv_iload_n hx hb dX8_blockPowerOf_1 rfl (lv_at hl 3 rfl) ?_
  refine lv_iadd hx hb dX8_blockPowerOf_2 ?_
  refine lv_topi (fun v2 ev2 => ?_)
  have h := elet_at ev2 h
  clear ev2
  refine lv_aload_n hx hb dX8_blockPowerOf_3 rfl (lv_at hl 0 rfl) ?_
  refine lv_aload_n hx hb dX8_blockPowerOf_4 rfl (lv_at hl 1 rfl) ?_
  obtain ⟨g3, h⟩ := oif_some h
  obtain ⟨r6, T4, eT4, h⟩ := obind2_some h
  refine q_cvi (As := [.ref (ad a0)]) (rest := [.int v2]) E G hA hX hN hml (u_X8_windowOf l hst D cI cJ cZ cMic cSrc cSt cAI cAJ ad T o a0 eT4) (cwV 1 hts (gaV qA_53 qA_54 qA_55 qA_47 qA_56) rfl rfl rfl (by decide +kernel) ⟨Nat.le_of_ble_eq_true rfl, Nat.le_of_ble_eq_true rfl⟩) (oO_k g3).1 (cc_o8 (oO_k g3).2) rfl rfl hl.1 rfl (lv_room (Nat.le_of_ble_eq_true rfl)) dX8_blockPowerOf_5 hcs (fun q7 T5 H locs hq G => ?_)
  obtain ⟨hq1, hq2⟩ := hq
  rw [hq2] at G
  refine lv_to hq1 ?_
  clear hq1 hq2
  have cp1 := cpr_sp cp0 (s_X8_windowOf eT4)
  refine va_mmin hx hb (hml.trans hl.1.symm) hown (hts _ (.tail _ qA_49)) (hts _ (.tail _ qA_50)) (hts _ (.tail _ qA_18)) (hts _ (.tail _ qA_51)) (Nat.le_of_ble_eq_true rfl) (Nat.le_of_ble_eq_true rfl) hcs.1 hcs.2 dX8_blockPowerOf_8 ?_
  refine lv_topi (fun v8 ev8 => ?_)
  have h := elet_at ev8 h
  clear ev8
  refine lv_istore (lv' := [(6, .int v8), (0, .ref (ad o)), (1, .ref (ad a0)), (2, .int a1), (3, .int a2), (4, .ref (ad a3)), (5, .int a4)]) hx hb dX8_blockPowerOf_11 hl (by decide) rfl (fun ls hl => ?_)
  refine lv_aload hx hb dX8_blockPowerOf_13 (lv_at hl 5 rfl) ?_
  refine lv_iload hx hb dX8_blockPowerOf_15 (lv_at hl 6 rfl) ?_
  obtain ⟨g9, h⟩ := oif_some h
  obtain ⟨T10, eT10, h⟩ := obind_some h
  refine q_cvv (As := [.int a4]) (rest := []) E G hA hX hN hml (u_X10_clear l hst D cI cJ cZ cMic cSrc cSt cAI cAJ ad T4 a3 a4 eT10) (cwV 1 hts (gaV qA_65 qA_66 qA_67 qA_6 qA_68) rfl rfl rfl (by decide +kernel) ⟨Nat.le_of_ble_eq_true rfl, Nat.le_of_ble_eq_true rfl⟩) (oO_k g9).1 (cc_o10 (oO_k g9).2) rfl rfl hl.1 rfl (lv_room (Nat.le_of_ble_eq_true rfl)) dX8_blockPowerOf_17 hcs (fun T11 H locs hq G => ?_)
  rw [hq] at G
  clear hq
  have cp2 := cpr_sp cp1 (s_X10_clear eT10)
  refine lv_iload_n hx hb dX8_blockPowerOf_20 rfl (lv_at hl 3 rfl) ?_
  refine lv_istore (lv' := [(7, .int a1), (6, .int v8), (0, .ref (ad o)), (1, .ref (ad a0)), (2, .int a1), (3, .int a2), (4, .ref (ad a3)), (5, .int a4)]) hx hb dX8_blockPowerOf_21 hl (by decide) rfl (fun ls hl => ?_)
  have hl := lv_sub hl [2, 3, 5, 6, 7, 1, 0] rfl
  refine w_cast (c2 := T10.1 - T.1) (s2 := sg T10 - sg T) (by rw [cp2.1] <;> rfl) (by rw [sg_cpr cp2] <;> rfl) ?_
  exact a_X8_blockPowerOf_b23 E hA hX hN hml hst (fun ad H locs ls had G => W.vret hx hb hr (fun t ht hW => ⟨⟨(T1, ad), rfl, ⟨rfl, had⟩, ⟨by rw [ht]; exact G.1, va_K.moved hW.alike hK, G.2.1⟩⟩, G.2.2.F ht⟩) G.2.2.2.2 dX8_blockPowerOf_68) _ _ _ _ _ _ _ _ _ _ _ _ _ h (gl_cpr hgl cp2) cp2.2.2 had (by rw [cp2.1]; exact h_o) (by rw [cp2.1]; exact h_a0) (by rw [cp2.1]; exact h_a3) G hl
def g_X0_measure_b41 (k3 : AT → Nat → Nat → Nat → Int32 → Int32 → Int32 → Int32 → Option (AT)) (T : AT) (l0 : Nat) (l1 : Nat) (l2 : Nat) (l3 : Int32) (l4 : Int32) (l5 : Int32) (l6 : Int32) : Option (AT) := elet (l6 + Int32.ofInt (1)) fun v2 => k3 T l0 l1 l2 l3 l4 l5 v2
def g_X0_measure_b3  : Nat → AT → Nat → Nat → Nat → Int32 → Int32 → Int32 → Int32 → Option (AT)
  | 0, _, _, _, _, _, _, _, _ => none
  | n + 1, T, l0, l1, l2, l3, l4, l5, l6 => oif (oO T l1 6 = true) <| obind (T.2.2.2.2 l1 6) fun n3 => oif (oO T n3 1 = true) <| obind2 (g_X1_cells T n3) fun r7 T5 => if r7 ≤ l6 then (some T5) else (oif (oO T5 l1 6 = true) <| obind (T5.2.2.2.2 l1 17) fun n11 => oif (aA T5 n11 106 = true) <| oif (inb l6 (T5.2.1 n11).2 = true) <| obind (T5.2.2.2.2 n11 l6.toNatClampNeg) fun n14 => oif (oO T5 l0 0 = true) <| obind (T5.2.2.2.2 l0 0) fun n16 => obind (g_X0_rowStart l5) fun r17 => elet (r17 + l6) fun v19 => oif (oO T5 l2 8 = true) <| obind (g_X8_blockPowerOf T5 l2 n14 l3 l4 n16 v19) fun T21 => g_X0_measure_b41 (g_X0_measure_b3 n) T21 l0 l1 l2 l3 l4 l5 l6)
def g_X0_measure (T : AT) (o : Nat) (a0 : Nat) (a1 : Nat) (a2 : Int32) (a3 : Int32) (a4 : Int32) : Option (AT) := g_X0_measure_b3 16384 T o a0 a1 a2 a3 a4 0
set_option maxHeartbeats 4000000 in
set_option maxRecDepth 100000 in
theorem s_X0_measure_b41 {T1 : AT} {k3 : AT → Nat → Nat → Nat → Int32 → Int32 → Int32 → Int32 → Option (AT)} (hk3 : ∀ (T : AT) (l0 : Nat) (l1 : Nat) (l2 : Nat) (l3 : Int32) (l4 : Int32) (l5 : Int32) (l6 : Int32), k3 T l0 l1 l2 l3 l4 l5 l6 = some T1 → GL T T1) : ∀ (T : AT) (l0 : Nat) (l1 : Nat) (l2 : Nat) (l3 : Int32) (l4 : Int32) (l5 : Int32) (l6 : Int32), g_X0_measure_b41 k3 T l0 l1 l2 l3 l4 l5 l6 = some T1 → GL T T1 := by
  intro T l0 l1 l2 l3 l4 l5 l6 h
  have p0 := GL.rf T
  unfold g_X0_measure_b41 at h
  obtain ⟨v2, ev2, h⟩ := elet_some h
  exact GL.tr p0 (hk3 _ _ _ _ _ _ _ _ h)
set_option maxHeartbeats 4000000 in
set_option maxRecDepth 100000 in
theorem s_X0_measure_b3 {T1 : AT} : ∀ n : Nat, ∀ (T : AT) (l0 : Nat) (l1 : Nat) (l2 : Nat) (l3 : Int32) (l4 : Int32) (l5 : Int32) (l6 : Int32), g_X0_measure_b3 n T l0 l1 l2 l3 l4 l5 l6 = some T1 → GL T T1 := by
  intro n
  induction n with
  | zero =>
    intro T l0 l1 l2 l3 l4 l5 l6 h
    have h : (none : Option (AT)) = some T1 := h
    cases h
  | succ n ih =>
    intro T l0 l1 l2 l3 l4 l5 l6 h
    have p0 := GL.rf T
    unfold g_X0_measure_b3 at h
    obtain ⟨g2, h⟩ := oif_some h
    obtain ⟨n3, en3, h⟩ := obind_some h
    obtain ⟨g4, h⟩ := oif_some h
    obtain ⟨r6, T5, eT5, h⟩ := obind2_some h
    have p1 : GL T T5 := GL.tr p0 (gl_sp (s_X1_cells eT5))
    rcases oif_or h with ⟨c7, h⟩ | ⟨c7, h⟩
    · have h := h
      rw [← osome1 h]
      exact p1
    · have h := h
      obtain ⟨g8, h⟩ := oif_some h
      obtain ⟨n9, en9, h⟩ := obind_some h
      obtain ⟨g10, h⟩ := oif_some h
      obtain ⟨g11, h⟩ := oif_some h
      obtain ⟨n12, en12, h⟩ := obind_some h
      obtain ⟨g13, h⟩ := oif_some h
      obtain ⟨n14, en14, h⟩ := obind_some h
      obtain ⟨r15, -, h⟩ := obind_some h
      obtain ⟨v16, -, h⟩ := elet_some h
      obtain ⟨g17, h⟩ := oif_some h
      obtain ⟨T18, eT18, h⟩ := obind_some h
      have p2 : GL T T18 := GL.tr p1 (s_X8_blockPowerOf eT18)
      exact GL.tr p2 (s_X0_measure_b41 ih _ _ _ _ _ _ _ _ h)
set_option maxHeartbeats 4000000 in
set_option maxRecDepth 100000 in
theorem s_X0_measure {T : AT} {o : Nat} {a0 : Nat} {a1 : Nat} {a2 : Int32} {a3 : Int32} {a4 : Int32} {T1 : AT} (h : g_X0_measure T o a0 a1 a2 a3 a4 = some T1) : GL T T1 := by
  have p0 := GL.rf T
  unfold g_X0_measure at h
  exact GL.tr p0 (s_X0_measure_b3 _ _ _ _ _ _ _ _ _ h)
set_option maxHeartbeats 4000000 in
set_option maxRecDepth 100000 in
theorem a_X0_measure_b41 {p : Program} {l : Launch} {e : Env} {s : State} {m : MethodId} {args : Array Value} {below : List Frame} {meth : Method} {c : Code} {Q : State → Prop} {D : va_G} {A : Nat → Prop} {cI cJ cZ cMic cSrc cSt cAI cAJ : ClassId} {ad0 : Nat → Nat} {T0 : AT} {T1 : AT} (E : cE p c cX0_measure s m args (Cond.code yX0_measure cX0_measure 7 none :: wsA) D RX0 (CT cI cJ cZ cMic cSrc cSt cAI cAJ)) (hA : ∀ q : Nat, s.heap.size ≤ q → A q) (hX : xT A s) (hN : nX s) (hml : c.maxLocals = 7) (hst : l.stackTraces = false) (kr47 : ∀ (ad : Nat → Nat) (H : Heap) (locs : List Loc) (ls : Array Slot), (∀ n, n < T0.1 → ad n = ad0 n) → gC cI cJ cZ cMic cSrc cSt cAI cAJ D ad A s.heap H locs T1 → W p l e { frames := 5, cells := T1.1 - T0.1, slots := sg T1 - sg T0, locals := 105 } s m args below meth c H locs (T1.1 - T0.1) (sg T1 - sg T0) Q (F0 m 47 ls [])) {k3 : AT → Nat → Nat → Nat → Int32 → Int32 → Int32 → Int32 → Option (AT)} (hs3 : ∀ (T : AT) (l0 : Nat) (l1 : Nat) (l2 : Nat) (l3 : Int32) (l4 : Int32) (l5 : Int32) (l6 : Int32), k3 T l0 l1 l2 l3 l4 l5 l6 = some T1 → GL T T1) (hk3 : ∀ (T : AT) (ad : Nat → Nat) (H : Heap) (locs : List Loc) (ls : Array Slot) (l0 : Nat) (l1 : Nat) (l2 : Nat) (l3 : Int32) (l4 : Int32) (l5 : Int32) (l6 : Int32), k3 T l0 l1 l2 l3 l4 l5 l6 = some T1 → GL T0 T → RC T → (∀ n, n < T0.1 → ad n = ad0 n) → l0 < T.1 → l1 < T.1 → l2 < T.1 → gC cI cJ cZ cMic cSrc cSt cAI cAJ D ad A s.heap H locs T → lv_has ls 7 [(0, .ref (ad l0)), (1, .ref (ad l1)), (2, .ref (ad l2)), (3, .int l3), (4, .int l4), (5, .int l5), (6, .int l6)] → W p l e { frames := 5, cells := T1.1 - T0.1, slots := sg T1 - sg T0, locals := 105 } s m args below meth c H locs (T.1 - T0.1) (sg T - sg T0) Q (F0 m 3 ls [])) : ∀ (T : AT) (ad : Nat → Nat) (H : Heap) (locs : List Loc) (ls : Array Slot) (l0 : Nat) (l1 : Nat) (l2 : Nat) (l3 : Int32) (l4 : Int32) (l5 : Int32) (l6 : Int32), g_X0_measure_b41 k3 T l0 l1 l2 l3 l4 l5 l6 = some T1 → GL T0 T → RC T → (∀ n, n < T0.1 → ad n = ad0 n) → l0 < T.1 → l1 < T.1 → l2 < T.1 → gC cI cJ cZ cMic cSrc cSt cAI cAJ D ad A s.heap H locs T → lv_has ls 7 [(0, .ref (ad l0)), (1, .ref (ad l1)), (2, .ref (ad l2)), (3, .int l3), (4, .int l4), (5, .int l5), (6, .int l6)] → W p l e { frames := 5, cells := T1.1 - T0.1, slots := sg T1 - sg T0, locals := 105 } s m args below meth c H locs (T.1 - T0.1) (sg T - sg T0) Q (F0 m 41 ls []) := by
  have hx := E.1
  have hb := E.2.1
  have hts := E.2.2.1
  have hown := E.2.2.2.1
  have hK := E.2.2.2.2
  intro T ad H locs ls l0 l1 l2 l3 l4 l5 l6 h hgl hrc had h_l0 h_l1 h_l2 G hl
  have hT1 := s_X0_measure_b41 hs3 _ _ _ _ _ _ _ _ h
  have hcs := cs_ok hgl hT1
  have cp0 := cpr0 hrc
  unfold g_X0_measure_b41 at h
  obtain ⟨v2, ev2, h⟩ := elet_some h
  refine lv_iinc (v := v2) (lv' := [(6, .int v2), (0, .ref (ad l0)), (1, .ref (ad l1)), (2, .ref (ad l2)), (3, .int l3), (4, .int l4), (5, .int l5)]) hx hb dX0_measure_41 hl (k := 6) rfl ev2.symm (by decide) rfl (fun ls hl => ?_)
  refine lv_goto (tgt := 3) hx hb dX0_measure_44 (by decide) ?_
  have hl := lv_sub hl [1, 2, 3, 4, 5, 6, 0] rfl
  refine w_cast (c2 := T.1 - T0.1) (s2 := sg T - sg T0) (by rw [cp0.1] <;> rfl) (by rw [sg_cpr cp0] <;> rfl) ?_
  exact hk3 _ _ _ _ _ _ _ _ _ _ _ _ h (gl_cpr hgl cp0) cp0.2.2 had (by rw [cp0.1]; exact h_l0) (by rw [cp0.1]; exact h_l1) (by rw [cp0.1]; exact h_l2) G hl
set_option maxHeartbeats 4000000 in
set_option maxRecDepth 100000 in
theorem a_X0_measure_b3 {p : Program} {l : Launch} {e : Env} {s : State} {m : MethodId} {args : Array Value} {below : List Frame} {meth : Method} {c : Code} {Q : State → Prop} {D : va_G} {A : Nat → Prop} {cI cJ cZ cMic cSrc cSt cAI cAJ : ClassId} {ad0 : Nat → Nat} {T0 : AT} {T1 : AT} (E : cE p c cX0_measure s m args (Cond.code yX0_measure cX0_measure 7 none :: wsA) D RX0 (CT cI cJ cZ cMic cSrc cSt cAI cAJ)) (hA : ∀ q : Nat, s.heap.size ≤ q → A q) (hX : xT A s) (hN : nX s) (hml : c.maxLocals = 7) (hst : l.stackTraces = false) (kr47 : ∀ (ad : Nat → Nat) (H : Heap) (locs : List Loc) (ls : Array Slot), (∀ n, n < T0.1 → ad n = ad0 n) → gC cI cJ cZ cMic cSrc cSt cAI cAJ D ad A s.heap H locs T1 → W p l e { frames := 5, cells := T1.1 - T0.1, slots := sg T1 - sg T0, locals := 105 } s m args below meth c H locs (T1.1 - T0.1) (sg T1 - sg T0) Q (F0 m 47 ls [])) : ∀ n : Nat, ∀ (T : AT) (ad : Nat → Nat) (H : Heap) (locs : List Loc) (ls : Array Slot) (l0 : Nat) (l1 : Nat) (l2 : Nat) (l3 : Int32) (l4 : Int32) (l5 : Int32) (l6 : Int32), g_X0_measure_b3 n T l0 l1 l2 l3 l4 l5 l6 = some T1 → GL T0 T → RC T → (∀ n, n < T0.1 → ad n = ad0 n) → l0 < T.1 → l1 < T.1 → l2 < T.1 → gC cI cJ cZ cMic cSrc cSt cAI cAJ D ad A s.heap H locs T → lv_has ls 7 [(0, .ref (ad l0)), (1, .ref (ad l1)), (2, .ref (ad l2)), (3, .int l3), (4, .int l4), (5, .int l5), (6, .int l6)] → W p l e { frames := 5, cells := T1.1 - T0.1, slots := sg T1 - sg T0, locals := 105 } s m args below meth c H locs (T.1 - T0.1) (sg T - sg T0) Q (F0 m 3 ls []) := by
  have hx := E.1
  have hb := E.2.1
  have hts := E.2.2.1
  have hown := E.2.2.2.1
  have hK := E.2.2.2.2
  intro n
  induction n with
  | zero =>
    intro T ad H locs ls l0 l1 l2 l3 l4 l5 l6 h
    have h : (none : Option (AT)) = some T1 := h
    cases h
  | succ n ih =>
    intro T ad H locs ls l0 l1 l2 l3 l4 l5 l6 h hgl hrc had h_l0 h_l1 h_l2 G hl
    have hT1 := s_X0_measure_b3 _ _ _ _ _ _ _ _ _ h
    have hcs := cs_ok hgl hT1
    have cp0 := cpr0 hrc
    unfold g_X0_measure_b3 at h
    refine lv_iload hx hb dX0_measure_3 (lv_at hl 6 rfl) ?_
    refine lv_aload_n hx hb dX0_measure_5 rfl (lv_at hl 1 rfl) ?_
    obtain ⟨g2, h⟩ := oif_some h
    obtain ⟨n3, en3, h⟩ := obind_some h
    have h_n3 : n3 < T.1 := by rw [← cp0.1]; exact cp0.2.2 _ _ _ en3
    refine c_get E G l1 6 (v := .ref (ad n3)) (oO_k g2).1 (cc_o6 (oO_k g2).2) rfl (fun w h => .tail _ (iA_14 h)) (by decide) (.tail _ qA_22) rfl (by rw [en3]; rfl) dX0_measure_6 ?_
    clear en3
    obtain ⟨g4, h⟩ := oif_some h
    obtain ⟨r7, T5, eT5, h⟩ := obind2_some h
    refine q_cvi (As := []) (rest := [.int l6]) E G hA hX hN hml (u_X1_cells l hst D cI cJ cZ cMic cSrc cSt cAI cAJ ad T n3 eT5) (cwV 0 hts (gaV qA_34 qA_35 qA_36 qA_37 qA_38) rfl rfl rfl (by decide +kernel) ⟨Nat.le_of_ble_eq_true rfl, Nat.le_of_ble_eq_true rfl⟩) (oO_k g4).1 (cc_o1 (oO_k g4).2) rfl rfl hl.1 rfl (lv_room (Nat.le_of_ble_eq_true rfl)) dX0_measure_9 hcs (fun q8 T6 H locs hq G => ?_)
    obtain ⟨hq1, hq2⟩ := hq
    rw [hq2] at G
    refine lv_to hq1 ?_
    clear hq1 hq2
    have cp1 := cpr_sp cp0 (s_X1_cells eT5)
    refine lv_icmp_ge (tgt := 47) hx hb dX0_measure_12 (by decide) (fun c9 => ?_) (fun c9 => ?_)
    · have h := oif_pos c9 h
      rw [osome1 h] at G
      refine w_cast (c2 := T1.1 - T0.1) (s2 := sg T1 - sg T0) (by rw [← osome1 h, cp1.1] <;> rfl) (by rw [← osome1 h, sg_cpr cp1] <;> rfl) ?_
      exact kr47 ad _ _ _ had G
    · have h := oif_neg c9 h
      refine lv_aload_n hx hb dX0_measure_15 rfl (lv_at hl 2 rfl) ?_
      refine lv_aload_n hx hb dX0_measure_16 rfl (lv_at hl 1 rfl) ?_
      obtain ⟨g10, h⟩ := oif_some h
      obtain ⟨n11, en11, h⟩ := obind_some h
      have h_n11 : n11 < T.1 := by rw [← cp1.1]; exact cp1.2.2 _ _ _ en11
      refine c_get E G l1 17 (v := .ref (ad n11)) (oO_k g10).1 (cc_o6 (oO_k g10).2) rfl (fun w h => .tail _ (iA_14 h)) (by decide) (.tail _ qA_33) rfl (by rw [en11]; rfl) dX0_measure_17 ?_
      clear en11
      refine lv_iload hx hb dX0_measure_20 (lv_at hl 6 rfl) ?_
      obtain ⟨g12, h⟩ := oif_some h
      obtain ⟨g13, h⟩ := oif_some h
      obtain ⟨n14, en14, h⟩ := obind_some h
      have h_n14 : n14 < T.1 := by rw [← cp1.1]; exact cp1.2.2 _ _ _ en14
      refine c_alda E G n11 6 (k := l6.toNatClampNeg) (v := .ref (ad n14)) (aA_k g12).1 (cc_a106 (aA_k g12).2.1) rfl (inb_k g13).1 (inb_k g13).2 (aA_k g12).2.2 (by show va_rf ((T5.2.2.2.2 n11 l6.toNatClampNeg).map ad) = _; rw [en14]; rfl) dX0_measure_22 ?_
      clear en14
      refine lv_iload_n hx hb dX0_measure_23 rfl (lv_at hl 3 rfl) ?_
      refine lv_iload hx hb dX0_measure_24 (lv_at hl 4 rfl) ?_
      refine lv_aload_n hx hb dX0_measure_26 rfl (lv_at hl 0 rfl) ?_
      obtain ⟨g15, h⟩ := oif_some h
      obtain ⟨n16, en16, h⟩ := obind_some h
      have h_n16 : n16 < T.1 := by rw [← cp1.1]; exact cp1.2.2 _ _ _ en16
      refine c_get E G l0 0 (v := .ref (ad n16)) (oO_k g15).1 (cc_o0 (oO_k g15).2) rfl (fun w h => .tail _ (iA_13 h)) (by decide) (.tail _ qA_7) rfl (by rw [en16]; rfl) dX0_measure_27 ?_
      clear en16
      refine lv_iload hx hb dX0_measure_30 (lv_at hl 5 rfl) ?_
      obtain ⟨r17, er17, h⟩ := obind_some h
      refine q_sti (As := [.int l5]) (rest := [.ref (ad n16), .int l4, .int l3, .ref (ad n14), .ref (ad l2)]) ⟨hx, hb, hml, hown, hts⟩ hN (u_X0_rowStart l l5 er17) (cwS 1 hts (gaS qA_41 qA_42 qA_31 qA_43) rfl rfl rfl (by decide +kernel) ⟨Nat.le_of_ble_eq_true rfl, Nat.le_of_ble_eq_true rfl⟩) rfl hl.1 rfl (lv_room (Nat.le_of_ble_eq_true rfl)) dX0_measure_32 hcs (fun q18 hq => ?_)
      refine lv_to hq ?_
      clear hq er17
      refine lv_iload hx hb dX0_measure_35 (lv_at hl 6 rfl) ?_
      refine lv_iadd hx hb dX0_measure_37 ?_
      refine lv_topi (fun v19 ev19 => ?_)
      have h := elet_at ev19 h
      clear ev19
      obtain ⟨g20, h⟩ := oif_some h
      obtain ⟨T21, eT21, h⟩ := obind_some h
      have hg2 := s_X8_blockPowerOf eT21
      have hrc2 := hg2.2.2 cp1.2.2
      have hT2 := s_X0_measure_b41 (s_X0_measure_b3 n) _ _ _ _ _ _ _ _ h
      refine q_avv (As := [.ref (ad n14), .int l3, .int l4, .ref (ad n16), .int v19]) (rest := []) E G hA hX hN hml (a_X8_blockPowerOf l hst D cI cJ cZ cMic cSrc cSt cAI cAJ ad T5 l2 n14 l3 l4 n16 v19 eT21 cp1.2.2 (by rw [cp1.1]; exact h_l2) (by rw [cp1.1]; exact h_n14) (by rw [cp1.1]; exact h_n16)) (cwV 5 hts (gaV qA_44 qA_45 qA_46 qA_47 qA_48) rfl rfl rfl (by decide +kernel) ⟨Nat.le_of_ble_eq_true rfl, Nat.le_of_ble_eq_true rfl⟩) (oO_k g20).1 (cc_o8 (oO_k g20).2) rfl rfl hl.1 rfl (lv_room (Nat.le_of_ble_eq_true rfl)) dX0_measure_38 (cs_av hgl cp1 hg2 hT2) (fun ad2 H locs hga G => ?_)
      refine w_cast (c2 := T21.1 - T0.1) (s2 := sg T21 - sg T0) (cs_f1 hgl cp1 hg2) (cs_f2 hgl cp1 hg2) ?_
      have hl := lv_sub hl [0, 1, 2, 3, 4, 5, 6] rfl
      rw [show ad l0 = ad2 l0 from (hga l0 (by rw [cp1.1]; exact h_l0)).symm] at hl
      rw [show ad l1 = ad2 l1 from (hga l1 (by rw [cp1.1]; exact h_l1)).symm] at hl
      rw [show ad l2 = ad2 l2 from (hga l2 (by rw [cp1.1]; exact h_l2)).symm] at hl
      exact a_X0_measure_b41 E hA hX hN hml hst kr47 (s_X0_measure_b3 n) ih _ _ _ _ _ _ _ _ _ _ _ _ h (GL.tr (gl_cpr hgl cp1) hg2) hrc2 (fun n hn => (hga n (by rw [cp1.1]; exact Nat.lt_of_lt_of_le hn hgl.1)).trans (had n hn)) (Nat.lt_of_lt_of_le (by rw [cp1.1]; exact h_l0) hg2.1) (Nat.lt_of_lt_of_le (by rw [cp1.1]; exact h_l1) hg2.1) (Nat.lt_of_lt_of_le (by rw [cp1.1]; exact h_l2) hg2.1) G hl
set_option maxHeartbeats 4000000 in
set_option maxRecDepth 100000 in
theorem a_X0_measure (l : Launch) (hst : l.stackTraces = false) (D : va_G) (cI cJ cZ cMic cSrc cSt cAI cAJ : ClassId) (ad : Nat → Nat) (T : AT) (o : Nat) (a0 : Nat) (a1 : Nat) (a2 : Int32) (a3 : Int32) (a4 : Int32) {T1 : AT} (h : g_X0_measure T o a0 a1 a2 a3 a4 = some T1) (hrc : RC T) (h_o : o < T.1) (h_a0 : a0 < T.1) (h_a1 : a1 < T.1) : kAv l yX0_measure (Cond.code yX0_measure cX0_measure 7 none :: wsA) 5 105 cI cJ cZ cMic cSrc cSt cAI cAJ D ad T [.ref (ad o), .ref (ad a0), .ref (ad a1), .int a2, .int a3, .int a4] T1 := by
  intro sz
  refine pro_in (cc := cX0_measure) (maxL := 7) (ret := none) (by exact pn_RX0) rfl (by exact Nat.le_of_ble_eq_true rfl) (fun p e s m below meth c ls hx hb hr hts hown hlocks hml hv hl => ?_)
  obtain ⟨hsz, hP, hK, hD0, hX, hN⟩ := hv
  subst hsz
  have hD := hD0.self (sz := s.heap.size)
  generalize hAe : va_A (cW ad T.1 (cc cI cJ cZ cMic cSrc cSt cAI cAJ ad T)) s.heap.size = A at hD hX ⊢
  have hA : ∀ q : Nat, s.heap.size ≤ q → A q := fun q h => by rw [← hAe]; exact Or.inr h
  have G : gC cI cJ cZ cMic cSrc cSt cAI cAJ D ad A s.heap s.heap [] T := ⟨hP, hD, va_S.rf⟩
  have E : cE p c cX0_measure s m ([.ref (ad o), .ref (ad a0), .ref (ad a1), .int a2, .int a3, .int a4] : List Value).toArray (Cond.code yX0_measure cX0_measure 7 none :: wsA) D RX0 (CT cI cJ cZ cMic cSrc cSt cAI cAJ) := ⟨hx, hb, hts, hown, hK⟩
  have hl : lv_has ls 7 [(0, .ref (ad o)), (1, .ref (ad a0)), (2, .ref (ad a1)), (3, .int a2), (4, .int a3), (5, .int a4)] := hl
  have hgl := GL.rf T
  have had : ∀ n, n < T.1 → ad n = ad n := fun _ _ => rfl
  have hT1 := s_X0_measure h
  have hcs := cs_ok hgl hT1
  refine w_cast (Nat.sub_self T.1).symm (Nat.sub_self (sg T)).symm ?_
  have cp0 := cpr0 hrc
  unfold g_X0_measure at h
  refine lv_iconst (v := 0) hx hb dX0_measure_0 (by decide) ?_
  refine lv_istore (lv' := [(6, .int 0), (0, .ref (ad o)), (1, .ref (ad a0)), (2, .ref (ad a1)), (3, .int a2), (4, .int a3), (5, .int a4)]) hx hb dX0_measure_1 hl (by decide) rfl (fun ls hl => ?_)
  have hl := lv_sub hl [1, 2, 3, 4, 5, 6, 0] rfl
  refine w_cast (c2 := T.1 - T.1) (s2 := sg T - sg T) (by rw [cp0.1] <;> rfl) (by rw [sg_cpr cp0] <;> rfl) ?_
  exact a_X0_measure_b3 E hA hX hN hml hst (fun ad H locs ls had G => W.vret hx hb hr (fun t ht hW => ⟨⟨(T1, ad), rfl, ⟨rfl, had⟩, ⟨by rw [ht]; exact G.1, va_K.moved hW.alike hK, G.2.1⟩⟩, G.2.2.F ht⟩) G.2.2.2.2 dX0_measure_47) _ _ _ _ _ _ _ _ _ _ _ _ _ h (gl_cpr hgl cp0) cp0.2.2 had (by rw [cp0.1]; exact h_o) (by rw [cp0.1]; exact h_a0) (by rw [cp0.1]; exact h_a1) G hl
def g_J13_compare_74951_b21   (s0 : Int32) : Option (Int32) := some s0
set_option maxHeartbeats 4000000 in
set_option maxRecDepth 100000 in
theorem u_J13_compare_74951_b21 {p : Program} {l : Launch} {e : Env} {s : State} {m : MethodId} {args : Array Value} {below : List Frame} {meth : Method} {c : Code} {Q : State → Prop} {r1 : Int32}  (E : p.tables.exec = Jvm.exec ∧ c.code = cJ13_compare_74951 ∧ (∀ w ∈ (Cond.code yJ13_compare_74951 cJ13_compare_74951 4 (some .int) :: wsA), w.before args s = true) ∧ s.vm.findClass RJ13 = some m.cls) (hN : nX s) (hml : c.maxLocals = 4) (kr21 : ∀ (ls : Array Slot), W p l e { frames := 1, cells := 0, slots := 0, locals := 0 } s m args below meth c s.heap [] 0 0 Q (F0 m 21 ls [.int r1])) : ∀ (ls : Array Slot) (s0 : Int32), g_J13_compare_74951_b21 s0 = some r1 → lv_has ls 4 [] → W p l e { frames := 1, cells := 0, slots := 0, locals := 0 } s m args below meth c s.heap [] 0 0 Q (F0 m 21 ls [.int s0]) := by
  have hx := E.1
  have hb := E.2.1
  have hts := E.2.2.1
  have hown := E.2.2.2
  intro ls s0 h hl
  unfold g_J13_compare_74951_b21 at h
  refine lv_to (osome1 h) ?_
  exact kr21 _
def g_J13_compare_74951  (a0 : Int64) (a1 : Int64) : Option (Int32) := elet (lg_cmp a0 a1) fun v2 => if 0 ≤ v2 then (elet (lg_cmp a0 a1) fun v4 => if v4 = 0 then (g_J13_compare_74951_b21 0) else (g_J13_compare_74951_b21 1)) else (g_J13_compare_74951_b21 (-1))
set_option maxHeartbeats 4000000 in
set_option maxRecDepth 100000 in
theorem u_J13_compare_74951 (l : Launch) (a0 : Int64) (a1 : Int64) {r1 : Int32} (h : g_J13_compare_74951 a0 a1 = some r1) : Met l yJ13_compare_74951 (Cond.code yJ13_compare_74951 cJ13_compare_74951 4 (some .int) :: wsA) { frames := 1, cells := 0, slots := 0, locals := 0 } (va_Pc [.long a0, .long a1] nX) (vp_Si (fun r => r = r1)) 0 0 (fun _ => False) := by
  refine pro_in (cc := cJ13_compare_74951) (maxL := 4) (ret := (some .int)) (by exact pn_RJ13) rfl (by exact Nat.le_of_ble_eq_true rfl) (fun p e s m below meth c ls hx hb hr hts hown hlocks hml hv hl => ?_)
  have hN := hv
  have E : p.tables.exec = Jvm.exec ∧ c.code = cJ13_compare_74951 ∧ (∀ w ∈ (Cond.code yJ13_compare_74951 cJ13_compare_74951 4 (some .int) :: wsA), w.before ([.long a0, .long a1] : List Value).toArray s = true) ∧ s.vm.findClass RJ13 = some m.cls := ⟨hx, hb, hts, hown⟩
  have hl : lv_has ls 4 [(0, .long a0), (2, .long a1)] := hl
  unfold g_J13_compare_74951 at h
  refine lv_lload_n hx hb dJ13_compare_74951_0 rfl (lv_at hl 0 rfl) ?_
  refine lv_lload_n hx hb dJ13_compare_74951_1 rfl (lv_at hl 1 rfl) ?_
  refine W.lcmp hx hb dJ13_compare_74951_2 ?_
  refine lv_topi (fun v2 ev2 => ?_)
  have h := elet_at ev2 h
  clear ev2
  refine lv_if_ge (tgt := 10) hx hb dJ13_compare_74951_3 (by decide) (fun c3 => ?_) (fun c3 => ?_)
  · have h := oif_pos c3 h
    refine lv_lload_n hx hb dJ13_compare_74951_10 rfl (lv_at hl 0 rfl) ?_
    refine lv_lload_n hx hb dJ13_compare_74951_11 rfl (lv_at hl 1 rfl) ?_
    refine W.lcmp hx hb dJ13_compare_74951_12 ?_
    refine lv_topi (fun v4 ev4 => ?_)
    have h := elet_at ev4 h
    clear ev4
    refine lv_if_ne (tgt := 20) hx hb dJ13_compare_74951_13 (by decide) (fun c5 => ?_) (fun c5 => ?_)
    · have h := oif_neg c5 h
      refine lv_iconst (v := 1) hx hb dJ13_compare_74951_20 (by decide) ?_
      have hl := lv_sub hl [] rfl
      exact u_J13_compare_74951_b21 E hN hml (fun ls => W.iret (v := r1) hx hb hr (fun t ht hW => ⟨r1, rfl, rfl, ht⟩) (fun _ h => absurd h List.not_mem_nil) dJ13_compare_74951_21) _ _ h hl
    · have h := oif_pos c5 h
      refine lv_iconst (v := 0) hx hb dJ13_compare_74951_16 (by decide) ?_
      refine lv_goto (tgt := 21) hx hb dJ13_compare_74951_17 (by decide) ?_
      have hl := lv_sub hl [] rfl
      exact u_J13_compare_74951_b21 E hN hml (fun ls => W.iret (v := r1) hx hb hr (fun t ht hW => ⟨r1, rfl, rfl, ht⟩) (fun _ h => absurd h List.not_mem_nil) dJ13_compare_74951_21) _ _ h hl
  · have h := oif_neg c3 h
    refine lv_iconst (v := (-1)) hx hb dJ13_compare_74951_6 (by decide) ?_
    refine lv_goto (tgt := 21) hx hb dJ13_compare_74951_7 (by decide) ?_
    have hl := lv_sub hl [] rfl
    exact u_J13_compare_74951_b21 E hN hml (fun ls => W.iret (v := r1) hx hb hr (fun t ht hW => ⟨r1, rfl, rfl, ht⟩) (fun _ h => absurd h List.not_mem_nil) dJ13_compare_74951_21) _ _ h hl
def g_X10_compare_b47  (T : AT) (l3 : Int32) : Option (Int32 × AT) := some (l3, T)
set_option maxHeartbeats 4000000 in
set_option maxRecDepth 100000 in
theorem u_X10_compare_b47 {p : Program} {l : Launch} {e : Env} {s : State} {m : MethodId} {args : Array Value} {below : List Frame} {meth : Method} {c : Code} {Q : State → Prop} {D : va_G} {A : Nat → Prop} {cI cJ cZ cMic cSrc cSt cAI cAJ : ClassId} {ad : Nat → Nat} {r1 : Int32} {T1 : AT} (E : cE p c cX10_compare s m args (Cond.code yX10_compare cX10_compare 5 (some .int) :: wsA) D RX10 (CT cI cJ cZ cMic cSrc cSt cAI cAJ)) (hA : ∀ q : Nat, s.heap.size ≤ q → A q) (hX : xT A s) (hN : nX s) (hml : c.maxLocals = 5) (hst : l.stackTraces = false) (kr48 : ∀ (H : Heap) (locs : List Loc) (ls : Array Slot), gC cI cJ cZ cMic cSrc cSt cAI cAJ D ad A s.heap H locs T1 → W p l e { frames := 2, cells := 0, slots := 0, locals := 23 } s m args below meth c H locs 0 0 Q (F0 m 48 ls [.int r1])) : ∀ (T : AT) (H : Heap) (locs : List Loc) (ls : Array Slot) (l3 : Int32), g_X10_compare_b47 T l3 = some (r1, T1) → gC cI cJ cZ cMic cSrc cSt cAI cAJ D ad A s.heap H locs T → lv_has ls 5 [(3, .int l3)] → W p l e { frames := 2, cells := 0, slots := 0, locals := 23 } s m args below meth c H locs 0 0 Q (F0 m 47 ls []) := by
  have hx := E.1
  have hb := E.2.1
  have hts := E.2.2.1
  have hown := E.2.2.2.1
  have hK := E.2.2.2.2
  intro T H locs ls l3 h G hl
  unfold g_X10_compare_b47 at h
  refine lv_iload_n hx hb dX10_compare_47 rfl (lv_at hl 0 rfl) ?_
  rw [(osome2 h).2] at G
  refine lv_to (osome2 h).1 ?_
  exact kr48 _ _ _ G
def g_X10_compare_b10  : Nat → AT → Nat → Int32 → Int32 → Int32 → Int32 → Option (Int32 × AT)
  | 0, _, _, _, _, _, _ => none
  | n + 1, T, l0, l1, l2, l3, l4 => if l4 < 0 then (g_X10_compare_b47 T l3) else (if l3 = 0 then (oif (oO T l0 10 = true) <| obind (T.2.2.2.2 l0 1) fun n5 => oif (aA T n5 107 = true) <| oif (inb l4 (T.2.1 n5).2 = true) <| obind (T.2.2.2.2 n5 l4.toNatClampNeg) fun n8 => oif (aA T n8 101 = true) <| oif (inb l1 (T.2.1 n8).2 = true) <| elet (T.2.2.2.1 n8 l1.toNatClampNeg) fun v11 => oif (oO T l0 10 = true) <| obind (T.2.2.2.2 l0 1) fun n13 => oif (aA T n13 107 = true) <| oif (inb l4 (T.2.1 n13).2 = true) <| obind (T.2.2.2.2 n13 l4.toNatClampNeg) fun n16 => oif (aA T n16 101 = true) <| oif (inb l2 (T.2.1 n16).2 = true) <| elet (T.2.2.2.1 n16 l2.toNatClampNeg) fun v19 => obind (g_J13_compare_74951 v11 v19) fun r20 => elet (l4 + Int32.ofInt (-1)) fun v22 => g_X10_compare_b10 n T l0 l1 l2 r20 v22) else (g_X10_compare_b47 T l3))
set_option maxHeartbeats 4000000 in
set_option maxRecDepth 100000 in
theorem u_X10_compare_b10 {p : Program} {l : Launch} {e : Env} {s : State} {m : MethodId} {args : Array Value} {below : List Frame} {meth : Method} {c : Code} {Q : State → Prop} {D : va_G} {A : Nat → Prop} {cI cJ cZ cMic cSrc cSt cAI cAJ : ClassId} {ad : Nat → Nat} {r1 : Int32} {T1 : AT} (E : cE p c cX10_compare s m args (Cond.code yX10_compare cX10_compare 5 (some .int) :: wsA) D RX10 (CT cI cJ cZ cMic cSrc cSt cAI cAJ)) (hA : ∀ q : Nat, s.heap.size ≤ q → A q) (hX : xT A s) (hN : nX s) (hml : c.maxLocals = 5) (hst : l.stackTraces = false) (kr48 : ∀ (H : Heap) (locs : List Loc) (ls : Array Slot), gC cI cJ cZ cMic cSrc cSt cAI cAJ D ad A s.heap H locs T1 → W p l e { frames := 2, cells := 0, slots := 0, locals := 23 } s m args below meth c H locs 0 0 Q (F0 m 48 ls [.int r1])) : ∀ n : Nat, ∀ (T : AT) (H : Heap) (locs : List Loc) (ls : Array Slot) (l0 : Nat) (l1 : Int32) (l2 : Int32) (l3 : Int32) (l4 : Int32), g_X10_compare_b10 n T l0 l1 l2 l3 l4 = some (r1, T1) → gC cI cJ cZ cMic cSrc cSt cAI cAJ D ad A s.heap H locs T → lv_has ls 5 [(0, .ref (ad l0)), (1, .int l1), (2, .int l2), (3, .int l3), (4, .int l4)] → W p l e { frames := 2, cells := 0, slots := 0, locals := 23 } s m args below meth c H locs 0 0 Q (F0 m 10 ls []) := by
  have hx := E.1
  have hb := E.2.1
  have hts := E.2.2.1
  have hown := E.2.2.2.1
  have hK := E.2.2.2.2
  intro n
  induction n with
  | zero =>
    intro T H locs ls l0 l1 l2 l3 l4 h
    have h : (none : Option (Int32 × AT)) = some (r1, T1) := h
    cases h
  | succ n ih =>
    intro T H locs ls l0 l1 l2 l3 l4 h G hl
    unfold g_X10_compare_b10 at h
    refine lv_iload hx hb dX10_compare_10 (lv_at hl 4 rfl) ?_
    refine lv_if_lt (tgt := 47) hx hb dX10_compare_12 (by decide) (fun c2 => ?_) (fun c2 => ?_)
    · have h := oif_pos c2 h
      have hl := lv_sub hl [3] rfl
      exact u_X10_compare_b47 E hA hX hN hml hst kr48 _ _ _ _ _ h G hl
    · have h := oif_neg c2 h
      refine lv_iload_n hx hb dX10_compare_15 rfl (lv_at hl 3 rfl) ?_
      refine lv_if_ne (tgt := 47) hx hb dX10_compare_16 (by decide) (fun c3 => ?_) (fun c3 => ?_)
      · have h := oif_neg c3 h
        have hl := lv_sub hl [3] rfl
        exact u_X10_compare_b47 E hA hX hN hml hst kr48 _ _ _ _ _ h G hl
      · have h := oif_pos c3 h
        refine lv_aload_n hx hb dX10_compare_19 rfl (lv_at hl 0 rfl) ?_
        obtain ⟨g4, h⟩ := oif_some h
        obtain ⟨n5, en5, h⟩ := obind_some h
        refine c_get E G l0 1 (v := .ref (ad n5)) (oO_k g4).1 (cc_o10 (oO_k g4).2) rfl (fun w h => .tail _ (iA_12 h)) (by decide) (.tail _ qA_14) rfl (by rw [en5]; rfl) dX10_compare_20 ?_
        clear en5
        refine lv_iload hx hb dX10_compare_23 (lv_at hl 4 rfl) ?_
        obtain ⟨g6, h⟩ := oif_some h
        obtain ⟨g7, h⟩ := oif_some h
        obtain ⟨n8, en8, h⟩ := obind_some h
        refine c_alda E G n5 7 (k := l4.toNatClampNeg) (v := .ref (ad n8)) (aA_k g6).1 (cc_a107 (aA_k g6).2.1) rfl (inb_k g7).1 (inb_k g7).2 (aA_k g6).2.2 (by show va_rf ((T.2.2.2.2 n5 l4.toNatClampNeg).map ad) = _; rw [en8]; rfl) dX10_compare_25 ?_
        clear en8
        refine lv_iload_n hx hb dX10_compare_26 rfl (lv_at hl 1 rfl) ?_
        obtain ⟨g9, h⟩ := oif_some h
        obtain ⟨g10, h⟩ := oif_some h
        refine c_lald E G n8 1 (k := l1.toNatClampNeg) (aA_k g9).1 (cc_a101 (aA_k g9).2.1) rfl (inb_k g10).1 (inb_k g10).2 (aA_k g9).2.2 dX10_compare_27 ?_
        refine lv_topl (fun v11 ev11 => ?_)
        have h := elet_at ev11 h
        clear ev11
        refine lv_aload_n hx hb dX10_compare_28 rfl (lv_at hl 0 rfl) ?_
        obtain ⟨g12, h⟩ := oif_some h
        obtain ⟨n13, en13, h⟩ := obind_some h
        refine c_get E G l0 1 (v := .ref (ad n13)) (oO_k g12).1 (cc_o10 (oO_k g12).2) rfl (fun w h => .tail _ (iA_12 h)) (by decide) (.tail _ qA_14) rfl (by rw [en13]; rfl) dX10_compare_29 ?_
        clear en13
        refine lv_iload hx hb dX10_compare_32 (lv_at hl 4 rfl) ?_
        obtain ⟨g14, h⟩ := oif_some h
        obtain ⟨g15, h⟩ := oif_some h
        obtain ⟨n16, en16, h⟩ := obind_some h
        refine c_alda E G n13 7 (k := l4.toNatClampNeg) (v := .ref (ad n16)) (aA_k g14).1 (cc_a107 (aA_k g14).2.1) rfl (inb_k g15).1 (inb_k g15).2 (aA_k g14).2.2 (by show va_rf ((T.2.2.2.2 n13 l4.toNatClampNeg).map ad) = _; rw [en16]; rfl) dX10_compare_34 ?_
        clear en16
        refine lv_iload_n hx hb dX10_compare_35 rfl (lv_at hl 2 rfl) ?_
        obtain ⟨g17, h⟩ := oif_some h
        obtain ⟨g18, h⟩ := oif_some h
        refine c_lald E G n16 1 (k := l2.toNatClampNeg) (aA_k g17).1 (cc_a101 (aA_k g17).2.1) rfl (inb_k g18).1 (inb_k g18).2 (aA_k g17).2.2 dX10_compare_36 ?_
        refine lv_topl (fun v19 ev19 => ?_)
        have h := elet_at ev19 h
        clear ev19
        obtain ⟨r20, er20, h⟩ := obind_some h
        refine q_sti (As := [.long v11, .long v19]) (rest := []) ⟨hx, hb, hml, hown, hts⟩ hN (u_J13_compare_74951 l v11 v19 er20) ⟨callB_of 2 hts (gaC qA_126) rfl rfl rfl (hts _ (.tail _ qA_125)) (hts _ (.tail _ qA_123)) (by decide +kernel) ⟨Nat.le_of_ble_eq_true rfl, Nat.le_of_ble_eq_true rfl⟩, hts _ (.tail _ qA_124)⟩ rfl hl.1 rfl (lv_room (Nat.le_of_ble_eq_true rfl)) dX10_compare_37 ⟨Nat.zero_le _, Nat.zero_le _⟩ (fun q21 hq => ?_)
        refine lv_to hq ?_
        clear hq er20
        refine lv_istore_n (lv' := [(3, .int r20), (0, .ref (ad l0)), (1, .int l1), (2, .int l2), (4, .int l4)]) hx hb dX10_compare_40 rfl hl (by decide) rfl (fun ls hl => ?_)
        obtain ⟨v22, ev22, h⟩ := elet_some h
        refine lv_iinc (v := v22) (lv' := [(4, .int v22), (3, .int r20), (0, .ref (ad l0)), (1, .int l1), (2, .int l2)]) hx hb dX10_compare_41 hl (k := 4) rfl ev22.symm (by decide) rfl (fun ls hl => ?_)
        refine lv_goto (tgt := 10) hx hb dX10_compare_44 (by decide) ?_
        have hl := lv_sub hl [2, 3, 4, 1, 0] rfl
        exact ih _ _ _ _ _ _ _ _ _ h G hl
def g_X10_compare (T : AT) (o : Nat) (a0 : Int32) (a1 : Int32) : Option (Int32 × AT) := oif (oO T o 10 = true) <| elet (T.2.2.1 o 2) fun v3 => elet (v3 - 1) fun v4 => g_X10_compare_b10 16384 T o a0 a1 0 v4
set_option maxHeartbeats 4000000 in
set_option maxRecDepth 100000 in
theorem u_X10_compare (l : Launch) (hst : l.stackTraces = false) (D : va_G) (cI cJ cZ cMic cSrc cSt cAI cAJ : ClassId) (ad : Nat → Nat) (T : AT) (o : Nat) (a0 : Int32) (a1 : Int32) {r1 : Int32} {T1 : AT} (h : g_X10_compare T o a0 a1 = some (r1, T1)) : kCi l yX10_compare (Cond.code yX10_compare cX10_compare 5 (some .int) :: wsA) 2 23 cI cJ cZ cMic cSrc cSt cAI cAJ D ad T [.ref (ad o), .int a0, .int a1] (fun r T9 => r = r1 ∧ T9 = T1) := by
  intro sz
  refine pro_in (cc := cX10_compare) (maxL := 5) (ret := (some .int)) (by exact pn_RX10) rfl (by exact Nat.le_of_ble_eq_true rfl) (fun p e s m below meth c ls hx hb hr hts hown hlocks hml hv hl => ?_)
  obtain ⟨hsz, hP, hK, hD0, hX, hN⟩ := hv
  subst hsz
  have hD := hD0.self (sz := s.heap.size)
  generalize hAe : va_A (cW ad T.1 (cc cI cJ cZ cMic cSrc cSt cAI cAJ ad T)) s.heap.size = A at hD hX ⊢
  have hA : ∀ q : Nat, s.heap.size ≤ q → A q := fun q h => by rw [← hAe]; exact Or.inr h
  have G : gC cI cJ cZ cMic cSrc cSt cAI cAJ D ad A s.heap s.heap [] T := ⟨hP, hD, va_S.rf⟩
  have E : cE p c cX10_compare s m ([.ref (ad o), .int a0, .int a1] : List Value).toArray (Cond.code yX10_compare cX10_compare 5 (some .int) :: wsA) D RX10 (CT cI cJ cZ cMic cSrc cSt cAI cAJ) := ⟨hx, hb, hts, hown, hK⟩
  have hl : lv_has ls 5 [(0, .ref (ad o)), (1, .int a0), (2, .int a1)] := hl
  unfold g_X10_compare at h
  refine lv_iconst (v := 0) hx hb dX10_compare_0 (by decide) ?_
  refine lv_istore_n (lv' := [(3, .int 0), (0, .ref (ad o)), (1, .int a0), (2, .int a1)]) hx hb dX10_compare_1 rfl hl (by decide) rfl (fun ls hl => ?_)
  refine lv_aload_n hx hb dX10_compare_2 rfl (lv_at hl 1 rfl) ?_
  obtain ⟨g2, h⟩ := oif_some h
  refine c_get E G o 2 (oO_k g2).1 (cc_o10 (oO_k g2).2) rfl (fun w h => .tail _ (iA_12 h)) (by decide) (.tail _ qA_15) rfl rfl dX10_compare_3 ?_
  refine lv_topi (fun v3 ev3 => ?_)
  have h := elet_at ev3 h
  clear ev3
  refine lv_iconst (v := 1) hx hb dX10_compare_6 (by decide) ?_
  refine lv_isub hx hb dX10_compare_7 ?_
  refine lv_topi (fun v4 ev4 => ?_)
  have h := elet_at ev4 h
  clear ev4
  refine lv_istore (lv' := [(4, .int v4), (3, .int 0), (0, .ref (ad o)), (1, .int a0), (2, .int a1)]) hx hb dX10_compare_8 hl (by decide) rfl (fun ls hl => ?_)
  have hl := lv_sub hl [2, 3, 4, 1, 0] rfl
  exact u_X10_compare_b10 E hA hX hN hml hst (fun H locs ls G => W.iret (v := r1) hx hb hr (fun t ht hW => ⟨⟨r1, T1, rfl, ⟨rfl, rfl⟩, ⟨by rw [ht]; exact G.1, va_K.moved hW.alike hK, G.2.1⟩⟩, G.2.2.F ht⟩) G.2.2.2.2 dX10_compare_48) _ _ _ _ _ _ _ _ _ _ h G hl
set_option maxHeartbeats 4000000 in
set_option maxRecDepth 100000 in
theorem s_X10_compare_b47 {r1 : Int32} {T1 : AT} : ∀ (T : AT) (l3 : Int32), g_X10_compare_b47 T l3 = some (r1, T1) → SP T T1 := by
  intro T l3 h
  have p0 := SP.rf T
  unfold g_X10_compare_b47 at h
  rw [← (osome2 h).2]
  exact p0
set_option maxHeartbeats 4000000 in
set_option maxRecDepth 100000 in
theorem s_X10_compare_b10 {r1 : Int32} {T1 : AT} : ∀ n : Nat, ∀ (T : AT) (l0 : Nat) (l1 : Int32) (l2 : Int32) (l3 : Int32) (l4 : Int32), g_X10_compare_b10 n T l0 l1 l2 l3 l4 = some (r1, T1) → SP T T1 := by
  intro n
  induction n with
  | zero =>
    intro T l0 l1 l2 l3 l4 h
    have h : (none : Option (Int32 × AT)) = some (r1, T1) := h
    cases h
  | succ n ih =>
    intro T l0 l1 l2 l3 l4 h
    have p0 := SP.rf T
    unfold g_X10_compare_b10 at h
    rcases oif_or h with ⟨c2, h⟩ | ⟨c2, h⟩
    · have h := h
      exact SP.tr p0 (s_X10_compare_b47 _ _ h)
    · have h := h
      rcases oif_or h with ⟨c3, h⟩ | ⟨c3, h⟩
      · have h := h
        obtain ⟨g4, h⟩ := oif_some h
        obtain ⟨n5, en5, h⟩ := obind_some h
        obtain ⟨g6, h⟩ := oif_some h
        obtain ⟨g7, h⟩ := oif_some h
        obtain ⟨n8, en8, h⟩ := obind_some h
        obtain ⟨g9, h⟩ := oif_some h
        obtain ⟨g10, h⟩ := oif_some h
        obtain ⟨v11, -, h⟩ := elet_some h
        obtain ⟨g12, h⟩ := oif_some h
        obtain ⟨n13, en13, h⟩ := obind_some h
        obtain ⟨g14, h⟩ := oif_some h
        obtain ⟨g15, h⟩ := oif_some h
        obtain ⟨n16, en16, h⟩ := obind_some h
        obtain ⟨g17, h⟩ := oif_some h
        obtain ⟨g18, h⟩ := oif_some h
        obtain ⟨v19, -, h⟩ := elet_some h
        obtain ⟨r20, -, h⟩ := obind_some h
        obtain ⟨v21, ev21, h⟩ := elet_some h
        exact SP.tr p0 (ih _ _ _ _ _ _ h)
      · have h := h
        exact SP.tr p0 (s_X10_compare_b47 _ _ h)
set_option maxHeartbeats 4000000 in
set_option maxRecDepth 100000 in
theorem s_X10_compare {T : AT} {o : Nat} {a0 : Int32} {a1 : Int32} {r1 : Int32} {T1 : AT} (h : g_X10_compare T o a0 a1 = some (r1, T1)) : SP T T1 := by
  have p0 := SP.rf T
  unfold g_X10_compare at h
  obtain ⟨g2, h⟩ := oif_some h
  obtain ⟨v3, -, h⟩ := elet_some h
  obtain ⟨v4, -, h⟩ := elet_some h
  exact SP.tr p0 (s_X10_compare_b10 _ _ _ _ _ _ _ h)
def g_X1_bestIn_b71 (k19 : AT → Nat → Nat → Nat → Int32 → Int32 → Int32 → Option (Int32 × AT)) (k32 : AT → Nat → Nat → Nat → Int32 → Int32 → Int32 → Int32 → Option (Int32 × AT)) (T : AT) (l0 : Nat) (l1 : Nat) (l2 : Nat) (l3 : Int32) (l4 : Int32) (l5 : Int32) (l6 : Int32) : Option (Int32 × AT) := elet (l6 + Int32.ofInt (1)) fun v2 => k32 T l0 l1 l2 l3 l4 l5 v2
set_option maxHeartbeats 4000000 in
set_option maxRecDepth 100000 in
theorem u_X1_bestIn_b71 {p : Program} {l : Launch} {e : Env} {s : State} {m : MethodId} {args : Array Value} {below : List Frame} {meth : Method} {c : Code} {Q : State → Prop} {D : va_G} {A : Nat → Prop} {cI cJ cZ cMic cSrc cSt cAI cAJ : ClassId} {ad : Nat → Nat} {r1 : Int32} {T1 : AT} (E : cE p c cX1_bestIn s m args (Cond.code yX1_bestIn cX1_bestIn 8 (some .int) :: wsA) D RX1 (CT cI cJ cZ cMic cSrc cSt cAI cAJ)) (hA : ∀ q : Nat, s.heap.size ≤ q → A q) (hX : xT A s) (hN : nX s) (hml : c.maxLocals = 8) (hst : l.stackTraces = false) (kr85 : ∀ (H : Heap) (locs : List Loc) (ls : Array Slot), gC cI cJ cZ cMic cSrc cSt cAI cAJ D ad A s.heap H locs T1 → W p l e { frames := 3, cells := 0, slots := 0, locals := 47 } s m args below meth c H locs 0 0 Q (F0 m 85 ls [.int r1])) {k19 : AT → Nat → Nat → Nat → Int32 → Int32 → Int32 → Option (Int32 × AT)} {k32 : AT → Nat → Nat → Nat → Int32 → Int32 → Int32 → Int32 → Option (Int32 × AT)} (hk19 : ∀ (T : AT) (H : Heap) (locs : List Loc) (ls : Array Slot) (l0 : Nat) (l1 : Nat) (l2 : Nat) (l3 : Int32) (l4 : Int32) (l5 : Int32), k19 T l0 l1 l2 l3 l4 l5 = some (r1, T1) → gC cI cJ cZ cMic cSrc cSt cAI cAJ D ad A s.heap H locs T → lv_has ls 8 [(0, .ref (ad l0)), (1, .ref (ad l1)), (2, .ref (ad l2)), (3, .int l3), (4, .int l4), (5, .int l5)] → W p l e { frames := 3, cells := 0, slots := 0, locals := 47 } s m args below meth c H locs 0 0 Q (F0 m 19 ls [])) (hk32 : ∀ (T : AT) (H : Heap) (locs : List Loc) (ls : Array Slot) (l0 : Nat) (l1 : Nat) (l2 : Nat) (l3 : Int32) (l4 : Int32) (l5 : Int32) (l6 : Int32), k32 T l0 l1 l2 l3 l4 l5 l6 = some (r1, T1) → gC cI cJ cZ cMic cSrc cSt cAI cAJ D ad A s.heap H locs T → lv_has ls 8 [(0, .ref (ad l0)), (1, .ref (ad l1)), (2, .ref (ad l2)), (3, .int l3), (4, .int l4), (5, .int l5), (6, .int l6)] → W p l e { frames := 3, cells := 0, slots := 0, locals := 47 } s m args below meth c H locs 0 0 Q (F0 m 32 ls [])) : ∀ (T : AT) (H : Heap) (locs : List Loc) (ls : Array Slot) (l0 : Nat) (l1 : Nat) (l2 : Nat) (l3 : Int32) (l4 : Int32) (l5 : Int32) (l6 : Int32), g_X1_bestIn_b71 k19 k32 T l0 l1 l2 l3 l4 l5 l6 = some (r1, T1) → gC cI cJ cZ cMic cSrc cSt cAI cAJ D ad A s.heap H locs T → lv_has ls 8 [(0, .ref (ad l0)), (1, .ref (ad l1)), (2, .ref (ad l2)), (3, .int l3), (4, .int l4), (5, .int l5), (6, .int l6)] → W p l e { frames := 3, cells := 0, slots := 0, locals := 47 } s m args below meth c H locs 0 0 Q (F0 m 71 ls []) := by
  have hx := E.1
  have hb := E.2.1
  have hts := E.2.2.1
  have hown := E.2.2.2.1
  have hK := E.2.2.2.2
  intro T H locs ls l0 l1 l2 l3 l4 l5 l6 h G hl
  unfold g_X1_bestIn_b71 at h
  obtain ⟨v2, ev2, h⟩ := elet_some h
  refine lv_iinc (v := v2) (lv' := [(6, .int v2), (0, .ref (ad l0)), (1, .ref (ad l1)), (2, .ref (ad l2)), (3, .int l3), (4, .int l4), (5, .int l5)]) hx hb dX1_bestIn_71 hl (k := 6) rfl ev2.symm (by decide) rfl (fun ls hl => ?_)
  refine lv_goto (tgt := 32) hx hb dX1_bestIn_74 (by decide) ?_
  have hl := lv_sub hl [1, 2, 3, 4, 5, 6, 0] rfl
  exact hk32 _ _ _ _ _ _ _ _ _ _ _ h G hl
def g_X1_bestIn_b32 (k19 : AT → Nat → Nat → Nat → Int32 → Int32 → Int32 → Option (Int32 × AT)) : Nat → AT → Nat → Nat → Nat → Int32 → Int32 → Int32 → Int32 → Option (Int32 × AT)
  | 0, _, _, _, _, _, _, _, _ => none
  | n + 1, T, l0, l1, l2, l3, l4, l5, l6 => oif (aA T l1 100 = true) <| oif (inb 2 (T.2.1 l1).2 = true) <| elet (T.2.2.1 l1 (2 : Int32).toNatClampNeg) fun v4 => if v4 < l6 then (elet (l5 + Int32.ofInt (1)) fun v6 => k19 T l0 l1 l2 l3 l4 v6) else (oif (oO T l0 1 = true) <| elet (T.2.2.1 l0 3) fun v8 => elet (l5 * v8) fun v9 => elet (v9 + l6) fun v10 => elet (l3 + v10) fun v11 => elet (l3 + l4) fun v12 => oif (oO T l2 10 = true) <| obind2 (g_X10_compare T l2 v11 v12) fun r16 T14 => if r16 ≤ 0 then (g_X1_bestIn_b71 k19 (g_X1_bestIn_b32 k19 n) T14 l0 l1 l2 l3 l4 l5 l6) else (g_X1_bestIn_b71 k19 (g_X1_bestIn_b32 k19 n) T14 l0 l1 l2 l3 v10 l5 l6))
set_option maxHeartbeats 4000000 in
set_option maxRecDepth 100000 in
theorem u_X1_bestIn_b32 {p : Program} {l : Launch} {e : Env} {s : State} {m : MethodId} {args : Array Value} {below : List Frame} {meth : Method} {c : Code} {Q : State → Prop} {D : va_G} {A : Nat → Prop} {cI cJ cZ cMic cSrc cSt cAI cAJ : ClassId} {ad : Nat → Nat} {r1 : Int32} {T1 : AT} (E : cE p c cX1_bestIn s m args (Cond.code yX1_bestIn cX1_bestIn 8 (some .int) :: wsA) D RX1 (CT cI cJ cZ cMic cSrc cSt cAI cAJ)) (hA : ∀ q : Nat, s.heap.size ≤ q → A q) (hX : xT A s) (hN : nX s) (hml : c.maxLocals = 8) (hst : l.stackTraces = false) (kr85 : ∀ (H : Heap) (locs : List Loc) (ls : Array Slot), gC cI cJ cZ cMic cSrc cSt cAI cAJ D ad A s.heap H locs T1 → W p l e { frames := 3, cells := 0, slots := 0, locals := 47 } s m args below meth c H locs 0 0 Q (F0 m 85 ls [.int r1])) {k19 : AT → Nat → Nat → Nat → Int32 → Int32 → Int32 → Option (Int32 × AT)} (hk19 : ∀ (T : AT) (H : Heap) (locs : List Loc) (ls : Array Slot) (l0 : Nat) (l1 : Nat) (l2 : Nat) (l3 : Int32) (l4 : Int32) (l5 : Int32), k19 T l0 l1 l2 l3 l4 l5 = some (r1, T1) → gC cI cJ cZ cMic cSrc cSt cAI cAJ D ad A s.heap H locs T → lv_has ls 8 [(0, .ref (ad l0)), (1, .ref (ad l1)), (2, .ref (ad l2)), (3, .int l3), (4, .int l4), (5, .int l5)] → W p l e { frames := 3, cells := 0, slots := 0, locals := 47 } s m args below meth c H locs 0 0 Q (F0 m 19 ls [])) : ∀ n : Nat, ∀ (T : AT) (H : Heap) (locs : List Loc) (ls : Array Slot) (l0 : Nat) (l1 : Nat) (l2 : Nat) (l3 : Int32) (l4 : Int32) (l5 : Int32) (l6 : Int32), g_X1_bestIn_b32 k19 n T l0 l1 l2 l3 l4 l5 l6 = some (r1, T1) → gC cI cJ cZ cMic cSrc cSt cAI cAJ D ad A s.heap H locs T → lv_has ls 8 [(0, .ref (ad l0)), (1, .ref (ad l1)), (2, .ref (ad l2)), (3, .int l3), (4, .int l4), (5, .int l5), (6, .int l6)] → W p l e { frames := 3, cells := 0, slots := 0, locals := 47 } s m args below meth c H locs 0 0 Q (F0 m 32 ls []) := by
  have hx := E.1
  have hb := E.2.1
  have hts := E.2.2.1
  have hown := E.2.2.2.1
  have hK := E.2.2.2.2
  intro n
  induction n with
  | zero =>
    intro T H locs ls l0 l1 l2 l3 l4 l5 l6 h
    have h : (none : Option (Int32 × AT)) = some (r1, T1) := h
    cases h
  | succ n ih =>
    intro T H locs ls l0 l1 l2 l3 l4 l5 l6 h G hl
    unfold g_X1_bestIn_b32 at h
    refine lv_iload hx hb dX1_bestIn_32 (lv_at hl 6 rfl) ?_
    refine lv_aload_n hx hb dX1_bestIn_34 rfl (lv_at hl 1 rfl) ?_
    refine lv_iconst (v := 2) hx hb dX1_bestIn_35 (by decide) ?_
    obtain ⟨g2, h⟩ := oif_some h
    obtain ⟨g3, h⟩ := oif_some h
    refine c_iald E G l1 0 (k := (2 : Int32).toNatClampNeg) (aA_k g2).1 (cc_a100 (aA_k g2).2.1) rfl (inb_k g3).1 (inb_k g3).2 (aA_k g2).2.2 dX1_bestIn_36 ?_
    refine lv_topi (fun v4 ev4 => ?_)
    have h := elet_at ev4 h
    clear ev4
    refine lv_icmp_gt (tgt := 77) hx hb dX1_bestIn_37 (by decide) (fun c5 => ?_) (fun c5 => ?_)
    · have h := oif_pos c5 h
      obtain ⟨v6, ev6, h⟩ := elet_some h
      refine lv_iinc (v := v6) (lv' := [(5, .int v6), (0, .ref (ad l0)), (1, .ref (ad l1)), (2, .ref (ad l2)), (3, .int l3), (4, .int l4), (6, .int l6)]) hx hb dX1_bestIn_77 hl (k := 5) rfl ev6.symm (by decide) rfl (fun ls hl => ?_)
      refine lv_goto (tgt := 19) hx hb dX1_bestIn_80 (by decide) ?_
      have hl := lv_sub hl [1, 2, 3, 4, 5, 0] rfl
      exact hk19 _ _ _ _ _ _ _ _ _ _ h G hl
    · have h := oif_neg c5 h
      refine lv_iload hx hb dX1_bestIn_40 (lv_at hl 5 rfl) ?_
      refine lv_aload_n hx hb dX1_bestIn_42 rfl (lv_at hl 0 rfl) ?_
      obtain ⟨g7, h⟩ := oif_some h
      refine c_get E G l0 3 (oO_k g7).1 (cc_o1 (oO_k g7).2) rfl (fun w h => .tail _ (iA_15 h)) (by decide) (.tail _ qA_39) rfl rfl dX1_bestIn_43 ?_
      refine lv_topi (fun v8 ev8 => ?_)
      have h := elet_at ev8 h
      clear ev8
      refine lv_imul hx hb dX1_bestIn_46 ?_
      refine lv_topi (fun v9 ev9 => ?_)
      have h := elet_at ev9 h
      clear ev9
      refine lv_iload hx hb dX1_bestIn_47 (lv_at hl 6 rfl) ?_
      refine lv_iadd hx hb dX1_bestIn_49 ?_
      refine lv_topi (fun v10 ev10 => ?_)
      have h := elet_at ev10 h
      clear ev10
      refine lv_istore (lv' := [(7, .int v10), (0, .ref (ad l0)), (1, .ref (ad l1)), (2, .ref (ad l2)), (3, .int l3), (4, .int l4), (5, .int l5), (6, .int l6)]) hx hb dX1_bestIn_50 hl (by decide) rfl (fun ls hl => ?_)
      refine lv_aload_n hx hb dX1_bestIn_52 rfl (lv_at hl 3 rfl) ?_
      refine lv_iload_n hx hb dX1_bestIn_53 rfl (lv_at hl 4 rfl) ?_
      refine lv_iload hx hb dX1_bestIn_54 (lv_at hl 0 rfl) ?_
      refine lv_iadd hx hb dX1_bestIn_56 ?_
      refine lv_topi (fun v11 ev11 => ?_)
      have h := elet_at ev11 h
      clear ev11
      refine lv_iload_n hx hb dX1_bestIn_57 rfl (lv_at hl 4 rfl) ?_
      refine lv_iload hx hb dX1_bestIn_58 (lv_at hl 5 rfl) ?_
      refine lv_iadd hx hb dX1_bestIn_60 ?_
      refine lv_topi (fun v12 ev12 => ?_)
      have h := elet_at ev12 h
      clear ev12
      obtain ⟨g13, h⟩ := oif_some h
      obtain ⟨r16, T14, eT14, h⟩ := obind2_some h
      refine q_cvi (As := [.int v11, .int v12]) (rest := []) E G hA hX hN hml (u_X10_compare l hst D cI cJ cZ cMic cSrc cSt cAI cAJ ad T l2 v11 v12 eT14) (cwV 2 hts (gaV qA_119 qA_120 qA_121 qA_6 qA_122) rfl rfl rfl (by decide +kernel) ⟨Nat.le_of_ble_eq_true rfl, Nat.le_of_ble_eq_true rfl⟩) (oO_k g13).1 (cc_o10 (oO_k g13).2) rfl rfl hl.1 rfl (lv_room (Nat.le_of_ble_eq_true rfl)) dX1_bestIn_61 ⟨Nat.zero_le _, Nat.zero_le _⟩ (fun q17 T15 H locs hq G => ?_)
      obtain ⟨hq1, hq2⟩ := hq
      rw [hq2] at G
      refine lv_to hq1 ?_
      clear hq1 hq2 eT14
      refine lv_if_le (tgt := 71) hx hb dX1_bestIn_64 (by decide) (fun c18 => ?_) (fun c18 => ?_)
      · have h := oif_pos c18 h
        have hl := lv_sub hl [1, 2, 3, 4, 5, 6, 7] rfl
        exact u_X1_bestIn_b71 E hA hX hN hml hst kr85 hk19 ih _ _ _ _ _ _ _ _ _ _ _ h G hl
      · have h := oif_neg c18 h
        refine lv_iload hx hb dX1_bestIn_67 (lv_at hl 0 rfl) ?_
        refine lv_istore (lv' := [(4, .int v10), (7, .int v10), (0, .ref (ad l0)), (1, .ref (ad l1)), (2, .ref (ad l2)), (3, .int l3), (5, .int l5), (6, .int l6)]) hx hb dX1_bestIn_69 hl (by decide) rfl (fun ls hl => ?_)
        have hl := lv_sub hl [2, 3, 4, 5, 0, 6, 7] rfl
        exact u_X1_bestIn_b71 E hA hX hN hml hst kr85 hk19 ih _ _ _ _ _ _ _ _ _ _ _ h G hl
def g_X1_bestIn_b19  : Nat → AT → Nat → Nat → Nat → Int32 → Int32 → Int32 → Option (Int32 × AT)
  | 0, _, _, _, _, _, _, _ => none
  | n + 1, T, l0, l1, l2, l3, l4, l5 => oif (aA T l1 100 = true) <| oif (inb 3 (T.2.1 l1).2 = true) <| elet (T.2.2.1 l1 (3 : Int32).toNatClampNeg) fun v4 => if v4 < l5 then (some (l4, T)) else (oif (aA T l1 100 = true) <| oif (inb 0 (T.2.1 l1).2 = true) <| elet (T.2.2.1 l1 (0 : Int32).toNatClampNeg) fun v8 => g_X1_bestIn_b32 (g_X1_bestIn_b19 n) 16384 T l0 l1 l2 l3 l4 l5 v8)
set_option maxHeartbeats 4000000 in
set_option maxRecDepth 100000 in
theorem u_X1_bestIn_b19 {p : Program} {l : Launch} {e : Env} {s : State} {m : MethodId} {args : Array Value} {below : List Frame} {meth : Method} {c : Code} {Q : State → Prop} {D : va_G} {A : Nat → Prop} {cI cJ cZ cMic cSrc cSt cAI cAJ : ClassId} {ad : Nat → Nat} {r1 : Int32} {T1 : AT} (E : cE p c cX1_bestIn s m args (Cond.code yX1_bestIn cX1_bestIn 8 (some .int) :: wsA) D RX1 (CT cI cJ cZ cMic cSrc cSt cAI cAJ)) (hA : ∀ q : Nat, s.heap.size ≤ q → A q) (hX : xT A s) (hN : nX s) (hml : c.maxLocals = 8) (hst : l.stackTraces = false) (kr85 : ∀ (H : Heap) (locs : List Loc) (ls : Array Slot), gC cI cJ cZ cMic cSrc cSt cAI cAJ D ad A s.heap H locs T1 → W p l e { frames := 3, cells := 0, slots := 0, locals := 47 } s m args below meth c H locs 0 0 Q (F0 m 85 ls [.int r1])) : ∀ n : Nat, ∀ (T : AT) (H : Heap) (locs : List Loc) (ls : Array Slot) (l0 : Nat) (l1 : Nat) (l2 : Nat) (l3 : Int32) (l4 : Int32) (l5 : Int32), g_X1_bestIn_b19 n T l0 l1 l2 l3 l4 l5 = some (r1, T1) → gC cI cJ cZ cMic cSrc cSt cAI cAJ D ad A s.heap H locs T → lv_has ls 8 [(0, .ref (ad l0)), (1, .ref (ad l1)), (2, .ref (ad l2)), (3, .int l3), (4, .int l4), (5, .int l5)] → W p l e { frames := 3, cells := 0, slots := 0, locals := 47 } s m args below meth c H locs 0 0 Q (F0 m 19 ls []) := by
  have hx := E.1
  have hb := E.2.1
  have hts := E.2.2.1
  have hown := E.2.2.2.1
  have hK := E.2.2.2.2
  intro n
  induction n with
  | zero =>
    intro T H locs ls l0 l1 l2 l3 l4 l5 h
    have h : (none : Option (Int32 × AT)) = some (r1, T1) := h
    cases h
  | succ n ih =>
    intro T H locs ls l0 l1 l2 l3 l4 l5 h G hl
    unfold g_X1_bestIn_b19 at h
    refine lv_iload hx hb dX1_bestIn_19 (lv_at hl 5 rfl) ?_
    refine lv_aload_n hx hb dX1_bestIn_21 rfl (lv_at hl 1 rfl) ?_
    refine lv_iconst (v := 3) hx hb dX1_bestIn_22 (by decide) ?_
    obtain ⟨g2, h⟩ := oif_some h
    obtain ⟨g3, h⟩ := oif_some h
    refine c_iald E G l1 0 (k := (3 : Int32).toNatClampNeg) (aA_k g2).1 (cc_a100 (aA_k g2).2.1) rfl (inb_k g3).1 (inb_k g3).2 (aA_k g2).2.2 dX1_bestIn_23 ?_
    refine lv_topi (fun v4 ev4 => ?_)
    have h := elet_at ev4 h
    clear ev4
    refine lv_icmp_gt (tgt := 83) hx hb dX1_bestIn_24 (by decide) (fun c5 => ?_) (fun c5 => ?_)
    · have h := oif_pos c5 h
      refine lv_iload hx hb dX1_bestIn_83 (lv_at hl 4 rfl) ?_
      rw [(osome2 h).2] at G
      refine lv_to (osome2 h).1 ?_
      exact kr85 _ _ _ G
    · have h := oif_neg c5 h
      refine lv_aload_n hx hb dX1_bestIn_27 rfl (lv_at hl 1 rfl) ?_
      refine lv_iconst (v := 0) hx hb dX1_bestIn_28 (by decide) ?_
      obtain ⟨g6, h⟩ := oif_some h
      obtain ⟨g7, h⟩ := oif_some h
      refine c_iald E G l1 0 (k := (0 : Int32).toNatClampNeg) (aA_k g6).1 (cc_a100 (aA_k g6).2.1) rfl (inb_k g7).1 (inb_k g7).2 (aA_k g6).2.2 dX1_bestIn_29 ?_
      refine lv_topi (fun v8 ev8 => ?_)
      have h := elet_at ev8 h
      clear ev8
      refine lv_istore (lv' := [(6, .int v8), (0, .ref (ad l0)), (1, .ref (ad l1)), (2, .ref (ad l2)), (3, .int l3), (4, .int l4), (5, .int l5)]) hx hb dX1_bestIn_30 hl (by decide) rfl (fun ls hl => ?_)
      have hl := lv_sub hl [1, 2, 3, 4, 5, 6, 0] rfl
      exact u_X1_bestIn_b32 E hA hX hN hml hst kr85 ih _ _ _ _ _ _ _ _ _ _ _ _ h G hl
def g_X1_bestIn (T : AT) (o : Nat) (a0 : Nat) (a1 : Nat) (a2 : Int32) : Option (Int32 × AT) := oif (aA T a0 100 = true) <| oif (inb 1 (T.2.1 a0).2 = true) <| elet (T.2.2.1 a0 (1 : Int32).toNatClampNeg) fun v4 => oif (oO T o 1 = true) <| elet (T.2.2.1 o 3) fun v6 => elet (v4 * v6) fun v7 => oif (aA T a0 100 = true) <| oif (inb 0 (T.2.1 a0).2 = true) <| elet (T.2.2.1 a0 (0 : Int32).toNatClampNeg) fun v10 => elet (v7 + v10) fun v11 => oif (aA T a0 100 = true) <| oif (inb 1 (T.2.1 a0).2 = true) <| elet (T.2.2.1 a0 (1 : Int32).toNatClampNeg) fun v14 => g_X1_bestIn_b19 16384 T o a0 a1 a2 v11 v14
set_option maxHeartbeats 4000000 in
set_option maxRecDepth 100000 in
theorem u_X1_bestIn (l : Launch) (hst : l.stackTraces = false) (D : va_G) (cI cJ cZ cMic cSrc cSt cAI cAJ : ClassId) (ad : Nat → Nat) (T : AT) (o : Nat) (a0 : Nat) (a1 : Nat) (a2 : Int32) {r1 : Int32} {T1 : AT} (h : g_X1_bestIn T o a0 a1 a2 = some (r1, T1)) : kCi l yX1_bestIn (Cond.code yX1_bestIn cX1_bestIn 8 (some .int) :: wsA) 3 47 cI cJ cZ cMic cSrc cSt cAI cAJ D ad T [.ref (ad o), .ref (ad a0), .ref (ad a1), .int a2] (fun r T9 => r = r1 ∧ T9 = T1) := by
  intro sz
  refine pro_in (cc := cX1_bestIn) (maxL := 8) (ret := (some .int)) (by exact pn_RX1) rfl (by exact Nat.le_of_ble_eq_true rfl) (fun p e s m below meth c ls hx hb hr hts hown hlocks hml hv hl => ?_)
  obtain ⟨hsz, hP, hK, hD0, hX, hN⟩ := hv
  subst hsz
  have hD := hD0.self (sz := s.heap.size)
  generalize hAe : va_A (cW ad T.1 (cc cI cJ cZ cMic cSrc cSt cAI cAJ ad T)) s.heap.size = A at hD hX ⊢
  have hA : ∀ q : Nat, s.heap.size ≤ q → A q := fun q h => by rw [← hAe]; exact Or.inr h
  have G : gC cI cJ cZ cMic cSrc cSt cAI cAJ D ad A s.heap s.heap [] T := ⟨hP, hD, va_S.rf⟩
  have E : cE p c cX1_bestIn s m ([.ref (ad o), .ref (ad a0), .ref (ad a1), .int a2] : List Value).toArray (Cond.code yX1_bestIn cX1_bestIn 8 (some .int) :: wsA) D RX1 (CT cI cJ cZ cMic cSrc cSt cAI cAJ) := ⟨hx, hb, hts, hown, hK⟩
  have hl : lv_has ls 8 [(0, .ref (ad o)), (1, .ref (ad a0)), (2, .ref (ad a1)), (3, .int a2)] := hl
  unfold g_X1_bestIn at h
  refine lv_aload_n hx hb dX1_bestIn_0 rfl (lv_at hl 1 rfl) ?_
  refine lv_iconst (v := 1) hx hb dX1_bestIn_1 (by decide) ?_
  obtain ⟨g2, h⟩ := oif_some h
  obtain ⟨g3, h⟩ := oif_some h
  refine c_iald E G a0 0 (k := (1 : Int32).toNatClampNeg) (aA_k g2).1 (cc_a100 (aA_k g2).2.1) rfl (inb_k g3).1 (inb_k g3).2 (aA_k g2).2.2 dX1_bestIn_2 ?_
  refine lv_topi (fun v4 ev4 => ?_)
  have h := elet_at ev4 h
  clear ev4
  refine lv_aload_n hx hb dX1_bestIn_3 rfl (lv_at hl 0 rfl) ?_
  obtain ⟨g5, h⟩ := oif_some h
  refine c_get E G o 3 (oO_k g5).1 (cc_o1 (oO_k g5).2) rfl (fun w h => .tail _ (iA_15 h)) (by decide) (.tail _ qA_39) rfl rfl dX1_bestIn_4 ?_
  refine lv_topi (fun v6 ev6 => ?_)
  have h := elet_at ev6 h
  clear ev6
  refine lv_imul hx hb dX1_bestIn_7 ?_
  refine lv_topi (fun v7 ev7 => ?_)
  have h := elet_at ev7 h
  clear ev7
  refine lv_aload_n hx hb dX1_bestIn_8 rfl (lv_at hl 1 rfl) ?_
  refine lv_iconst (v := 0) hx hb dX1_bestIn_9 (by decide) ?_
  obtain ⟨g8, h⟩ := oif_some h
  obtain ⟨g9, h⟩ := oif_some h
  refine c_iald E G a0 0 (k := (0 : Int32).toNatClampNeg) (aA_k g8).1 (cc_a100 (aA_k g8).2.1) rfl (inb_k g9).1 (inb_k g9).2 (aA_k g8).2.2 dX1_bestIn_10 ?_
  refine lv_topi (fun v10 ev10 => ?_)
  have h := elet_at ev10 h
  clear ev10
  refine lv_iadd hx hb dX1_bestIn_11 ?_
  refine lv_topi (fun v11 ev11 => ?_)
  have h := elet_at ev11 h
  clear ev11
  refine lv_istore (lv' := [(4, .int v11), (0, .ref (ad o)), (1, .ref (ad a0)), (2, .ref (ad a1)), (3, .int a2)]) hx hb dX1_bestIn_12 hl (by decide) rfl (fun ls hl => ?_)
  refine lv_aload_n hx hb dX1_bestIn_14 rfl (lv_at hl 2 rfl) ?_
  refine lv_iconst (v := 1) hx hb dX1_bestIn_15 (by decide) ?_
  obtain ⟨g12, h⟩ := oif_some h
  obtain ⟨g13, h⟩ := oif_some h
  refine c_iald E G a0 0 (k := (1 : Int32).toNatClampNeg) (aA_k g12).1 (cc_a100 (aA_k g12).2.1) rfl (inb_k g13).1 (inb_k g13).2 (aA_k g12).2.2 dX1_bestIn_16 ?_
  refine lv_topi (fun v14 ev14 => ?_)
  have h := elet_at ev14 h
  clear ev14
  refine lv_istore (lv' := [(5, .int v14), (4, .int v11), (0, .ref (ad o)), (1, .ref (ad a0)), (2, .ref (ad a1)), (3, .int a2)]) hx hb dX1_bestIn_17 hl (by decide) rfl (fun ls hl => ?_)
  have hl := lv_sub hl [2, 3, 4, 5, 1, 0] rfl
  exact u_X1_bestIn_b19 E hA hX hN hml hst (fun H locs ls G => W.iret (v := r1) hx hb hr (fun t ht hW => ⟨⟨r1, T1, rfl, ⟨rfl, rfl⟩, ⟨by rw [ht]; exact G.1, va_K.moved hW.alike hK, G.2.1⟩⟩, G.2.2.F ht⟩) G.2.2.2.2 dX1_bestIn_85) _ _ _ _ _ _ _ _ _ _ _ h G hl
set_option maxHeartbeats 4000000 in
set_option maxRecDepth 100000 in
theorem s_X1_bestIn_b71 {r1 : Int32} {T1 : AT} {k19 : AT → Nat → Nat → Nat → Int32 → Int32 → Int32 → Option (Int32 × AT)} {k32 : AT → Nat → Nat → Nat → Int32 → Int32 → Int32 → Int32 → Option (Int32 × AT)} (hk19 : ∀ (T : AT) (l0 : Nat) (l1 : Nat) (l2 : Nat) (l3 : Int32) (l4 : Int32) (l5 : Int32), k19 T l0 l1 l2 l3 l4 l5 = some (r1, T1) → SP T T1) (hk32 : ∀ (T : AT) (l0 : Nat) (l1 : Nat) (l2 : Nat) (l3 : Int32) (l4 : Int32) (l5 : Int32) (l6 : Int32), k32 T l0 l1 l2 l3 l4 l5 l6 = some (r1, T1) → SP T T1) : ∀ (T : AT) (l0 : Nat) (l1 : Nat) (l2 : Nat) (l3 : Int32) (l4 : Int32) (l5 : Int32) (l6 : Int32), g_X1_bestIn_b71 k19 k32 T l0 l1 l2 l3 l4 l5 l6 = some (r1, T1) → SP T T1 := by
  intro T l0 l1 l2 l3 l4 l5 l6 h
  have p0 := SP.rf T
  unfold g_X1_bestIn_b71 at h
  obtain ⟨v2, ev2, h⟩ := elet_some h
  exact SP.tr p0 (hk32 _ _ _ _ _ _ _ _ h)
set_option maxHeartbeats 4000000 in
set_option maxRecDepth 100000 in
theorem s_X1_bestIn_b32 {r1 : Int32} {T1 : AT} {k19 : AT → Nat → Nat → Nat → Int32 → Int32 → Int32 → Option (Int32 × AT)} (hk19 : ∀ (T : AT) (l0 : Nat) (l1 : Nat) (l2 : Nat) (l3 : Int32) (l4 : Int32) (l5 : Int32), k19 T l0 l1 l2 l3 l4 l5 = some (r1, T1) → SP T T1) : ∀ n : Nat, ∀ (T : AT) (l0 : Nat) (l1 : Nat) (l2 : Nat) (l3 : Int32) (l4 : Int32) (l5 : Int32) (l6 : Int32), g_X1_bestIn_b32 k19 n T l0 l1 l2 l3 l4 l5 l6 = some (r1, T1) → SP T T1 := by
  intro n
  induction n with
  | zero =>
    intro T l0 l1 l2 l3 l4 l5 l6 h
    have h : (none : Option (Int32 × AT)) = some (r1, T1) := h
    cases h
  | succ n ih =>
    intro T l0 l1 l2 l3 l4 l5 l6 h
    have p0 := SP.rf T
    unfold g_X1_bestIn_b32 at h
    obtain ⟨g2, h⟩ := oif_some h
    obtain ⟨g3, h⟩ := oif_some h
    obtain ⟨v4, -, h⟩ := elet_some h
    rcases oif_or h with ⟨c5, h⟩ | ⟨c5, h⟩
    · have h := h
      obtain ⟨v6, ev6, h⟩ := elet_some h
      exact SP.tr p0 (hk19 _ _ _ _ _ _ _ h)
    · have h := h
      obtain ⟨g7, h⟩ := oif_some h
      obtain ⟨v8, -, h⟩ := elet_some h
      obtain ⟨v9, -, h⟩ := elet_some h
      obtain ⟨v10, -, h⟩ := elet_some h
      obtain ⟨v11, -, h⟩ := elet_some h
      obtain ⟨v12, -, h⟩ := elet_some h
      obtain ⟨g13, h⟩ := oif_some h
      obtain ⟨r15, T14, eT14, h⟩ := obind2_some h
      have p1 : SP T T14 := SP.tr p0 (s_X10_compare eT14)
      rcases oif_or h with ⟨c16, h⟩ | ⟨c16, h⟩
      · have h := h
        exact SP.tr p1 (s_X1_bestIn_b71 hk19 ih _ _ _ _ _ _ _ _ h)
      · have h := h
        exact SP.tr p1 (s_X1_bestIn_b71 hk19 ih _ _ _ _ _ _ _ _ h)
set_option maxHeartbeats 4000000 in
set_option maxRecDepth 100000 in
theorem s_X1_bestIn_b19 {r1 : Int32} {T1 : AT} : ∀ n : Nat, ∀ (T : AT) (l0 : Nat) (l1 : Nat) (l2 : Nat) (l3 : Int32) (l4 : Int32) (l5 : Int32), g_X1_bestIn_b19 n T l0 l1 l2 l3 l4 l5 = some (r1, T1) → SP T T1 := by
  intro n
  induction n with
  | zero =>
    intro T l0 l1 l2 l3 l4 l5 h
    have h : (none : Option (Int32 × AT)) = some (r1, T1) := h
    cases h
  | succ n ih =>
    intro T l0 l1 l2 l3 l4 l5 h
    have p0 := SP.rf T
    unfold g_X1_bestIn_b19 at h
    obtain ⟨g2, h⟩ := oif_some h
    obtain ⟨g3, h⟩ := oif_some h
    obtain ⟨v4, -, h⟩ := elet_some h
    rcases oif_or h with ⟨c5, h⟩ | ⟨c5, h⟩
    · have h := h
      rw [← (osome2 h).2]
      exact p0
    · have h := h
      obtain ⟨g6, h⟩ := oif_some h
      obtain ⟨g7, h⟩ := oif_some h
      obtain ⟨v8, -, h⟩ := elet_some h
      exact SP.tr p0 (s_X1_bestIn_b32 ih _ _ _ _ _ _ _ _ _ h)
set_option maxHeartbeats 4000000 in
set_option maxRecDepth 100000 in
theorem s_X1_bestIn {T : AT} {o : Nat} {a0 : Nat} {a1 : Nat} {a2 : Int32} {r1 : Int32} {T1 : AT} (h : g_X1_bestIn T o a0 a1 a2 = some (r1, T1)) : SP T T1 := by
  have p0 := SP.rf T
  unfold g_X1_bestIn at h
  obtain ⟨g2, h⟩ := oif_some h
  obtain ⟨g3, h⟩ := oif_some h
  obtain ⟨v4, -, h⟩ := elet_some h
  obtain ⟨g5, h⟩ := oif_some h
  obtain ⟨v6, -, h⟩ := elet_some h
  obtain ⟨v7, -, h⟩ := elet_some h
  obtain ⟨g8, h⟩ := oif_some h
  obtain ⟨g9, h⟩ := oif_some h
  obtain ⟨v10, -, h⟩ := elet_some h
  obtain ⟨v11, -, h⟩ := elet_some h
  obtain ⟨g12, h⟩ := oif_some h
  obtain ⟨g13, h⟩ := oif_some h
  obtain ⟨v14, -, h⟩ := elet_some h
  exact SP.tr p0 (s_X1_bestIn_b19 _ _ _ _ _ _ _ _ h)
def g_X0_bestOf_b17  (T : AT) (l0 : Nat) (l1 : Nat) : Option (Int32 × AT) := oif (oO T l1 6 = true) <| obind (T.2.2.2.2 l1 6) fun n3 => oif (oO T l1 6 = true) <| obind (T.2.2.2.2 l1 6) fun n5 => oif (oO T n5 1 = true) <| obind (T.2.2.2.2 n5 5) fun n7 => oif (oO T l0 0 = true) <| obind (T.2.2.2.2 l0 0) fun n9 => oif (oO T n3 1 = true) <| obind2 (g_X1_bestIn T n3 n7 n9 (0 : Int32)) fun r13 T11 => some (r13, T11)
def g_X0_bestOf (T : AT) (o : Nat) (a0 : Nat) (a1 : Nat) (a2 : Int32) (a3 : Int32) : Option (Int32 × AT) := oif (oO T o 0 = true) <| obind (T.2.2.2.2 o 0) fun n3 => oif (oO T n3 10 = true) <| obind (g_X10_narrow T n3) fun T5 => oif (oO T5 o 0 = true) <| obind (g_X0_measure T5 o a0 a1 a2 a3 (0 : Int32)) fun T8 => g_X0_bestOf_b17 T8 o a0
set_option maxHeartbeats 4000000 in
set_option maxRecDepth 100000 in
theorem s_X0_bestOf_b17 {r1 : Int32} {T1 : AT} : ∀ (T : AT) (l0 : Nat) (l1 : Nat), g_X0_bestOf_b17 T l0 l1 = some (r1, T1) → GL T T1 := by
  intro T l0 l1 h
  have p0 := GL.rf T
  unfold g_X0_bestOf_b17 at h
  obtain ⟨g2, h⟩ := oif_some h
  obtain ⟨n3, en3, h⟩ := obind_some h
  obtain ⟨g4, h⟩ := oif_some h
  obtain ⟨n5, en5, h⟩ := obind_some h
  obtain ⟨g6, h⟩ := oif_some h
  obtain ⟨n7, en7, h⟩ := obind_some h
  obtain ⟨g8, h⟩ := oif_some h
  obtain ⟨n9, en9, h⟩ := obind_some h
  obtain ⟨g10, h⟩ := oif_some h
  obtain ⟨r12, T11, eT11, h⟩ := obind2_some h
  have p1 : GL T T11 := GL.tr p0 (gl_sp (s_X1_bestIn eT11))
  rw [← (osome2 h).2]
  exact p1
set_option maxHeartbeats 4000000 in
set_option maxRecDepth 100000 in
theorem s_X0_bestOf {T : AT} {o : Nat} {a0 : Nat} {a1 : Nat} {a2 : Int32} {a3 : Int32} {r1 : Int32} {T1 : AT} (h : g_X0_bestOf T o a0 a1 a2 a3 = some (r1, T1)) : GL T T1 := by
  have p0 := GL.rf T
  unfold g_X0_bestOf at h
  obtain ⟨g2, h⟩ := oif_some h
  obtain ⟨n3, en3, h⟩ := obind_some h
  obtain ⟨g4, h⟩ := oif_some h
  obtain ⟨T5, eT5, h⟩ := obind_some h
  have p1 : GL T T5 := GL.tr p0 (gl_sp (s_X10_narrow eT5))
  obtain ⟨g7, h⟩ := oif_some h
  obtain ⟨T8, eT8, h⟩ := obind_some h
  have p2 : GL T T8 := GL.tr p1 (s_X0_measure eT8)
  exact GL.tr p2 (s_X0_bestOf_b17 _ _ _ h)
set_option maxHeartbeats 4000000 in
set_option maxRecDepth 100000 in
theorem a_X0_bestOf_b17 {p : Program} {l : Launch} {e : Env} {s : State} {m : MethodId} {args : Array Value} {below : List Frame} {meth : Method} {c : Code} {Q : State → Prop} {D : va_G} {A : Nat → Prop} {cI cJ cZ cMic cSrc cSt cAI cAJ : ClassId} {ad0 : Nat → Nat} {T0 : AT} {r1 : Int32} {T1 : AT} (E : cE p c cX0_bestOf s m args (Cond.code yX0_bestOf cX0_bestOf 5 (some .int) :: wsA) D RX0 (CT cI cJ cZ cMic cSrc cSt cAI cAJ)) (hA : ∀ q : Nat, s.heap.size ≤ q → A q) (hX : xT A s) (hN : nX s) (hml : c.maxLocals = 5) (hst : l.stackTraces = false) (kr36 : ∀ (ad : Nat → Nat) (H : Heap) (locs : List Loc) (ls : Array Slot), (∀ n, n < T0.1 → ad n = ad0 n) → gC cI cJ cZ cMic cSrc cSt cAI cAJ D ad A s.heap H locs T1 → W p l e { frames := 6, cells := T1.1 - T0.1, slots := sg T1 - sg T0, locals := 131 } s m args below meth c H locs (T1.1 - T0.1) (sg T1 - sg T0) Q (F0 m 36 ls [.int r1])) : ∀ (T : AT) (ad : Nat → Nat) (H : Heap) (locs : List Loc) (ls : Array Slot) (l0 : Nat) (l1 : Nat), g_X0_bestOf_b17 T l0 l1 = some (r1, T1) → GL T0 T → RC T → (∀ n, n < T0.1 → ad n = ad0 n) → l0 < T.1 → l1 < T.1 → gC cI cJ cZ cMic cSrc cSt cAI cAJ D ad A s.heap H locs T → lv_has ls 5 [(0, .ref (ad l0)), (1, .ref (ad l1))] → W p l e { frames := 6, cells := T1.1 - T0.1, slots := sg T1 - sg T0, locals := 131 } s m args below meth c H locs (T.1 - T0.1) (sg T - sg T0) Q (F0 m 17 ls []) := by
  have hx := E.1
  have hb := E.2.1
  have hts := E.2.2.1
  have hown := E.2.2.2.1
  have hK := E.2.2.2.2
  intro T ad H locs ls l0 l1 h hgl hrc had h_l0 h_l1 G hl
  have hT1 := s_X0_bestOf_b17 _ _ _ h
  have hcs := cs_ok hgl hT1
  have cp0 := cpr0 hrc
  unfold g_X0_bestOf_b17 at h
  refine lv_aload_n hx hb dX0_bestOf_17 rfl (lv_at hl 1 rfl) ?_
  obtain ⟨g2, h⟩ := oif_some h
  obtain ⟨n3, en3, h⟩ := obind_some h
  have h_n3 : n3 < T.1 := by rw [← cp0.1]; exact cp0.2.2 _ _ _ en3
  refine c_get E G l1 6 (v := .ref (ad n3)) (oO_k g2).1 (cc_o6 (oO_k g2).2) rfl (fun w h => .tail _ (iA_14 h)) (by decide) (.tail _ qA_22) rfl (by rw [en3]; rfl) dX0_bestOf_18 ?_
  clear en3
  refine lv_aload_n hx hb dX0_bestOf_21 rfl (lv_at hl 1 rfl) ?_
  obtain ⟨g4, h⟩ := oif_some h
  obtain ⟨n5, en5, h⟩ := obind_some h
  have h_n5 : n5 < T.1 := by rw [← cp0.1]; exact cp0.2.2 _ _ _ en5
  refine c_get E G l1 6 (v := .ref (ad n5)) (oO_k g4).1 (cc_o6 (oO_k g4).2) rfl (fun w h => .tail _ (iA_14 h)) (by decide) (.tail _ qA_22) rfl (by rw [en5]; rfl) dX0_bestOf_22 ?_
  clear en5
  obtain ⟨g6, h⟩ := oif_some h
  obtain ⟨n7, en7, h⟩ := obind_some h
  have h_n7 : n7 < T.1 := by rw [← cp0.1]; exact cp0.2.2 _ _ _ en7
  refine c_get E G n5 5 (v := .ref (ad n7)) (oO_k g6).1 (cc_o1 (oO_k g6).2) rfl (fun w h => .tail _ (iA_15 h)) (by decide) (.tail _ qA_23) rfl (by rw [en7]; rfl) dX0_bestOf_25 ?_
  clear en7
  refine lv_aload_n hx hb dX0_bestOf_28 rfl (lv_at hl 0 rfl) ?_
  obtain ⟨g8, h⟩ := oif_some h
  obtain ⟨n9, en9, h⟩ := obind_some h
  have h_n9 : n9 < T.1 := by rw [← cp0.1]; exact cp0.2.2 _ _ _ en9
  refine c_get E G l0 0 (v := .ref (ad n9)) (oO_k g8).1 (cc_o0 (oO_k g8).2) rfl (fun w h => .tail _ (iA_13 h)) (by decide) (.tail _ qA_7) rfl (by rw [en9]; rfl) dX0_bestOf_29 ?_
  clear en9
  refine lv_iconst (v := 0) hx hb dX0_bestOf_32 (by decide) ?_
  obtain ⟨g10, h⟩ := oif_some h
  obtain ⟨r13, T11, eT11, h⟩ := obind2_some h
  refine q_cvi (As := [.ref (ad n7), .ref (ad n9), .int 0]) (rest := []) E G hA hX hN hml (u_X1_bestIn l hst D cI cJ cZ cMic cSrc cSt cAI cAJ ad T n3 n7 n9 (0 : Int32) eT11) (cwV 3 hts (gaV qA_115 qA_116 qA_117 qA_37 qA_118) rfl rfl rfl (by decide +kernel) ⟨Nat.le_of_ble_eq_true rfl, Nat.le_of_ble_eq_true rfl⟩) (oO_k g10).1 (cc_o1 (oO_k g10).2) rfl rfl hl.1 rfl (lv_room (Nat.le_of_ble_eq_true rfl)) dX0_bestOf_33 hcs (fun q14 T12 H locs hq G => ?_)
  obtain ⟨hq1, hq2⟩ := hq
  rw [hq2] at G
  refine lv_to hq1 ?_
  clear hq1 hq2
  have cp1 := cpr_sp cp0 (s_X1_bestIn eT11)
  rw [(osome2 h).2] at G
  refine w_cast (c2 := T1.1 - T0.1) (s2 := sg T1 - sg T0) (by rw [← (osome2 h).2, cp1.1] <;> rfl) (by rw [← (osome2 h).2, sg_cpr cp1] <;> rfl) ?_
  refine lv_to ((osome2 h).1) ?_
  exact kr36 ad _ _ _ had G
set_option maxHeartbeats 4000000 in
set_option maxRecDepth 100000 in
theorem a_X0_bestOf (l : Launch) (hst : l.stackTraces = false) (D : va_G) (cI cJ cZ cMic cSrc cSt cAI cAJ : ClassId) (ad : Nat → Nat) (T : AT) (o : Nat) (a0 : Nat) (a1 : Nat) (a2 : Int32) (a3 : Int32) {r1 : Int32} {T1 : AT} (h : g_X0_bestOf T o a0 a1 a2 a3 = some (r1, T1)) (hrc : RC T) (h_o : o < T.1) (h_a0 : a0 < T.1) (h_a1 : a1 < T.1) : kAi l yX0_bestOf (Cond.code yX0_bestOf cX0_bestOf 5 (some .int) :: wsA) 6 131 cI cJ cZ cMic cSrc cSt cAI cAJ D ad T [.ref (ad o), .ref (ad a0), .ref (ad a1), .int a2, .int a3] r1 T1 := by
  intro sz
  refine pro_in (cc := cX0_bestOf) (maxL := 5) (ret := (some .int)) (by exact pn_RX0) rfl (by exact Nat.le_of_ble_eq_true rfl) (fun p e s m below meth c ls hx hb hr hts hown hlocks hml hv hl => ?_)
  obtain ⟨hsz, hP, hK, hD0, hX, hN⟩ := hv
  subst hsz
  have hD := hD0.self (sz := s.heap.size)
  generalize hAe : va_A (cW ad T.1 (cc cI cJ cZ cMic cSrc cSt cAI cAJ ad T)) s.heap.size = A at hD hX ⊢
  have hA : ∀ q : Nat, s.heap.size ≤ q → A q := fun q h => by rw [← hAe]; exact Or.inr h
  have G : gC cI cJ cZ cMic cSrc cSt cAI cAJ D ad A s.heap s.heap [] T := ⟨hP, hD, va_S.rf⟩
  have E : cE p c cX0_bestOf s m ([.ref (ad o), .ref (ad a0), .ref (ad a1), .int a2, .int a3] : List Value).toArray (Cond.code yX0_bestOf cX0_bestOf 5 (some .int) :: wsA) D RX0 (CT cI cJ cZ cMic cSrc cSt cAI cAJ) := ⟨hx, hb, hts, hown, hK⟩
  have hl : lv_has ls 5 [(0, .ref (ad o)), (1, .ref (ad a0)), (2, .ref (ad a1)), (3, .int a2), (4, .int a3)] := hl
  have hgl := GL.rf T
  have had : ∀ n, n < T.1 → ad n = ad n := fun _ _ => rfl
  have hT1 := s_X0_bestOf h
  have hcs := cs_ok hgl hT1
  refine w_cast (Nat.sub_self T.1).symm (Nat.sub_self (sg T)).symm ?_
  have cp0 := cpr0 hrc
  unfold g_X0_bestOf at h
  refine lv_aload_n hx hb dX0_bestOf_0 rfl (lv_at hl 0 rfl) ?_
  obtain ⟨g2, h⟩ := oif_some h
  obtain ⟨n3, en3, h⟩ := obind_some h
  have h_n3 : n3 < T.1 := by rw [← cp0.1]; exact cp0.2.2 _ _ _ en3
  refine c_get E G o 0 (v := .ref (ad n3)) (oO_k g2).1 (cc_o0 (oO_k g2).2) rfl (fun w h => .tail _ (iA_13 h)) (by decide) (.tail _ qA_7) rfl (by rw [en3]; rfl) dX0_bestOf_1 ?_
  clear en3
  obtain ⟨g4, h⟩ := oif_some h
  obtain ⟨T5, eT5, h⟩ := obind_some h
  refine q_cvv (As := []) (rest := []) E G hA hX hN hml (u_X10_narrow l hst D cI cJ cZ cMic cSrc cSt cAI cAJ ad T n3 eT5) (cwV 0 hts (gaV qA_24 qA_25 qA_26 qA_6 qA_27) rfl rfl rfl (by decide +kernel) ⟨Nat.le_of_ble_eq_true rfl, Nat.le_of_ble_eq_true rfl⟩) (oO_k g4).1 (cc_o10 (oO_k g4).2) rfl rfl hl.1 rfl (lv_room (Nat.le_of_ble_eq_true rfl)) dX0_bestOf_4 hcs (fun T6 H locs hq G => ?_)
  rw [hq] at G
  clear hq
  have cp1 := cpr_sp cp0 (s_X10_narrow eT5)
  refine lv_aload_n hx hb dX0_bestOf_7 rfl (lv_at hl 0 rfl) ?_
  refine lv_aload_n hx hb dX0_bestOf_8 rfl (lv_at hl 1 rfl) ?_
  refine lv_aload_n hx hb dX0_bestOf_9 rfl (lv_at hl 2 rfl) ?_
  refine lv_iload_n hx hb dX0_bestOf_10 rfl (lv_at hl 3 rfl) ?_
  refine lv_iload hx hb dX0_bestOf_11 (lv_at hl 4 rfl) ?_
  refine lv_iconst (v := 0) hx hb dX0_bestOf_13 (by decide) ?_
  obtain ⟨g7, h⟩ := oif_some h
  obtain ⟨T8, eT8, h⟩ := obind_some h
  have hg2 := s_X0_measure eT8
  have hrc2 := hg2.2.2 cp1.2.2
  have hT2 := s_X0_bestOf_b17 _ _ _ h
  refine q_avv (As := [.ref (ad a0), .ref (ad a1), .int a2, .int a3, .int 0]) (rest := []) E G hA hX hN hml (a_X0_measure l hst D cI cJ cZ cMic cSrc cSt cAI cAJ ad T5 o a0 a1 a2 a3 (0 : Int32) eT8 cp1.2.2 (by rw [cp1.1]; exact h_o) (by rw [cp1.1]; exact h_a0) (by rw [cp1.1]; exact h_a1)) (cwV 5 hts (gaV qA_28 qA_29 qA_30 qA_31 qA_32) rfl rfl rfl (by decide +kernel) ⟨Nat.le_of_ble_eq_true rfl, Nat.le_of_ble_eq_true rfl⟩) (oO_k g7).1 (cc_o0 (oO_k g7).2) rfl rfl hl.1 rfl (lv_room (Nat.le_of_ble_eq_true rfl)) dX0_bestOf_14 (cs_av hgl cp1 hg2 hT2) (fun ad2 H locs hga G => ?_)
  refine w_cast (c2 := T8.1 - T.1) (s2 := sg T8 - sg T) (cs_f1 hgl cp1 hg2) (cs_f2 hgl cp1 hg2) ?_
  have hl := lv_sub hl [0, 1] rfl
  rw [show ad o = ad2 o from (hga o (by rw [cp1.1]; exact h_o)).symm] at hl
  rw [show ad a0 = ad2 a0 from (hga a0 (by rw [cp1.1]; exact h_a0)).symm] at hl
  exact a_X0_bestOf_b17 E hA hX hN hml hst (fun ad H locs ls had G => W.iret (v := r1) hx hb hr (fun t ht hW => ⟨⟨r1, (T1, ad), rfl, ⟨rfl, rfl, had⟩, ⟨by rw [ht]; exact G.1, va_K.moved hW.alike hK, G.2.1⟩⟩, G.2.2.F ht⟩) G.2.2.2.2 dX0_bestOf_36) _ _ _ _ _ _ _ h (GL.tr (gl_cpr hgl cp1) hg2) hrc2 (fun n hn => (hga n (by rw [cp1.1]; exact Nat.lt_of_lt_of_le hn hgl.1)).trans (had n hn)) (Nat.lt_of_lt_of_le (by rw [cp1.1]; exact h_o) hg2.1) (Nat.lt_of_lt_of_le (by rw [cp1.1]; exact h_a0) hg2.1) G hl
def g_X11_quotient_b13   (s0 : Int64) : Option (Int64) := some s0
set_option maxHeartbeats 4000000 in
set_option maxRecDepth 100000 in
theorem u_X11_quotient_b13 {p : Program} {l : Launch} {e : Env} {s : State} {m : MethodId} {args : Array Value} {below : List Frame} {meth : Method} {c : Code} {Q : State → Prop} {r1 : Int64}  (E : p.tables.exec = Jvm.exec ∧ c.code = cX11_quotient ∧ (∀ w ∈ (Cond.code yX11_quotient cX11_quotient 4 (some .long) :: wsA), w.before args s = true) ∧ s.vm.findClass RX11 = some m.cls) (hN : nX s) (hml : c.maxLocals = 4) (kr13 : ∀ (ls : Array Slot), W p l e { frames := 1, cells := 0, slots := 0, locals := 0 } s m args below meth c s.heap [] 0 0 Q (F0 m 13 ls [.long r1])) : ∀ (ls : Array Slot) (s0 : Int64), g_X11_quotient_b13 s0 = some r1 → lv_has ls 4 [] → W p l e { frames := 1, cells := 0, slots := 0, locals := 0 } s m args below meth c s.heap [] 0 0 Q (F0 m 13 ls [.long s0]) := by
  have hx := E.1
  have hb := E.2.1
  have hts := E.2.2.1
  have hown := E.2.2.2
  intro ls s0 h hl
  unfold g_X11_quotient_b13 at h
  refine lv_tol (osome1 h) ?_
  exact kr13 _
def g_X11_quotient  (a0 : Int64) (a1 : Int64) : Option (Int64) := elet (lg_cmp a1 (0 : Int64)) fun v2 => if v2 = 0 then (g_X11_quotient_b13 (0 : Int64)) else (oif (¬ a1 = 0) <| elet (a0 / a1) fun v5 => g_X11_quotient_b13 v5)
set_option maxHeartbeats 4000000 in
set_option maxRecDepth 100000 in
theorem u_X11_quotient (l : Launch) (a0 : Int64) (a1 : Int64) {r1 : Int64} (h : g_X11_quotient a0 a1 = some r1) : Met l yX11_quotient (Cond.code yX11_quotient cX11_quotient 4 (some .long) :: wsA) { frames := 1, cells := 0, slots := 0, locals := 0 } (va_Pc [.long a0, .long a1] nX) (vp_Sl (fun r => r = r1)) 0 0 (fun _ => False) := by
  refine pro_in (cc := cX11_quotient) (maxL := 4) (ret := (some .long)) (by exact pn_RX11) rfl (by exact Nat.le_of_ble_eq_true rfl) (fun p e s m below meth c ls hx hb hr hts hown hlocks hml hv hl => ?_)
  have hN := hv
  have E : p.tables.exec = Jvm.exec ∧ c.code = cX11_quotient ∧ (∀ w ∈ (Cond.code yX11_quotient cX11_quotient 4 (some .long) :: wsA), w.before ([.long a0, .long a1] : List Value).toArray s = true) ∧ s.vm.findClass RX11 = some m.cls := ⟨hx, hb, hts, hown⟩
  have hl : lv_has ls 4 [(0, .long a0), (2, .long a1)] := hl
  unfold g_X11_quotient at h
  refine lv_lload_n hx hb dX11_quotient_0 rfl (lv_at hl 1 rfl) ?_
  refine lv_lconst (v := 0) hx hb dX11_quotient_1 (by decide) ?_
  refine W.lcmp hx hb dX11_quotient_2 ?_
  refine lv_topi (fun v2 ev2 => ?_)
  have h := elet_at ev2 h
  clear ev2
  refine lv_if_ne (tgt := 10) hx hb dX11_quotient_3 (by decide) (fun c3 => ?_) (fun c3 => ?_)
  · have h := oif_neg c3 h
    refine lv_lload_n hx hb dX11_quotient_10 rfl (lv_at hl 0 rfl) ?_
    refine lv_lload_n hx hb dX11_quotient_11 rfl (lv_at hl 1 rfl) ?_
    obtain ⟨g4, h⟩ := oif_some h
    refine lv_ldiv hx hb dX11_quotient_12 g4 ?_
    refine lv_topl (fun v5 ev5 => ?_)
    have h := elet_at ev5 h
    clear ev5
    have hl := lv_sub hl [] rfl
    exact u_X11_quotient_b13 E hN hml (fun ls => W.lret (v := r1) hx hb hr (fun t ht hW => ⟨r1, rfl, rfl, ht⟩) (fun _ h => absurd h List.not_mem_nil) dX11_quotient_13) _ _ h hl
  · have h := oif_pos c3 h
    refine lv_lconst (v := 0) hx hb dX11_quotient_6 (by decide) ?_
    refine lv_goto (tgt := 13) hx hb dX11_quotient_7 (by decide) ?_
    have hl := lv_sub hl [] rfl
    exact u_X11_quotient_b13 E hN hml (fun ls => W.lret (v := r1) hx hb hr (fun t ht hW => ⟨r1, rfl, rfl, ht⟩) (fun _ h => absurd h List.not_mem_nil) dX11_quotient_13) _ _ h hl
def g_X11_remainder_b11   (s0 : Int32) : Option (Int32) := some s0
set_option maxHeartbeats 4000000 in
set_option maxRecDepth 100000 in
theorem u_X11_remainder_b11 {p : Program} {l : Launch} {e : Env} {s : State} {m : MethodId} {args : Array Value} {below : List Frame} {meth : Method} {c : Code} {Q : State → Prop} {r1 : Int32}  (E : p.tables.exec = Jvm.exec ∧ c.code = cX11_remainder ∧ (∀ w ∈ (Cond.code yX11_remainder cX11_remainder 2 (some .int) :: wsA), w.before args s = true) ∧ s.vm.findClass RX11 = some m.cls) (hN : nX s) (hml : c.maxLocals = 2) (kr11 : ∀ (ls : Array Slot), W p l e { frames := 1, cells := 0, slots := 0, locals := 0 } s m args below meth c s.heap [] 0 0 Q (F0 m 11 ls [.int r1])) : ∀ (ls : Array Slot) (s0 : Int32), g_X11_remainder_b11 s0 = some r1 → lv_has ls 2 [] → W p l e { frames := 1, cells := 0, slots := 0, locals := 0 } s m args below meth c s.heap [] 0 0 Q (F0 m 11 ls [.int s0]) := by
  have hx := E.1
  have hb := E.2.1
  have hts := E.2.2.1
  have hown := E.2.2.2
  intro ls s0 h hl
  unfold g_X11_remainder_b11 at h
  refine lv_to (osome1 h) ?_
  exact kr11 _
def g_X11_remainder  (a0 : Int32) (a1 : Int32) : Option (Int32) := if a1 = 0 then (g_X11_remainder_b11 0) else (oif (¬ a1 = 0) <| elet (a0 - a0 / a1 * a1) fun v4 => g_X11_remainder_b11 v4)
set_option maxHeartbeats 4000000 in
set_option maxRecDepth 100000 in
theorem u_X11_remainder (l : Launch) (a0 : Int32) (a1 : Int32) {r1 : Int32} (h : g_X11_remainder a0 a1 = some r1) : Met l yX11_remainder (Cond.code yX11_remainder cX11_remainder 2 (some .int) :: wsA) { frames := 1, cells := 0, slots := 0, locals := 0 } (va_Pc [.int a0, .int a1] nX) (vp_Si (fun r => r = r1)) 0 0 (fun _ => False) := by
  refine pro_in (cc := cX11_remainder) (maxL := 2) (ret := (some .int)) (by exact pn_RX11) rfl (by exact Nat.le_of_ble_eq_true rfl) (fun p e s m below meth c ls hx hb hr hts hown hlocks hml hv hl => ?_)
  have hN := hv
  have E : p.tables.exec = Jvm.exec ∧ c.code = cX11_remainder ∧ (∀ w ∈ (Cond.code yX11_remainder cX11_remainder 2 (some .int) :: wsA), w.before ([.int a0, .int a1] : List Value).toArray s = true) ∧ s.vm.findClass RX11 = some m.cls := ⟨hx, hb, hts, hown⟩
  have hl : lv_has ls 2 [(0, .int a0), (1, .int a1)] := hl
  unfold g_X11_remainder at h
  refine lv_iload_n hx hb dX11_remainder_0 rfl (lv_at hl 1 rfl) ?_
  refine lv_if_ne (tgt := 8) hx hb dX11_remainder_1 (by decide) (fun c2 => ?_) (fun c2 => ?_)
  · have h := oif_neg c2 h
    refine lv_iload_n hx hb dX11_remainder_8 rfl (lv_at hl 0 rfl) ?_
    refine lv_iload_n hx hb dX11_remainder_9 rfl (lv_at hl 1 rfl) ?_
    obtain ⟨g3, h⟩ := oif_some h
    refine lv_irem hx hb dX11_remainder_10 g3 ?_
    refine lv_topi (fun v4 ev4 => ?_)
    have h := elet_at ev4 h
    clear ev4
    have hl := lv_sub hl [] rfl
    exact u_X11_remainder_b11 E hN hml (fun ls => W.iret (v := r1) hx hb hr (fun t ht hW => ⟨r1, rfl, rfl, ht⟩) (fun _ h => absurd h List.not_mem_nil) dX11_remainder_11) _ _ h hl
  · have h := oif_pos c2 h
    refine lv_iconst (v := 0) hx hb dX11_remainder_4 (by decide) ?_
    refine lv_goto (tgt := 11) hx hb dX11_remainder_5 (by decide) ?_
    have hl := lv_sub hl [] rfl
    exact u_X11_remainder_b11 E hN hml (fun ls => W.iret (v := r1) hx hb hr (fun t ht hW => ⟨r1, rfl, rfl, ht⟩) (fun _ h => absurd h List.not_mem_nil) dX11_remainder_11) _ _ h hl
def g_X1_columnOf (T : AT) (o : Nat) (a0 : Int32) : Option (Int32 × AT) := oif (oO T o 1 = true) <| elet (T.2.2.1 o 3) fun v3 => obind (g_X11_remainder a0 v3) fun r4 => some (r4, T)
set_option maxHeartbeats 4000000 in
set_option maxRecDepth 100000 in
theorem u_X1_columnOf (l : Launch) (hst : l.stackTraces = false) (D : va_G) (cI cJ cZ cMic cSrc cSt cAI cAJ : ClassId) (ad : Nat → Nat) (T : AT) (o : Nat) (a0 : Int32) {r1 : Int32} {T1 : AT} (h : g_X1_columnOf T o a0 = some (r1, T1)) : kCi l yX1_columnOf (Cond.code yX1_columnOf cX1_columnOf 2 (some .int) :: wsA) 2 21 cI cJ cZ cMic cSrc cSt cAI cAJ D ad T [.ref (ad o), .int a0] (fun r T9 => r = r1 ∧ T9 = T1) := by
  intro sz
  refine pro_in (cc := cX1_columnOf) (maxL := 2) (ret := (some .int)) (by exact pn_RX1) rfl (by exact Nat.le_of_ble_eq_true rfl) (fun p e s m below meth c ls hx hb hr hts hown hlocks hml hv hl => ?_)
  obtain ⟨hsz, hP, hK, hD0, hX, hN⟩ := hv
  subst hsz
  have hD := hD0.self (sz := s.heap.size)
  generalize hAe : va_A (cW ad T.1 (cc cI cJ cZ cMic cSrc cSt cAI cAJ ad T)) s.heap.size = A at hD hX ⊢
  have hA : ∀ q : Nat, s.heap.size ≤ q → A q := fun q h => by rw [← hAe]; exact Or.inr h
  have G : gC cI cJ cZ cMic cSrc cSt cAI cAJ D ad A s.heap s.heap [] T := ⟨hP, hD, va_S.rf⟩
  have E : cE p c cX1_columnOf s m ([.ref (ad o), .int a0] : List Value).toArray (Cond.code yX1_columnOf cX1_columnOf 2 (some .int) :: wsA) D RX1 (CT cI cJ cZ cMic cSrc cSt cAI cAJ) := ⟨hx, hb, hts, hown, hK⟩
  have hl : lv_has ls 2 [(0, .ref (ad o)), (1, .int a0)] := hl
  unfold g_X1_columnOf at h
  refine lv_iload_n hx hb dX1_columnOf_0 rfl (lv_at hl 1 rfl) ?_
  refine lv_aload_n hx hb dX1_columnOf_1 rfl (lv_at hl 0 rfl) ?_
  obtain ⟨g2, h⟩ := oif_some h
  refine c_get E G o 3 (oO_k g2).1 (cc_o1 (oO_k g2).2) rfl (fun w h => .tail _ (iA_15 h)) (by decide) (.tail _ qA_39) rfl rfl dX1_columnOf_2 ?_
  refine lv_topi (fun v3 ev3 => ?_)
  have h := elet_at ev3 h
  clear ev3
  obtain ⟨r4, er4, h⟩ := obind_some h
  refine q_stiN (As := [.int a0, .int v3]) (rest := []) ⟨hx, hb, hml, hown, hts⟩ hN (u_X11_remainder l a0 v3 er4) ⟨va_cnB (host := "AcousticCamera") 2 hts (gaC qA_145) rfl rfl rfl (hN.2.2.2.2.2 _ (List.mem_of_getElem? (i := 9) rfl)) (hts _ (.tail _ qA_131)) (by decide +kernel) ⟨Nat.le_of_ble_eq_true rfl, Nat.le_of_ble_eq_true rfl⟩, hts _ (.tail _ qA_144), trivial⟩ rfl hl.1 rfl (lv_room (Nat.le_of_ble_eq_true rfl)) dX1_columnOf_5 ⟨Nat.zero_le _, Nat.zero_le _⟩ (fun q5 hq => ?_)
  refine lv_to hq ?_
  clear hq er4
  exact W.iret (v := r4) hx hb hr (fun t ht hW => ⟨⟨r4, T, rfl, osome2 h, ⟨by rw [ht]; exact G.1, va_K.moved hW.alike hK, G.2.1⟩⟩, G.2.2.F ht⟩) G.2.2.2.2 dX1_columnOf_8
set_option maxHeartbeats 4000000 in
set_option maxRecDepth 100000 in
theorem s_X1_columnOf {T : AT} {o : Nat} {a0 : Int32} {r1 : Int32} {T1 : AT} (h : g_X1_columnOf T o a0 = some (r1, T1)) : SP T T1 := by
  have p0 := SP.rf T
  unfold g_X1_columnOf at h
  obtain ⟨g2, h⟩ := oif_some h
  obtain ⟨v3, -, h⟩ := elet_some h
  obtain ⟨r4, -, h⟩ := obind_some h
  rw [← (osome2 h).2]
  exact p0
def g_X1_rowOf (T : AT) (o : Nat) (a0 : Int32) : Option (Int32 × AT) := elet (a0.toInt64) fun v2 => oif (oO T o 1 = true) <| elet (T.2.2.1 o 3) fun v4 => elet (v4.toInt64) fun v5 => obind (g_X11_quotient v2 v5) fun r6 => elet (r6.toInt32) fun v8 => some (v8, T)
set_option maxHeartbeats 4000000 in
set_option maxRecDepth 100000 in
theorem u_X1_rowOf (l : Launch) (hst : l.stackTraces = false) (D : va_G) (cI cJ cZ cMic cSrc cSt cAI cAJ : ClassId) (ad : Nat → Nat) (T : AT) (o : Nat) (a0 : Int32) {r1 : Int32} {T1 : AT} (h : g_X1_rowOf T o a0 = some (r1, T1)) : kCi l yX1_rowOf (Cond.code yX1_rowOf cX1_rowOf 2 (some .int) :: wsA) 2 23 cI cJ cZ cMic cSrc cSt cAI cAJ D ad T [.ref (ad o), .int a0] (fun r T9 => r = r1 ∧ T9 = T1) := by
  intro sz
  refine pro_in (cc := cX1_rowOf) (maxL := 2) (ret := (some .int)) (by exact pn_RX1) rfl (by exact Nat.le_of_ble_eq_true rfl) (fun p e s m below meth c ls hx hb hr hts hown hlocks hml hv hl => ?_)
  obtain ⟨hsz, hP, hK, hD0, hX, hN⟩ := hv
  subst hsz
  have hD := hD0.self (sz := s.heap.size)
  generalize hAe : va_A (cW ad T.1 (cc cI cJ cZ cMic cSrc cSt cAI cAJ ad T)) s.heap.size = A at hD hX ⊢
  have hA : ∀ q : Nat, s.heap.size ≤ q → A q := fun q h => by rw [← hAe]; exact Or.inr h
  have G : gC cI cJ cZ cMic cSrc cSt cAI cAJ D ad A s.heap s.heap [] T := ⟨hP, hD, va_S.rf⟩
  have E : cE p c cX1_rowOf s m ([.ref (ad o), .int a0] : List Value).toArray (Cond.code yX1_rowOf cX1_rowOf 2 (some .int) :: wsA) D RX1 (CT cI cJ cZ cMic cSrc cSt cAI cAJ) := ⟨hx, hb, hts, hown, hK⟩
  have hl : lv_has ls 2 [(0, .ref (ad o)), (1, .int a0)] := hl
  unfold g_X1_rowOf at h
  refine lv_iload_n hx hb dX1_rowOf_0 rfl (lv_at hl 1 rfl) ?_
  refine lv_i2l (v := a0.toInt64) hx hb dX1_rowOf_1 rfl ?_
  refine lv_topl (fun v2 ev2 => ?_)
  have h := elet_at ev2 h
  clear ev2
  refine lv_aload_n hx hb dX1_rowOf_2 rfl (lv_at hl 0 rfl) ?_
  obtain ⟨g3, h⟩ := oif_some h
  refine c_get E G o 3 (oO_k g3).1 (cc_o1 (oO_k g3).2) rfl (fun w h => .tail _ (iA_15 h)) (by decide) (.tail _ qA_39) rfl rfl dX1_rowOf_3 ?_
  refine lv_topi (fun v4 ev4 => ?_)
  have h := elet_at ev4 h
  clear ev4
  refine lv_i2l (v := v4.toInt64) hx hb dX1_rowOf_6 rfl ?_
  refine lv_topl (fun v5 ev5 => ?_)
  have h := elet_at ev5 h
  clear ev5
  obtain ⟨r6, er6, h⟩ := obind_some h
  refine q_stlN (As := [.long v2, .long v5]) (rest := []) ⟨hx, hb, hml, hown, hts⟩ hN (u_X11_quotient l v2 v5 er6) ⟨va_cnB (host := "AcousticCamera") 2 hts (gaC qA_132) rfl rfl rfl (hN.2.2.2.2.2 _ (List.mem_of_getElem? (i := 10) rfl)) (hts _ (.tail _ qA_131)) (by decide +kernel) ⟨Nat.le_of_ble_eq_true rfl, Nat.le_of_ble_eq_true rfl⟩, hts _ (.tail _ qA_130), trivial⟩ rfl hl.1 rfl (lv_room (Nat.le_of_ble_eq_true rfl)) dX1_rowOf_7 ⟨Nat.zero_le _, Nat.zero_le _⟩ (fun q7 hq => ?_)
  refine lv_tol hq ?_
  clear hq er6
  refine lv_l2i (v := r6.toInt32) hx hb dX1_rowOf_10 rfl ?_
  refine lv_topi (fun v8 ev8 => ?_)
  have h := elet_at ev8 h
  clear ev8
  exact W.iret (v := v8) hx hb hr (fun t ht hW => ⟨⟨v8, T, rfl, osome2 h, ⟨by rw [ht]; exact G.1, va_K.moved hW.alike hK, G.2.1⟩⟩, G.2.2.F ht⟩) G.2.2.2.2 dX1_rowOf_11
set_option maxHeartbeats 4000000 in
set_option maxRecDepth 100000 in
theorem s_X1_rowOf {T : AT} {o : Nat} {a0 : Int32} {r1 : Int32} {T1 : AT} (h : g_X1_rowOf T o a0 = some (r1, T1)) : SP T T1 := by
  have p0 := SP.rf T
  unfold g_X1_rowOf at h
  obtain ⟨v2, -, h⟩ := elet_some h
  obtain ⟨g3, h⟩ := oif_some h
  obtain ⟨v4, -, h⟩ := elet_some h
  obtain ⟨v5, -, h⟩ := elet_some h
  obtain ⟨r6, -, h⟩ := obind_some h
  obtain ⟨v7, -, h⟩ := elet_some h
  rw [← (osome2 h).2]
  exact p0
def g_X1_areaAround (T : AT) (o : Nat) (a0 : Int32) : Option (Nat × AT) := oif (oO T o 1 = true) <| obind2 (g_X1_columnOf T o a0) fun r5 T3 => oif (oO T3 o 1 = true) <| obind2 (g_X1_rowOf T3 o a0) fun r10 T8 => oif (oO T8 o 1 = true) <| obind (T8.2.2.2.2 o 8) fun n13 => elet (r5 - 1) fun v14 => elet (if v14 < 0 then 0 else v14) fun v15 => oif (aA T8 n13 100 = true) <| oif (inb 0 (T8.2.1 n13).2 = true) <| elet (uI T8 n13 (0 : Int32).toNatClampNeg v15) fun T18 => oif (oO T18 o 1 = true) <| obind (T18.2.2.2.2 o 8) fun n20 => elet (r10 - 1) fun v21 => elet (if v21 < 0 then 0 else v21) fun v22 => oif (aA T18 n20 100 = true) <| oif (inb 1 (T18.2.1 n20).2 = true) <| elet (uI T18 n20 (1 : Int32).toNatClampNeg v22) fun T25 => oif (oO T25 o 1 = true) <| obind (T25.2.2.2.2 o 8) fun n27 => elet (r5 + 1) fun v28 => oif (oO T25 o 1 = true) <| elet (T25.2.2.1 o 3) fun v30 => elet (v30 - 1) fun v31 => elet (if v31 < v28 then v31 else v28) fun v32 => oif (aA T25 n27 100 = true) <| oif (inb 2 (T25.2.1 n27).2 = true) <| elet (uI T25 n27 (2 : Int32).toNatClampNeg v32) fun T35 => oif (oO T35 o 1 = true) <| obind (T35.2.2.2.2 o 8) fun n37 => elet (r10 + 1) fun v38 => oif (oO T35 o 1 = true) <| elet (T35.2.2.1 o 4) fun v40 => elet (v40 - 1) fun v41 => elet (if v41 < v38 then v41 else v38) fun v42 => oif (aA T35 n37 100 = true) <| oif (inb 3 (T35.2.1 n37).2 = true) <| elet (uI T35 n37 (3 : Int32).toNatClampNeg v42) fun T45 => oif (oO T45 o 1 = true) <| obind (T45.2.2.2.2 o 8) fun n47 => some (n47, T45)
set_option maxHeartbeats 4000000 in
set_option maxRecDepth 100000 in
theorem u_X1_areaAround (l : Launch) (hst : l.stackTraces = false) (D : va_G) (cI cJ cZ cMic cSrc cSt cAI cAJ : ClassId) (ad : Nat → Nat) (T : AT) (o : Nat) (a0 : Int32) {r1 : Nat} {T1 : AT} (h : g_X1_areaAround T o a0 = some (r1, T1)) : kCr l yX1_areaAround (Cond.code yX1_areaAround cX1_areaAround 4 (some (.array .int)) :: wsA) 3 44 cI cJ cZ cMic cSrc cSt cAI cAJ D ad T [.ref (ad o), .int a0] (fun T9 => T9 = T1) (r1) := by
  intro sz
  refine pro_in (cc := cX1_areaAround) (maxL := 4) (ret := (some (.array .int))) (by exact pn_RX1) rfl (by exact Nat.le_of_ble_eq_true rfl) (fun p e s m below meth c ls hx hb hr hts hown hlocks hml hv hl => ?_)
  obtain ⟨hsz, hP, hK, hD0, hX, hN⟩ := hv
  subst hsz
  have hD := hD0.self (sz := s.heap.size)
  generalize hAe : va_A (cW ad T.1 (cc cI cJ cZ cMic cSrc cSt cAI cAJ ad T)) s.heap.size = A at hD hX ⊢
  have hA : ∀ q : Nat, s.heap.size ≤ q → A q := fun q h => by rw [← hAe]; exact Or.inr h
  have G : gC cI cJ cZ cMic cSrc cSt cAI cAJ D ad A s.heap s.heap [] T := ⟨hP, hD, va_S.rf⟩
  have E : cE p c cX1_areaAround s m ([.ref (ad o), .int a0] : List Value).toArray (Cond.code yX1_areaAround cX1_areaAround 4 (some (.array .int)) :: wsA) D RX1 (CT cI cJ cZ cMic cSrc cSt cAI cAJ) := ⟨hx, hb, hts, hown, hK⟩
  have hl : lv_has ls 4 [(0, .ref (ad o)), (1, .int a0)] := hl
  unfold g_X1_areaAround at h
  refine lv_aload_n hx hb dX1_areaAround_0 rfl (lv_at hl 0 rfl) ?_
  refine lv_iload_n hx hb dX1_areaAround_1 rfl (lv_at hl 1 rfl) ?_
  obtain ⟨g2, h⟩ := oif_some h
  obtain ⟨r5, T3, eT3, h⟩ := obind2_some h
  refine q_cvi (As := [.int a0]) (rest := []) E G hA hX hN hml (u_X1_columnOf l hst D cI cJ cZ cMic cSrc cSt cAI cAJ ad T o a0 eT3) (cwV 1 hts (gaV qA_140 qA_141 qA_142 qA_37 qA_143) rfl rfl rfl (by decide +kernel) ⟨Nat.le_of_ble_eq_true rfl, Nat.le_of_ble_eq_true rfl⟩) (oO_k g2).1 (cc_o1 (oO_k g2).2) rfl rfl hl.1 rfl (lv_room (Nat.le_of_ble_eq_true rfl)) dX1_areaAround_2 ⟨Nat.zero_le _, Nat.zero_le _⟩ (fun q6 T4 H locs hq G => ?_)
  obtain ⟨hq1, hq2⟩ := hq
  rw [hq2] at G
  refine lv_to hq1 ?_
  clear hq1 hq2 eT3
  refine lv_istore_n (lv' := [(2, .int r5), (0, .ref (ad o)), (1, .int a0)]) hx hb dX1_areaAround_5 rfl hl (by decide) rfl (fun ls hl => ?_)
  refine lv_aload_n hx hb dX1_areaAround_6 rfl (lv_at hl 1 rfl) ?_
  refine lv_iload_n hx hb dX1_areaAround_7 rfl (lv_at hl 2 rfl) ?_
  obtain ⟨g7, h⟩ := oif_some h
  obtain ⟨r10, T8, eT8, h⟩ := obind2_some h
  refine q_cvi (As := [.int a0]) (rest := []) E G hA hX hN hml (u_X1_rowOf l hst D cI cJ cZ cMic cSrc cSt cAI cAJ ad T3 o a0 eT8) (cwV 1 hts (gaV qA_146 qA_147 qA_148 qA_37 qA_149) rfl rfl rfl (by decide +kernel) ⟨Nat.le_of_ble_eq_true rfl, Nat.le_of_ble_eq_true rfl⟩) (oO_k g7).1 (cc_o1 (oO_k g7).2) rfl rfl hl.1 rfl (lv_room (Nat.le_of_ble_eq_true rfl)) dX1_areaAround_8 ⟨Nat.zero_le _, Nat.zero_le _⟩ (fun q11 T9 H locs hq G => ?_)
  obtain ⟨hq1, hq2⟩ := hq
  rw [hq2] at G
  refine lv_to hq1 ?_
  clear hq1 hq2 eT8
  refine lv_istore_n (lv' := [(3, .int r10), (2, .int r5), (0, .ref (ad o)), (1, .int a0)]) hx hb dX1_areaAround_11 rfl hl (by decide) rfl (fun ls hl => ?_)
  refine lv_aload_n hx hb dX1_areaAround_12 rfl (lv_at hl 2 rfl) ?_
  obtain ⟨g12, h⟩ := oif_some h
  obtain ⟨n13, en13, h⟩ := obind_some h
  refine c_get E G o 8 (v := .ref (ad n13)) (oO_k g12).1 (cc_o1 (oO_k g12).2) rfl (fun w h => .tail _ (iA_15 h)) (by decide) (.tail _ qA_137) rfl (by rw [en13]; rfl) dX1_areaAround_13 ?_
  clear en13
  refine lv_iconst (v := 0) hx hb dX1_areaAround_16 (by decide) ?_
  refine lv_iload_n hx hb dX1_areaAround_17 rfl (lv_at hl 1 rfl) ?_
  refine lv_iconst (v := 1) hx hb dX1_areaAround_18 (by decide) ?_
  refine lv_isub hx hb dX1_areaAround_19 ?_
  refine lv_topi (fun v14 ev14 => ?_)
  have h := elet_at ev14 h
  clear ev14
  refine lv_iconst (v := 0) hx hb dX1_areaAround_20 (by decide) ?_
  refine va_mmax hx hb (hml.trans hl.1.symm) hown (hts _ (.tail _ qA_138)) (hts _ (.tail _ qA_17)) (hts _ (.tail _ qA_18)) (hts _ (.tail _ qA_19)) (Nat.le_of_ble_eq_true rfl) (Nat.le_of_ble_eq_true rfl) (Nat.zero_le _) (Nat.zero_le _) dX1_areaAround_21 ?_
  refine lv_topi (fun v15 ev15 => ?_)
  have h := elet_at ev15 h
  clear ev15
  obtain ⟨g16, h⟩ := oif_some h
  obtain ⟨g17, h⟩ := oif_some h
  refine c_iast E G n13 0 (k := (0 : Int32).toNatClampNeg) (v := v15) (aA_k g16).1 (cc_a100 (aA_k g16).2.1) rfl (inb_k g17).1 (inb_k g17).2 (aA_k g16).2.2 dX1_areaAround_24 (fun H locs G => ?_)
  have G := gC_up_i (f := upd (T8.2.2.1 n13) (0 : Int32).toNatClampNeg v15) (ccv_100 (aA_k g16).2.1) G
  obtain ⟨T18, eT18, h⟩ := elet_some h
  have G : gC cI cJ cZ cMic cSrc cSt cAI cAJ D ad A s.heap H locs T18 := by rw [eT18]; exact G
  clear eT18
  refine lv_aload_n hx hb dX1_areaAround_25 rfl (lv_at hl 2 rfl) ?_
  obtain ⟨g19, h⟩ := oif_some h
  obtain ⟨n20, en20, h⟩ := obind_some h
  refine c_get E G o 8 (v := .ref (ad n20)) (oO_k g19).1 (cc_o1 (oO_k g19).2) rfl (fun w h => .tail _ (iA_15 h)) (by decide) (.tail _ qA_137) rfl (by rw [en20]; rfl) dX1_areaAround_26 ?_
  clear en20
  refine lv_iconst (v := 1) hx hb dX1_areaAround_29 (by decide) ?_
  refine lv_iload_n hx hb dX1_areaAround_30 rfl (lv_at hl 0 rfl) ?_
  refine lv_iconst (v := 1) hx hb dX1_areaAround_31 (by decide) ?_
  refine lv_isub hx hb dX1_areaAround_32 ?_
  refine lv_topi (fun v21 ev21 => ?_)
  have h := elet_at ev21 h
  clear ev21
  refine lv_iconst (v := 0) hx hb dX1_areaAround_33 (by decide) ?_
  refine va_mmax hx hb (hml.trans hl.1.symm) hown (hts _ (.tail _ qA_138)) (hts _ (.tail _ qA_17)) (hts _ (.tail _ qA_18)) (hts _ (.tail _ qA_19)) (Nat.le_of_ble_eq_true rfl) (Nat.le_of_ble_eq_true rfl) (Nat.zero_le _) (Nat.zero_le _) dX1_areaAround_34 ?_
  refine lv_topi (fun v22 ev22 => ?_)
  have h := elet_at ev22 h
  clear ev22
  obtain ⟨g23, h⟩ := oif_some h
  obtain ⟨g24, h⟩ := oif_some h
  refine c_iast E G n20 0 (k := (1 : Int32).toNatClampNeg) (v := v22) (aA_k g23).1 (cc_a100 (aA_k g23).2.1) rfl (inb_k g24).1 (inb_k g24).2 (aA_k g23).2.2 dX1_areaAround_37 (fun H locs G => ?_)
  have G := gC_up_i (f := upd (T18.2.2.1 n20) (1 : Int32).toNatClampNeg v22) (ccv_100 (aA_k g23).2.1) G
  obtain ⟨T25, eT25, h⟩ := elet_some h
  have G : gC cI cJ cZ cMic cSrc cSt cAI cAJ D ad A s.heap H locs T25 := by rw [eT25]; exact G
  clear eT25
  refine lv_aload_n hx hb dX1_areaAround_38 rfl (lv_at hl 2 rfl) ?_
  obtain ⟨g26, h⟩ := oif_some h
  obtain ⟨n27, en27, h⟩ := obind_some h
  refine c_get E G o 8 (v := .ref (ad n27)) (oO_k g26).1 (cc_o1 (oO_k g26).2) rfl (fun w h => .tail _ (iA_15 h)) (by decide) (.tail _ qA_137) rfl (by rw [en27]; rfl) dX1_areaAround_39 ?_
  clear en27
  refine lv_iconst (v := 2) hx hb dX1_areaAround_42 (by decide) ?_
  refine lv_iload_n hx hb dX1_areaAround_43 rfl (lv_at hl 1 rfl) ?_
  refine lv_iconst (v := 1) hx hb dX1_areaAround_44 (by decide) ?_
  refine lv_iadd hx hb dX1_areaAround_45 ?_
  refine lv_topi (fun v28 ev28 => ?_)
  have h := elet_at ev28 h
  clear ev28
  refine lv_aload_n hx hb dX1_areaAround_46 rfl (lv_at hl 2 rfl) ?_
  obtain ⟨g29, h⟩ := oif_some h
  refine c_get E G o 3 (oO_k g29).1 (cc_o1 (oO_k g29).2) rfl (fun w h => .tail _ (iA_15 h)) (by decide) (.tail _ qA_39) rfl rfl dX1_areaAround_47 ?_
  refine lv_topi (fun v30 ev30 => ?_)
  have h := elet_at ev30 h
  clear ev30
  refine lv_iconst (v := 1) hx hb dX1_areaAround_50 (by decide) ?_
  refine lv_isub hx hb dX1_areaAround_51 ?_
  refine lv_topi (fun v31 ev31 => ?_)
  have h := elet_at ev31 h
  clear ev31
  refine va_mmin hx hb (hml.trans hl.1.symm) hown (hts _ (.tail _ qA_139)) (hts _ (.tail _ qA_50)) (hts _ (.tail _ qA_18)) (hts _ (.tail _ qA_51)) (Nat.le_of_ble_eq_true rfl) (Nat.le_of_ble_eq_true rfl) (Nat.zero_le _) (Nat.zero_le _) dX1_areaAround_52 ?_
  refine lv_topi (fun v32 ev32 => ?_)
  have h := elet_at ev32 h
  clear ev32
  obtain ⟨g33, h⟩ := oif_some h
  obtain ⟨g34, h⟩ := oif_some h
  refine c_iast E G n27 0 (k := (2 : Int32).toNatClampNeg) (v := v32) (aA_k g33).1 (cc_a100 (aA_k g33).2.1) rfl (inb_k g34).1 (inb_k g34).2 (aA_k g33).2.2 dX1_areaAround_55 (fun H locs G => ?_)
  have G := gC_up_i (f := upd (T25.2.2.1 n27) (2 : Int32).toNatClampNeg v32) (ccv_100 (aA_k g33).2.1) G
  obtain ⟨T35, eT35, h⟩ := elet_some h
  have G : gC cI cJ cZ cMic cSrc cSt cAI cAJ D ad A s.heap H locs T35 := by rw [eT35]; exact G
  clear eT35
  refine lv_aload_n hx hb dX1_areaAround_56 rfl (lv_at hl 2 rfl) ?_
  obtain ⟨g36, h⟩ := oif_some h
  obtain ⟨n37, en37, h⟩ := obind_some h
  refine c_get E G o 8 (v := .ref (ad n37)) (oO_k g36).1 (cc_o1 (oO_k g36).2) rfl (fun w h => .tail _ (iA_15 h)) (by decide) (.tail _ qA_137) rfl (by rw [en37]; rfl) dX1_areaAround_57 ?_
  clear en37
  refine lv_iconst (v := 3) hx hb dX1_areaAround_60 (by decide) ?_
  refine lv_iload_n hx hb dX1_areaAround_61 rfl (lv_at hl 0 rfl) ?_
  refine lv_iconst (v := 1) hx hb dX1_areaAround_62 (by decide) ?_
  refine lv_iadd hx hb dX1_areaAround_63 ?_
  refine lv_topi (fun v38 ev38 => ?_)
  have h := elet_at ev38 h
  clear ev38
  refine lv_aload_n hx hb dX1_areaAround_64 rfl (lv_at hl 2 rfl) ?_
  obtain ⟨g39, h⟩ := oif_some h
  refine c_get E G o 4 (oO_k g39).1 (cc_o1 (oO_k g39).2) rfl (fun w h => .tail _ (iA_15 h)) (by decide) (.tail _ qA_40) rfl rfl dX1_areaAround_65 ?_
  refine lv_topi (fun v40 ev40 => ?_)
  have h := elet_at ev40 h
  clear ev40
  refine lv_iconst (v := 1) hx hb dX1_areaAround_68 (by decide) ?_
  refine lv_isub hx hb dX1_areaAround_69 ?_
  refine lv_topi (fun v41 ev41 => ?_)
  have h := elet_at ev41 h
  clear ev41
  refine va_mmin hx hb (hml.trans hl.1.symm) hown (hts _ (.tail _ qA_139)) (hts _ (.tail _ qA_50)) (hts _ (.tail _ qA_18)) (hts _ (.tail _ qA_51)) (Nat.le_of_ble_eq_true rfl) (Nat.le_of_ble_eq_true rfl) (Nat.zero_le _) (Nat.zero_le _) dX1_areaAround_70 ?_
  refine lv_topi (fun v42 ev42 => ?_)
  have h := elet_at ev42 h
  clear ev42
  obtain ⟨g43, h⟩ := oif_some h
  obtain ⟨g44, h⟩ := oif_some h
  refine c_iast E G n37 0 (k := (3 : Int32).toNatClampNeg) (v := v42) (aA_k g43).1 (cc_a100 (aA_k g43).2.1) rfl (inb_k g44).1 (inb_k g44).2 (aA_k g43).2.2 dX1_areaAround_73 (fun H locs G => ?_)
  have G := gC_up_i (f := upd (T35.2.2.1 n37) (3 : Int32).toNatClampNeg v42) (ccv_100 (aA_k g43).2.1) G
  obtain ⟨T45, eT45, h⟩ := elet_some h
  have G : gC cI cJ cZ cMic cSrc cSt cAI cAJ D ad A s.heap H locs T45 := by rw [eT45]; exact G
  clear eT45
  refine lv_aload_n hx hb dX1_areaAround_74 rfl (lv_at hl 2 rfl) ?_
  obtain ⟨g46, h⟩ := oif_some h
  obtain ⟨n47, en47, h⟩ := obind_some h
  refine c_get E G o 8 (v := .ref (ad n47)) (oO_k g46).1 (cc_o1 (oO_k g46).2) rfl (fun w h => .tail _ (iA_15 h)) (by decide) (.tail _ qA_137) rfl (by rw [en47]; rfl) dX1_areaAround_75 ?_
  clear en47
  exact W.aret hx hb hr (.inr ⟨_, rfl⟩) (.inr ⟨_, rfl⟩) (fun t ht hW => ⟨⟨T45, ad n47, rfl, (osome2 h).2, ⟨congrArg ad (osome2 h).1, ⟨by rw [ht]; exact G.1, va_K.moved hW.alike hK, G.2.1⟩⟩⟩, G.2.2.F ht⟩) G.2.2.2.2 dX1_areaAround_78
set_option maxHeartbeats 4000000 in
set_option maxRecDepth 100000 in
theorem s_X1_areaAround {T : AT} {o : Nat} {a0 : Int32} {r1 : Nat} {T1 : AT} (h : g_X1_areaAround T o a0 = some (r1, T1)) : SP T T1 := by
  have p0 := SP.rf T
  unfold g_X1_areaAround at h
  obtain ⟨g2, h⟩ := oif_some h
  obtain ⟨r4, T3, eT3, h⟩ := obind2_some h
  have p1 : SP T T3 := SP.tr p0 (s_X1_columnOf eT3)
  obtain ⟨g5, h⟩ := oif_some h
  obtain ⟨r7, T6, eT6, h⟩ := obind2_some h
  have p2 : SP T T6 := SP.tr p1 (s_X1_rowOf eT6)
  obtain ⟨g8, h⟩ := oif_some h
  obtain ⟨n9, en9, h⟩ := obind_some h
  obtain ⟨v10, -, h⟩ := elet_some h
  obtain ⟨v11, -, h⟩ := elet_some h
  obtain ⟨g12, h⟩ := oif_some h
  obtain ⟨g13, h⟩ := oif_some h
  obtain ⟨T14, eT14, h⟩ := elet_some h
  have p3 : SP T T14 := SP.tr p2 (by rw [eT14]; exact sp_uI)
  obtain ⟨g15, h⟩ := oif_some h
  obtain ⟨n16, en16, h⟩ := obind_some h
  obtain ⟨v17, -, h⟩ := elet_some h
  obtain ⟨v18, -, h⟩ := elet_some h
  obtain ⟨g19, h⟩ := oif_some h
  obtain ⟨g20, h⟩ := oif_some h
  obtain ⟨T21, eT21, h⟩ := elet_some h
  have p4 : SP T T21 := SP.tr p3 (by rw [eT21]; exact sp_uI)
  obtain ⟨g22, h⟩ := oif_some h
  obtain ⟨n23, en23, h⟩ := obind_some h
  obtain ⟨v24, -, h⟩ := elet_some h
  obtain ⟨g25, h⟩ := oif_some h
  obtain ⟨v26, -, h⟩ := elet_some h
  obtain ⟨v27, -, h⟩ := elet_some h
  obtain ⟨v28, -, h⟩ := elet_some h
  obtain ⟨g29, h⟩ := oif_some h
  obtain ⟨g30, h⟩ := oif_some h
  obtain ⟨T31, eT31, h⟩ := elet_some h
  have p5 : SP T T31 := SP.tr p4 (by rw [eT31]; exact sp_uI)
  obtain ⟨g32, h⟩ := oif_some h
  obtain ⟨n33, en33, h⟩ := obind_some h
  obtain ⟨v34, -, h⟩ := elet_some h
  obtain ⟨g35, h⟩ := oif_some h
  obtain ⟨v36, -, h⟩ := elet_some h
  obtain ⟨v37, -, h⟩ := elet_some h
  obtain ⟨v38, -, h⟩ := elet_some h
  obtain ⟨g39, h⟩ := oif_some h
  obtain ⟨g40, h⟩ := oif_some h
  obtain ⟨T41, eT41, h⟩ := elet_some h
  have p6 : SP T T41 := SP.tr p5 (by rw [eT41]; exact sp_uI)
  obtain ⟨g42, h⟩ := oif_some h
  obtain ⟨n43, en43, h⟩ := obind_some h
  rw [← (osome2 h).2]
  exact p6
def g_X10_add_b56  (T : AT)  : Option (AT) := some T
def g_X10_add_b11  : Nat → AT → Nat → Int32 → Nat → Int32 → Int32 → Int32 → Option (AT)
  | 0, _, _, _, _, _, _, _ => none
  | n + 1, T, l0, l1, l2, l3, l4, l5 => oif (oO T l2 10 = true) <| elet (T.2.2.1 l2 2) fun v3 => if v3 ≤ l5 then (oif (oO T l0 10 = true) <| obind (g_X10_settle T l0 l1) fun T6 => g_X10_add_b56 T6) else (oif (oO T l0 10 = true) <| obind (T.2.2.2.2 l0 1) fun n9 => oif (aA T n9 107 = true) <| oif (inb l5 (T.2.1 n9).2 = true) <| obind (T.2.2.2.2 n9 l5.toNatClampNeg) fun n12 => oif (aA T n12 101 = true) <| oif (inb l1 (T.2.1 n12).2 = true) <| elet (T.2.2.2.1 n12 l1.toNatClampNeg) fun v15 => elet (l4.toInt64) fun v16 => oif (oO T l2 10 = true) <| obind (T.2.2.2.2 l2 1) fun n18 => oif (aA T n18 107 = true) <| oif (inb l5 (T.2.1 n18).2 = true) <| obind (T.2.2.2.2 n18 l5.toNatClampNeg) fun n21 => oif (aA T n21 101 = true) <| oif (inb l3 (T.2.1 n21).2 = true) <| elet (T.2.2.2.1 n21 l3.toNatClampNeg) fun v24 => elet (v16 * v24) fun v25 => elet (v15 + v25) fun v26 => oif (aA T n12 101 = true) <| oif (inb l1 (T.2.1 n12).2 = true) <| elet (uJ T n12 l1.toNatClampNeg v26) fun T29 => elet (l5 + Int32.ofInt (1)) fun v30 => g_X10_add_b11 n T29 l0 l1 l2 l3 l4 v30)
def g_X10_add_b8  (T : AT) (l0 : Nat) (l1 : Int32) (l2 : Nat) (l3 : Int32) (l4 : Int32) : Option (AT) := g_X10_add_b11 16384 T l0 l1 l2 l3 l4 0
def g_X10_add (T : AT) (o : Nat) (a0 : Int32) (a1 : Nat) (a2 : Int32) (a3 : Int32) : Option (AT) := oif (oO T a1 10 = true) <| elet (T.2.2.1 a1 2) fun v3 => oif (oO T o 10 = true) <| obind (g_X10_widenTo T o v3) fun T5 => g_X10_add_b8 T5 o a0 a1 a2 a3
set_option maxHeartbeats 4000000 in
set_option maxRecDepth 100000 in
theorem s_X10_add_b56 {T1 : AT} : ∀ (T : AT), g_X10_add_b56 T = some T1 → GL T T1 := by
  intro T h
  have p0 := GL.rf T
  unfold g_X10_add_b56 at h
  rw [← osome1 h]
  exact p0
set_option maxHeartbeats 4000000 in
set_option maxRecDepth 100000 in
theorem s_X10_add_b11 {T1 : AT} : ∀ n : Nat, ∀ (T : AT) (l0 : Nat) (l1 : Int32) (l2 : Nat) (l3 : Int32) (l4 : Int32) (l5 : Int32), g_X10_add_b11 n T l0 l1 l2 l3 l4 l5 = some T1 → GL T T1 := by
  intro n
  induction n with
  | zero =>
    intro T l0 l1 l2 l3 l4 l5 h
    have h : (none : Option (AT)) = some T1 := h
    cases h
  | succ n ih =>
    intro T l0 l1 l2 l3 l4 l5 h
    have p0 := GL.rf T
    unfold g_X10_add_b11 at h
    obtain ⟨g2, h⟩ := oif_some h
    obtain ⟨v3, -, h⟩ := elet_some h
    rcases oif_or h with ⟨c4, h⟩ | ⟨c4, h⟩
    · have h := h
      obtain ⟨g5, h⟩ := oif_some h
      obtain ⟨T6, eT6, h⟩ := obind_some h
      have p1 : GL T T6 := GL.tr p0 (s_X10_settle eT6)
      exact GL.tr p1 (s_X10_add_b56 _ h)
    · have h := h
      obtain ⟨g8, h⟩ := oif_some h
      obtain ⟨n9, en9, h⟩ := obind_some h
      obtain ⟨g10, h⟩ := oif_some h
      obtain ⟨g11, h⟩ := oif_some h
      obtain ⟨n12, en12, h⟩ := obind_some h
      obtain ⟨g13, h⟩ := oif_some h
      obtain ⟨g14, h⟩ := oif_some h
      obtain ⟨v15, -, h⟩ := elet_some h
      obtain ⟨v16, -, h⟩ := elet_some h
      obtain ⟨g17, h⟩ := oif_some h
      obtain ⟨n18, en18, h⟩ := obind_some h
      obtain ⟨g19, h⟩ := oif_some h
      obtain ⟨g20, h⟩ := oif_some h
      obtain ⟨n21, en21, h⟩ := obind_some h
      obtain ⟨g22, h⟩ := oif_some h
      obtain ⟨g23, h⟩ := oif_some h
      obtain ⟨v24, -, h⟩ := elet_some h
      obtain ⟨v25, -, h⟩ := elet_some h
      obtain ⟨v26, -, h⟩ := elet_some h
      obtain ⟨g27, h⟩ := oif_some h
      obtain ⟨g28, h⟩ := oif_some h
      obtain ⟨T29, eT29, h⟩ := elet_some h
      have p1 : GL T T29 := GL.tr p0 (by rw [eT29]; exact gl_sp sp_uJ)
      obtain ⟨v30, ev30, h⟩ := elet_some h
      exact GL.tr p1 (ih _ _ _ _ _ _ _ h)
set_option maxHeartbeats 4000000 in
set_option maxRecDepth 100000 in
theorem s_X10_add_b8 {T1 : AT} : ∀ (T : AT) (l0 : Nat) (l1 : Int32) (l2 : Nat) (l3 : Int32) (l4 : Int32), g_X10_add_b8 T l0 l1 l2 l3 l4 = some T1 → GL T T1 := by
  intro T l0 l1 l2 l3 l4 h
  have p0 := GL.rf T
  unfold g_X10_add_b8 at h
  exact GL.tr p0 (s_X10_add_b11 _ _ _ _ _ _ _ _ h)
set_option maxHeartbeats 4000000 in
set_option maxRecDepth 100000 in
theorem s_X10_add {T : AT} {o : Nat} {a0 : Int32} {a1 : Nat} {a2 : Int32} {a3 : Int32} {T1 : AT} (h : g_X10_add T o a0 a1 a2 a3 = some T1) : GL T T1 := by
  have p0 := GL.rf T
  unfold g_X10_add at h
  obtain ⟨g2, h⟩ := oif_some h
  obtain ⟨v3, -, h⟩ := elet_some h
  obtain ⟨g4, h⟩ := oif_some h
  obtain ⟨T5, eT5, h⟩ := obind_some h
  have p1 : GL T T5 := GL.tr p0 (s_X10_widenTo eT5)
  exact GL.tr p1 (s_X10_add_b8 _ _ _ _ _ _ h)
set_option maxHeartbeats 4000000 in
set_option maxRecDepth 100000 in
theorem a_X10_add_b56 {p : Program} {l : Launch} {e : Env} {s : State} {m : MethodId} {args : Array Value} {below : List Frame} {meth : Method} {c : Code} {Q : State → Prop} {D : va_G} {A : Nat → Prop} {cI cJ cZ cMic cSrc cSt cAI cAJ : ClassId} {ad0 : Nat → Nat} {T0 : AT} {T1 : AT} (E : cE p c cX10_add s m args (Cond.code yX10_add cX10_add 6 none :: wsA) D RX10 (CT cI cJ cZ cMic cSrc cSt cAI cAJ)) (hA : ∀ q : Nat, s.heap.size ≤ q → A q) (hX : xT A s) (hN : nX s) (hml : c.maxLocals = 6) (hst : l.stackTraces = false) (kr56 : ∀ (ad : Nat → Nat) (H : Heap) (locs : List Loc) (ls : Array Slot), (∀ n, n < T0.1 → ad n = ad0 n) → gC cI cJ cZ cMic cSrc cSt cAI cAJ D ad A s.heap H locs T1 → W p l e { frames := 3, cells := T1.1 - T0.1, slots := sg T1 - sg T0, locals := 49 } s m args below meth c H locs (T1.1 - T0.1) (sg T1 - sg T0) Q (F0 m 56 ls [])) : ∀ (T : AT) (ad : Nat → Nat) (H : Heap) (locs : List Loc) (ls : Array Slot), g_X10_add_b56 T = some T1 → GL T0 T → RC T → (∀ n, n < T0.1 → ad n = ad0 n) → gC cI cJ cZ cMic cSrc cSt cAI cAJ D ad A s.heap H locs T → lv_has ls 6 [] → W p l e { frames := 3, cells := T1.1 - T0.1, slots := sg T1 - sg T0, locals := 49 } s m args below meth c H locs (T.1 - T0.1) (sg T - sg T0) Q (F0 m 56 ls []) := by
  have hx := E.1
  have hb := E.2.1
  have hts := E.2.2.1
  have hown := E.2.2.2.1
  have hK := E.2.2.2.2
  intro T ad H locs ls h hgl hrc had G hl
  have hT1 := s_X10_add_b56 _ h
  have hcs := cs_ok hgl hT1
  have cp0 := cpr0 hrc
  unfold g_X10_add_b56 at h
  rw [osome1 h] at G
  refine w_cast (c2 := T1.1 - T0.1) (s2 := sg T1 - sg T0) (by rw [← osome1 h, cp0.1] <;> rfl) (by rw [← osome1 h, sg_cpr cp0] <;> rfl) ?_
  exact kr56 ad _ _ _ had G
set_option maxHeartbeats 4000000 in
set_option maxRecDepth 100000 in
theorem a_X10_add_b11 {p : Program} {l : Launch} {e : Env} {s : State} {m : MethodId} {args : Array Value} {below : List Frame} {meth : Method} {c : Code} {Q : State → Prop} {D : va_G} {A : Nat → Prop} {cI cJ cZ cMic cSrc cSt cAI cAJ : ClassId} {ad0 : Nat → Nat} {T0 : AT} {T1 : AT} (E : cE p c cX10_add s m args (Cond.code yX10_add cX10_add 6 none :: wsA) D RX10 (CT cI cJ cZ cMic cSrc cSt cAI cAJ)) (hA : ∀ q : Nat, s.heap.size ≤ q → A q) (hX : xT A s) (hN : nX s) (hml : c.maxLocals = 6) (hst : l.stackTraces = false) (kr56 : ∀ (ad : Nat → Nat) (H : Heap) (locs : List Loc) (ls : Array Slot), (∀ n, n < T0.1 → ad n = ad0 n) → gC cI cJ cZ cMic cSrc cSt cAI cAJ D ad A s.heap H locs T1 → W p l e { frames := 3, cells := T1.1 - T0.1, slots := sg T1 - sg T0, locals := 49 } s m args below meth c H locs (T1.1 - T0.1) (sg T1 - sg T0) Q (F0 m 56 ls [])) : ∀ n : Nat, ∀ (T : AT) (ad : Nat → Nat) (H : Heap) (locs : List Loc) (ls : Array Slot) (l0 : Nat) (l1 : Int32) (l2 : Nat) (l3 : Int32) (l4 : Int32) (l5 : Int32), g_X10_add_b11 n T l0 l1 l2 l3 l4 l5 = some T1 → GL T0 T → RC T → (∀ n, n < T0.1 → ad n = ad0 n) → l0 < T.1 → l2 < T.1 → gC cI cJ cZ cMic cSrc cSt cAI cAJ D ad A s.heap H locs T → lv_has ls 6 [(0, .ref (ad l0)), (1, .int l1), (2, .ref (ad l2)), (3, .int l3), (4, .int l4), (5, .int l5)] → W p l e { frames := 3, cells := T1.1 - T0.1, slots := sg T1 - sg T0, locals := 49 } s m args below meth c H locs (T.1 - T0.1) (sg T - sg T0) Q (F0 m 11 ls []) := by
  have hx := E.1
  have hb := E.2.1
  have hts := E.2.2.1
  have hown := E.2.2.2.1
  have hK := E.2.2.2.2
  intro n
  induction n with
  | zero =>
    intro T ad H locs ls l0 l1 l2 l3 l4 l5 h
    have h : (none : Option (AT)) = some T1 := h
    cases h
  | succ n ih =>
    intro T ad H locs ls l0 l1 l2 l3 l4 l5 h hgl hrc had h_l0 h_l2 G hl
    have hT1 := s_X10_add_b11 _ _ _ _ _ _ _ _ h
    have hcs := cs_ok hgl hT1
    have cp0 := cpr0 hrc
    unfold g_X10_add_b11 at h
    refine lv_iload hx hb dX10_add_11 (lv_at hl 5 rfl) ?_
    refine lv_aload_n hx hb dX10_add_13 rfl (lv_at hl 2 rfl) ?_
    obtain ⟨g2, h⟩ := oif_some h
    refine c_get E G l2 2 (oO_k g2).1 (cc_o10 (oO_k g2).2) rfl (fun w h => .tail _ (iA_12 h)) (by decide) (.tail _ qA_15) rfl rfl dX10_add_14 ?_
    refine lv_topi (fun v3 ev3 => ?_)
    have h := elet_at ev3 h
    clear ev3
    refine lv_icmp_ge (tgt := 51) hx hb dX10_add_17 (by decide) (fun c4 => ?_) (fun c4 => ?_)
    · have h := oif_pos c4 h
      refine lv_aload_n hx hb dX10_add_51 rfl (lv_at hl 0 rfl) ?_
      refine lv_iload_n hx hb dX10_add_52 rfl (lv_at hl 1 rfl) ?_
      obtain ⟨g5, h⟩ := oif_some h
      obtain ⟨T6, eT6, h⟩ := obind_some h
      have hg2 := s_X10_settle eT6
      have hrc2 := hg2.2.2 cp0.2.2
      have hT2 := s_X10_add_b56 _ h
      refine q_avv (As := [.int l1]) (rest := []) E G hA hX hN hml (a_X10_settle l hst D cI cJ cZ cMic cSrc cSt cAI cAJ ad T l0 l1 eT6 cp0.2.2 (by rw [cp0.1]; exact h_l0)) (cwV 1 hts (gaV qA_103 qA_91 qA_92 qA_6 qA_93) rfl rfl rfl (by decide +kernel) ⟨Nat.le_of_ble_eq_true rfl, Nat.le_of_ble_eq_true rfl⟩) (oO_k g5).1 (cc_o10 (oO_k g5).2) rfl rfl hl.1 rfl (lv_room (Nat.le_of_ble_eq_true rfl)) dX10_add_53 (cs_av hgl cp0 hg2 hT2) (fun ad2 H locs hga G => ?_)
      refine w_cast (c2 := T6.1 - T0.1) (s2 := sg T6 - sg T0) (cs_f1 hgl cp0 hg2) (cs_f2 hgl cp0 hg2) ?_
      have hl := lv_sub hl [] rfl
      exact a_X10_add_b56 E hA hX hN hml hst kr56 _ _ _ _ _ h (GL.tr (gl_cpr hgl cp0) hg2) hrc2 (fun n hn => (hga n (by rw [cp0.1]; exact Nat.lt_of_lt_of_le hn hgl.1)).trans (had n hn)) G hl
    · have h := oif_neg c4 h
      refine lv_aload_n hx hb dX10_add_20 rfl (lv_at hl 0 rfl) ?_
      obtain ⟨g8, h⟩ := oif_some h
      obtain ⟨n9, en9, h⟩ := obind_some h
      have h_n9 : n9 < T.1 := by rw [← cp0.1]; exact cp0.2.2 _ _ _ en9
      refine c_get E G l0 1 (v := .ref (ad n9)) (oO_k g8).1 (cc_o10 (oO_k g8).2) rfl (fun w h => .tail _ (iA_12 h)) (by decide) (.tail _ qA_14) rfl (by rw [en9]; rfl) dX10_add_21 ?_
      clear en9
      refine lv_iload hx hb dX10_add_24 (lv_at hl 5 rfl) ?_
      obtain ⟨g10, h⟩ := oif_some h
      obtain ⟨g11, h⟩ := oif_some h
      obtain ⟨n12, en12, h⟩ := obind_some h
      have h_n12 : n12 < T.1 := by rw [← cp0.1]; exact cp0.2.2 _ _ _ en12
      refine c_alda E G n9 7 (k := l5.toNatClampNeg) (v := .ref (ad n12)) (aA_k g10).1 (cc_a107 (aA_k g10).2.1) rfl (inb_k g11).1 (inb_k g11).2 (aA_k g10).2.2 (by show va_rf ((T.2.2.2.2 n9 l5.toNatClampNeg).map ad) = _; rw [en12]; rfl) dX10_add_26 ?_
      clear en12
      refine lv_iload_n hx hb dX10_add_27 rfl (lv_at hl 1 rfl) ?_
      refine lv_dup2_11 hx hb dX10_add_28 rfl rfl ?_
      obtain ⟨g13, h⟩ := oif_some h
      obtain ⟨g14, h⟩ := oif_some h
      refine c_lald E G n12 1 (k := l1.toNatClampNeg) (aA_k g13).1 (cc_a101 (aA_k g13).2.1) rfl (inb_k g14).1 (inb_k g14).2 (aA_k g13).2.2 dX10_add_29 ?_
      refine lv_topl (fun v15 ev15 => ?_)
      have h := elet_at ev15 h
      clear ev15
      refine lv_iload hx hb dX10_add_30 (lv_at hl 4 rfl) ?_
      refine lv_i2l (v := l4.toInt64) hx hb dX10_add_32 rfl ?_
      refine lv_topl (fun v16 ev16 => ?_)
      have h := elet_at ev16 h
      clear ev16
      refine lv_aload_n hx hb dX10_add_33 rfl (lv_at hl 2 rfl) ?_
      obtain ⟨g17, h⟩ := oif_some h
      obtain ⟨n18, en18, h⟩ := obind_some h
      have h_n18 : n18 < T.1 := by rw [← cp0.1]; exact cp0.2.2 _ _ _ en18
      refine c_get E G l2 1 (v := .ref (ad n18)) (oO_k g17).1 (cc_o10 (oO_k g17).2) rfl (fun w h => .tail _ (iA_12 h)) (by decide) (.tail _ qA_14) rfl (by rw [en18]; rfl) dX10_add_34 ?_
      clear en18
      refine lv_iload hx hb dX10_add_37 (lv_at hl 5 rfl) ?_
      obtain ⟨g19, h⟩ := oif_some h
      obtain ⟨g20, h⟩ := oif_some h
      obtain ⟨n21, en21, h⟩ := obind_some h
      have h_n21 : n21 < T.1 := by rw [← cp0.1]; exact cp0.2.2 _ _ _ en21
      refine c_alda E G n18 7 (k := l5.toNatClampNeg) (v := .ref (ad n21)) (aA_k g19).1 (cc_a107 (aA_k g19).2.1) rfl (inb_k g20).1 (inb_k g20).2 (aA_k g19).2.2 (by show va_rf ((T.2.2.2.2 n18 l5.toNatClampNeg).map ad) = _; rw [en21]; rfl) dX10_add_39 ?_
      clear en21
      refine lv_iload_n hx hb dX10_add_40 rfl (lv_at hl 3 rfl) ?_
      obtain ⟨g22, h⟩ := oif_some h
      obtain ⟨g23, h⟩ := oif_some h
      refine c_lald E G n21 1 (k := l3.toNatClampNeg) (aA_k g22).1 (cc_a101 (aA_k g22).2.1) rfl (inb_k g23).1 (inb_k g23).2 (aA_k g22).2.2 dX10_add_41 ?_
      refine lv_topl (fun v24 ev24 => ?_)
      have h := elet_at ev24 h
      clear ev24
      refine lv_lmul hx hb dX10_add_42 ?_
      refine lv_topl (fun v25 ev25 => ?_)
      have h := elet_at ev25 h
      clear ev25
      refine lv_ladd hx hb dX10_add_43 ?_
      refine lv_topl (fun v26 ev26 => ?_)
      have h := elet_at ev26 h
      clear ev26
      obtain ⟨g27, h⟩ := oif_some h
      obtain ⟨g28, h⟩ := oif_some h
      refine c_last E G n12 1 (k := l1.toNatClampNeg) (v := v26) (aA_k g27).1 (cc_a101 (aA_k g27).2.1) rfl (inb_k g28).1 (inb_k g28).2 (aA_k g27).2.2 dX10_add_44 (fun H locs G => ?_)
      have G := gC_up_j (f := vp_updL (T.2.2.2.1 n12) l1.toNatClampNeg v26) (ccv_101 (aA_k g27).2.1) G
      obtain ⟨T29, eT29, h⟩ := elet_some h
      have G : gC cI cJ cZ cMic cSrc cSt cAI cAJ D ad A s.heap H locs T29 := by rw [eT29]; exact G
      have cp1 := show CPR T T29 from by rw [eT29]; exact cpr_sp cp0 sp_uJ
      clear eT29
      obtain ⟨v30, ev30, h⟩ := elet_some h
      refine lv_iinc (v := v30) (lv' := [(5, .int v30), (0, .ref (ad l0)), (1, .int l1), (2, .ref (ad l2)), (3, .int l3), (4, .int l4)]) hx hb dX10_add_45 hl (k := 5) rfl ev30.symm (by decide) rfl (fun ls hl => ?_)
      refine lv_goto (tgt := 11) hx hb dX10_add_48 (by decide) ?_
      have hl := lv_sub hl [1, 2, 3, 4, 5, 0] rfl
      refine w_cast (c2 := T29.1 - T0.1) (s2 := sg T29 - sg T0) (by rw [cp1.1] <;> rfl) (by rw [sg_cpr cp1] <;> rfl) ?_
      exact ih _ _ _ _ _ _ _ _ _ _ _ h (gl_cpr hgl cp1) cp1.2.2 had (by rw [cp1.1]; exact h_l0) (by rw [cp1.1]; exact h_l2) G hl
set_option maxHeartbeats 4000000 in
set_option maxRecDepth 100000 in
theorem a_X10_add_b8 {p : Program} {l : Launch} {e : Env} {s : State} {m : MethodId} {args : Array Value} {below : List Frame} {meth : Method} {c : Code} {Q : State → Prop} {D : va_G} {A : Nat → Prop} {cI cJ cZ cMic cSrc cSt cAI cAJ : ClassId} {ad0 : Nat → Nat} {T0 : AT} {T1 : AT} (E : cE p c cX10_add s m args (Cond.code yX10_add cX10_add 6 none :: wsA) D RX10 (CT cI cJ cZ cMic cSrc cSt cAI cAJ)) (hA : ∀ q : Nat, s.heap.size ≤ q → A q) (hX : xT A s) (hN : nX s) (hml : c.maxLocals = 6) (hst : l.stackTraces = false) (kr56 : ∀ (ad : Nat → Nat) (H : Heap) (locs : List Loc) (ls : Array Slot), (∀ n, n < T0.1 → ad n = ad0 n) → gC cI cJ cZ cMic cSrc cSt cAI cAJ D ad A s.heap H locs T1 → W p l e { frames := 3, cells := T1.1 - T0.1, slots := sg T1 - sg T0, locals := 49 } s m args below meth c H locs (T1.1 - T0.1) (sg T1 - sg T0) Q (F0 m 56 ls [])) : ∀ (T : AT) (ad : Nat → Nat) (H : Heap) (locs : List Loc) (ls : Array Slot) (l0 : Nat) (l1 : Int32) (l2 : Nat) (l3 : Int32) (l4 : Int32), g_X10_add_b8 T l0 l1 l2 l3 l4 = some T1 → GL T0 T → RC T → (∀ n, n < T0.1 → ad n = ad0 n) → l0 < T.1 → l2 < T.1 → gC cI cJ cZ cMic cSrc cSt cAI cAJ D ad A s.heap H locs T → lv_has ls 6 [(0, .ref (ad l0)), (1, .int l1), (2, .ref (ad l2)), (3, .int l3), (4, .int l4)] → W p l e { frames := 3, cells := T1.1 - T0.1, slots := sg T1 - sg T0, locals := 49 } s m args below meth c H locs (T.1 - T0.1) (sg T - sg T0) Q (F0 m 8 ls []) := by
  have hx := E.1
  have hb := E.2.1
  have hts := E.2.2.1
  have hown := E.2.2.2.1
  have hK := E.2.2.2.2
  intro T ad H locs ls l0 l1 l2 l3 l4 h hgl hrc had h_l0 h_l2 G hl
  have hT1 := s_X10_add_b8 _ _ _ _ _ _ h
  have hcs := cs_ok hgl hT1
  have cp0 := cpr0 hrc
  unfold g_X10_add_b8 at h
  refine lv_iconst (v := 0) hx hb dX10_add_8 (by decide) ?_
  refine lv_istore (lv' := [(5, .int 0), (0, .ref (ad l0)), (1, .int l1), (2, .ref (ad l2)), (3, .int l3), (4, .int l4)]) hx hb dX10_add_9 hl (by decide) rfl (fun ls hl => ?_)
  have hl := lv_sub hl [1, 2, 3, 4, 5, 0] rfl
  refine w_cast (c2 := T.1 - T0.1) (s2 := sg T - sg T0) (by rw [cp0.1] <;> rfl) (by rw [sg_cpr cp0] <;> rfl) ?_
  exact a_X10_add_b11 E hA hX hN hml hst kr56 _ _ _ _ _ _ _ _ _ _ _ _ h (gl_cpr hgl cp0) cp0.2.2 had (by rw [cp0.1]; exact h_l0) (by rw [cp0.1]; exact h_l2) G hl
set_option maxHeartbeats 4000000 in
set_option maxRecDepth 100000 in
theorem a_X10_add (l : Launch) (hst : l.stackTraces = false) (D : va_G) (cI cJ cZ cMic cSrc cSt cAI cAJ : ClassId) (ad : Nat → Nat) (T : AT) (o : Nat) (a0 : Int32) (a1 : Nat) (a2 : Int32) (a3 : Int32) {T1 : AT} (h : g_X10_add T o a0 a1 a2 a3 = some T1) (hrc : RC T) (h_o : o < T.1) (h_a1 : a1 < T.1) : kAv l yX10_add (Cond.code yX10_add cX10_add 6 none :: wsA) 3 49 cI cJ cZ cMic cSrc cSt cAI cAJ D ad T [.ref (ad o), .int a0, .ref (ad a1), .int a2, .int a3] T1 := by
  intro sz
  refine pro_in (cc := cX10_add) (maxL := 6) (ret := none) (by exact pn_RX10) rfl (by exact Nat.le_of_ble_eq_true rfl) (fun p e s m below meth c ls hx hb hr hts hown hlocks hml hv hl => ?_)
  obtain ⟨hsz, hP, hK, hD0, hX, hN⟩ := hv
  subst hsz
  have hD := hD0.self (sz := s.heap.size)
  generalize hAe : va_A (cW ad T.1 (cc cI cJ cZ cMic cSrc cSt cAI cAJ ad T)) s.heap.size = A at hD hX ⊢
  have hA : ∀ q : Nat, s.heap.size ≤ q → A q := fun q h => by rw [← hAe]; exact Or.inr h
  have G : gC cI cJ cZ cMic cSrc cSt cAI cAJ D ad A s.heap s.heap [] T := ⟨hP, hD, va_S.rf⟩
  have E : cE p c cX10_add s m ([.ref (ad o), .int a0, .ref (ad a1), .int a2, .int a3] : List Value).toArray (Cond.code yX10_add cX10_add 6 none :: wsA) D RX10 (CT cI cJ cZ cMic cSrc cSt cAI cAJ) := ⟨hx, hb, hts, hown, hK⟩
  have hl : lv_has ls 6 [(0, .ref (ad o)), (1, .int a0), (2, .ref (ad a1)), (3, .int a2), (4, .int a3)] := hl
  have hgl := GL.rf T
  have had : ∀ n, n < T.1 → ad n = ad n := fun _ _ => rfl
  have hT1 := s_X10_add h
  have hcs := cs_ok hgl hT1
  refine w_cast (Nat.sub_self T.1).symm (Nat.sub_self (sg T)).symm ?_
  have cp0 := cpr0 hrc
  unfold g_X10_add at h
  refine lv_aload_n hx hb dX10_add_0 rfl (lv_at hl 0 rfl) ?_
  refine lv_aload_n hx hb dX10_add_1 rfl (lv_at hl 2 rfl) ?_
  obtain ⟨g2, h⟩ := oif_some h
  refine c_get E G a1 2 (oO_k g2).1 (cc_o10 (oO_k g2).2) rfl (fun w h => .tail _ (iA_12 h)) (by decide) (.tail _ qA_15) rfl rfl dX10_add_2 ?_
  refine lv_topi (fun v3 ev3 => ?_)
  have h := elet_at ev3 h
  clear ev3
  obtain ⟨g4, h⟩ := oif_some h
  obtain ⟨T5, eT5, h⟩ := obind_some h
  have hg2 := s_X10_widenTo eT5
  have hrc2 := hg2.2.2 cp0.2.2
  have hT2 := s_X10_add_b8 _ _ _ _ _ _ h
  refine q_avv (As := [.int v3]) (rest := []) E G hA hX hN hml (a_X10_widenTo l hst D cI cJ cZ cMic cSrc cSt cAI cAJ ad T o v3 eT5 cp0.2.2 (by rw [cp0.1]; exact h_o)) (cwV 1 hts (gaV qA_98 qA_78 qA_79 qA_6 qA_80) rfl rfl rfl (by decide +kernel) ⟨Nat.le_of_ble_eq_true rfl, Nat.le_of_ble_eq_true rfl⟩) (oO_k g4).1 (cc_o10 (oO_k g4).2) rfl rfl hl.1 rfl (lv_room (Nat.le_of_ble_eq_true rfl)) dX10_add_5 (cs_av hgl cp0 hg2 hT2) (fun ad2 H locs hga G => ?_)
  refine w_cast (c2 := T5.1 - T.1) (s2 := sg T5 - sg T) (cs_f1 hgl cp0 hg2) (cs_f2 hgl cp0 hg2) ?_
  have hl := lv_sub hl [0, 1, 2, 3, 4] rfl
  rw [show ad o = ad2 o from (hga o (by rw [cp0.1]; exact h_o)).symm] at hl
  rw [show ad a1 = ad2 a1 from (hga a1 (by rw [cp0.1]; exact h_a1)).symm] at hl
  exact a_X10_add_b8 E hA hX hN hml hst (fun ad H locs ls had G => W.vret hx hb hr (fun t ht hW => ⟨⟨(T1, ad), rfl, ⟨rfl, had⟩, ⟨by rw [ht]; exact G.1, va_K.moved hW.alike hK, G.2.1⟩⟩, G.2.2.F ht⟩) G.2.2.2.2 dX10_add_56) _ _ _ _ _ _ _ _ _ _ h (GL.tr (gl_cpr hgl cp0) hg2) hrc2 (fun n hn => (hga n (by rw [cp0.1]; exact Nat.lt_of_lt_of_le hn hgl.1)).trans (had n hn)) (Nat.lt_of_lt_of_le (by rw [cp0.1]; exact h_o) hg2.1) (Nat.lt_of_lt_of_le (by rw [cp0.1]; exact h_a1) hg2.1) G hl
def g_X0_score_b137 (k31 : AT → Nat → Nat → Nat → Int32 → Int32 → Int32 → Option (AT)) (T : AT) (l0 : Nat) (l1 : Nat) (l2 : Nat) (l3 : Int32) (l4 : Int32) (l5 : Int32) : Option (AT) := elet (l5 + Int32.ofInt (-1)) fun v2 => k31 T l0 l1 l2 l3 l4 v2
def g_X0_score_b131 (k31 : AT → Nat → Nat → Nat → Int32 → Int32 → Int32 → Option (AT)) (k52 : AT → Nat → Nat → Nat → Int32 → Int32 → Int32 → Int32 → Option (AT)) (T : AT) (l0 : Nat) (l1 : Nat) (l2 : Nat) (l3 : Int32) (l4 : Int32) (l5 : Int32) (l6 : Int32) : Option (AT) := elet (l6 + Int32.ofInt (1)) fun v2 => k52 T l0 l1 l2 l3 l4 l5 v2
def g_X0_score_b52 (k31 : AT → Nat → Nat → Nat → Int32 → Int32 → Int32 → Option (AT)) : Nat → AT → Nat → Nat → Nat → Int32 → Int32 → Int32 → Int32 → Option (AT)
  | 0, _, _, _, _, _, _, _, _ => none
  | n + 1, T, l0, l1, l2, l3, l4, l5, l6 => oif (oO T l1 6 = true) <| obind (T.2.2.2.2 l1 6) fun n3 => oif (oO T n3 1 = true) <| obind2 (g_X1_cells T n3) fun r7 T5 => if r7 ≤ l6 then (g_X0_score_b137 k31 T5 l0 l1 l2 l3 l4 l5) else (elet (l5 + 1) fun v10 => if l4 ≤ v10 then (g_X0_score_b137 k31 T5 l0 l1 l2 l3 l4 l5) else (elet (l5 + 1) fun v12 => obind (g_X0_rowStart v12) fun r13 => oif (oO T5 l1 6 = true) <| obind (T5.2.2.2.2 l1 6) fun n16 => oif (oO T5 l1 6 = true) <| obind (T5.2.2.2.2 l1 6) fun n18 => oif (oO T5 n18 1 = true) <| obind2 (g_X1_areaAround T5 n18 l6) fun n22 T20 => oif (Nat.blt n22 T20.1 = true) <| oif (oO T20 l0 0 = true) <| obind (T20.2.2.2.2 l0 0) fun n25 => oif (oO T20 n16 1 = true) <| obind2 (g_X1_bestIn T20 n16 n22 n25 r13) fun r29 T27 => oif (oO T27 l0 0 = true) <| obind (T27.2.2.2.2 l0 0) fun n32 => obind (g_X0_rowStart l5) fun r33 => elet (r33 + l6) fun v35 => oif (oO T27 l0 0 = true) <| obind (T27.2.2.2.2 l0 0) fun n37 => elet (r13 + r29) fun v38 => oif (oO T27 n32 10 = true) <| obind (g_X10_add T27 n32 v35 n37 v38 (1 : Int32)) fun T40 => g_X0_score_b131 k31 (g_X0_score_b52 k31 n) T40 l0 l1 l2 l3 l4 l5 l6))
def g_X0_score_b49 (k31 : AT → Nat → Nat → Nat → Int32 → Int32 → Int32 → Option (AT)) (T : AT) (l0 : Nat) (l1 : Nat) (l2 : Nat) (l3 : Int32) (l4 : Int32) (l5 : Int32) : Option (AT) := g_X0_score_b52 k31 16384 T l0 l1 l2 l3 l4 l5 0
def g_X0_score_b31  : Nat → AT → Nat → Nat → Nat → Int32 → Int32 → Int32 → Option (AT)
  | 0, _, _, _, _, _, _, _ => none
  | n + 1, T, l0, l1, l2, l3, l4, l5 => if l5 < 0 then (some T) else (elet (l5 * l3) fun v3 => oif (oO T l0 0 = true) <| obind (g_X0_measure T l0 l1 l2 v3 l3 l5) fun T5 => g_X0_score_b49 (g_X0_score_b31 n) T5 l0 l1 l2 l3 l4 l5)
def g_X0_score (T : AT) (o : Nat) (a0 : Nat) (a1 : Nat) (a2 : Int32) : Option (AT) := oif (oO T a0 6 = true) <| elet (T.2.2.1 a0 2) fun v3 => elet (v3.toInt64) fun v4 => elet (a2.toInt64) fun v5 => obind (g_X11_quotient v4 v5) fun r6 => elet (r6.toInt32) fun v8 => elet (if 50 < v8 then 50 else v8) fun v9 => oif (oO T o 0 = true) <| obind (T.2.2.2.2 o 0) fun n11 => oif (oO T n11 10 = true) <| obind (g_X10_narrow T n11) fun T13 => elet (v9 - 1) fun v15 => g_X0_score_b31 16384 T13 o a0 a1 a2 v9 v15
set_option maxHeartbeats 4000000 in
set_option maxRecDepth 100000 in
theorem s_X0_score_b137 {T1 : AT} {k31 : AT → Nat → Nat → Nat → Int32 → Int32 → Int32 → Option (AT)} (hk31 : ∀ (T : AT) (l0 : Nat) (l1 : Nat) (l2 : Nat) (l3 : Int32) (l4 : Int32) (l5 : Int32), k31 T l0 l1 l2 l3 l4 l5 = some T1 → GL T T1) : ∀ (T : AT) (l0 : Nat) (l1 : Nat) (l2 : Nat) (l3 : Int32) (l4 : Int32) (l5 : Int32), g_X0_score_b137 k31 T l0 l1 l2 l3 l4 l5 = some T1 → GL T T1 := by
  intro T l0 l1 l2 l3 l4 l5 h
  have p0 := GL.rf T
  unfold g_X0_score_b137 at h
  obtain ⟨v2, ev2, h⟩ := elet_some h
  exact GL.tr p0 (hk31 _ _ _ _ _ _ _ h)
set_option maxHeartbeats 4000000 in
set_option maxRecDepth 100000 in
theorem s_X0_score_b131 {T1 : AT} {k31 : AT → Nat → Nat → Nat → Int32 → Int32 → Int32 → Option (AT)} {k52 : AT → Nat → Nat → Nat → Int32 → Int32 → Int32 → Int32 → Option (AT)} (hk31 : ∀ (T : AT) (l0 : Nat) (l1 : Nat) (l2 : Nat) (l3 : Int32) (l4 : Int32) (l5 : Int32), k31 T l0 l1 l2 l3 l4 l5 = some T1 → GL T T1) (hk52 : ∀ (T : AT) (l0 : Nat) (l1 : Nat) (l2 : Nat) (l3 : Int32) (l4 : Int32) (l5 : Int32) (l6 : Int32), k52 T l0 l1 l2 l3 l4 l5 l6 = some T1 → GL T T1) : ∀ (T : AT) (l0 : Nat) (l1 : Nat) (l2 : Nat) (l3 : Int32) (l4 : Int32) (l5 : Int32) (l6 : Int32), g_X0_score_b131 k31 k52 T l0 l1 l2 l3 l4 l5 l6 = some T1 → GL T T1 := by
  intro T l0 l1 l2 l3 l4 l5 l6 h
  have p0 := GL.rf T
  unfold g_X0_score_b131 at h
  obtain ⟨v2, ev2, h⟩ := elet_some h
  exact GL.tr p0 (hk52 _ _ _ _ _ _ _ _ h)
set_option maxHeartbeats 4000000 in
set_option maxRecDepth 100000 in
theorem s_X0_score_b52 {T1 : AT} {k31 : AT → Nat → Nat → Nat → Int32 → Int32 → Int32 → Option (AT)} (hk31 : ∀ (T : AT) (l0 : Nat) (l1 : Nat) (l2 : Nat) (l3 : Int32) (l4 : Int32) (l5 : Int32), k31 T l0 l1 l2 l3 l4 l5 = some T1 → GL T T1) : ∀ n : Nat, ∀ (T : AT) (l0 : Nat) (l1 : Nat) (l2 : Nat) (l3 : Int32) (l4 : Int32) (l5 : Int32) (l6 : Int32), g_X0_score_b52 k31 n T l0 l1 l2 l3 l4 l5 l6 = some T1 → GL T T1 := by
  intro n
  induction n with
  | zero =>
    intro T l0 l1 l2 l3 l4 l5 l6 h
    have h : (none : Option (AT)) = some T1 := h
    cases h
  | succ n ih =>
    intro T l0 l1 l2 l3 l4 l5 l6 h
    have p0 := GL.rf T
    unfold g_X0_score_b52 at h
    obtain ⟨g2, h⟩ := oif_some h
    obtain ⟨n3, en3, h⟩ := obind_some h
    obtain ⟨g4, h⟩ := oif_some h
    obtain ⟨r6, T5, eT5, h⟩ := obind2_some h
    have p1 : GL T T5 := GL.tr p0 (gl_sp (s_X1_cells eT5))
    rcases oif_or h with ⟨c7, h⟩ | ⟨c7, h⟩
    · have h := h
      exact GL.tr p1 (s_X0_score_b137 hk31 _ _ _ _ _ _ _ h)
    · have h := h
      obtain ⟨v8, -, h⟩ := elet_some h
      rcases oif_or h with ⟨c9, h⟩ | ⟨c9, h⟩
      · have h := h
        exact GL.tr p1 (s_X0_score_b137 hk31 _ _ _ _ _ _ _ h)
      · have h := h
        obtain ⟨v10, -, h⟩ := elet_some h
        obtain ⟨r11, -, h⟩ := obind_some h
        obtain ⟨g12, h⟩ := oif_some h
        obtain ⟨n13, en13, h⟩ := obind_some h
        obtain ⟨g14, h⟩ := oif_some h
        obtain ⟨n15, en15, h⟩ := obind_some h
        obtain ⟨g16, h⟩ := oif_some h
        obtain ⟨r18, T17, eT17, h⟩ := obind2_some h
        obtain ⟨g19, h⟩ := oif_some h
        have p2 : GL T T17 := GL.tr p1 (gl_sp (s_X1_areaAround eT17))
        obtain ⟨g20, h⟩ := oif_some h
        obtain ⟨n21, en21, h⟩ := obind_some h
        obtain ⟨g22, h⟩ := oif_some h
        obtain ⟨r24, T23, eT23, h⟩ := obind2_some h
        have p3 : GL T T23 := GL.tr p2 (gl_sp (s_X1_bestIn eT23))
        obtain ⟨g25, h⟩ := oif_some h
        obtain ⟨n26, en26, h⟩ := obind_some h
        obtain ⟨r27, -, h⟩ := obind_some h
        obtain ⟨v28, -, h⟩ := elet_some h
        obtain ⟨g29, h⟩ := oif_some h
        obtain ⟨n30, en30, h⟩ := obind_some h
        obtain ⟨v31, -, h⟩ := elet_some h
        obtain ⟨g32, h⟩ := oif_some h
        obtain ⟨T33, eT33, h⟩ := obind_some h
        have p4 : GL T T33 := GL.tr p3 (s_X10_add eT33)
        exact GL.tr p4 (s_X0_score_b131 hk31 ih _ _ _ _ _ _ _ _ h)
set_option maxHeartbeats 4000000 in
set_option maxRecDepth 100000 in
theorem s_X0_score_b49 {T1 : AT} {k31 : AT → Nat → Nat → Nat → Int32 → Int32 → Int32 → Option (AT)} (hk31 : ∀ (T : AT) (l0 : Nat) (l1 : Nat) (l2 : Nat) (l3 : Int32) (l4 : Int32) (l5 : Int32), k31 T l0 l1 l2 l3 l4 l5 = some T1 → GL T T1) : ∀ (T : AT) (l0 : Nat) (l1 : Nat) (l2 : Nat) (l3 : Int32) (l4 : Int32) (l5 : Int32), g_X0_score_b49 k31 T l0 l1 l2 l3 l4 l5 = some T1 → GL T T1 := by
  intro T l0 l1 l2 l3 l4 l5 h
  have p0 := GL.rf T
  unfold g_X0_score_b49 at h
  exact GL.tr p0 (s_X0_score_b52 hk31 _ _ _ _ _ _ _ _ _ h)
set_option maxHeartbeats 4000000 in
set_option maxRecDepth 100000 in
theorem s_X0_score_b31 {T1 : AT} : ∀ n : Nat, ∀ (T : AT) (l0 : Nat) (l1 : Nat) (l2 : Nat) (l3 : Int32) (l4 : Int32) (l5 : Int32), g_X0_score_b31 n T l0 l1 l2 l3 l4 l5 = some T1 → GL T T1 := by
  intro n
  induction n with
  | zero =>
    intro T l0 l1 l2 l3 l4 l5 h
    have h : (none : Option (AT)) = some T1 := h
    cases h
  | succ n ih =>
    intro T l0 l1 l2 l3 l4 l5 h
    have p0 := GL.rf T
    unfold g_X0_score_b31 at h
    rcases oif_or h with ⟨c2, h⟩ | ⟨c2, h⟩
    · have h := h
      rw [← osome1 h]
      exact p0
    · have h := h
      obtain ⟨v3, -, h⟩ := elet_some h
      obtain ⟨g4, h⟩ := oif_some h
      obtain ⟨T5, eT5, h⟩ := obind_some h
      have p1 : GL T T5 := GL.tr p0 (s_X0_measure eT5)
      exact GL.tr p1 (s_X0_score_b49 ih _ _ _ _ _ _ _ h)
set_option maxHeartbeats 4000000 in
set_option maxRecDepth 100000 in
theorem s_X0_score {T : AT} {o : Nat} {a0 : Nat} {a1 : Nat} {a2 : Int32} {T1 : AT} (h : g_X0_score T o a0 a1 a2 = some T1) : GL T T1 := by
  have p0 := GL.rf T
  unfold g_X0_score at h
  obtain ⟨g2, h⟩ := oif_some h
  obtain ⟨v3, -, h⟩ := elet_some h
  obtain ⟨v4, -, h⟩ := elet_some h
  obtain ⟨v5, -, h⟩ := elet_some h
  obtain ⟨r6, -, h⟩ := obind_some h
  obtain ⟨v7, -, h⟩ := elet_some h
  obtain ⟨v8, -, h⟩ := elet_some h
  obtain ⟨g9, h⟩ := oif_some h
  obtain ⟨n10, en10, h⟩ := obind_some h
  obtain ⟨g11, h⟩ := oif_some h
  obtain ⟨T12, eT12, h⟩ := obind_some h
  have p1 : GL T T12 := GL.tr p0 (gl_sp (s_X10_narrow eT12))
  obtain ⟨v14, -, h⟩ := elet_some h
  exact GL.tr p1 (s_X0_score_b31 _ _ _ _ _ _ _ _ h)
set_option maxHeartbeats 4000000 in
set_option maxRecDepth 100000 in
theorem a_X0_score_b137 {p : Program} {l : Launch} {e : Env} {s : State} {m : MethodId} {args : Array Value} {below : List Frame} {meth : Method} {c : Code} {Q : State → Prop} {D : va_G} {A : Nat → Prop} {cI cJ cZ cMic cSrc cSt cAI cAJ : ClassId} {ad0 : Nat → Nat} {T0 : AT} {T1 : AT} (E : cE p c cX0_score s m args (Cond.code yX0_score cX0_score 9 none :: wsA) D RX0 (CT cI cJ cZ cMic cSrc cSt cAI cAJ)) (hA : ∀ q : Nat, s.heap.size ≤ q → A q) (hX : xT A s) (hN : nX s) (hml : c.maxLocals = 9) (hst : l.stackTraces = false) (kr143 : ∀ (ad : Nat → Nat) (H : Heap) (locs : List Loc) (ls : Array Slot), (∀ n, n < T0.1 → ad n = ad0 n) → gC cI cJ cZ cMic cSrc cSt cAI cAJ D ad A s.heap H locs T1 → W p l e { frames := 6, cells := T1.1 - T0.1, slots := sg T1 - sg T0, locals := 131 } s m args below meth c H locs (T1.1 - T0.1) (sg T1 - sg T0) Q (F0 m 143 ls [])) {k31 : AT → Nat → Nat → Nat → Int32 → Int32 → Int32 → Option (AT)} (hs31 : ∀ (T : AT) (l0 : Nat) (l1 : Nat) (l2 : Nat) (l3 : Int32) (l4 : Int32) (l5 : Int32), k31 T l0 l1 l2 l3 l4 l5 = some T1 → GL T T1) (hk31 : ∀ (T : AT) (ad : Nat → Nat) (H : Heap) (locs : List Loc) (ls : Array Slot) (l0 : Nat) (l1 : Nat) (l2 : Nat) (l3 : Int32) (l4 : Int32) (l5 : Int32), k31 T l0 l1 l2 l3 l4 l5 = some T1 → GL T0 T → RC T → (∀ n, n < T0.1 → ad n = ad0 n) → l0 < T.1 → l1 < T.1 → l2 < T.1 → gC cI cJ cZ cMic cSrc cSt cAI cAJ D ad A s.heap H locs T → lv_has ls 9 [(0, .ref (ad l0)), (1, .ref (ad l1)), (2, .ref (ad l2)), (3, .int l3), (4, .int l4), (5, .int l5)] → W p l e { frames := 6, cells := T1.1 - T0.1, slots := sg T1 - sg T0, locals := 131 } s m args below meth c H locs (T.1 - T0.1) (sg T - sg T0) Q (F0 m 31 ls [])) : ∀ (T : AT) (ad : Nat → Nat) (H : Heap) (locs : List Loc) (ls : Array Slot) (l0 : Nat) (l1 : Nat) (l2 : Nat) (l3 : Int32) (l4 : Int32) (l5 : Int32), g_X0_score_b137 k31 T l0 l1 l2 l3 l4 l5 = some T1 → GL T0 T → RC T → (∀ n, n < T0.1 → ad n = ad0 n) → l0 < T.1 → l1 < T.1 → l2 < T.1 → gC cI cJ cZ cMic cSrc cSt cAI cAJ D ad A s.heap H locs T → lv_has ls 9 [(0, .ref (ad l0)), (1, .ref (ad l1)), (2, .ref (ad l2)), (3, .int l3), (4, .int l4), (5, .int l5)] → W p l e { frames := 6, cells := T1.1 - T0.1, slots := sg T1 - sg T0, locals := 131 } s m args below meth c H locs (T.1 - T0.1) (sg T - sg T0) Q (F0 m 137 ls []) := by
  have hx := E.1
  have hb := E.2.1
  have hts := E.2.2.1
  have hown := E.2.2.2.1
  have hK := E.2.2.2.2
  intro T ad H locs ls l0 l1 l2 l3 l4 l5 h hgl hrc had h_l0 h_l1 h_l2 G hl
  have hT1 := s_X0_score_b137 hs31 _ _ _ _ _ _ _ h
  have hcs := cs_ok hgl hT1
  have cp0 := cpr0 hrc
  unfold g_X0_score_b137 at h
  obtain ⟨v2, ev2, h⟩ := elet_some h
  refine lv_iinc (v := v2) (lv' := [(5, .int v2), (0, .ref (ad l0)), (1, .ref (ad l1)), (2, .ref (ad l2)), (3, .int l3), (4, .int l4)]) hx hb dX0_score_137 hl (k := 5) rfl ev2.symm (by decide) rfl (fun ls hl => ?_)
  refine lv_goto (tgt := 31) hx hb dX0_score_140 (by decide) ?_
  have hl := lv_sub hl [1, 2, 3, 4, 5, 0] rfl
  refine w_cast (c2 := T.1 - T0.1) (s2 := sg T - sg T0) (by rw [cp0.1] <;> rfl) (by rw [sg_cpr cp0] <;> rfl) ?_
  exact hk31 _ _ _ _ _ _ _ _ _ _ _ h (gl_cpr hgl cp0) cp0.2.2 had (by rw [cp0.1]; exact h_l0) (by rw [cp0.1]; exact h_l1) (by rw [cp0.1]; exact h_l2) G hl
set_option maxHeartbeats 4000000 in
set_option maxRecDepth 100000 in
theorem a_X0_score_b131 {p : Program} {l : Launch} {e : Env} {s : State} {m : MethodId} {args : Array Value} {below : List Frame} {meth : Method} {c : Code} {Q : State → Prop} {D : va_G} {A : Nat → Prop} {cI cJ cZ cMic cSrc cSt cAI cAJ : ClassId} {ad0 : Nat → Nat} {T0 : AT} {T1 : AT} (E : cE p c cX0_score s m args (Cond.code yX0_score cX0_score 9 none :: wsA) D RX0 (CT cI cJ cZ cMic cSrc cSt cAI cAJ)) (hA : ∀ q : Nat, s.heap.size ≤ q → A q) (hX : xT A s) (hN : nX s) (hml : c.maxLocals = 9) (hst : l.stackTraces = false) (kr143 : ∀ (ad : Nat → Nat) (H : Heap) (locs : List Loc) (ls : Array Slot), (∀ n, n < T0.1 → ad n = ad0 n) → gC cI cJ cZ cMic cSrc cSt cAI cAJ D ad A s.heap H locs T1 → W p l e { frames := 6, cells := T1.1 - T0.1, slots := sg T1 - sg T0, locals := 131 } s m args below meth c H locs (T1.1 - T0.1) (sg T1 - sg T0) Q (F0 m 143 ls [])) {k31 : AT → Nat → Nat → Nat → Int32 → Int32 → Int32 → Option (AT)} {k52 : AT → Nat → Nat → Nat → Int32 → Int32 → Int32 → Int32 → Option (AT)} (hs31 : ∀ (T : AT) (l0 : Nat) (l1 : Nat) (l2 : Nat) (l3 : Int32) (l4 : Int32) (l5 : Int32), k31 T l0 l1 l2 l3 l4 l5 = some T1 → GL T T1) (hk31 : ∀ (T : AT) (ad : Nat → Nat) (H : Heap) (locs : List Loc) (ls : Array Slot) (l0 : Nat) (l1 : Nat) (l2 : Nat) (l3 : Int32) (l4 : Int32) (l5 : Int32), k31 T l0 l1 l2 l3 l4 l5 = some T1 → GL T0 T → RC T → (∀ n, n < T0.1 → ad n = ad0 n) → l0 < T.1 → l1 < T.1 → l2 < T.1 → gC cI cJ cZ cMic cSrc cSt cAI cAJ D ad A s.heap H locs T → lv_has ls 9 [(0, .ref (ad l0)), (1, .ref (ad l1)), (2, .ref (ad l2)), (3, .int l3), (4, .int l4), (5, .int l5)] → W p l e { frames := 6, cells := T1.1 - T0.1, slots := sg T1 - sg T0, locals := 131 } s m args below meth c H locs (T.1 - T0.1) (sg T - sg T0) Q (F0 m 31 ls [])) (hs52 : ∀ (T : AT) (l0 : Nat) (l1 : Nat) (l2 : Nat) (l3 : Int32) (l4 : Int32) (l5 : Int32) (l6 : Int32), k52 T l0 l1 l2 l3 l4 l5 l6 = some T1 → GL T T1) (hk52 : ∀ (T : AT) (ad : Nat → Nat) (H : Heap) (locs : List Loc) (ls : Array Slot) (l0 : Nat) (l1 : Nat) (l2 : Nat) (l3 : Int32) (l4 : Int32) (l5 : Int32) (l6 : Int32), k52 T l0 l1 l2 l3 l4 l5 l6 = some T1 → GL T0 T → RC T → (∀ n, n < T0.1 → ad n = ad0 n) → l0 < T.1 → l1 < T.1 → l2 < T.1 → gC cI cJ cZ cMic cSrc cSt cAI cAJ D ad A s.heap H locs T → lv_has ls 9 [(0, .ref (ad l0)), (1, .ref (ad l1)), (2, .ref (ad l2)), (3, .int l3), (4, .int l4), (5, .int l5), (6, .int l6)] → W p l e { frames := 6, cells := T1.1 - T0.1, slots := sg T1 - sg T0, locals := 131 } s m args below meth c H locs (T.1 - T0.1) (sg T - sg T0) Q (F0 m 52 ls [])) : ∀ (T : AT) (ad : Nat → Nat) (H : Heap) (locs : List Loc) (ls : Array Slot) (l0 : Nat) (l1 : Nat) (l2 : Nat) (l3 : Int32) (l4 : Int32) (l5 : Int32) (l6 : Int32), g_X0_score_b131 k31 k52 T l0 l1 l2 l3 l4 l5 l6 = some T1 → GL T0 T → RC T → (∀ n, n < T0.1 → ad n = ad0 n) → l0 < T.1 → l1 < T.1 → l2 < T.1 → gC cI cJ cZ cMic cSrc cSt cAI cAJ D ad A s.heap H locs T → lv_has ls 9 [(0, .ref (ad l0)), (1, .ref (ad l1)), (2, .ref (ad l2)), (3, .int l3), (4, .int l4), (5, .int l5), (6, .int l6)] → W p l e { frames := 6, cells := T1.1 - T0.1, slots := sg T1 - sg T0, locals := 131 } s m args below meth c H locs (T.1 - T0.1) (sg T - sg T0) Q (F0 m 131 ls []) := by
  have hx := E.1
  have hb := E.2.1
  have hts := E.2.2.1
  have hown := E.2.2.2.1
  have hK := E.2.2.2.2
  intro T ad H locs ls l0 l1 l2 l3 l4 l5 l6 h hgl hrc had h_l0 h_l1 h_l2 G hl
  have hT1 := s_X0_score_b131 hs31 hs52 _ _ _ _ _ _ _ _ h
  have hcs := cs_ok hgl hT1
  have cp0 := cpr0 hrc
  unfold g_X0_score_b131 at h
  obtain ⟨v2, ev2, h⟩ := elet_some h
  refine lv_iinc (v := v2) (lv' := [(6, .int v2), (0, .ref (ad l0)), (1, .ref (ad l1)), (2, .ref (ad l2)), (3, .int l3), (4, .int l4), (5, .int l5)]) hx hb dX0_score_131 hl (k := 6) rfl ev2.symm (by decide) rfl (fun ls hl => ?_)
  refine lv_goto (tgt := 52) hx hb dX0_score_134 (by decide) ?_
  have hl := lv_sub hl [1, 2, 3, 4, 5, 6, 0] rfl
  refine w_cast (c2 := T.1 - T0.1) (s2 := sg T - sg T0) (by rw [cp0.1] <;> rfl) (by rw [sg_cpr cp0] <;> rfl) ?_
  exact hk52 _ _ _ _ _ _ _ _ _ _ _ _ h (gl_cpr hgl cp0) cp0.2.2 had (by rw [cp0.1]; exact h_l0) (by rw [cp0.1]; exact h_l1) (by rw [cp0.1]; exact h_l2) G hl
set_option maxHeartbeats 4000000 in
set_option maxRecDepth 100000 in
theorem a_X0_score_b52 {p : Program} {l : Launch} {e : Env} {s : State} {m : MethodId} {args : Array Value} {below : List Frame} {meth : Method} {c : Code} {Q : State → Prop} {D : va_G} {A : Nat → Prop} {cI cJ cZ cMic cSrc cSt cAI cAJ : ClassId} {ad0 : Nat → Nat} {T0 : AT} {T1 : AT} (E : cE p c cX0_score s m args (Cond.code yX0_score cX0_score 9 none :: wsA) D RX0 (CT cI cJ cZ cMic cSrc cSt cAI cAJ)) (hA : ∀ q : Nat, s.heap.size ≤ q → A q) (hX : xT A s) (hN : nX s) (hml : c.maxLocals = 9) (hst : l.stackTraces = false) (kr143 : ∀ (ad : Nat → Nat) (H : Heap) (locs : List Loc) (ls : Array Slot), (∀ n, n < T0.1 → ad n = ad0 n) → gC cI cJ cZ cMic cSrc cSt cAI cAJ D ad A s.heap H locs T1 → W p l e { frames := 6, cells := T1.1 - T0.1, slots := sg T1 - sg T0, locals := 131 } s m args below meth c H locs (T1.1 - T0.1) (sg T1 - sg T0) Q (F0 m 143 ls [])) {k31 : AT → Nat → Nat → Nat → Int32 → Int32 → Int32 → Option (AT)} (hs31 : ∀ (T : AT) (l0 : Nat) (l1 : Nat) (l2 : Nat) (l3 : Int32) (l4 : Int32) (l5 : Int32), k31 T l0 l1 l2 l3 l4 l5 = some T1 → GL T T1) (hk31 : ∀ (T : AT) (ad : Nat → Nat) (H : Heap) (locs : List Loc) (ls : Array Slot) (l0 : Nat) (l1 : Nat) (l2 : Nat) (l3 : Int32) (l4 : Int32) (l5 : Int32), k31 T l0 l1 l2 l3 l4 l5 = some T1 → GL T0 T → RC T → (∀ n, n < T0.1 → ad n = ad0 n) → l0 < T.1 → l1 < T.1 → l2 < T.1 → gC cI cJ cZ cMic cSrc cSt cAI cAJ D ad A s.heap H locs T → lv_has ls 9 [(0, .ref (ad l0)), (1, .ref (ad l1)), (2, .ref (ad l2)), (3, .int l3), (4, .int l4), (5, .int l5)] → W p l e { frames := 6, cells := T1.1 - T0.1, slots := sg T1 - sg T0, locals := 131 } s m args below meth c H locs (T.1 - T0.1) (sg T - sg T0) Q (F0 m 31 ls [])) : ∀ n : Nat, ∀ (T : AT) (ad : Nat → Nat) (H : Heap) (locs : List Loc) (ls : Array Slot) (l0 : Nat) (l1 : Nat) (l2 : Nat) (l3 : Int32) (l4 : Int32) (l5 : Int32) (l6 : Int32), g_X0_score_b52 k31 n T l0 l1 l2 l3 l4 l5 l6 = some T1 → GL T0 T → RC T → (∀ n, n < T0.1 → ad n = ad0 n) → l0 < T.1 → l1 < T.1 → l2 < T.1 → gC cI cJ cZ cMic cSrc cSt cAI cAJ D ad A s.heap H locs T → lv_has ls 9 [(0, .ref (ad l0)), (1, .ref (ad l1)), (2, .ref (ad l2)), (3, .int l3), (4, .int l4), (5, .int l5), (6, .int l6)] → W p l e { frames := 6, cells := T1.1 - T0.1, slots := sg T1 - sg T0, locals := 131 } s m args below meth c H locs (T.1 - T0.1) (sg T - sg T0) Q (F0 m 52 ls []) := by
  have hx := E.1
  have hb := E.2.1
  have hts := E.2.2.1
  have hown := E.2.2.2.1
  have hK := E.2.2.2.2
  intro n
  induction n with
  | zero =>
    intro T ad H locs ls l0 l1 l2 l3 l4 l5 l6 h
    have h : (none : Option (AT)) = some T1 := h
    cases h
  | succ n ih =>
    intro T ad H locs ls l0 l1 l2 l3 l4 l5 l6 h hgl hrc had h_l0 h_l1 h_l2 G hl
    have hT1 := s_X0_score_b52 hs31 _ _ _ _ _ _ _ _ _ h
    have hcs := cs_ok hgl hT1
    have cp0 := cpr0 hrc
    unfold g_X0_score_b52 at h
    refine lv_iload hx hb dX0_score_52 (lv_at hl 6 rfl) ?_
    refine lv_aload_n hx hb dX0_score_54 rfl (lv_at hl 1 rfl) ?_
    obtain ⟨g2, h⟩ := oif_some h
    obtain ⟨n3, en3, h⟩ := obind_some h
    have h_n3 : n3 < T.1 := by rw [← cp0.1]; exact cp0.2.2 _ _ _ en3
    refine c_get E G l1 6 (v := .ref (ad n3)) (oO_k g2).1 (cc_o6 (oO_k g2).2) rfl (fun w h => .tail _ (iA_14 h)) (by decide) (.tail _ qA_22) rfl (by rw [en3]; rfl) dX0_score_55 ?_
    clear en3
    obtain ⟨g4, h⟩ := oif_some h
    obtain ⟨r7, T5, eT5, h⟩ := obind2_some h
    refine q_cvi (As := []) (rest := [.int l6]) E G hA hX hN hml (u_X1_cells l hst D cI cJ cZ cMic cSrc cSt cAI cAJ ad T n3 eT5) (cwV 0 hts (gaV qA_34 qA_35 qA_36 qA_37 qA_38) rfl rfl rfl (by decide +kernel) ⟨Nat.le_of_ble_eq_true rfl, Nat.le_of_ble_eq_true rfl⟩) (oO_k g4).1 (cc_o1 (oO_k g4).2) rfl rfl hl.1 rfl (lv_room (Nat.le_of_ble_eq_true rfl)) dX0_score_58 hcs (fun q8 T6 H locs hq G => ?_)
    obtain ⟨hq1, hq2⟩ := hq
    rw [hq2] at G
    refine lv_to hq1 ?_
    clear hq1 hq2
    have cp1 := cpr_sp cp0 (s_X1_cells eT5)
    refine lv_icmp_ge (tgt := 137) hx hb dX0_score_61 (by decide) (fun c9 => ?_) (fun c9 => ?_)
    · have h := oif_pos c9 h
      have hl := lv_sub hl [0, 1, 2, 3, 4, 5] rfl
      refine w_cast (c2 := T5.1 - T0.1) (s2 := sg T5 - sg T0) (by rw [cp1.1] <;> rfl) (by rw [sg_cpr cp1] <;> rfl) ?_
      exact a_X0_score_b137 E hA hX hN hml hst kr143 hs31 hk31 _ _ _ _ _ _ _ _ _ _ _ h (gl_cpr hgl cp1) cp1.2.2 had (by rw [cp1.1]; exact h_l0) (by rw [cp1.1]; exact h_l1) (by rw [cp1.1]; exact h_l2) G hl
    · have h := oif_neg c9 h
      refine lv_iload hx hb dX0_score_64 (lv_at hl 5 rfl) ?_
      refine lv_iconst (v := 1) hx hb dX0_score_66 (by decide) ?_
      refine lv_iadd hx hb dX0_score_67 ?_
      refine lv_topi (fun v10 ev10 => ?_)
      have h := elet_at ev10 h
      clear ev10
      refine lv_iload hx hb dX0_score_68 (lv_at hl 4 rfl) ?_
      refine lv_icmp_ge (tgt := 137) hx hb dX0_score_70 (by decide) (fun c11 => ?_) (fun c11 => ?_)
      · have h := oif_pos c11 h
        have hl := lv_sub hl [0, 1, 2, 3, 4, 5] rfl
        refine w_cast (c2 := T5.1 - T0.1) (s2 := sg T5 - sg T0) (by rw [cp1.1] <;> rfl) (by rw [sg_cpr cp1] <;> rfl) ?_
        exact a_X0_score_b137 E hA hX hN hml hst kr143 hs31 hk31 _ _ _ _ _ _ _ _ _ _ _ h (gl_cpr hgl cp1) cp1.2.2 had (by rw [cp1.1]; exact h_l0) (by rw [cp1.1]; exact h_l1) (by rw [cp1.1]; exact h_l2) G hl
      · have h := oif_neg c11 h
        refine lv_iload hx hb dX0_score_73 (lv_at hl 5 rfl) ?_
        refine lv_iconst (v := 1) hx hb dX0_score_75 (by decide) ?_
        refine lv_iadd hx hb dX0_score_76 ?_
        refine lv_topi (fun v12 ev12 => ?_)
        have h := elet_at ev12 h
        clear ev12
        obtain ⟨r13, er13, h⟩ := obind_some h
        refine q_sti (As := [.int v12]) (rest := []) ⟨hx, hb, hml, hown, hts⟩ hN (u_X0_rowStart l v12 er13) (cwS 1 hts (gaS qA_41 qA_42 qA_31 qA_43) rfl rfl rfl (by decide +kernel) ⟨Nat.le_of_ble_eq_true rfl, Nat.le_of_ble_eq_true rfl⟩) rfl hl.1 rfl (lv_room (Nat.le_of_ble_eq_true rfl)) dX0_score_77 hcs (fun q14 hq => ?_)
        refine lv_to hq ?_
        clear hq er13
        refine lv_istore (lv' := [(7, .int r13), (0, .ref (ad l0)), (1, .ref (ad l1)), (2, .ref (ad l2)), (3, .int l3), (4, .int l4), (5, .int l5), (6, .int l6)]) hx hb dX0_score_80 hl (by decide) rfl (fun ls hl => ?_)
        refine lv_aload_n hx hb dX0_score_82 rfl (lv_at hl 2 rfl) ?_
        obtain ⟨g15, h⟩ := oif_some h
        obtain ⟨n16, en16, h⟩ := obind_some h
        have h_n16 : n16 < T.1 := by rw [← cp1.1]; exact cp1.2.2 _ _ _ en16
        refine c_get E G l1 6 (v := .ref (ad n16)) (oO_k g15).1 (cc_o6 (oO_k g15).2) rfl (fun w h => .tail _ (iA_14 h)) (by decide) (.tail _ qA_22) rfl (by rw [en16]; rfl) dX0_score_83 ?_
        clear en16
        refine lv_aload_n hx hb dX0_score_86 rfl (lv_at hl 2 rfl) ?_
        obtain ⟨g17, h⟩ := oif_some h
        obtain ⟨n18, en18, h⟩ := obind_some h
        have h_n18 : n18 < T.1 := by rw [← cp1.1]; exact cp1.2.2 _ _ _ en18
        refine c_get E G l1 6 (v := .ref (ad n18)) (oO_k g17).1 (cc_o6 (oO_k g17).2) rfl (fun w h => .tail _ (iA_14 h)) (by decide) (.tail _ qA_22) rfl (by rw [en18]; rfl) dX0_score_87 ?_
        clear en18
        refine lv_iload hx hb dX0_score_90 (lv_at hl 7 rfl) ?_
        obtain ⟨g19, h⟩ := oif_some h
        obtain ⟨n22, T20, eT20, h⟩ := obind2_some h
        refine q_cvr (As := [.int l6]) (rest := [.ref (ad n16)]) E G hA hX hN hml (u_X1_areaAround l hst D cI cJ cZ cMic cSrc cSt cAI cAJ ad T5 n18 l6 eT20) (cwV 1 hts (gaV qA_133 qA_134 qA_135 qA_37 qA_136) rfl rfl rfl (by decide +kernel) ⟨Nat.le_of_ble_eq_true rfl, Nat.le_of_ble_eq_true rfl⟩) (oO_k g19).1 (cc_o1 (oO_k g19).2) rfl rfl hl.1 rfl (lv_room (Nat.le_of_ble_eq_true rfl)) dX0_score_92 hcs (fun T21 H locs hq G => ?_)
        rw [hq] at G
        clear hq
        have cp2 := cpr_sp cp1 (s_X1_areaAround eT20)
        obtain ⟨g23, h⟩ := oif_some h
        have h_n22 : n22 < T.1 := by rw [← cp2.1]; exact Nat.le_of_ble_eq_true g23
        refine lv_aload_n hx hb dX0_score_95 rfl (lv_at hl 1 rfl) ?_
        obtain ⟨g24, h⟩ := oif_some h
        obtain ⟨n25, en25, h⟩ := obind_some h
        have h_n25 : n25 < T.1 := by rw [← cp2.1]; exact cp2.2.2 _ _ _ en25
        refine c_get E G l0 0 (v := .ref (ad n25)) (oO_k g24).1 (cc_o0 (oO_k g24).2) rfl (fun w h => .tail _ (iA_13 h)) (by decide) (.tail _ qA_7) rfl (by rw [en25]; rfl) dX0_score_96 ?_
        clear en25
        refine lv_iload hx hb dX0_score_99 (lv_at hl 0 rfl) ?_
        obtain ⟨g26, h⟩ := oif_some h
        obtain ⟨r29, T27, eT27, h⟩ := obind2_some h
        refine q_cvi (As := [.ref (ad n22), .ref (ad n25), .int r13]) (rest := []) E G hA hX hN hml (u_X1_bestIn l hst D cI cJ cZ cMic cSrc cSt cAI cAJ ad T20 n16 n22 n25 r13 eT27) (cwV 3 hts (gaV qA_115 qA_116 qA_117 qA_37 qA_118) rfl rfl rfl (by decide +kernel) ⟨Nat.le_of_ble_eq_true rfl, Nat.le_of_ble_eq_true rfl⟩) (oO_k g26).1 (cc_o1 (oO_k g26).2) rfl rfl hl.1 rfl (lv_room (Nat.le_of_ble_eq_true rfl)) dX0_score_101 hcs (fun q30 T28 H locs hq G => ?_)
        obtain ⟨hq1, hq2⟩ := hq
        rw [hq2] at G
        refine lv_to hq1 ?_
        clear hq1 hq2
        have cp3 := cpr_sp cp2 (s_X1_bestIn eT27)
        refine lv_istore (lv' := [(8, .int r29), (7, .int r13), (0, .ref (ad l0)), (1, .ref (ad l1)), (2, .ref (ad l2)), (3, .int l3), (4, .int l4), (5, .int l5), (6, .int l6)]) hx hb dX0_score_104 hl (by decide) rfl (fun ls hl => ?_)
        refine lv_aload_n hx hb dX0_score_106 rfl (lv_at hl 2 rfl) ?_
        obtain ⟨g31, h⟩ := oif_some h
        obtain ⟨n32, en32, h⟩ := obind_some h
        have h_n32 : n32 < T.1 := by rw [← cp3.1]; exact cp3.2.2 _ _ _ en32
        refine c_get E G l0 0 (v := .ref (ad n32)) (oO_k g31).1 (cc_o0 (oO_k g31).2) rfl (fun w h => .tail _ (iA_13 h)) (by decide) (.tail _ qA_7) rfl (by rw [en32]; rfl) dX0_score_107 ?_
        clear en32
        refine lv_iload hx hb dX0_score_110 (lv_at hl 7 rfl) ?_
        obtain ⟨r33, er33, h⟩ := obind_some h
        refine q_sti (As := [.int l5]) (rest := [.ref (ad n32)]) ⟨hx, hb, hml, hown, hts⟩ hN (u_X0_rowStart l l5 er33) (cwS 1 hts (gaS qA_41 qA_42 qA_31 qA_43) rfl rfl rfl (by decide +kernel) ⟨Nat.le_of_ble_eq_true rfl, Nat.le_of_ble_eq_true rfl⟩) rfl hl.1 rfl (lv_room (Nat.le_of_ble_eq_true rfl)) dX0_score_112 hcs (fun q34 hq => ?_)
        refine lv_to hq ?_
        clear hq er33
        refine lv_iload hx hb dX0_score_115 (lv_at hl 8 rfl) ?_
        refine lv_iadd hx hb dX0_score_117 ?_
        refine lv_topi (fun v35 ev35 => ?_)
        have h := elet_at ev35 h
        clear ev35
        refine lv_aload_n hx hb dX0_score_118 rfl (lv_at hl 2 rfl) ?_
        obtain ⟨g36, h⟩ := oif_some h
        obtain ⟨n37, en37, h⟩ := obind_some h
        have h_n37 : n37 < T.1 := by rw [← cp3.1]; exact cp3.2.2 _ _ _ en37
        refine c_get E G l0 0 (v := .ref (ad n37)) (oO_k g36).1 (cc_o0 (oO_k g36).2) rfl (fun w h => .tail _ (iA_13 h)) (by decide) (.tail _ qA_7) rfl (by rw [en37]; rfl) dX0_score_119 ?_
        clear en37
        refine lv_iload hx hb dX0_score_122 (lv_at hl 1 rfl) ?_
        refine lv_iload hx hb dX0_score_124 (lv_at hl 0 rfl) ?_
        refine lv_iadd hx hb dX0_score_126 ?_
        refine lv_topi (fun v38 ev38 => ?_)
        have h := elet_at ev38 h
        clear ev38
        refine lv_iconst (v := 1) hx hb dX0_score_127 (by decide) ?_
        obtain ⟨g39, h⟩ := oif_some h
        obtain ⟨T40, eT40, h⟩ := obind_some h
        have hg2 := s_X10_add eT40
        have hrc2 := hg2.2.2 cp3.2.2
        have hT2 := s_X0_score_b131 hs31 (s_X0_score_b52 hs31 n) _ _ _ _ _ _ _ _ h
        refine q_avv (As := [.int v35, .ref (ad n37), .int v38, .int 1]) (rest := []) E G hA hX hN hml (a_X10_add l hst D cI cJ cZ cMic cSrc cSt cAI cAJ ad T27 n32 v35 n37 v38 (1 : Int32) eT40 cp3.2.2 (by rw [cp3.1]; exact h_n32) (by rw [cp3.1]; exact h_n37)) (cwV 4 hts (gaV qA_150 qA_151 qA_152 qA_6 qA_153) rfl rfl rfl (by decide +kernel) ⟨Nat.le_of_ble_eq_true rfl, Nat.le_of_ble_eq_true rfl⟩) (oO_k g39).1 (cc_o10 (oO_k g39).2) rfl rfl hl.1 rfl (lv_room (Nat.le_of_ble_eq_true rfl)) dX0_score_128 (cs_av hgl cp3 hg2 hT2) (fun ad2 H locs hga G => ?_)
        refine w_cast (c2 := T40.1 - T0.1) (s2 := sg T40 - sg T0) (cs_f1 hgl cp3 hg2) (cs_f2 hgl cp3 hg2) ?_
        have hl := lv_sub hl [2, 3, 4, 5, 6, 7, 8] rfl
        rw [show ad l0 = ad2 l0 from (hga l0 (by rw [cp3.1]; exact h_l0)).symm] at hl
        rw [show ad l1 = ad2 l1 from (hga l1 (by rw [cp3.1]; exact h_l1)).symm] at hl
        rw [show ad l2 = ad2 l2 from (hga l2 (by rw [cp3.1]; exact h_l2)).symm] at hl
        exact a_X0_score_b131 E hA hX hN hml hst kr143 hs31 hk31 (s_X0_score_b52 hs31 n) ih _ _ _ _ _ _ _ _ _ _ _ _ h (GL.tr (gl_cpr hgl cp3) hg2) hrc2 (fun n hn => (hga n (by rw [cp3.1]; exact Nat.lt_of_lt_of_le hn hgl.1)).trans (had n hn)) (Nat.lt_of_lt_of_le (by rw [cp3.1]; exact h_l0) hg2.1) (Nat.lt_of_lt_of_le (by rw [cp3.1]; exact h_l1) hg2.1) (Nat.lt_of_lt_of_le (by rw [cp3.1]; exact h_l2) hg2.1) G hl
set_option maxHeartbeats 4000000 in
set_option maxRecDepth 100000 in
theorem a_X0_score_b49 {p : Program} {l : Launch} {e : Env} {s : State} {m : MethodId} {args : Array Value} {below : List Frame} {meth : Method} {c : Code} {Q : State → Prop} {D : va_G} {A : Nat → Prop} {cI cJ cZ cMic cSrc cSt cAI cAJ : ClassId} {ad0 : Nat → Nat} {T0 : AT} {T1 : AT} (E : cE p c cX0_score s m args (Cond.code yX0_score cX0_score 9 none :: wsA) D RX0 (CT cI cJ cZ cMic cSrc cSt cAI cAJ)) (hA : ∀ q : Nat, s.heap.size ≤ q → A q) (hX : xT A s) (hN : nX s) (hml : c.maxLocals = 9) (hst : l.stackTraces = false) (kr143 : ∀ (ad : Nat → Nat) (H : Heap) (locs : List Loc) (ls : Array Slot), (∀ n, n < T0.1 → ad n = ad0 n) → gC cI cJ cZ cMic cSrc cSt cAI cAJ D ad A s.heap H locs T1 → W p l e { frames := 6, cells := T1.1 - T0.1, slots := sg T1 - sg T0, locals := 131 } s m args below meth c H locs (T1.1 - T0.1) (sg T1 - sg T0) Q (F0 m 143 ls [])) {k31 : AT → Nat → Nat → Nat → Int32 → Int32 → Int32 → Option (AT)} (hs31 : ∀ (T : AT) (l0 : Nat) (l1 : Nat) (l2 : Nat) (l3 : Int32) (l4 : Int32) (l5 : Int32), k31 T l0 l1 l2 l3 l4 l5 = some T1 → GL T T1) (hk31 : ∀ (T : AT) (ad : Nat → Nat) (H : Heap) (locs : List Loc) (ls : Array Slot) (l0 : Nat) (l1 : Nat) (l2 : Nat) (l3 : Int32) (l4 : Int32) (l5 : Int32), k31 T l0 l1 l2 l3 l4 l5 = some T1 → GL T0 T → RC T → (∀ n, n < T0.1 → ad n = ad0 n) → l0 < T.1 → l1 < T.1 → l2 < T.1 → gC cI cJ cZ cMic cSrc cSt cAI cAJ D ad A s.heap H locs T → lv_has ls 9 [(0, .ref (ad l0)), (1, .ref (ad l1)), (2, .ref (ad l2)), (3, .int l3), (4, .int l4), (5, .int l5)] → W p l e { frames := 6, cells := T1.1 - T0.1, slots := sg T1 - sg T0, locals := 131 } s m args below meth c H locs (T.1 - T0.1) (sg T - sg T0) Q (F0 m 31 ls [])) : ∀ (T : AT) (ad : Nat → Nat) (H : Heap) (locs : List Loc) (ls : Array Slot) (l0 : Nat) (l1 : Nat) (l2 : Nat) (l3 : Int32) (l4 : Int32) (l5 : Int32), g_X0_score_b49 k31 T l0 l1 l2 l3 l4 l5 = some T1 → GL T0 T → RC T → (∀ n, n < T0.1 → ad n = ad0 n) → l0 < T.1 → l1 < T.1 → l2 < T.1 → gC cI cJ cZ cMic cSrc cSt cAI cAJ D ad A s.heap H locs T → lv_has ls 9 [(0, .ref (ad l0)), (1, .ref (ad l1)), (2, .ref (ad l2)), (3, .int l3), (4, .int l4), (5, .int l5)] → W p l e { frames := 6, cells := T1.1 - T0.1, slots := sg T1 - sg T0, locals := 131 } s m args below meth c H locs (T.1 - T0.1) (sg T - sg T0) Q (F0 m 49 ls []) := by
  have hx := E.1
  have hb := E.2.1
  have hts := E.2.2.1
  have hown := E.2.2.2.1
  have hK := E.2.2.2.2
  intro T ad H locs ls l0 l1 l2 l3 l4 l5 h hgl hrc had h_l0 h_l1 h_l2 G hl
  have hT1 := s_X0_score_b49 hs31 _ _ _ _ _ _ _ h
  have hcs := cs_ok hgl hT1
  have cp0 := cpr0 hrc
  unfold g_X0_score_b49 at h
  refine lv_iconst (v := 0) hx hb dX0_score_49 (by decide) ?_
  refine lv_istore (lv' := [(6, .int 0), (0, .ref (ad l0)), (1, .ref (ad l1)), (2, .ref (ad l2)), (3, .int l3), (4, .int l4), (5, .int l5)]) hx hb dX0_score_50 hl (by decide) rfl (fun ls hl => ?_)
  have hl := lv_sub hl [1, 2, 3, 4, 5, 6, 0] rfl
  refine w_cast (c2 := T.1 - T0.1) (s2 := sg T - sg T0) (by rw [cp0.1] <;> rfl) (by rw [sg_cpr cp0] <;> rfl) ?_
  exact a_X0_score_b52 E hA hX hN hml hst kr143 hs31 hk31 _ _ _ _ _ _ _ _ _ _ _ _ _ h (gl_cpr hgl cp0) cp0.2.2 had (by rw [cp0.1]; exact h_l0) (by rw [cp0.1]; exact h_l1) (by rw [cp0.1]; exact h_l2) G hl
set_option maxHeartbeats 4000000 in
set_option maxRecDepth 100000 in
theorem a_X0_score_b31 {p : Program} {l : Launch} {e : Env} {s : State} {m : MethodId} {args : Array Value} {below : List Frame} {meth : Method} {c : Code} {Q : State → Prop} {D : va_G} {A : Nat → Prop} {cI cJ cZ cMic cSrc cSt cAI cAJ : ClassId} {ad0 : Nat → Nat} {T0 : AT} {T1 : AT} (E : cE p c cX0_score s m args (Cond.code yX0_score cX0_score 9 none :: wsA) D RX0 (CT cI cJ cZ cMic cSrc cSt cAI cAJ)) (hA : ∀ q : Nat, s.heap.size ≤ q → A q) (hX : xT A s) (hN : nX s) (hml : c.maxLocals = 9) (hst : l.stackTraces = false) (kr143 : ∀ (ad : Nat → Nat) (H : Heap) (locs : List Loc) (ls : Array Slot), (∀ n, n < T0.1 → ad n = ad0 n) → gC cI cJ cZ cMic cSrc cSt cAI cAJ D ad A s.heap H locs T1 → W p l e { frames := 6, cells := T1.1 - T0.1, slots := sg T1 - sg T0, locals := 131 } s m args below meth c H locs (T1.1 - T0.1) (sg T1 - sg T0) Q (F0 m 143 ls [])) : ∀ n : Nat, ∀ (T : AT) (ad : Nat → Nat) (H : Heap) (locs : List Loc) (ls : Array Slot) (l0 : Nat) (l1 : Nat) (l2 : Nat) (l3 : Int32) (l4 : Int32) (l5 : Int32), g_X0_score_b31 n T l0 l1 l2 l3 l4 l5 = some T1 → GL T0 T → RC T → (∀ n, n < T0.1 → ad n = ad0 n) → l0 < T.1 → l1 < T.1 → l2 < T.1 → gC cI cJ cZ cMic cSrc cSt cAI cAJ D ad A s.heap H locs T → lv_has ls 9 [(0, .ref (ad l0)), (1, .ref (ad l1)), (2, .ref (ad l2)), (3, .int l3), (4, .int l4), (5, .int l5)] → W p l e { frames := 6, cells := T1.1 - T0.1, slots := sg T1 - sg T0, locals := 131 } s m args below meth c H locs (T.1 - T0.1) (sg T - sg T0) Q (F0 m 31 ls []) := by
  have hx := E.1
  have hb := E.2.1
  have hts := E.2.2.1
  have hown := E.2.2.2.1
  have hK := E.2.2.2.2
  intro n
  induction n with
  | zero =>
    intro T ad H locs ls l0 l1 l2 l3 l4 l5 h
    have h : (none : Option (AT)) = some T1 := h
    cases h
  | succ n ih =>
    intro T ad H locs ls l0 l1 l2 l3 l4 l5 h hgl hrc had h_l0 h_l1 h_l2 G hl
    have hT1 := s_X0_score_b31 _ _ _ _ _ _ _ _ h
    have hcs := cs_ok hgl hT1
    have cp0 := cpr0 hrc
    unfold g_X0_score_b31 at h
    refine lv_iload hx hb dX0_score_31 (lv_at hl 5 rfl) ?_
    refine lv_if_lt (tgt := 143) hx hb dX0_score_33 (by decide) (fun c2 => ?_) (fun c2 => ?_)
    · have h := oif_pos c2 h
      rw [osome1 h] at G
      refine w_cast (c2 := T1.1 - T0.1) (s2 := sg T1 - sg T0) (by rw [← osome1 h, cp0.1] <;> rfl) (by rw [← osome1 h, sg_cpr cp0] <;> rfl) ?_
      exact kr143 ad _ _ _ had G
    · have h := oif_neg c2 h
      refine lv_aload_n hx hb dX0_score_36 rfl (lv_at hl 0 rfl) ?_
      refine lv_aload_n hx hb dX0_score_37 rfl (lv_at hl 1 rfl) ?_
      refine lv_aload_n hx hb dX0_score_38 rfl (lv_at hl 2 rfl) ?_
      refine lv_iload hx hb dX0_score_39 (lv_at hl 5 rfl) ?_
      refine lv_iload_n hx hb dX0_score_41 rfl (lv_at hl 3 rfl) ?_
      refine lv_imul hx hb dX0_score_42 ?_
      refine lv_topi (fun v3 ev3 => ?_)
      have h := elet_at ev3 h
      clear ev3
      refine lv_iload_n hx hb dX0_score_43 rfl (lv_at hl 3 rfl) ?_
      refine lv_iload hx hb dX0_score_44 (lv_at hl 5 rfl) ?_
      obtain ⟨g4, h⟩ := oif_some h
      obtain ⟨T5, eT5, h⟩ := obind_some h
      have hg2 := s_X0_measure eT5
      have hrc2 := hg2.2.2 cp0.2.2
      have hT2 := s_X0_score_b49 (s_X0_score_b31 n) _ _ _ _ _ _ _ h
      refine q_avv (As := [.ref (ad l1), .ref (ad l2), .int v3, .int l3, .int l5]) (rest := []) E G hA hX hN hml (a_X0_measure l hst D cI cJ cZ cMic cSrc cSt cAI cAJ ad T l0 l1 l2 v3 l3 l5 eT5 cp0.2.2 (by rw [cp0.1]; exact h_l0) (by rw [cp0.1]; exact h_l1) (by rw [cp0.1]; exact h_l2)) (cwV 5 hts (gaV qA_28 qA_29 qA_30 qA_31 qA_32) rfl rfl rfl (by decide +kernel) ⟨Nat.le_of_ble_eq_true rfl, Nat.le_of_ble_eq_true rfl⟩) (oO_k g4).1 (cc_o0 (oO_k g4).2) rfl rfl hl.1 rfl (lv_room (Nat.le_of_ble_eq_true rfl)) dX0_score_46 (cs_av hgl cp0 hg2 hT2) (fun ad2 H locs hga G => ?_)
      refine w_cast (c2 := T5.1 - T0.1) (s2 := sg T5 - sg T0) (cs_f1 hgl cp0 hg2) (cs_f2 hgl cp0 hg2) ?_
      have hl := lv_sub hl [0, 1, 2, 3, 4, 5] rfl
      rw [show ad l0 = ad2 l0 from (hga l0 (by rw [cp0.1]; exact h_l0)).symm] at hl
      rw [show ad l1 = ad2 l1 from (hga l1 (by rw [cp0.1]; exact h_l1)).symm] at hl
      rw [show ad l2 = ad2 l2 from (hga l2 (by rw [cp0.1]; exact h_l2)).symm] at hl
      exact a_X0_score_b49 E hA hX hN hml hst kr143 (s_X0_score_b31 n) ih _ _ _ _ _ _ _ _ _ _ _ h (GL.tr (gl_cpr hgl cp0) hg2) hrc2 (fun n hn => (hga n (by rw [cp0.1]; exact Nat.lt_of_lt_of_le hn hgl.1)).trans (had n hn)) (Nat.lt_of_lt_of_le (by rw [cp0.1]; exact h_l0) hg2.1) (Nat.lt_of_lt_of_le (by rw [cp0.1]; exact h_l1) hg2.1) (Nat.lt_of_lt_of_le (by rw [cp0.1]; exact h_l2) hg2.1) G hl
set_option maxHeartbeats 4000000 in
set_option maxRecDepth 100000 in
theorem a_X0_score (l : Launch) (hst : l.stackTraces = false) (D : va_G) (cI cJ cZ cMic cSrc cSt cAI cAJ : ClassId) (ad : Nat → Nat) (T : AT) (o : Nat) (a0 : Nat) (a1 : Nat) (a2 : Int32) {T1 : AT} (h : g_X0_score T o a0 a1 a2 = some T1) (hrc : RC T) (h_o : o < T.1) (h_a0 : a0 < T.1) (h_a1 : a1 < T.1) : kAv l yX0_score (Cond.code yX0_score cX0_score 9 none :: wsA) 6 131 cI cJ cZ cMic cSrc cSt cAI cAJ D ad T [.ref (ad o), .ref (ad a0), .ref (ad a1), .int a2] T1 := by
  intro sz
  refine pro_in (cc := cX0_score) (maxL := 9) (ret := none) (by exact pn_RX0) rfl (by exact Nat.le_of_ble_eq_true rfl) (fun p e s m below meth c ls hx hb hr hts hown hlocks hml hv hl => ?_)
  obtain ⟨hsz, hP, hK, hD0, hX, hN⟩ := hv
  subst hsz
  have hD := hD0.self (sz := s.heap.size)
  generalize hAe : va_A (cW ad T.1 (cc cI cJ cZ cMic cSrc cSt cAI cAJ ad T)) s.heap.size = A at hD hX ⊢
  have hA : ∀ q : Nat, s.heap.size ≤ q → A q := fun q h => by rw [← hAe]; exact Or.inr h
  have G : gC cI cJ cZ cMic cSrc cSt cAI cAJ D ad A s.heap s.heap [] T := ⟨hP, hD, va_S.rf⟩
  have E : cE p c cX0_score s m ([.ref (ad o), .ref (ad a0), .ref (ad a1), .int a2] : List Value).toArray (Cond.code yX0_score cX0_score 9 none :: wsA) D RX0 (CT cI cJ cZ cMic cSrc cSt cAI cAJ) := ⟨hx, hb, hts, hown, hK⟩
  have hl : lv_has ls 9 [(0, .ref (ad o)), (1, .ref (ad a0)), (2, .ref (ad a1)), (3, .int a2)] := hl
  have hgl := GL.rf T
  have had : ∀ n, n < T.1 → ad n = ad n := fun _ _ => rfl
  have hT1 := s_X0_score h
  have hcs := cs_ok hgl hT1
  refine w_cast (Nat.sub_self T.1).symm (Nat.sub_self (sg T)).symm ?_
  have cp0 := cpr0 hrc
  unfold g_X0_score at h
  refine lv_aload_n hx hb dX0_score_0 rfl (lv_at hl 1 rfl) ?_
  obtain ⟨g2, h⟩ := oif_some h
  refine c_get E G a0 2 (oO_k g2).1 (cc_o6 (oO_k g2).2) rfl (fun w h => .tail _ (iA_14 h)) (by decide) (.tail _ qA_128) rfl rfl dX0_score_1 ?_
  refine lv_topi (fun v3 ev3 => ?_)
  have h := elet_at ev3 h
  clear ev3
  refine lv_i2l (v := v3.toInt64) hx hb dX0_score_4 rfl ?_
  refine lv_topl (fun v4 ev4 => ?_)
  have h := elet_at ev4 h
  clear ev4
  refine lv_iload_n hx hb dX0_score_5 rfl (lv_at hl 3 rfl) ?_
  refine lv_i2l (v := a2.toInt64) hx hb dX0_score_6 rfl ?_
  refine lv_topl (fun v5 ev5 => ?_)
  have h := elet_at ev5 h
  clear ev5
  obtain ⟨r6, er6, h⟩ := obind_some h
  refine q_stlN (As := [.long v4, .long v5]) (rest := []) ⟨hx, hb, hml, hown, hts⟩ hN (u_X11_quotient l v4 v5 er6) ⟨va_cnB (host := "AcousticCamera") 2 hts (gaC qA_132) rfl rfl rfl (hN.2.2.2.2.2 _ (List.mem_of_getElem? (i := 17) rfl)) (hts _ (.tail _ qA_131)) (by decide +kernel) ⟨Nat.le_of_ble_eq_true rfl, Nat.le_of_ble_eq_true rfl⟩, hts _ (.tail _ qA_130), trivial⟩ rfl hl.1 rfl (lv_room (Nat.le_of_ble_eq_true rfl)) dX0_score_7 hcs (fun q7 hq => ?_)
  refine lv_tol hq ?_
  clear hq er6
  refine lv_l2i (v := r6.toInt32) hx hb dX0_score_10 rfl ?_
  refine lv_topi (fun v8 ev8 => ?_)
  have h := elet_at ev8 h
  clear ev8
  refine lv_bipush (v := 50) hx hb dX0_score_11 (by decide) ?_
  refine va_mmin hx hb (hml.trans hl.1.symm) hown (hts _ (.tail _ qA_129)) (hts _ (.tail _ qA_50)) (hts _ (.tail _ qA_18)) (hts _ (.tail _ qA_51)) (Nat.le_of_ble_eq_true rfl) (Nat.le_of_ble_eq_true rfl) hcs.1 hcs.2 dX0_score_13 ?_
  refine lv_topi (fun v9 ev9 => ?_)
  have h := elet_at ev9 h
  clear ev9
  refine lv_istore (lv' := [(4, .int v9), (0, .ref (ad o)), (1, .ref (ad a0)), (2, .ref (ad a1)), (3, .int a2)]) hx hb dX0_score_16 hl (by decide) rfl (fun ls hl => ?_)
  refine lv_aload_n hx hb dX0_score_18 rfl (lv_at hl 1 rfl) ?_
  obtain ⟨g10, h⟩ := oif_some h
  obtain ⟨n11, en11, h⟩ := obind_some h
  have h_n11 : n11 < T.1 := by rw [← cp0.1]; exact cp0.2.2 _ _ _ en11
  refine c_get E G o 0 (v := .ref (ad n11)) (oO_k g10).1 (cc_o0 (oO_k g10).2) rfl (fun w h => .tail _ (iA_13 h)) (by decide) (.tail _ qA_7) rfl (by rw [en11]; rfl) dX0_score_19 ?_
  clear en11
  obtain ⟨g12, h⟩ := oif_some h
  obtain ⟨T13, eT13, h⟩ := obind_some h
  refine q_cvv (As := []) (rest := []) E G hA hX hN hml (u_X10_narrow l hst D cI cJ cZ cMic cSrc cSt cAI cAJ ad T n11 eT13) (cwV 0 hts (gaV qA_24 qA_25 qA_26 qA_6 qA_27) rfl rfl rfl (by decide +kernel) ⟨Nat.le_of_ble_eq_true rfl, Nat.le_of_ble_eq_true rfl⟩) (oO_k g12).1 (cc_o10 (oO_k g12).2) rfl rfl hl.1 rfl (lv_room (Nat.le_of_ble_eq_true rfl)) dX0_score_22 hcs (fun T14 H locs hq G => ?_)
  rw [hq] at G
  clear hq
  have cp1 := cpr_sp cp0 (s_X10_narrow eT13)
  refine lv_iload hx hb dX0_score_25 (lv_at hl 0 rfl) ?_
  refine lv_iconst (v := 1) hx hb dX0_score_27 (by decide) ?_
  refine lv_isub hx hb dX0_score_28 ?_
  refine lv_topi (fun v15 ev15 => ?_)
  have h := elet_at ev15 h
  clear ev15
  refine lv_istore (lv' := [(5, .int v15), (4, .int v9), (0, .ref (ad o)), (1, .ref (ad a0)), (2, .ref (ad a1)), (3, .int a2)]) hx hb dX0_score_29 hl (by decide) rfl (fun ls hl => ?_)
  have hl := lv_sub hl [2, 3, 4, 5, 1, 0] rfl
  refine w_cast (c2 := T13.1 - T.1) (s2 := sg T13 - sg T) (by rw [cp1.1] <;> rfl) (by rw [sg_cpr cp1] <;> rfl) ?_
  exact a_X0_score_b31 E hA hX hN hml hst (fun ad H locs ls had G => W.vret hx hb hr (fun t ht hW => ⟨⟨(T1, ad), rfl, ⟨rfl, had⟩, ⟨by rw [ht]; exact G.1, va_K.moved hW.alike hK, G.2.1⟩⟩, G.2.2.F ht⟩) G.2.2.2.2 dX0_score_143) _ _ _ _ _ _ _ _ _ _ _ _ h (gl_cpr hgl cp1) cp1.2.2 had (by rw [cp1.1]; exact h_o) (by rw [cp1.1]; exact h_a0) (by rw [cp1.1]; exact h_a1) G hl
end
section
/-! 11kd.cd3.lean.txt -/
def g_X0_trackCellIn_b55  (T : AT) (l3 : Int32) : Option (Int32 × AT) := some (l3, T)
set_option maxHeartbeats 4000000 in
set_option maxRecDepth 100000 in
theorem u_X0_trackCellIn_b55 {p : Program} {l : Launch} {e : Env} {s : State} {m : MethodId} {args : Array Value} {below : List Frame} {meth : Method} {c : Code} {Q : State → Prop} {D : va_G} {A : Nat → Prop} {cI cJ cZ cMic cSrc cSt cAI cAJ : ClassId} {ad : Nat → Nat} {r1 : Int32} {T1 : AT} (E : cE p c cX0_trackCellIn s m args (Cond.code yX0_trackCellIn cX0_trackCellIn 5 (some .int) :: wsA) D RX0 (CT cI cJ cZ cMic cSrc cSt cAI cAJ)) (hA : ∀ q : Nat, s.heap.size ≤ q → A q) (hX : xT A s) (hN : nX s) (hml : c.maxLocals = 5) (hst : l.stackTraces = false) (kr56 : ∀ (H : Heap) (locs : List Loc) (ls : Array Slot), gC cI cJ cZ cMic cSrc cSt cAI cAJ D ad A s.heap H locs T1 → W p l e { frames := 4, cells := 0, slots := 0, locals := 74 } s m args below meth c H locs 0 0 Q (F0 m 56 ls [.int r1])) : ∀ (T : AT) (H : Heap) (locs : List Loc) (ls : Array Slot) (l3 : Int32), g_X0_trackCellIn_b55 T l3 = some (r1, T1) → gC cI cJ cZ cMic cSrc cSt cAI cAJ D ad A s.heap H locs T → lv_has ls 5 [(3, .int l3)] → W p l e { frames := 4, cells := 0, slots := 0, locals := 74 } s m args below meth c H locs 0 0 Q (F0 m 55 ls []) := by
  have hx := E.1
  have hb := E.2.1
  have hts := E.2.2.1
  have hown := E.2.2.2.1
  have hK := E.2.2.2.2
  intro T H locs ls l3 h G hl
  unfold g_X0_trackCellIn_b55 at h
  refine lv_iload_n hx hb dX0_trackCellIn_55 rfl (lv_at hl 0 rfl) ?_
  rw [(osome2 h).2] at G
  refine lv_to (osome2 h).1 ?_
  exact kr56 _ _ _ G
def g_X0_trackCellIn_b17  : Nat → AT → Nat → Nat → Int32 → Int32 → Int32 → Option (Int32 × AT)
  | 0, _, _, _, _, _, _ => none
  | n + 1, T, l0, l1, l2, l3, l4 => if l2 < l4 then (g_X0_trackCellIn_b55 T l3) else (if 50 ≤ l4 then (g_X0_trackCellIn_b55 T l3) else (oif (oO T l1 1 = true) <| obind2 (g_X1_areaAround T l1 l3) fun n7 T5 => oif (oO T5 l0 0 = true) <| obind (T5.2.2.2.2 l0 0) fun n9 => obind (g_X0_rowStart l4) fun r10 => oif (oO T5 l1 1 = true) <| obind2 (g_X1_bestIn T5 l1 n7 n9 r10) fun r15 T13 => elet (l4 + Int32.ofInt (1)) fun v17 => g_X0_trackCellIn_b17 n T13 l0 l1 l2 r15 v17))
set_option maxHeartbeats 4000000 in
set_option maxRecDepth 100000 in
theorem u_X0_trackCellIn_b17 {p : Program} {l : Launch} {e : Env} {s : State} {m : MethodId} {args : Array Value} {below : List Frame} {meth : Method} {c : Code} {Q : State → Prop} {D : va_G} {A : Nat → Prop} {cI cJ cZ cMic cSrc cSt cAI cAJ : ClassId} {ad : Nat → Nat} {r1 : Int32} {T1 : AT} (E : cE p c cX0_trackCellIn s m args (Cond.code yX0_trackCellIn cX0_trackCellIn 5 (some .int) :: wsA) D RX0 (CT cI cJ cZ cMic cSrc cSt cAI cAJ)) (hA : ∀ q : Nat, s.heap.size ≤ q → A q) (hX : xT A s) (hN : nX s) (hml : c.maxLocals = 5) (hst : l.stackTraces = false) (kr56 : ∀ (H : Heap) (locs : List Loc) (ls : Array Slot), gC cI cJ cZ cMic cSrc cSt cAI cAJ D ad A s.heap H locs T1 → W p l e { frames := 4, cells := 0, slots := 0, locals := 74 } s m args below meth c H locs 0 0 Q (F0 m 56 ls [.int r1])) : ∀ n : Nat, ∀ (T : AT) (H : Heap) (locs : List Loc) (ls : Array Slot) (l0 : Nat) (l1 : Nat) (l2 : Int32) (l3 : Int32) (l4 : Int32), g_X0_trackCellIn_b17 n T l0 l1 l2 l3 l4 = some (r1, T1) → gC cI cJ cZ cMic cSrc cSt cAI cAJ D ad A s.heap H locs T → lv_has ls 5 [(0, .ref (ad l0)), (1, .ref (ad l1)), (2, .int l2), (3, .int l3), (4, .int l4)] → W p l e { frames := 4, cells := 0, slots := 0, locals := 74 } s m args below meth c H locs 0 0 Q (F0 m 17 ls []) := by
  have hx := E.1
  have hb := E.2.1
  have hts := E.2.2.1
  have hown := E.2.2.2.1
  have hK := E.2.2.2.2
  intro n
  induction n with
  | zero =>
    intro T H locs ls l0 l1 l2 l3 l4 h
    have h : (none : Option (Int32 × AT)) = some (r1, T1) := h
    cases h
  | succ n ih =>
    intro T H locs ls l0 l1 l2 l3 l4 h G hl
    unfold g_X0_trackCellIn_b17 at h
    refine lv_iload hx hb dX0_trackCellIn_17 (lv_at hl 4 rfl) ?_
    refine lv_iload_n hx hb dX0_trackCellIn_19 rfl (lv_at hl 2 rfl) ?_
    refine lv_icmp_gt (tgt := 55) hx hb dX0_trackCellIn_20 (by decide) (fun c2 => ?_) (fun c2 => ?_)
    · have h := oif_pos c2 h
      have hl := lv_sub hl [3] rfl
      exact u_X0_trackCellIn_b55 E hA hX hN hml hst kr56 _ _ _ _ _ h G hl
    · have h := oif_neg c2 h
      refine lv_iload hx hb dX0_trackCellIn_23 (lv_at hl 4 rfl) ?_
      refine lv_bipush (v := 50) hx hb dX0_trackCellIn_25 (by decide) ?_
      refine lv_icmp_ge (tgt := 55) hx hb dX0_trackCellIn_27 (by decide) (fun c3 => ?_) (fun c3 => ?_)
      · have h := oif_pos c3 h
        have hl := lv_sub hl [3] rfl
        exact u_X0_trackCellIn_b55 E hA hX hN hml hst kr56 _ _ _ _ _ h G hl
      · have h := oif_neg c3 h
        refine lv_aload_n hx hb dX0_trackCellIn_30 rfl (lv_at hl 1 rfl) ?_
        refine lv_aload_n hx hb dX0_trackCellIn_31 rfl (lv_at hl 1 rfl) ?_
        refine lv_iload_n hx hb dX0_trackCellIn_32 rfl (lv_at hl 3 rfl) ?_
        obtain ⟨g4, h⟩ := oif_some h
        obtain ⟨n7, T5, eT5, h⟩ := obind2_some h
        refine q_cvr (As := [.int l3]) (rest := [.ref (ad l1)]) E G hA hX hN hml (u_X1_areaAround l hst D cI cJ cZ cMic cSrc cSt cAI cAJ ad T l1 l3 eT5) (cwV 1 hts (gaV qA_133 qA_134 qA_135 qA_37 qA_136) rfl rfl rfl (by decide +kernel) ⟨Nat.le_of_ble_eq_true rfl, Nat.le_of_ble_eq_true rfl⟩) (oO_k g4).1 (cc_o1 (oO_k g4).2) rfl rfl hl.1 rfl (lv_room (Nat.le_of_ble_eq_true rfl)) dX0_trackCellIn_33 ⟨Nat.zero_le _, Nat.zero_le _⟩ (fun T6 H locs hq G => ?_)
        rw [hq] at G
        clear hq eT5
        refine lv_aload_n hx hb dX0_trackCellIn_36 rfl (lv_at hl 0 rfl) ?_
        obtain ⟨g8, h⟩ := oif_some h
        obtain ⟨n9, en9, h⟩ := obind_some h
        refine c_get E G l0 0 (v := .ref (ad n9)) (oO_k g8).1 (cc_o0 (oO_k g8).2) rfl (fun w h => .tail _ (iA_13 h)) (by decide) (.tail _ qA_7) rfl (by rw [en9]; rfl) dX0_trackCellIn_37 ?_
        clear en9
        refine lv_iload hx hb dX0_trackCellIn_40 (lv_at hl 4 rfl) ?_
        obtain ⟨r10, er10, h⟩ := obind_some h
        refine q_sti (As := [.int l4]) (rest := [.ref (ad n9), .ref (ad n7), .ref (ad l1)]) ⟨hx, hb, hml, hown, hts⟩ hN (u_X0_rowStart l l4 er10) (cwS 1 hts (gaS qA_41 qA_42 qA_31 qA_43) rfl rfl rfl (by decide +kernel) ⟨Nat.le_of_ble_eq_true rfl, Nat.le_of_ble_eq_true rfl⟩) rfl hl.1 rfl (lv_room (Nat.le_of_ble_eq_true rfl)) dX0_trackCellIn_42 ⟨Nat.zero_le _, Nat.zero_le _⟩ (fun q11 hq => ?_)
        refine lv_to hq ?_
        clear hq er10
        obtain ⟨g12, h⟩ := oif_some h
        obtain ⟨r15, T13, eT13, h⟩ := obind2_some h
        refine q_cvi (As := [.ref (ad n7), .ref (ad n9), .int r10]) (rest := []) E G hA hX hN hml (u_X1_bestIn l hst D cI cJ cZ cMic cSrc cSt cAI cAJ ad T5 l1 n7 n9 r10 eT13) (cwV 3 hts (gaV qA_115 qA_116 qA_117 qA_37 qA_118) rfl rfl rfl (by decide +kernel) ⟨Nat.le_of_ble_eq_true rfl, Nat.le_of_ble_eq_true rfl⟩) (oO_k g12).1 (cc_o1 (oO_k g12).2) rfl rfl hl.1 rfl (lv_room (Nat.le_of_ble_eq_true rfl)) dX0_trackCellIn_45 ⟨Nat.zero_le _, Nat.zero_le _⟩ (fun q16 T14 H locs hq G => ?_)
        obtain ⟨hq1, hq2⟩ := hq
        rw [hq2] at G
        refine lv_to hq1 ?_
        clear hq1 hq2 eT13
        refine lv_istore_n (lv' := [(3, .int r15), (0, .ref (ad l0)), (1, .ref (ad l1)), (2, .int l2), (4, .int l4)]) hx hb dX0_trackCellIn_48 rfl hl (by decide) rfl (fun ls hl => ?_)
        obtain ⟨v17, ev17, h⟩ := elet_some h
        refine lv_iinc (v := v17) (lv' := [(4, .int v17), (3, .int r15), (0, .ref (ad l0)), (1, .ref (ad l1)), (2, .int l2)]) hx hb dX0_trackCellIn_49 hl (k := 4) rfl ev17.symm (by decide) rfl (fun ls hl => ?_)
        refine lv_goto (tgt := 17) hx hb dX0_trackCellIn_52 (by decide) ?_
        have hl := lv_sub hl [2, 3, 4, 1, 0] rfl
        exact ih _ _ _ _ _ _ _ _ _ h G hl
def g_X0_trackCellIn (T : AT) (o : Nat) (a0 : Nat) (a1 : Int32) : Option (Int32 × AT) := oif (oO T a0 1 = true) <| obind (T.2.2.2.2 a0 5) fun n3 => oif (oO T o 0 = true) <| obind (T.2.2.2.2 o 0) fun n5 => oif (oO T a0 1 = true) <| obind2 (g_X1_bestIn T a0 n3 n5 (0 : Int32)) fun r9 T7 => g_X0_trackCellIn_b17 16384 T7 o a0 a1 r9 1
set_option maxHeartbeats 4000000 in
set_option maxRecDepth 100000 in
theorem u_X0_trackCellIn (l : Launch) (hst : l.stackTraces = false) (D : va_G) (cI cJ cZ cMic cSrc cSt cAI cAJ : ClassId) (ad : Nat → Nat) (T : AT) (o : Nat) (a0 : Nat) (a1 : Int32) {r1 : Int32} {T1 : AT} (h : g_X0_trackCellIn T o a0 a1 = some (r1, T1)) : kCi l yX0_trackCellIn (Cond.code yX0_trackCellIn cX0_trackCellIn 5 (some .int) :: wsA) 4 74 cI cJ cZ cMic cSrc cSt cAI cAJ D ad T [.ref (ad o), .ref (ad a0), .int a1] (fun r T9 => r = r1 ∧ T9 = T1) := by
  intro sz
  refine pro_in (cc := cX0_trackCellIn) (maxL := 5) (ret := (some .int)) (by exact pn_RX0) rfl (by exact Nat.le_of_ble_eq_true rfl) (fun p e s m below meth c ls hx hb hr hts hown hlocks hml hv hl => ?_)
  obtain ⟨hsz, hP, hK, hD0, hX, hN⟩ := hv
  subst hsz
  have hD := hD0.self (sz := s.heap.size)
  generalize hAe : va_A (cW ad T.1 (cc cI cJ cZ cMic cSrc cSt cAI cAJ ad T)) s.heap.size = A at hD hX ⊢
  have hA : ∀ q : Nat, s.heap.size ≤ q → A q := fun q h => by rw [← hAe]; exact Or.inr h
  have G : gC cI cJ cZ cMic cSrc cSt cAI cAJ D ad A s.heap s.heap [] T := ⟨hP, hD, va_S.rf⟩
  have E : cE p c cX0_trackCellIn s m ([.ref (ad o), .ref (ad a0), .int a1] : List Value).toArray (Cond.code yX0_trackCellIn cX0_trackCellIn 5 (some .int) :: wsA) D RX0 (CT cI cJ cZ cMic cSrc cSt cAI cAJ) := ⟨hx, hb, hts, hown, hK⟩
  have hl : lv_has ls 5 [(0, .ref (ad o)), (1, .ref (ad a0)), (2, .int a1)] := hl
  unfold g_X0_trackCellIn at h
  refine lv_aload_n hx hb dX0_trackCellIn_0 rfl (lv_at hl 1 rfl) ?_
  refine lv_aload_n hx hb dX0_trackCellIn_1 rfl (lv_at hl 1 rfl) ?_
  obtain ⟨g2, h⟩ := oif_some h
  obtain ⟨n3, en3, h⟩ := obind_some h
  refine c_get E G a0 5 (v := .ref (ad n3)) (oO_k g2).1 (cc_o1 (oO_k g2).2) rfl (fun w h => .tail _ (iA_15 h)) (by decide) (.tail _ qA_23) rfl (by rw [en3]; rfl) dX0_trackCellIn_2 ?_
  clear en3
  refine lv_aload_n hx hb dX0_trackCellIn_5 rfl (lv_at hl 0 rfl) ?_
  obtain ⟨g4, h⟩ := oif_some h
  obtain ⟨n5, en5, h⟩ := obind_some h
  refine c_get E G o 0 (v := .ref (ad n5)) (oO_k g4).1 (cc_o0 (oO_k g4).2) rfl (fun w h => .tail _ (iA_13 h)) (by decide) (.tail _ qA_7) rfl (by rw [en5]; rfl) dX0_trackCellIn_6 ?_
  clear en5
  refine lv_iconst (v := 0) hx hb dX0_trackCellIn_9 (by decide) ?_
  obtain ⟨g6, h⟩ := oif_some h
  obtain ⟨r9, T7, eT7, h⟩ := obind2_some h
  refine q_cvi (As := [.ref (ad n3), .ref (ad n5), .int 0]) (rest := []) E G hA hX hN hml (u_X1_bestIn l hst D cI cJ cZ cMic cSrc cSt cAI cAJ ad T a0 n3 n5 (0 : Int32) eT7) (cwV 3 hts (gaV qA_115 qA_116 qA_117 qA_37 qA_118) rfl rfl rfl (by decide +kernel) ⟨Nat.le_of_ble_eq_true rfl, Nat.le_of_ble_eq_true rfl⟩) (oO_k g6).1 (cc_o1 (oO_k g6).2) rfl rfl hl.1 rfl (lv_room (Nat.le_of_ble_eq_true rfl)) dX0_trackCellIn_10 ⟨Nat.zero_le _, Nat.zero_le _⟩ (fun q10 T8 H locs hq G => ?_)
  obtain ⟨hq1, hq2⟩ := hq
  rw [hq2] at G
  refine lv_to hq1 ?_
  clear hq1 hq2 eT7
  refine lv_istore_n (lv' := [(3, .int r9), (0, .ref (ad o)), (1, .ref (ad a0)), (2, .int a1)]) hx hb dX0_trackCellIn_13 rfl hl (by decide) rfl (fun ls hl => ?_)
  refine lv_iconst (v := 1) hx hb dX0_trackCellIn_14 (by decide) ?_
  refine lv_istore (lv' := [(4, .int 1), (3, .int r9), (0, .ref (ad o)), (1, .ref (ad a0)), (2, .int a1)]) hx hb dX0_trackCellIn_15 hl (by decide) rfl (fun ls hl => ?_)
  have hl := lv_sub hl [2, 3, 4, 1, 0] rfl
  exact u_X0_trackCellIn_b17 E hA hX hN hml hst (fun H locs ls G => W.iret (v := r1) hx hb hr (fun t ht hW => ⟨⟨r1, T1, rfl, ⟨rfl, rfl⟩, ⟨by rw [ht]; exact G.1, va_K.moved hW.alike hK, G.2.1⟩⟩, G.2.2.F ht⟩) G.2.2.2.2 dX0_trackCellIn_56) _ _ _ _ _ _ _ _ _ _ h G hl
set_option maxHeartbeats 4000000 in
set_option maxRecDepth 100000 in
theorem s_X0_trackCellIn_b55 {r1 : Int32} {T1 : AT} : ∀ (T : AT) (l3 : Int32), g_X0_trackCellIn_b55 T l3 = some (r1, T1) → SP T T1 := by
  intro T l3 h
  have p0 := SP.rf T
  unfold g_X0_trackCellIn_b55 at h
  rw [← (osome2 h).2]
  exact p0
set_option maxHeartbeats 4000000 in
set_option maxRecDepth 100000 in
theorem s_X0_trackCellIn_b17 {r1 : Int32} {T1 : AT} : ∀ n : Nat, ∀ (T : AT) (l0 : Nat) (l1 : Nat) (l2 : Int32) (l3 : Int32) (l4 : Int32), g_X0_trackCellIn_b17 n T l0 l1 l2 l3 l4 = some (r1, T1) → SP T T1 := by
  intro n
  induction n with
  | zero =>
    intro T l0 l1 l2 l3 l4 h
    have h : (none : Option (Int32 × AT)) = some (r1, T1) := h
    cases h
  | succ n ih =>
    intro T l0 l1 l2 l3 l4 h
    have p0 := SP.rf T
    unfold g_X0_trackCellIn_b17 at h
    rcases oif_or h with ⟨c2, h⟩ | ⟨c2, h⟩
    · have h := h
      exact SP.tr p0 (s_X0_trackCellIn_b55 _ _ h)
    · have h := h
      rcases oif_or h with ⟨c3, h⟩ | ⟨c3, h⟩
      · have h := h
        exact SP.tr p0 (s_X0_trackCellIn_b55 _ _ h)
      · have h := h
        obtain ⟨g4, h⟩ := oif_some h
        obtain ⟨r6, T5, eT5, h⟩ := obind2_some h
        have p1 : SP T T5 := SP.tr p0 (s_X1_areaAround eT5)
        obtain ⟨g7, h⟩ := oif_some h
        obtain ⟨n8, en8, h⟩ := obind_some h
        obtain ⟨r9, -, h⟩ := obind_some h
        obtain ⟨g10, h⟩ := oif_some h
        obtain ⟨r12, T11, eT11, h⟩ := obind2_some h
        have p2 : SP T T11 := SP.tr p1 (s_X1_bestIn eT11)
        obtain ⟨v13, ev13, h⟩ := elet_some h
        exact SP.tr p2 (ih _ _ _ _ _ _ h)
set_option maxHeartbeats 4000000 in
set_option maxRecDepth 100000 in
theorem s_X0_trackCellIn {T : AT} {o : Nat} {a0 : Nat} {a1 : Int32} {r1 : Int32} {T1 : AT} (h : g_X0_trackCellIn T o a0 a1 = some (r1, T1)) : SP T T1 := by
  have p0 := SP.rf T
  unfold g_X0_trackCellIn at h
  obtain ⟨g2, h⟩ := oif_some h
  obtain ⟨n3, en3, h⟩ := obind_some h
  obtain ⟨g4, h⟩ := oif_some h
  obtain ⟨n5, en5, h⟩ := obind_some h
  obtain ⟨g6, h⟩ := oif_some h
  obtain ⟨r8, T7, eT7, h⟩ := obind2_some h
  have p1 : SP T T7 := SP.tr p0 (s_X1_bestIn eT7)
  exact SP.tr p1 (s_X0_trackCellIn_b17 _ _ _ _ _ _ _ h)
def g_X1_clear (T : AT) (o : Nat) : Option (AT) := oif (oO T o 1 = true) <| elet (uI T o 3 0) fun T3 => oif (oO T3 o 1 = true) <| elet (uI T3 o 4 0) fun T5 => oif (oO T5 o 1 = true) <| elet (uI T5 o 7 0) fun T7 => some T7
set_option maxHeartbeats 4000000 in
set_option maxRecDepth 100000 in
theorem u_X1_clear (l : Launch) (hst : l.stackTraces = false) (D : va_G) (cI cJ cZ cMic cSrc cSt cAI cAJ : ClassId) (ad : Nat → Nat) (T : AT) (o : Nat) {T1 : AT} (h : g_X1_clear T o = some T1) : kCv l yX1_clear (Cond.code yX1_clear cX1_clear 1 none :: wsA) 1 0 cI cJ cZ cMic cSrc cSt cAI cAJ D ad T [.ref (ad o)] (fun T9 => T9 = T1) := by
  intro sz
  refine pro_in (cc := cX1_clear) (maxL := 1) (ret := none) (by exact pn_RX1) rfl (by exact Nat.le_of_ble_eq_true rfl) (fun p e s m below meth c ls hx hb hr hts hown hlocks hml hv hl => ?_)
  obtain ⟨hsz, hP, hK, hD0, hX, hN⟩ := hv
  subst hsz
  have hD := hD0.self (sz := s.heap.size)
  generalize hAe : va_A (cW ad T.1 (cc cI cJ cZ cMic cSrc cSt cAI cAJ ad T)) s.heap.size = A at hD hX ⊢
  have hA : ∀ q : Nat, s.heap.size ≤ q → A q := fun q h => by rw [← hAe]; exact Or.inr h
  have G : gC cI cJ cZ cMic cSrc cSt cAI cAJ D ad A s.heap s.heap [] T := ⟨hP, hD, va_S.rf⟩
  have E : cE p c cX1_clear s m ([.ref (ad o)] : List Value).toArray (Cond.code yX1_clear cX1_clear 1 none :: wsA) D RX1 (CT cI cJ cZ cMic cSrc cSt cAI cAJ) := ⟨hx, hb, hts, hown, hK⟩
  have hl : lv_has ls 1 [(0, .ref (ad o))] := hl
  unfold g_X1_clear at h
  refine lv_aload_n hx hb dX1_clear_0 rfl (lv_at hl 0 rfl) ?_
  refine lv_iconst (v := 0) hx hb dX1_clear_1 (by decide) ?_
  obtain ⟨g2, h⟩ := oif_some h
  refine c_put E G o 3 (v := .int 0) (oO_k g2).1 (cc_o1 (oO_k g2).2) rfl (fun w h => .tail _ (iA_15 h)) tyX1 tyX1_ok nmX1 (by decide) (.tail _ qA_39) ⟨rfl, rfl, rfl⟩ rfl rfl (Nat.le_of_ble_eq_true rfl) dX1_clear_2 (fun H locs G => ?_)
  have G := gC_up_i (f := upd (T.2.2.1 o) 3 0) (by rw [(oO_k g2).2]; rfl) G
  obtain ⟨T3, eT3, h⟩ := elet_some h
  have G : gC cI cJ cZ cMic cSrc cSt cAI cAJ D ad A s.heap H locs T3 := by rw [eT3]; exact G
  clear eT3
  refine lv_aload_n hx hb dX1_clear_5 rfl (lv_at hl 0 rfl) ?_
  refine lv_iconst (v := 0) hx hb dX1_clear_6 (by decide) ?_
  obtain ⟨g4, h⟩ := oif_some h
  refine c_put E G o 4 (v := .int 0) (oO_k g4).1 (cc_o1 (oO_k g4).2) rfl (fun w h => .tail _ (iA_15 h)) tyX1 tyX1_ok nmX1 (by decide) (.tail _ qA_40) ⟨rfl, rfl, rfl⟩ rfl rfl (Nat.le_of_ble_eq_true rfl) dX1_clear_7 (fun H locs G => ?_)
  have G := gC_up_i (f := upd (T3.2.2.1 o) 4 0) (by rw [(oO_k g4).2]; rfl) G
  obtain ⟨T5, eT5, h⟩ := elet_some h
  have G : gC cI cJ cZ cMic cSrc cSt cAI cAJ D ad A s.heap H locs T5 := by rw [eT5]; exact G
  clear eT5
  refine lv_aload_n hx hb dX1_clear_10 rfl (lv_at hl 0 rfl) ?_
  refine lv_iconst (v := 0) hx hb dX1_clear_11 (by decide) ?_
  obtain ⟨g6, h⟩ := oif_some h
  refine c_put E G o 7 (v := .int 0) (oO_k g6).1 (cc_o1 (oO_k g6).2) rfl (fun w h => .tail _ (iA_15 h)) tyX1 tyX1_ok nmX1 (by decide) (.tail _ qA_162) ⟨rfl, rfl, rfl⟩ rfl rfl (Nat.le_of_ble_eq_true rfl) dX1_clear_12 (fun H locs G => ?_)
  have G := gC_up_i (f := upd (T5.2.2.1 o) 7 0) (by rw [(oO_k g6).2]; rfl) G
  obtain ⟨T7, eT7, h⟩ := elet_some h
  have G : gC cI cJ cZ cMic cSrc cSt cAI cAJ D ad A s.heap H locs T7 := by rw [eT7]; exact G
  clear eT7
  exact W.vret hx hb hr (fun t ht hW => ⟨⟨T7, rfl, osome1 h, ⟨by rw [ht]; exact G.1, va_K.moved hW.alike hK, G.2.1⟩⟩, G.2.2.F ht⟩) G.2.2.2.2 dX1_clear_15
set_option maxHeartbeats 4000000 in
set_option maxRecDepth 100000 in
theorem s_X1_clear {T : AT} {o : Nat} {T1 : AT} (h : g_X1_clear T o = some T1) : SP T T1 := by
  have p0 := SP.rf T
  unfold g_X1_clear at h
  obtain ⟨g2, h⟩ := oif_some h
  obtain ⟨T3, eT3, h⟩ := elet_some h
  have p1 : SP T T3 := SP.tr p0 (by rw [eT3]; exact sp_uI)
  obtain ⟨g4, h⟩ := oif_some h
  obtain ⟨T5, eT5, h⟩ := elet_some h
  have p2 : SP T T5 := SP.tr p1 (by rw [eT5]; exact sp_uI)
  obtain ⟨g6, h⟩ := oif_some h
  obtain ⟨T7, eT7, h⟩ := elet_some h
  have p3 : SP T T7 := SP.tr p2 (by rw [eT7]; exact sp_uI)
  rw [← osome1 h]
  exact p3
def g_X1_open (T : AT) (o : Nat) (a0 : Int32) (a1 : Int32) : Option (AT) := oif (oO T o 1 = true) <| elet (uI T o 3 a0) fun T3 => oif (oO T3 o 1 = true) <| elet (uI T3 o 4 a1) fun T5 => oif (oO T5 o 1 = true) <| obind (T5.2.2.2.2 o 5) fun n7 => elet (a0 - 1) fun v8 => oif (aA T5 n7 100 = true) <| oif (inb 2 (T5.2.1 n7).2 = true) <| elet (uI T5 n7 (2 : Int32).toNatClampNeg v8) fun T11 => oif (oO T11 o 1 = true) <| obind (T11.2.2.2.2 o 5) fun n13 => elet (a1 - 1) fun v14 => oif (aA T11 n13 100 = true) <| oif (inb 3 (T11.2.1 n13).2 = true) <| elet (uI T11 n13 (3 : Int32).toNatClampNeg v14) fun T17 => some T17
set_option maxHeartbeats 4000000 in
set_option maxRecDepth 100000 in
theorem u_X1_open (l : Launch) (hst : l.stackTraces = false) (D : va_G) (cI cJ cZ cMic cSrc cSt cAI cAJ : ClassId) (ad : Nat → Nat) (T : AT) (o : Nat) (a0 : Int32) (a1 : Int32) {T1 : AT} (h : g_X1_open T o a0 a1 = some T1) : kCv l yX1_open (Cond.code yX1_open cX1_open 3 none :: wsA) 1 0 cI cJ cZ cMic cSrc cSt cAI cAJ D ad T [.ref (ad o), .int a0, .int a1] (fun T9 => T9 = T1) := by
  intro sz
  refine pro_in (cc := cX1_open) (maxL := 3) (ret := none) (by exact pn_RX1) rfl (by exact Nat.le_of_ble_eq_true rfl) (fun p e s m below meth c ls hx hb hr hts hown hlocks hml hv hl => ?_)
  obtain ⟨hsz, hP, hK, hD0, hX, hN⟩ := hv
  subst hsz
  have hD := hD0.self (sz := s.heap.size)
  generalize hAe : va_A (cW ad T.1 (cc cI cJ cZ cMic cSrc cSt cAI cAJ ad T)) s.heap.size = A at hD hX ⊢
  have hA : ∀ q : Nat, s.heap.size ≤ q → A q := fun q h => by rw [← hAe]; exact Or.inr h
  have G : gC cI cJ cZ cMic cSrc cSt cAI cAJ D ad A s.heap s.heap [] T := ⟨hP, hD, va_S.rf⟩
  have E : cE p c cX1_open s m ([.ref (ad o), .int a0, .int a1] : List Value).toArray (Cond.code yX1_open cX1_open 3 none :: wsA) D RX1 (CT cI cJ cZ cMic cSrc cSt cAI cAJ) := ⟨hx, hb, hts, hown, hK⟩
  have hl : lv_has ls 3 [(0, .ref (ad o)), (1, .int a0), (2, .int a1)] := hl
  unfold g_X1_open at h
  refine lv_aload_n hx hb dX1_open_0 rfl (lv_at hl 0 rfl) ?_
  refine lv_iload_n hx hb dX1_open_1 rfl (lv_at hl 1 rfl) ?_
  obtain ⟨g2, h⟩ := oif_some h
  refine c_put E G o 3 (v := .int a0) (oO_k g2).1 (cc_o1 (oO_k g2).2) rfl (fun w h => .tail _ (iA_15 h)) tyX1 tyX1_ok nmX1 (by decide) (.tail _ qA_39) ⟨rfl, rfl, rfl⟩ rfl rfl (Nat.le_of_ble_eq_true rfl) dX1_open_2 (fun H locs G => ?_)
  have G := gC_up_i (f := upd (T.2.2.1 o) 3 a0) (by rw [(oO_k g2).2]; rfl) G
  obtain ⟨T3, eT3, h⟩ := elet_some h
  have G : gC cI cJ cZ cMic cSrc cSt cAI cAJ D ad A s.heap H locs T3 := by rw [eT3]; exact G
  clear eT3
  refine lv_aload_n hx hb dX1_open_5 rfl (lv_at hl 0 rfl) ?_
  refine lv_iload_n hx hb dX1_open_6 rfl (lv_at hl 2 rfl) ?_
  obtain ⟨g4, h⟩ := oif_some h
  refine c_put E G o 4 (v := .int a1) (oO_k g4).1 (cc_o1 (oO_k g4).2) rfl (fun w h => .tail _ (iA_15 h)) tyX1 tyX1_ok nmX1 (by decide) (.tail _ qA_40) ⟨rfl, rfl, rfl⟩ rfl rfl (Nat.le_of_ble_eq_true rfl) dX1_open_7 (fun H locs G => ?_)
  have G := gC_up_i (f := upd (T3.2.2.1 o) 4 a1) (by rw [(oO_k g4).2]; rfl) G
  obtain ⟨T5, eT5, h⟩ := elet_some h
  have G : gC cI cJ cZ cMic cSrc cSt cAI cAJ D ad A s.heap H locs T5 := by rw [eT5]; exact G
  clear eT5
  refine lv_aload_n hx hb dX1_open_10 rfl (lv_at hl 0 rfl) ?_
  obtain ⟨g6, h⟩ := oif_some h
  obtain ⟨n7, en7, h⟩ := obind_some h
  refine c_get E G o 5 (v := .ref (ad n7)) (oO_k g6).1 (cc_o1 (oO_k g6).2) rfl (fun w h => .tail _ (iA_15 h)) (by decide) (.tail _ qA_158) rfl (by rw [en7]; rfl) dX1_open_11 ?_
  clear en7
  refine lv_iconst (v := 2) hx hb dX1_open_14 (by decide) ?_
  refine lv_iload_n hx hb dX1_open_15 rfl (lv_at hl 1 rfl) ?_
  refine lv_iconst (v := 1) hx hb dX1_open_16 (by decide) ?_
  refine lv_isub hx hb dX1_open_17 ?_
  refine lv_topi (fun v8 ev8 => ?_)
  have h := elet_at ev8 h
  clear ev8
  obtain ⟨g9, h⟩ := oif_some h
  obtain ⟨g10, h⟩ := oif_some h
  refine c_iast E G n7 0 (k := (2 : Int32).toNatClampNeg) (v := v8) (aA_k g9).1 (cc_a100 (aA_k g9).2.1) rfl (inb_k g10).1 (inb_k g10).2 (aA_k g9).2.2 dX1_open_18 (fun H locs G => ?_)
  have G := gC_up_i (f := upd (T5.2.2.1 n7) (2 : Int32).toNatClampNeg v8) (ccv_100 (aA_k g9).2.1) G
  obtain ⟨T11, eT11, h⟩ := elet_some h
  have G : gC cI cJ cZ cMic cSrc cSt cAI cAJ D ad A s.heap H locs T11 := by rw [eT11]; exact G
  clear eT11
  refine lv_aload_n hx hb dX1_open_19 rfl (lv_at hl 0 rfl) ?_
  obtain ⟨g12, h⟩ := oif_some h
  obtain ⟨n13, en13, h⟩ := obind_some h
  refine c_get E G o 5 (v := .ref (ad n13)) (oO_k g12).1 (cc_o1 (oO_k g12).2) rfl (fun w h => .tail _ (iA_15 h)) (by decide) (.tail _ qA_158) rfl (by rw [en13]; rfl) dX1_open_20 ?_
  clear en13
  refine lv_iconst (v := 3) hx hb dX1_open_23 (by decide) ?_
  refine lv_iload_n hx hb dX1_open_24 rfl (lv_at hl 2 rfl) ?_
  refine lv_iconst (v := 1) hx hb dX1_open_25 (by decide) ?_
  refine lv_isub hx hb dX1_open_26 ?_
  refine lv_topi (fun v14 ev14 => ?_)
  have h := elet_at ev14 h
  clear ev14
  obtain ⟨g15, h⟩ := oif_some h
  obtain ⟨g16, h⟩ := oif_some h
  refine c_iast E G n13 0 (k := (3 : Int32).toNatClampNeg) (v := v14) (aA_k g15).1 (cc_a100 (aA_k g15).2.1) rfl (inb_k g16).1 (inb_k g16).2 (aA_k g15).2.2 dX1_open_27 (fun H locs G => ?_)
  have G := gC_up_i (f := upd (T11.2.2.1 n13) (3 : Int32).toNatClampNeg v14) (ccv_100 (aA_k g15).2.1) G
  obtain ⟨T17, eT17, h⟩ := elet_some h
  have G : gC cI cJ cZ cMic cSrc cSt cAI cAJ D ad A s.heap H locs T17 := by rw [eT17]; exact G
  clear eT17
  exact W.vret hx hb hr (fun t ht hW => ⟨⟨T17, rfl, osome1 h, ⟨by rw [ht]; exact G.1, va_K.moved hW.alike hK, G.2.1⟩⟩, G.2.2.F ht⟩) G.2.2.2.2 dX1_open_28
set_option maxHeartbeats 4000000 in
set_option maxRecDepth 100000 in
theorem s_X1_open {T : AT} {o : Nat} {a0 : Int32} {a1 : Int32} {T1 : AT} (h : g_X1_open T o a0 a1 = some T1) : SP T T1 := by
  have p0 := SP.rf T
  unfold g_X1_open at h
  obtain ⟨g2, h⟩ := oif_some h
  obtain ⟨T3, eT3, h⟩ := elet_some h
  have p1 : SP T T3 := SP.tr p0 (by rw [eT3]; exact sp_uI)
  obtain ⟨g4, h⟩ := oif_some h
  obtain ⟨T5, eT5, h⟩ := elet_some h
  have p2 : SP T T5 := SP.tr p1 (by rw [eT5]; exact sp_uI)
  obtain ⟨g6, h⟩ := oif_some h
  obtain ⟨n7, en7, h⟩ := obind_some h
  obtain ⟨v8, -, h⟩ := elet_some h
  obtain ⟨g9, h⟩ := oif_some h
  obtain ⟨g10, h⟩ := oif_some h
  obtain ⟨T11, eT11, h⟩ := elet_some h
  have p3 : SP T T11 := SP.tr p2 (by rw [eT11]; exact sp_uI)
  obtain ⟨g12, h⟩ := oif_some h
  obtain ⟨n13, en13, h⟩ := obind_some h
  obtain ⟨v14, -, h⟩ := elet_some h
  obtain ⟨g15, h⟩ := oif_some h
  obtain ⟨g16, h⟩ := oif_some h
  obtain ⟨T17, eT17, h⟩ := elet_some h
  have p4 : SP T T17 := SP.tr p3 (by rw [eT17]; exact sp_uI)
  rw [← osome1 h]
  exact p4
def g_X1_centreX (T : AT) (o : Nat) (a0 : Int32) : Option (Int32 × AT) := oif (oO T o 1 = true) <| elet (T.2.2.1 o 0) fun v3 => oif (oO T o 1 = true) <| elet (T.2.2.1 o 2) fun v5 => oif (oO T o 1 = true) <| obind2 (g_X1_columnOf T o a0) fun r9 T7 => elet (v5 * r9) fun v11 => elet (v3 + v11) fun v12 => some (v12, T7)
set_option maxHeartbeats 4000000 in
set_option maxRecDepth 100000 in
theorem u_X1_centreX (l : Launch) (hst : l.stackTraces = false) (D : va_G) (cI cJ cZ cMic cSrc cSt cAI cAJ : ClassId) (ad : Nat → Nat) (T : AT) (o : Nat) (a0 : Int32) {r1 : Int32} {T1 : AT} (h : g_X1_centreX T o a0 = some (r1, T1)) : kCi l yX1_centreX (Cond.code yX1_centreX cX1_centreX 2 (some .int) :: wsA) 3 42 cI cJ cZ cMic cSrc cSt cAI cAJ D ad T [.ref (ad o), .int a0] (fun r T9 => r = r1 ∧ T9 = T1) := by
  intro sz
  refine pro_in (cc := cX1_centreX) (maxL := 2) (ret := (some .int)) (by exact pn_RX1) rfl (by exact Nat.le_of_ble_eq_true rfl) (fun p e s m below meth c ls hx hb hr hts hown hlocks hml hv hl => ?_)
  obtain ⟨hsz, hP, hK, hD0, hX, hN⟩ := hv
  subst hsz
  have hD := hD0.self (sz := s.heap.size)
  generalize hAe : va_A (cW ad T.1 (cc cI cJ cZ cMic cSrc cSt cAI cAJ ad T)) s.heap.size = A at hD hX ⊢
  have hA : ∀ q : Nat, s.heap.size ≤ q → A q := fun q h => by rw [← hAe]; exact Or.inr h
  have G : gC cI cJ cZ cMic cSrc cSt cAI cAJ D ad A s.heap s.heap [] T := ⟨hP, hD, va_S.rf⟩
  have E : cE p c cX1_centreX s m ([.ref (ad o), .int a0] : List Value).toArray (Cond.code yX1_centreX cX1_centreX 2 (some .int) :: wsA) D RX1 (CT cI cJ cZ cMic cSrc cSt cAI cAJ) := ⟨hx, hb, hts, hown, hK⟩
  have hl : lv_has ls 2 [(0, .ref (ad o)), (1, .int a0)] := hl
  unfold g_X1_centreX at h
  refine lv_aload_n hx hb dX1_centreX_0 rfl (lv_at hl 0 rfl) ?_
  obtain ⟨g2, h⟩ := oif_some h
  refine c_get E G o 0 (oO_k g2).1 (cc_o1 (oO_k g2).2) rfl (fun w h => .tail _ (iA_15 h)) (by decide) (.tail _ qA_165) rfl rfl dX1_centreX_1 ?_
  refine lv_topi (fun v3 ev3 => ?_)
  have h := elet_at ev3 h
  clear ev3
  refine lv_aload_n hx hb dX1_centreX_4 rfl (lv_at hl 0 rfl) ?_
  obtain ⟨g4, h⟩ := oif_some h
  refine c_get E G o 2 (oO_k g4).1 (cc_o1 (oO_k g4).2) rfl (fun w h => .tail _ (iA_15 h)) (by decide) (.tail _ qA_166) rfl rfl dX1_centreX_5 ?_
  refine lv_topi (fun v5 ev5 => ?_)
  have h := elet_at ev5 h
  clear ev5
  refine lv_aload_n hx hb dX1_centreX_8 rfl (lv_at hl 0 rfl) ?_
  refine lv_iload_n hx hb dX1_centreX_9 rfl (lv_at hl 1 rfl) ?_
  obtain ⟨g6, h⟩ := oif_some h
  obtain ⟨r9, T7, eT7, h⟩ := obind2_some h
  refine q_cvi (As := [.int a0]) (rest := [.int v5, .int v3]) E G hA hX hN hml (u_X1_columnOf l hst D cI cJ cZ cMic cSrc cSt cAI cAJ ad T o a0 eT7) (cwV 1 hts (gaV qA_140 qA_141 qA_142 qA_37 qA_143) rfl rfl rfl (by decide +kernel) ⟨Nat.le_of_ble_eq_true rfl, Nat.le_of_ble_eq_true rfl⟩) (oO_k g6).1 (cc_o1 (oO_k g6).2) rfl rfl hl.1 rfl (lv_room (Nat.le_of_ble_eq_true rfl)) dX1_centreX_10 ⟨Nat.zero_le _, Nat.zero_le _⟩ (fun q10 T8 H locs hq G => ?_)
  obtain ⟨hq1, hq2⟩ := hq
  rw [hq2] at G
  refine lv_to hq1 ?_
  clear hq1 hq2 eT7
  refine lv_imul hx hb dX1_centreX_13 ?_
  refine lv_topi (fun v11 ev11 => ?_)
  have h := elet_at ev11 h
  clear ev11
  refine lv_iadd hx hb dX1_centreX_14 ?_
  refine lv_topi (fun v12 ev12 => ?_)
  have h := elet_at ev12 h
  clear ev12
  exact W.iret (v := v12) hx hb hr (fun t ht hW => ⟨⟨v12, T7, rfl, osome2 h, ⟨by rw [ht]; exact G.1, va_K.moved hW.alike hK, G.2.1⟩⟩, G.2.2.F ht⟩) G.2.2.2.2 dX1_centreX_15
set_option maxHeartbeats 4000000 in
set_option maxRecDepth 100000 in
theorem s_X1_centreX {T : AT} {o : Nat} {a0 : Int32} {r1 : Int32} {T1 : AT} (h : g_X1_centreX T o a0 = some (r1, T1)) : SP T T1 := by
  have p0 := SP.rf T
  unfold g_X1_centreX at h
  obtain ⟨g2, h⟩ := oif_some h
  obtain ⟨v3, -, h⟩ := elet_some h
  obtain ⟨g4, h⟩ := oif_some h
  obtain ⟨v5, -, h⟩ := elet_some h
  obtain ⟨g6, h⟩ := oif_some h
  obtain ⟨r8, T7, eT7, h⟩ := obind2_some h
  have p1 : SP T T7 := SP.tr p0 (s_X1_columnOf eT7)
  obtain ⟨v9, -, h⟩ := elet_some h
  obtain ⟨v10, -, h⟩ := elet_some h
  rw [← (osome2 h).2]
  exact p1
def g_X1_centreY (T : AT) (o : Nat) (a0 : Int32) : Option (Int32 × AT) := oif (oO T o 1 = true) <| elet (T.2.2.1 o 1) fun v3 => oif (oO T o 1 = true) <| elet (T.2.2.1 o 2) fun v5 => oif (oO T o 1 = true) <| obind2 (g_X1_rowOf T o a0) fun r9 T7 => elet (v5 * r9) fun v11 => elet (v3 + v11) fun v12 => some (v12, T7)
set_option maxHeartbeats 4000000 in
set_option maxRecDepth 100000 in
theorem u_X1_centreY (l : Launch) (hst : l.stackTraces = false) (D : va_G) (cI cJ cZ cMic cSrc cSt cAI cAJ : ClassId) (ad : Nat → Nat) (T : AT) (o : Nat) (a0 : Int32) {r1 : Int32} {T1 : AT} (h : g_X1_centreY T o a0 = some (r1, T1)) : kCi l yX1_centreY (Cond.code yX1_centreY cX1_centreY 2 (some .int) :: wsA) 3 44 cI cJ cZ cMic cSrc cSt cAI cAJ D ad T [.ref (ad o), .int a0] (fun r T9 => r = r1 ∧ T9 = T1) := by
  intro sz
  refine pro_in (cc := cX1_centreY) (maxL := 2) (ret := (some .int)) (by exact pn_RX1) rfl (by exact Nat.le_of_ble_eq_true rfl) (fun p e s m below meth c ls hx hb hr hts hown hlocks hml hv hl => ?_)
  obtain ⟨hsz, hP, hK, hD0, hX, hN⟩ := hv
  subst hsz
  have hD := hD0.self (sz := s.heap.size)
  generalize hAe : va_A (cW ad T.1 (cc cI cJ cZ cMic cSrc cSt cAI cAJ ad T)) s.heap.size = A at hD hX ⊢
  have hA : ∀ q : Nat, s.heap.size ≤ q → A q := fun q h => by rw [← hAe]; exact Or.inr h
  have G : gC cI cJ cZ cMic cSrc cSt cAI cAJ D ad A s.heap s.heap [] T := ⟨hP, hD, va_S.rf⟩
  have E : cE p c cX1_centreY s m ([.ref (ad o), .int a0] : List Value).toArray (Cond.code yX1_centreY cX1_centreY 2 (some .int) :: wsA) D RX1 (CT cI cJ cZ cMic cSrc cSt cAI cAJ) := ⟨hx, hb, hts, hown, hK⟩
  have hl : lv_has ls 2 [(0, .ref (ad o)), (1, .int a0)] := hl
  unfold g_X1_centreY at h
  refine lv_aload_n hx hb dX1_centreY_0 rfl (lv_at hl 0 rfl) ?_
  obtain ⟨g2, h⟩ := oif_some h
  refine c_get E G o 1 (oO_k g2).1 (cc_o1 (oO_k g2).2) rfl (fun w h => .tail _ (iA_15 h)) (by decide) (.tail _ qA_168) rfl rfl dX1_centreY_1 ?_
  refine lv_topi (fun v3 ev3 => ?_)
  have h := elet_at ev3 h
  clear ev3
  refine lv_aload_n hx hb dX1_centreY_4 rfl (lv_at hl 0 rfl) ?_
  obtain ⟨g4, h⟩ := oif_some h
  refine c_get E G o 2 (oO_k g4).1 (cc_o1 (oO_k g4).2) rfl (fun w h => .tail _ (iA_15 h)) (by decide) (.tail _ qA_166) rfl rfl dX1_centreY_5 ?_
  refine lv_topi (fun v5 ev5 => ?_)
  have h := elet_at ev5 h
  clear ev5
  refine lv_aload_n hx hb dX1_centreY_8 rfl (lv_at hl 0 rfl) ?_
  refine lv_iload_n hx hb dX1_centreY_9 rfl (lv_at hl 1 rfl) ?_
  obtain ⟨g6, h⟩ := oif_some h
  obtain ⟨r9, T7, eT7, h⟩ := obind2_some h
  refine q_cvi (As := [.int a0]) (rest := [.int v5, .int v3]) E G hA hX hN hml (u_X1_rowOf l hst D cI cJ cZ cMic cSrc cSt cAI cAJ ad T o a0 eT7) (cwV 1 hts (gaV qA_146 qA_147 qA_148 qA_37 qA_149) rfl rfl rfl (by decide +kernel) ⟨Nat.le_of_ble_eq_true rfl, Nat.le_of_ble_eq_true rfl⟩) (oO_k g6).1 (cc_o1 (oO_k g6).2) rfl rfl hl.1 rfl (lv_room (Nat.le_of_ble_eq_true rfl)) dX1_centreY_10 ⟨Nat.zero_le _, Nat.zero_le _⟩ (fun q10 T8 H locs hq G => ?_)
  obtain ⟨hq1, hq2⟩ := hq
  rw [hq2] at G
  refine lv_to hq1 ?_
  clear hq1 hq2 eT7
  refine lv_imul hx hb dX1_centreY_13 ?_
  refine lv_topi (fun v11 ev11 => ?_)
  have h := elet_at ev11 h
  clear ev11
  refine lv_iadd hx hb dX1_centreY_14 ?_
  refine lv_topi (fun v12 ev12 => ?_)
  have h := elet_at ev12 h
  clear ev12
  exact W.iret (v := v12) hx hb hr (fun t ht hW => ⟨⟨v12, T7, rfl, osome2 h, ⟨by rw [ht]; exact G.1, va_K.moved hW.alike hK, G.2.1⟩⟩, G.2.2.F ht⟩) G.2.2.2.2 dX1_centreY_15
set_option maxHeartbeats 4000000 in
set_option maxRecDepth 100000 in
theorem s_X1_centreY {T : AT} {o : Nat} {a0 : Int32} {r1 : Int32} {T1 : AT} (h : g_X1_centreY T o a0 = some (r1, T1)) : SP T T1 := by
  have p0 := SP.rf T
  unfold g_X1_centreY at h
  obtain ⟨g2, h⟩ := oif_some h
  obtain ⟨v3, -, h⟩ := elet_some h
  obtain ⟨g4, h⟩ := oif_some h
  obtain ⟨v5, -, h⟩ := elet_some h
  obtain ⟨g6, h⟩ := oif_some h
  obtain ⟨r8, T7, eT7, h⟩ := obind2_some h
  have p1 : SP T T7 := SP.tr p0 (s_X1_rowOf eT7)
  obtain ⟨v9, -, h⟩ := elet_some h
  obtain ⟨v10, -, h⟩ := elet_some h
  rw [← (osome2 h).2]
  exact p1
def g_X9_runEnd_b32  (T : AT) (l5 : Int32) : Option (Int32 × AT) := some (l5, T)
set_option maxHeartbeats 4000000 in
set_option maxRecDepth 100000 in
theorem u_X9_runEnd_b32 {p : Program} {l : Launch} {e : Env} {s : State} {m : MethodId} {args : Array Value} {below : List Frame} {meth : Method} {c : Code} {Q : State → Prop} {D : va_G} {A : Nat → Prop} {cI cJ cZ cMic cSrc cSt cAI cAJ : ClassId} {ad : Nat → Nat} {r1 : Int32} {T1 : AT} (E : cE p c cX9_runEnd s m args (Cond.code yX9_runEnd cX9_runEnd 6 (some .int) :: wsA) D RX9 (CT cI cJ cZ cMic cSrc cSt cAI cAJ)) (hA : ∀ q : Nat, s.heap.size ≤ q → A q) (hX : xT A s) (hN : nX s) (hml : c.maxLocals = 6) (hst : l.stackTraces = false) (kr34 : ∀ (H : Heap) (locs : List Loc) (ls : Array Slot), gC cI cJ cZ cMic cSrc cSt cAI cAJ D ad A s.heap H locs T1 → W p l e { frames := 1, cells := 0, slots := 0, locals := 0 } s m args below meth c H locs 0 0 Q (F0 m 34 ls [.int r1])) (kr42 : ∀ (H : Heap) (locs : List Loc) (ls : Array Slot), gC cI cJ cZ cMic cSrc cSt cAI cAJ D ad A s.heap H locs T1 → W p l e { frames := 1, cells := 0, slots := 0, locals := 0 } s m args below meth c H locs 0 0 Q (F0 m 42 ls [.int r1])) : ∀ (T : AT) (H : Heap) (locs : List Loc) (ls : Array Slot) (l5 : Int32), g_X9_runEnd_b32 T l5 = some (r1, T1) → gC cI cJ cZ cMic cSrc cSt cAI cAJ D ad A s.heap H locs T → lv_has ls 6 [(5, .int l5)] → W p l e { frames := 1, cells := 0, slots := 0, locals := 0 } s m args below meth c H locs 0 0 Q (F0 m 32 ls []) := by
  have hx := E.1
  have hb := E.2.1
  have hts := E.2.2.1
  have hown := E.2.2.2.1
  have hK := E.2.2.2.2
  intro T H locs ls l5 h G hl
  unfold g_X9_runEnd_b32 at h
  refine lv_iload hx hb dX9_runEnd_32 (lv_at hl 0 rfl) ?_
  rw [(osome2 h).2] at G
  refine lv_to (osome2 h).1 ?_
  exact kr34 _ _ _ G
def g_X9_runEnd_b3  : Nat → AT → Nat → Int32 → Int32 → Int32 → Int32 → Option (Int32 × AT)
  | 0, _, _, _, _, _, _ => none
  | n + 1, T, l0, l1, l3, l4, l5 => if l1 ≤ l5 then (some (l1, T)) else (oif (oO T l0 9 = true) <| obind (T.2.2.2.2 l0 0) fun n4 => oif (aA T n4 100 = true) <| oif (inb l5 (T.2.1 n4).2 = true) <| elet (T.2.2.1 n4 l5.toNatClampNeg) fun v7 => if v7 < l3 then (g_X9_runEnd_b32 T l5) else (oif (oO T l0 9 = true) <| obind (T.2.2.2.2 l0 0) fun n10 => oif (aA T n10 100 = true) <| oif (inb l5 (T.2.1 n10).2 = true) <| elet (T.2.2.1 n10 l5.toNatClampNeg) fun v13 => if v13 ≤ l4 then (elet (l5 + Int32.ofInt (1)) fun v15 => g_X9_runEnd_b3 n T l0 l1 l3 l4 v15) else (g_X9_runEnd_b32 T l5)))
set_option maxHeartbeats 4000000 in
set_option maxRecDepth 100000 in
theorem u_X9_runEnd_b3 {p : Program} {l : Launch} {e : Env} {s : State} {m : MethodId} {args : Array Value} {below : List Frame} {meth : Method} {c : Code} {Q : State → Prop} {D : va_G} {A : Nat → Prop} {cI cJ cZ cMic cSrc cSt cAI cAJ : ClassId} {ad : Nat → Nat} {r1 : Int32} {T1 : AT} (E : cE p c cX9_runEnd s m args (Cond.code yX9_runEnd cX9_runEnd 6 (some .int) :: wsA) D RX9 (CT cI cJ cZ cMic cSrc cSt cAI cAJ)) (hA : ∀ q : Nat, s.heap.size ≤ q → A q) (hX : xT A s) (hN : nX s) (hml : c.maxLocals = 6) (hst : l.stackTraces = false) (kr34 : ∀ (H : Heap) (locs : List Loc) (ls : Array Slot), gC cI cJ cZ cMic cSrc cSt cAI cAJ D ad A s.heap H locs T1 → W p l e { frames := 1, cells := 0, slots := 0, locals := 0 } s m args below meth c H locs 0 0 Q (F0 m 34 ls [.int r1])) (kr42 : ∀ (H : Heap) (locs : List Loc) (ls : Array Slot), gC cI cJ cZ cMic cSrc cSt cAI cAJ D ad A s.heap H locs T1 → W p l e { frames := 1, cells := 0, slots := 0, locals := 0 } s m args below meth c H locs 0 0 Q (F0 m 42 ls [.int r1])) : ∀ n : Nat, ∀ (T : AT) (H : Heap) (locs : List Loc) (ls : Array Slot) (l0 : Nat) (l1 : Int32) (l3 : Int32) (l4 : Int32) (l5 : Int32), g_X9_runEnd_b3 n T l0 l1 l3 l4 l5 = some (r1, T1) → gC cI cJ cZ cMic cSrc cSt cAI cAJ D ad A s.heap H locs T → lv_has ls 6 [(0, .ref (ad l0)), (1, .int l1), (3, .int l3), (4, .int l4), (5, .int l5)] → W p l e { frames := 1, cells := 0, slots := 0, locals := 0 } s m args below meth c H locs 0 0 Q (F0 m 3 ls []) := by
  have hx := E.1
  have hb := E.2.1
  have hts := E.2.2.1
  have hown := E.2.2.2.1
  have hK := E.2.2.2.2
  intro n
  induction n with
  | zero =>
    intro T H locs ls l0 l1 l3 l4 l5 h
    have h : (none : Option (Int32 × AT)) = some (r1, T1) := h
    cases h
  | succ n ih =>
    intro T H locs ls l0 l1 l3 l4 l5 h G hl
    unfold g_X9_runEnd_b3 at h
    refine lv_iload hx hb dX9_runEnd_3 (lv_at hl 4 rfl) ?_
    refine lv_iload_n hx hb dX9_runEnd_5 rfl (lv_at hl 1 rfl) ?_
    refine lv_icmp_ge (tgt := 41) hx hb dX9_runEnd_6 (by decide) (fun c2 => ?_) (fun c2 => ?_)
    · have h := oif_pos c2 h
      refine lv_iload_n hx hb dX9_runEnd_41 rfl (lv_at hl 1 rfl) ?_
      rw [(osome2 h).2] at G
      refine lv_to (osome2 h).1 ?_
      exact kr42 _ _ _ G
    · have h := oif_neg c2 h
      refine lv_aload_n hx hb dX9_runEnd_9 rfl (lv_at hl 0 rfl) ?_
      obtain ⟨g3, h⟩ := oif_some h
      obtain ⟨n4, en4, h⟩ := obind_some h
      refine c_get E G l0 0 (v := .ref (ad n4)) (oO_k g3).1 (cc_o9 (oO_k g3).2) rfl (fun w h => .tail _ (iA_18 h)) (by decide) (.tail _ qA_192) rfl (by rw [en4]; rfl) dX9_runEnd_10 ?_
      clear en4
      refine lv_iload hx hb dX9_runEnd_13 (lv_at hl 4 rfl) ?_
      obtain ⟨g5, h⟩ := oif_some h
      obtain ⟨g6, h⟩ := oif_some h
      refine c_iald E G n4 0 (k := l5.toNatClampNeg) (aA_k g5).1 (cc_a100 (aA_k g5).2.1) rfl (inb_k g6).1 (inb_k g6).2 (aA_k g5).2.2 dX9_runEnd_15 ?_
      refine lv_topi (fun v7 ev7 => ?_)
      have h := elet_at ev7 h
      clear ev7
      refine lv_iload_n hx hb dX9_runEnd_16 rfl (lv_at hl 2 rfl) ?_
      refine lv_icmp_lt (tgt := 32) hx hb dX9_runEnd_17 (by decide) (fun c8 => ?_) (fun c8 => ?_)
      · have h := oif_pos c8 h
        have hl := lv_sub hl [4] rfl
        exact u_X9_runEnd_b32 E hA hX hN hml hst kr34 kr42 _ _ _ _ _ h G hl
      · have h := oif_neg c8 h
        refine lv_aload_n hx hb dX9_runEnd_20 rfl (lv_at hl 0 rfl) ?_
        obtain ⟨g9, h⟩ := oif_some h
        obtain ⟨n10, en10, h⟩ := obind_some h
        refine c_get E G l0 0 (v := .ref (ad n10)) (oO_k g9).1 (cc_o9 (oO_k g9).2) rfl (fun w h => .tail _ (iA_18 h)) (by decide) (.tail _ qA_192) rfl (by rw [en10]; rfl) dX9_runEnd_21 ?_
        clear en10
        refine lv_iload hx hb dX9_runEnd_24 (lv_at hl 4 rfl) ?_
        obtain ⟨g11, h⟩ := oif_some h
        obtain ⟨g12, h⟩ := oif_some h
        refine c_iald E G n10 0 (k := l5.toNatClampNeg) (aA_k g11).1 (cc_a100 (aA_k g11).2.1) rfl (inb_k g12).1 (inb_k g12).2 (aA_k g11).2.2 dX9_runEnd_26 ?_
        refine lv_topi (fun v13 ev13 => ?_)
        have h := elet_at ev13 h
        clear ev13
        refine lv_iload hx hb dX9_runEnd_27 (lv_at hl 3 rfl) ?_
        refine lv_icmp_le (tgt := 35) hx hb dX9_runEnd_29 (by decide) (fun c14 => ?_) (fun c14 => ?_)
        · have h := oif_pos c14 h
          obtain ⟨v15, ev15, h⟩ := elet_some h
          refine lv_iinc (v := v15) (lv' := [(5, .int v15), (0, .ref (ad l0)), (1, .int l1), (3, .int l3), (4, .int l4)]) hx hb dX9_runEnd_35 hl (k := 4) rfl ev15.symm (by decide) rfl (fun ls hl => ?_)
          refine lv_goto (tgt := 3) hx hb dX9_runEnd_38 (by decide) ?_
          have hl := lv_sub hl [1, 2, 3, 4, 0] rfl
          exact ih _ _ _ _ _ _ _ _ _ h G hl
        · have h := oif_neg c14 h
          have hl := lv_sub hl [4] rfl
          exact u_X9_runEnd_b32 E hA hX hN hml hst kr34 kr42 _ _ _ _ _ h G hl
def g_X9_runEnd (T : AT) (o : Nat) (a0 : Int32) (a1 : Int32) (a2 : Int32) (a3 : Int32) : Option (Int32 × AT) := g_X9_runEnd_b3 16384 T o a0 a2 a3 a1
set_option maxHeartbeats 4000000 in
set_option maxRecDepth 100000 in
theorem u_X9_runEnd (l : Launch) (hst : l.stackTraces = false) (D : va_G) (cI cJ cZ cMic cSrc cSt cAI cAJ : ClassId) (ad : Nat → Nat) (T : AT) (o : Nat) (a0 : Int32) (a1 : Int32) (a2 : Int32) (a3 : Int32) {r1 : Int32} {T1 : AT} (h : g_X9_runEnd T o a0 a1 a2 a3 = some (r1, T1)) : kCi l yX9_runEnd (Cond.code yX9_runEnd cX9_runEnd 6 (some .int) :: wsA) 1 0 cI cJ cZ cMic cSrc cSt cAI cAJ D ad T [.ref (ad o), .int a0, .int a1, .int a2, .int a3] (fun r T9 => r = r1 ∧ T9 = T1) := by
  intro sz
  refine pro_in (cc := cX9_runEnd) (maxL := 6) (ret := (some .int)) (by exact pn_RX9) rfl (by exact Nat.le_of_ble_eq_true rfl) (fun p e s m below meth c ls hx hb hr hts hown hlocks hml hv hl => ?_)
  obtain ⟨hsz, hP, hK, hD0, hX, hN⟩ := hv
  subst hsz
  have hD := hD0.self (sz := s.heap.size)
  generalize hAe : va_A (cW ad T.1 (cc cI cJ cZ cMic cSrc cSt cAI cAJ ad T)) s.heap.size = A at hD hX ⊢
  have hA : ∀ q : Nat, s.heap.size ≤ q → A q := fun q h => by rw [← hAe]; exact Or.inr h
  have G : gC cI cJ cZ cMic cSrc cSt cAI cAJ D ad A s.heap s.heap [] T := ⟨hP, hD, va_S.rf⟩
  have E : cE p c cX9_runEnd s m ([.ref (ad o), .int a0, .int a1, .int a2, .int a3] : List Value).toArray (Cond.code yX9_runEnd cX9_runEnd 6 (some .int) :: wsA) D RX9 (CT cI cJ cZ cMic cSrc cSt cAI cAJ) := ⟨hx, hb, hts, hown, hK⟩
  have hl : lv_has ls 6 [(0, .ref (ad o)), (1, .int a0), (2, .int a1), (3, .int a2), (4, .int a3)] := hl
  unfold g_X9_runEnd at h
  refine lv_iload_n hx hb dX9_runEnd_0 rfl (lv_at hl 2 rfl) ?_
  refine lv_istore (lv' := [(5, .int a1), (0, .ref (ad o)), (1, .int a0), (2, .int a1), (3, .int a2), (4, .int a3)]) hx hb dX9_runEnd_1 hl (by decide) rfl (fun ls hl => ?_)
  have hl := lv_sub hl [1, 2, 4, 5, 0] rfl
  exact u_X9_runEnd_b3 E hA hX hN hml hst (fun H locs ls G => W.iret (v := r1) hx hb hr (fun t ht hW => ⟨⟨r1, T1, rfl, ⟨rfl, rfl⟩, ⟨by rw [ht]; exact G.1, va_K.moved hW.alike hK, G.2.1⟩⟩, G.2.2.F ht⟩) G.2.2.2.2 dX9_runEnd_34) (fun H locs ls G => W.iret (v := r1) hx hb hr (fun t ht hW => ⟨⟨r1, T1, rfl, ⟨rfl, rfl⟩, ⟨by rw [ht]; exact G.1, va_K.moved hW.alike hK, G.2.1⟩⟩, G.2.2.F ht⟩) G.2.2.2.2 dX9_runEnd_42) _ _ _ _ _ _ _ _ _ _ h G hl
set_option maxHeartbeats 4000000 in
set_option maxRecDepth 100000 in
theorem s_X9_runEnd_b32 {r1 : Int32} {T1 : AT} : ∀ (T : AT) (l5 : Int32), g_X9_runEnd_b32 T l5 = some (r1, T1) → SP T T1 := by
  intro T l5 h
  have p0 := SP.rf T
  unfold g_X9_runEnd_b32 at h
  rw [← (osome2 h).2]
  exact p0
set_option maxHeartbeats 4000000 in
set_option maxRecDepth 100000 in
theorem s_X9_runEnd_b3 {r1 : Int32} {T1 : AT} : ∀ n : Nat, ∀ (T : AT) (l0 : Nat) (l1 : Int32) (l3 : Int32) (l4 : Int32) (l5 : Int32), g_X9_runEnd_b3 n T l0 l1 l3 l4 l5 = some (r1, T1) → SP T T1 := by
  intro n
  induction n with
  | zero =>
    intro T l0 l1 l3 l4 l5 h
    have h : (none : Option (Int32 × AT)) = some (r1, T1) := h
    cases h
  | succ n ih =>
    intro T l0 l1 l3 l4 l5 h
    have p0 := SP.rf T
    unfold g_X9_runEnd_b3 at h
    rcases oif_or h with ⟨c2, h⟩ | ⟨c2, h⟩
    · have h := h
      rw [← (osome2 h).2]
      exact p0
    · have h := h
      obtain ⟨g3, h⟩ := oif_some h
      obtain ⟨n4, en4, h⟩ := obind_some h
      obtain ⟨g5, h⟩ := oif_some h
      obtain ⟨g6, h⟩ := oif_some h
      obtain ⟨v7, -, h⟩ := elet_some h
      rcases oif_or h with ⟨c8, h⟩ | ⟨c8, h⟩
      · have h := h
        exact SP.tr p0 (s_X9_runEnd_b32 _ _ h)
      · have h := h
        obtain ⟨g9, h⟩ := oif_some h
        obtain ⟨n10, en10, h⟩ := obind_some h
        obtain ⟨g11, h⟩ := oif_some h
        obtain ⟨g12, h⟩ := oif_some h
        obtain ⟨v13, -, h⟩ := elet_some h
        rcases oif_or h with ⟨c14, h⟩ | ⟨c14, h⟩
        · have h := h
          obtain ⟨v15, ev15, h⟩ := elet_some h
          exact SP.tr p0 (ih _ _ _ _ _ _ h)
        · have h := h
          exact SP.tr p0 (s_X9_runEnd_b32 _ _ h)
set_option maxHeartbeats 4000000 in
set_option maxRecDepth 100000 in
theorem s_X9_runEnd {T : AT} {o : Nat} {a0 : Int32} {a1 : Int32} {a2 : Int32} {a3 : Int32} {r1 : Int32} {T1 : AT} (h : g_X9_runEnd T o a0 a1 a2 a3 = some (r1, T1)) : SP T T1 := by
  have p0 := SP.rf T
  unfold g_X9_runEnd at h
  exact SP.tr p0 (s_X9_runEnd_b3 _ _ _ _ _ _ _ h)
def g_X9_add_b52  (T : AT)  : Option (AT) := some T
set_option maxHeartbeats 4000000 in
set_option maxRecDepth 100000 in
theorem u_X9_add_b52 {p : Program} {l : Launch} {e : Env} {s : State} {m : MethodId} {args : Array Value} {below : List Frame} {meth : Method} {c : Code} {Q : State → Prop} {D : va_G} {A : Nat → Prop} {cI cJ cZ cMic cSrc cSt cAI cAJ : ClassId} {ad : Nat → Nat} {T1 : AT} (E : cE p c cX9_add s m args (Cond.code yX9_add cX9_add 4 none :: wsA) D RX9 (CT cI cJ cZ cMic cSrc cSt cAI cAJ)) (hA : ∀ q : Nat, s.heap.size ≤ q → A q) (hX : xT A s) (hN : nX s) (hml : c.maxLocals = 4) (hst : l.stackTraces = false) (kr52 : ∀ (H : Heap) (locs : List Loc) (ls : Array Slot), gC cI cJ cZ cMic cSrc cSt cAI cAJ D ad A s.heap H locs T1 → W p l e { frames := 1, cells := 0, slots := 0, locals := 0 } s m args below meth c H locs 0 0 Q (F0 m 52 ls [])) : ∀ (T : AT) (H : Heap) (locs : List Loc) (ls : Array Slot), g_X9_add_b52 T = some T1 → gC cI cJ cZ cMic cSrc cSt cAI cAJ D ad A s.heap H locs T → lv_has ls 4 [] → W p l e { frames := 1, cells := 0, slots := 0, locals := 0 } s m args below meth c H locs 0 0 Q (F0 m 52 ls []) := by
  have hx := E.1
  have hb := E.2.1
  have hts := E.2.2.1
  have hown := E.2.2.2.1
  have hK := E.2.2.2.2
  intro T H locs ls h G hl
  unfold g_X9_add_b52 at h
  rw [osome1 h] at G
  exact kr52 _ _ _ G
def g_X9_add (T : AT) (o : Nat) (a0 : Int32) (a1 : Int32) (a2 : Int32) : Option (AT) := oif (oO T o 9 = true) <| elet (T.2.2.1 o 5) fun v3 => oif (oO T o 9 = true) <| obind (T.2.2.2.2 o 2) fun n5 => oif (aA T n5 100 = true) <| elet (nI (T.2.1 n5).2) fun v7 => if v7 ≤ v3 then (g_X9_add_b52 T) else (oif (oO T o 9 = true) <| obind (T.2.2.2.2 o 2) fun n10 => oif (oO T o 9 = true) <| elet (T.2.2.1 o 5) fun v12 => oif (aA T n10 100 = true) <| oif (inb v12 (T.2.1 n10).2 = true) <| elet (uI T n10 v12.toNatClampNeg a0) fun T15 => oif (oO T15 o 9 = true) <| obind (T15.2.2.2.2 o 3) fun n17 => oif (oO T15 o 9 = true) <| elet (T15.2.2.1 o 5) fun v19 => oif (aA T15 n17 100 = true) <| oif (inb v19 (T15.2.1 n17).2 = true) <| elet (uI T15 n17 v19.toNatClampNeg a1) fun T22 => oif (oO T22 o 9 = true) <| obind (T22.2.2.2.2 o 4) fun n24 => oif (oO T22 o 9 = true) <| elet (T22.2.2.1 o 5) fun v26 => oif (aA T22 n24 100 = true) <| oif (inb v26 (T22.2.1 n24).2 = true) <| elet (uI T22 n24 v26.toNatClampNeg a2) fun T29 => oif (oO T29 o 9 = true) <| elet (T29.2.2.1 o 5) fun v31 => elet (v31 + 1) fun v32 => oif (oO T29 o 9 = true) <| elet (uI T29 o 5 v32) fun T34 => g_X9_add_b52 T34)
set_option maxHeartbeats 4000000 in
set_option maxRecDepth 100000 in
theorem u_X9_add (l : Launch) (hst : l.stackTraces = false) (D : va_G) (cI cJ cZ cMic cSrc cSt cAI cAJ : ClassId) (ad : Nat → Nat) (T : AT) (o : Nat) (a0 : Int32) (a1 : Int32) (a2 : Int32) {T1 : AT} (h : g_X9_add T o a0 a1 a2 = some T1) : kCv l yX9_add (Cond.code yX9_add cX9_add 4 none :: wsA) 1 0 cI cJ cZ cMic cSrc cSt cAI cAJ D ad T [.ref (ad o), .int a0, .int a1, .int a2] (fun T9 => T9 = T1) := by
  intro sz
  refine pro_in (cc := cX9_add) (maxL := 4) (ret := none) (by exact pn_RX9) rfl (by exact Nat.le_of_ble_eq_true rfl) (fun p e s m below meth c ls hx hb hr hts hown hlocks hml hv hl => ?_)
  obtain ⟨hsz, hP, hK, hD0, hX, hN⟩ := hv
  subst hsz
  have hD := hD0.self (sz := s.heap.size)
  generalize hAe : va_A (cW ad T.1 (cc cI cJ cZ cMic cSrc cSt cAI cAJ ad T)) s.heap.size = A at hD hX ⊢
  have hA : ∀ q : Nat, s.heap.size ≤ q → A q := fun q h => by rw [← hAe]; exact Or.inr h
  have G : gC cI cJ cZ cMic cSrc cSt cAI cAJ D ad A s.heap s.heap [] T := ⟨hP, hD, va_S.rf⟩
  have E : cE p c cX9_add s m ([.ref (ad o), .int a0, .int a1, .int a2] : List Value).toArray (Cond.code yX9_add cX9_add 4 none :: wsA) D RX9 (CT cI cJ cZ cMic cSrc cSt cAI cAJ) := ⟨hx, hb, hts, hown, hK⟩
  have hl : lv_has ls 4 [(0, .ref (ad o)), (1, .int a0), (2, .int a1), (3, .int a2)] := hl
  unfold g_X9_add at h
  refine lv_aload_n hx hb dX9_add_0 rfl (lv_at hl 0 rfl) ?_
  obtain ⟨g2, h⟩ := oif_some h
  refine c_get E G o 5 (oO_k g2).1 (cc_o9 (oO_k g2).2) rfl (fun w h => .tail _ (iA_18 h)) (by decide) (.tail _ qA_187) rfl rfl dX9_add_1 ?_
  refine lv_topi (fun v3 ev3 => ?_)
  have h := elet_at ev3 h
  clear ev3
  refine lv_aload_n hx hb dX9_add_4 rfl (lv_at hl 0 rfl) ?_
  obtain ⟨g4, h⟩ := oif_some h
  obtain ⟨n5, en5, h⟩ := obind_some h
  refine c_get E G o 2 (v := .ref (ad n5)) (oO_k g4).1 (cc_o9 (oO_k g4).2) rfl (fun w h => .tail _ (iA_18 h)) (by decide) (.tail _ qA_201) rfl (by rw [en5]; rfl) dX9_add_5 ?_
  clear en5
  obtain ⟨g6, h⟩ := oif_some h
  refine va_alen hx hb hK G.1 n5 0 (cW_e (aA_k g6).1 (cc_a100 (aA_k g6).2.1)) rfl (v := nI (T.2.1 n5).2) rfl dX9_add_8 ?_
  refine lv_topi (fun v7 ev7 => ?_)
  have h := elet_at ev7 h
  clear ev7
  refine lv_icmp_ge (tgt := 52) hx hb dX9_add_9 (by decide) (fun c8 => ?_) (fun c8 => ?_)
  · have h := oif_pos c8 h
    have hl := lv_sub hl [] rfl
    exact u_X9_add_b52 E hA hX hN hml hst (fun H locs ls G => W.vret hx hb hr (fun t ht hW => ⟨⟨T1, rfl, rfl, ⟨by rw [ht]; exact G.1, va_K.moved hW.alike hK, G.2.1⟩⟩, G.2.2.F ht⟩) G.2.2.2.2 dX9_add_52) _ _ _ _ h G hl
  · have h := oif_neg c8 h
    refine lv_aload_n hx hb dX9_add_12 rfl (lv_at hl 0 rfl) ?_
    obtain ⟨g9, h⟩ := oif_some h
    obtain ⟨n10, en10, h⟩ := obind_some h
    refine c_get E G o 2 (v := .ref (ad n10)) (oO_k g9).1 (cc_o9 (oO_k g9).2) rfl (fun w h => .tail _ (iA_18 h)) (by decide) (.tail _ qA_201) rfl (by rw [en10]; rfl) dX9_add_13 ?_
    clear en10
    refine lv_aload_n hx hb dX9_add_16 rfl (lv_at hl 0 rfl) ?_
    obtain ⟨g11, h⟩ := oif_some h
    refine c_get E G o 5 (oO_k g11).1 (cc_o9 (oO_k g11).2) rfl (fun w h => .tail _ (iA_18 h)) (by decide) (.tail _ qA_187) rfl rfl dX9_add_17 ?_
    refine lv_topi (fun v12 ev12 => ?_)
    have h := elet_at ev12 h
    clear ev12
    refine lv_iload_n hx hb dX9_add_20 rfl (lv_at hl 1 rfl) ?_
    obtain ⟨g13, h⟩ := oif_some h
    obtain ⟨g14, h⟩ := oif_some h
    refine c_iast E G n10 0 (k := v12.toNatClampNeg) (v := a0) (aA_k g13).1 (cc_a100 (aA_k g13).2.1) rfl (inb_k g14).1 (inb_k g14).2 (aA_k g13).2.2 dX9_add_21 (fun H locs G => ?_)
    have G := gC_up_i (f := upd (T.2.2.1 n10) v12.toNatClampNeg a0) (ccv_100 (aA_k g13).2.1) G
    obtain ⟨T15, eT15, h⟩ := elet_some h
    have G : gC cI cJ cZ cMic cSrc cSt cAI cAJ D ad A s.heap H locs T15 := by rw [eT15]; exact G
    clear eT15
    refine lv_aload_n hx hb dX9_add_22 rfl (lv_at hl 0 rfl) ?_
    obtain ⟨g16, h⟩ := oif_some h
    obtain ⟨n17, en17, h⟩ := obind_some h
    refine c_get E G o 3 (v := .ref (ad n17)) (oO_k g16).1 (cc_o9 (oO_k g16).2) rfl (fun w h => .tail _ (iA_18 h)) (by decide) (.tail _ qA_202) rfl (by rw [en17]; rfl) dX9_add_23 ?_
    clear en17
    refine lv_aload_n hx hb dX9_add_26 rfl (lv_at hl 0 rfl) ?_
    obtain ⟨g18, h⟩ := oif_some h
    refine c_get E G o 5 (oO_k g18).1 (cc_o9 (oO_k g18).2) rfl (fun w h => .tail _ (iA_18 h)) (by decide) (.tail _ qA_187) rfl rfl dX9_add_27 ?_
    refine lv_topi (fun v19 ev19 => ?_)
    have h := elet_at ev19 h
    clear ev19
    refine lv_iload_n hx hb dX9_add_30 rfl (lv_at hl 2 rfl) ?_
    obtain ⟨g20, h⟩ := oif_some h
    obtain ⟨g21, h⟩ := oif_some h
    refine c_iast E G n17 0 (k := v19.toNatClampNeg) (v := a1) (aA_k g20).1 (cc_a100 (aA_k g20).2.1) rfl (inb_k g21).1 (inb_k g21).2 (aA_k g20).2.2 dX9_add_31 (fun H locs G => ?_)
    have G := gC_up_i (f := upd (T15.2.2.1 n17) v19.toNatClampNeg a1) (ccv_100 (aA_k g20).2.1) G
    obtain ⟨T22, eT22, h⟩ := elet_some h
    have G : gC cI cJ cZ cMic cSrc cSt cAI cAJ D ad A s.heap H locs T22 := by rw [eT22]; exact G
    clear eT22
    refine lv_aload_n hx hb dX9_add_32 rfl (lv_at hl 0 rfl) ?_
    obtain ⟨g23, h⟩ := oif_some h
    obtain ⟨n24, en24, h⟩ := obind_some h
    refine c_get E G o 4 (v := .ref (ad n24)) (oO_k g23).1 (cc_o9 (oO_k g23).2) rfl (fun w h => .tail _ (iA_18 h)) (by decide) (.tail _ qA_203) rfl (by rw [en24]; rfl) dX9_add_33 ?_
    clear en24
    refine lv_aload_n hx hb dX9_add_36 rfl (lv_at hl 0 rfl) ?_
    obtain ⟨g25, h⟩ := oif_some h
    refine c_get E G o 5 (oO_k g25).1 (cc_o9 (oO_k g25).2) rfl (fun w h => .tail _ (iA_18 h)) (by decide) (.tail _ qA_187) rfl rfl dX9_add_37 ?_
    refine lv_topi (fun v26 ev26 => ?_)
    have h := elet_at ev26 h
    clear ev26
    refine lv_iload_n hx hb dX9_add_40 rfl (lv_at hl 3 rfl) ?_
    obtain ⟨g27, h⟩ := oif_some h
    obtain ⟨g28, h⟩ := oif_some h
    refine c_iast E G n24 0 (k := v26.toNatClampNeg) (v := a2) (aA_k g27).1 (cc_a100 (aA_k g27).2.1) rfl (inb_k g28).1 (inb_k g28).2 (aA_k g27).2.2 dX9_add_41 (fun H locs G => ?_)
    have G := gC_up_i (f := upd (T22.2.2.1 n24) v26.toNatClampNeg a2) (ccv_100 (aA_k g27).2.1) G
    obtain ⟨T29, eT29, h⟩ := elet_some h
    have G : gC cI cJ cZ cMic cSrc cSt cAI cAJ D ad A s.heap H locs T29 := by rw [eT29]; exact G
    clear eT29
    refine lv_aload_n hx hb dX9_add_42 rfl (lv_at hl 0 rfl) ?_
    refine lv_dup hx hb dX9_add_43 rfl ?_
    obtain ⟨g30, h⟩ := oif_some h
    refine c_get E G o 5 (oO_k g30).1 (cc_o9 (oO_k g30).2) rfl (fun w h => .tail _ (iA_18 h)) (by decide) (.tail _ qA_187) rfl rfl dX9_add_44 ?_
    refine lv_topi (fun v31 ev31 => ?_)
    have h := elet_at ev31 h
    clear ev31
    refine lv_iconst (v := 1) hx hb dX9_add_47 (by decide) ?_
    refine lv_iadd hx hb dX9_add_48 ?_
    refine lv_topi (fun v32 ev32 => ?_)
    have h := elet_at ev32 h
    clear ev32
    obtain ⟨g33, h⟩ := oif_some h
    refine c_put E G o 5 (v := .int v32) (oO_k g33).1 (cc_o9 (oO_k g33).2) rfl (fun w h => .tail _ (iA_18 h)) tyX9 tyX9_ok nmX9 (by decide) (.tail _ qA_187) ⟨rfl, rfl, rfl⟩ rfl rfl (Nat.le_of_ble_eq_true rfl) dX9_add_49 (fun H locs G => ?_)
    have G := gC_up_i (f := upd (T29.2.2.1 o) 5 v32) (by rw [(oO_k g33).2]; rfl) G
    obtain ⟨T34, eT34, h⟩ := elet_some h
    have G : gC cI cJ cZ cMic cSrc cSt cAI cAJ D ad A s.heap H locs T34 := by rw [eT34]; exact G
    clear eT34
    have hl := lv_sub hl [] rfl
    exact u_X9_add_b52 E hA hX hN hml hst (fun H locs ls G => W.vret hx hb hr (fun t ht hW => ⟨⟨T1, rfl, rfl, ⟨by rw [ht]; exact G.1, va_K.moved hW.alike hK, G.2.1⟩⟩, G.2.2.F ht⟩) G.2.2.2.2 dX9_add_52) _ _ _ _ h G hl
set_option maxHeartbeats 4000000 in
set_option maxRecDepth 100000 in
theorem s_X9_add_b52 {T1 : AT} : ∀ (T : AT), g_X9_add_b52 T = some T1 → SP T T1 := by
  intro T h
  have p0 := SP.rf T
  unfold g_X9_add_b52 at h
  rw [← osome1 h]
  exact p0
set_option maxHeartbeats 4000000 in
set_option maxRecDepth 100000 in
theorem s_X9_add {T : AT} {o : Nat} {a0 : Int32} {a1 : Int32} {a2 : Int32} {T1 : AT} (h : g_X9_add T o a0 a1 a2 = some T1) : SP T T1 := by
  have p0 := SP.rf T
  unfold g_X9_add at h
  obtain ⟨g2, h⟩ := oif_some h
  obtain ⟨v3, -, h⟩ := elet_some h
  obtain ⟨g4, h⟩ := oif_some h
  obtain ⟨n5, en5, h⟩ := obind_some h
  obtain ⟨g6, h⟩ := oif_some h
  obtain ⟨v7, -, h⟩ := elet_some h
  rcases oif_or h with ⟨c8, h⟩ | ⟨c8, h⟩
  · have h := h
    exact SP.tr p0 (s_X9_add_b52 _ h)
  · have h := h
    obtain ⟨g9, h⟩ := oif_some h
    obtain ⟨n10, en10, h⟩ := obind_some h
    obtain ⟨g11, h⟩ := oif_some h
    obtain ⟨v12, -, h⟩ := elet_some h
    obtain ⟨g13, h⟩ := oif_some h
    obtain ⟨g14, h⟩ := oif_some h
    obtain ⟨T15, eT15, h⟩ := elet_some h
    have p1 : SP T T15 := SP.tr p0 (by rw [eT15]; exact sp_uI)
    obtain ⟨g16, h⟩ := oif_some h
    obtain ⟨n17, en17, h⟩ := obind_some h
    obtain ⟨g18, h⟩ := oif_some h
    obtain ⟨v19, -, h⟩ := elet_some h
    obtain ⟨g20, h⟩ := oif_some h
    obtain ⟨g21, h⟩ := oif_some h
    obtain ⟨T22, eT22, h⟩ := elet_some h
    have p2 : SP T T22 := SP.tr p1 (by rw [eT22]; exact sp_uI)
    obtain ⟨g23, h⟩ := oif_some h
    obtain ⟨n24, en24, h⟩ := obind_some h
    obtain ⟨g25, h⟩ := oif_some h
    obtain ⟨v26, -, h⟩ := elet_some h
    obtain ⟨g27, h⟩ := oif_some h
    obtain ⟨g28, h⟩ := oif_some h
    obtain ⟨T29, eT29, h⟩ := elet_some h
    have p3 : SP T T29 := SP.tr p2 (by rw [eT29]; exact sp_uI)
    obtain ⟨g30, h⟩ := oif_some h
    obtain ⟨v31, -, h⟩ := elet_some h
    obtain ⟨v32, -, h⟩ := elet_some h
    obtain ⟨g33, h⟩ := oif_some h
    obtain ⟨T34, eT34, h⟩ := elet_some h
    have p4 : SP T T34 := SP.tr p3 (by rw [eT34]; exact sp_uI)
    exact SP.tr p4 (s_X9_add_b52 _ h)
def g_X9_cutOne_b158  (T : AT) (l4 : Int32) : Option (Int32 × AT) := some (l4, T)
set_option maxHeartbeats 4000000 in
set_option maxRecDepth 100000 in
theorem u_X9_cutOne_b158 {p : Program} {l : Launch} {e : Env} {s : State} {m : MethodId} {args : Array Value} {below : List Frame} {meth : Method} {c : Code} {Q : State → Prop} {D : va_G} {A : Nat → Prop} {cI cJ cZ cMic cSrc cSt cAI cAJ : ClassId} {ad : Nat → Nat} {r1 : Int32} {T1 : AT} (E : cE p c cX9_cutOne s m args (Cond.code yX9_cutOne cX9_cutOne 5 (some .int) :: wsA) D RX9 (CT cI cJ cZ cMic cSrc cSt cAI cAJ)) (hA : ∀ q : Nat, s.heap.size ≤ q → A q) (hX : xT A s) (hN : nX s) (hml : c.maxLocals = 5) (hst : l.stackTraces = false) (kr160 : ∀ (H : Heap) (locs : List Loc) (ls : Array Slot), gC cI cJ cZ cMic cSrc cSt cAI cAJ D ad A s.heap H locs T1 → W p l e { frames := 2, cells := 0, slots := 0, locals := 25 } s m args below meth c H locs 0 0 Q (F0 m 160 ls [.int r1])) : ∀ (T : AT) (H : Heap) (locs : List Loc) (ls : Array Slot) (l4 : Int32), g_X9_cutOne_b158 T l4 = some (r1, T1) → gC cI cJ cZ cMic cSrc cSt cAI cAJ D ad A s.heap H locs T → lv_has ls 5 [(4, .int l4)] → W p l e { frames := 2, cells := 0, slots := 0, locals := 25 } s m args below meth c H locs 0 0 Q (F0 m 158 ls []) := by
  have hx := E.1
  have hb := E.2.1
  have hts := E.2.2.1
  have hown := E.2.2.2.1
  have hK := E.2.2.2.2
  intro T H locs ls l4 h G hl
  unfold g_X9_cutOne_b158 at h
  refine lv_iload hx hb dX9_cutOne_158 (lv_at hl 0 rfl) ?_
  rw [(osome2 h).2] at G
  refine lv_to (osome2 h).1 ?_
  exact kr160 _ _ _ G
def g_X9_cutOne_b109  (T : AT) (l0 : Nat) (l2 : Int32) (l3 : Int32) (l4 : Int32) : Option (Int32 × AT) := if l3 = 45 then (oif (oO T l0 9 = true) <| obind (g_X9_add T l0 (3 : Int32) l2 l4) fun T4 => g_X9_cutOne_b158 T4 l4) else (if l3 = 59 then (oif (oO T l0 9 = true) <| obind (g_X9_add T l0 (4 : Int32) l2 l4) fun T8 => g_X9_cutOne_b158 T8 l4) else (if l3 = 32 then (g_X9_cutOne_b158 T l4) else (oif (oO T l0 9 = true) <| obind (g_X9_add T l0 (6 : Int32) l2 l4) fun T12 => g_X9_cutOne_b158 T12 l4)))
set_option maxHeartbeats 4000000 in
set_option maxRecDepth 100000 in
theorem u_X9_cutOne_b109 {p : Program} {l : Launch} {e : Env} {s : State} {m : MethodId} {args : Array Value} {below : List Frame} {meth : Method} {c : Code} {Q : State → Prop} {D : va_G} {A : Nat → Prop} {cI cJ cZ cMic cSrc cSt cAI cAJ : ClassId} {ad : Nat → Nat} {r1 : Int32} {T1 : AT} (E : cE p c cX9_cutOne s m args (Cond.code yX9_cutOne cX9_cutOne 5 (some .int) :: wsA) D RX9 (CT cI cJ cZ cMic cSrc cSt cAI cAJ)) (hA : ∀ q : Nat, s.heap.size ≤ q → A q) (hX : xT A s) (hN : nX s) (hml : c.maxLocals = 5) (hst : l.stackTraces = false) (kr160 : ∀ (H : Heap) (locs : List Loc) (ls : Array Slot), gC cI cJ cZ cMic cSrc cSt cAI cAJ D ad A s.heap H locs T1 → W p l e { frames := 2, cells := 0, slots := 0, locals := 25 } s m args below meth c H locs 0 0 Q (F0 m 160 ls [.int r1])) : ∀ (T : AT) (H : Heap) (locs : List Loc) (ls : Array Slot) (l0 : Nat) (l2 : Int32) (l3 : Int32) (l4 : Int32), g_X9_cutOne_b109 T l0 l2 l3 l4 = some (r1, T1) → gC cI cJ cZ cMic cSrc cSt cAI cAJ D ad A s.heap H locs T → lv_has ls 5 [(0, .ref (ad l0)), (2, .int l2), (3, .int l3), (4, .int l4)] → W p l e { frames := 2, cells := 0, slots := 0, locals := 25 } s m args below meth c H locs 0 0 Q (F0 m 109 ls []) := by
  have hx := E.1
  have hb := E.2.1
  have hts := E.2.2.1
  have hown := E.2.2.2.1
  have hK := E.2.2.2.2
  intro T H locs ls l0 l2 l3 l4 h G hl
  unfold g_X9_cutOne_b109 at h
  refine lv_iload_n hx hb dX9_cutOne_109 rfl (lv_at hl 2 rfl) ?_
  refine lv_bipush (v := 45) hx hb dX9_cutOne_110 (by decide) ?_
  refine lv_icmp_ne (tgt := 126) hx hb dX9_cutOne_112 (by decide) (fun c2 => ?_) (fun c2 => ?_)
  · have h := oif_neg c2 h
    refine lv_iload_n hx hb dX9_cutOne_126 rfl (lv_at hl 2 rfl) ?_
    refine lv_bipush (v := 59) hx hb dX9_cutOne_127 (by decide) ?_
    refine lv_icmp_ne (tgt := 143) hx hb dX9_cutOne_129 (by decide) (fun c6 => ?_) (fun c6 => ?_)
    · have h := oif_neg c6 h
      refine lv_iload_n hx hb dX9_cutOne_143 rfl (lv_at hl 2 rfl) ?_
      refine lv_bipush (v := 32) hx hb dX9_cutOne_144 (by decide) ?_
      refine lv_icmp_eq (tgt := 158) hx hb dX9_cutOne_146 (by decide) (fun c10 => ?_) (fun c10 => ?_)
      · have h := oif_pos c10 h
        have hl := lv_sub hl [3] rfl
        exact u_X9_cutOne_b158 E hA hX hN hml hst kr160 _ _ _ _ _ h G hl
      · have h := oif_neg c10 h
        refine lv_aload_n hx hb dX9_cutOne_149 rfl (lv_at hl 0 rfl) ?_
        refine lv_bipush (v := 6) hx hb dX9_cutOne_150 (by decide) ?_
        refine lv_iload_n hx hb dX9_cutOne_152 rfl (lv_at hl 1 rfl) ?_
        refine lv_iload hx hb dX9_cutOne_153 (lv_at hl 3 rfl) ?_
        obtain ⟨g11, h⟩ := oif_some h
        obtain ⟨T12, eT12, h⟩ := obind_some h
        refine q_cvv (As := [.int 6, .int l2, .int l4]) (rest := []) E G hA hX hN hml (u_X9_add l hst D cI cJ cZ cMic cSrc cSt cAI cAJ ad T l0 (6 : Int32) l2 l4 eT12) (cwV 3 hts (gaV qA_197 qA_198 qA_199 qA_185 qA_200) rfl rfl rfl (by decide +kernel) ⟨Nat.le_of_ble_eq_true rfl, Nat.le_of_ble_eq_true rfl⟩) (oO_k g11).1 (cc_o9 (oO_k g11).2) rfl rfl hl.1 rfl (lv_room (Nat.le_of_ble_eq_true rfl)) dX9_cutOne_155 ⟨Nat.zero_le _, Nat.zero_le _⟩ (fun T13 H locs hq G => ?_)
        rw [hq] at G
        clear hq eT12
        have hl := lv_sub hl [3] rfl
        exact u_X9_cutOne_b158 E hA hX hN hml hst kr160 _ _ _ _ _ h G hl
    · have h := oif_pos c6 h
      refine lv_aload_n hx hb dX9_cutOne_132 rfl (lv_at hl 0 rfl) ?_
      refine lv_iconst (v := 4) hx hb dX9_cutOne_133 (by decide) ?_
      refine lv_iload_n hx hb dX9_cutOne_134 rfl (lv_at hl 1 rfl) ?_
      refine lv_iload hx hb dX9_cutOne_135 (lv_at hl 3 rfl) ?_
      obtain ⟨g7, h⟩ := oif_some h
      obtain ⟨T8, eT8, h⟩ := obind_some h
      refine q_cvv (As := [.int 4, .int l2, .int l4]) (rest := []) E G hA hX hN hml (u_X9_add l hst D cI cJ cZ cMic cSrc cSt cAI cAJ ad T l0 (4 : Int32) l2 l4 eT8) (cwV 3 hts (gaV qA_197 qA_198 qA_199 qA_185 qA_200) rfl rfl rfl (by decide +kernel) ⟨Nat.le_of_ble_eq_true rfl, Nat.le_of_ble_eq_true rfl⟩) (oO_k g7).1 (cc_o9 (oO_k g7).2) rfl rfl hl.1 rfl (lv_room (Nat.le_of_ble_eq_true rfl)) dX9_cutOne_137 ⟨Nat.zero_le _, Nat.zero_le _⟩ (fun T9 H locs hq G => ?_)
      rw [hq] at G
      clear hq eT8
      refine lv_goto (tgt := 158) hx hb dX9_cutOne_140 (by decide) ?_
      have hl := lv_sub hl [3] rfl
      exact u_X9_cutOne_b158 E hA hX hN hml hst kr160 _ _ _ _ _ h G hl
  · have h := oif_pos c2 h
    refine lv_aload_n hx hb dX9_cutOne_115 rfl (lv_at hl 0 rfl) ?_
    refine lv_iconst (v := 3) hx hb dX9_cutOne_116 (by decide) ?_
    refine lv_iload_n hx hb dX9_cutOne_117 rfl (lv_at hl 1 rfl) ?_
    refine lv_iload hx hb dX9_cutOne_118 (lv_at hl 3 rfl) ?_
    obtain ⟨g3, h⟩ := oif_some h
    obtain ⟨T4, eT4, h⟩ := obind_some h
    refine q_cvv (As := [.int 3, .int l2, .int l4]) (rest := []) E G hA hX hN hml (u_X9_add l hst D cI cJ cZ cMic cSrc cSt cAI cAJ ad T l0 (3 : Int32) l2 l4 eT4) (cwV 3 hts (gaV qA_197 qA_198 qA_199 qA_185 qA_200) rfl rfl rfl (by decide +kernel) ⟨Nat.le_of_ble_eq_true rfl, Nat.le_of_ble_eq_true rfl⟩) (oO_k g3).1 (cc_o9 (oO_k g3).2) rfl rfl hl.1 rfl (lv_room (Nat.le_of_ble_eq_true rfl)) dX9_cutOne_120 ⟨Nat.zero_le _, Nat.zero_le _⟩ (fun T5 H locs hq G => ?_)
    rw [hq] at G
    clear hq eT4
    refine lv_goto (tgt := 158) hx hb dX9_cutOne_123 (by decide) ?_
    have hl := lv_sub hl [3] rfl
    exact u_X9_cutOne_b158 E hA hX hN hml hst kr160 _ _ _ _ _ h G hl
def g_X9_cutOne_b100  (T : AT) (s0 : Int32) (s1 : Nat) (l2 : Int32) (l4 : Int32) : Option (Int32 × AT) := oif (oO T s1 9 = true) <| obind (g_X9_add T s1 s0 l2 l4) fun T3 => g_X9_cutOne_b158 T3 l4
set_option maxHeartbeats 4000000 in
set_option maxRecDepth 100000 in
theorem u_X9_cutOne_b100 {p : Program} {l : Launch} {e : Env} {s : State} {m : MethodId} {args : Array Value} {below : List Frame} {meth : Method} {c : Code} {Q : State → Prop} {D : va_G} {A : Nat → Prop} {cI cJ cZ cMic cSrc cSt cAI cAJ : ClassId} {ad : Nat → Nat} {r1 : Int32} {T1 : AT} (E : cE p c cX9_cutOne s m args (Cond.code yX9_cutOne cX9_cutOne 5 (some .int) :: wsA) D RX9 (CT cI cJ cZ cMic cSrc cSt cAI cAJ)) (hA : ∀ q : Nat, s.heap.size ≤ q → A q) (hX : xT A s) (hN : nX s) (hml : c.maxLocals = 5) (hst : l.stackTraces = false) (kr160 : ∀ (H : Heap) (locs : List Loc) (ls : Array Slot), gC cI cJ cZ cMic cSrc cSt cAI cAJ D ad A s.heap H locs T1 → W p l e { frames := 2, cells := 0, slots := 0, locals := 25 } s m args below meth c H locs 0 0 Q (F0 m 160 ls [.int r1])) : ∀ (T : AT) (H : Heap) (locs : List Loc) (ls : Array Slot) (s0 : Int32) (s1 : Nat) (l2 : Int32) (l4 : Int32), g_X9_cutOne_b100 T s0 s1 l2 l4 = some (r1, T1) → gC cI cJ cZ cMic cSrc cSt cAI cAJ D ad A s.heap H locs T → lv_has ls 5 [(2, .int l2), (4, .int l4)] → W p l e { frames := 2, cells := 0, slots := 0, locals := 25 } s m args below meth c H locs 0 0 Q (F0 m 100 ls [.int s0, .ref (ad s1)]) := by
  have hx := E.1
  have hb := E.2.1
  have hts := E.2.2.1
  have hown := E.2.2.2.1
  have hK := E.2.2.2.2
  intro T H locs ls s0 s1 l2 l4 h G hl
  unfold g_X9_cutOne_b100 at h
  refine lv_iload_n hx hb dX9_cutOne_100 rfl (lv_at hl 0 rfl) ?_
  refine lv_iload hx hb dX9_cutOne_101 (lv_at hl 1 rfl) ?_
  obtain ⟨g2, h⟩ := oif_some h
  obtain ⟨T3, eT3, h⟩ := obind_some h
  refine q_cvv (As := [.int s0, .int l2, .int l4]) (rest := []) E G hA hX hN hml (u_X9_add l hst D cI cJ cZ cMic cSrc cSt cAI cAJ ad T s1 s0 l2 l4 eT3) (cwV 3 hts (gaV qA_197 qA_198 qA_199 qA_185 qA_200) rfl rfl rfl (by decide +kernel) ⟨Nat.le_of_ble_eq_true rfl, Nat.le_of_ble_eq_true rfl⟩) (oO_k g2).1 (cc_o9 (oO_k g2).2) rfl rfl hl.1 rfl (lv_room (Nat.le_of_ble_eq_true rfl)) dX9_cutOne_103 ⟨Nat.zero_le _, Nat.zero_le _⟩ (fun T4 H locs hq G => ?_)
  rw [hq] at G
  clear hq eT3
  refine lv_goto (tgt := 158) hx hb dX9_cutOne_106 (by decide) ?_
  have hl := lv_sub hl [1] rfl
  exact u_X9_cutOne_b158 E hA hX hN hml hst kr160 _ _ _ _ _ h G hl
def g_X9_cutOne_b61  (T : AT) (l0 : Nat) (l1 : Int32) (l2 : Int32) (l3 : Int32) (l4 : Int32) : Option (Int32 × AT) := if l3 < 48 then (g_X9_cutOne_b109 T l0 l2 l3 l4) else (if 57 < l3 then (g_X9_cutOne_b109 T l0 l2 l3 l4) else (oif (oO T l0 9 = true) <| obind2 (g_X9_runEnd T l0 l1 l2 (48 : Int32) (57 : Int32)) fun r7 T5 => elet (r7 - l2) fun v9 => if 4 < v9 then (g_X9_cutOne_b100 T5 6 l0 l2 r7) else (g_X9_cutOne_b100 T5 2 l0 l2 r7)))
set_option maxHeartbeats 4000000 in
set_option maxRecDepth 100000 in
theorem u_X9_cutOne_b61 {p : Program} {l : Launch} {e : Env} {s : State} {m : MethodId} {args : Array Value} {below : List Frame} {meth : Method} {c : Code} {Q : State → Prop} {D : va_G} {A : Nat → Prop} {cI cJ cZ cMic cSrc cSt cAI cAJ : ClassId} {ad : Nat → Nat} {r1 : Int32} {T1 : AT} (E : cE p c cX9_cutOne s m args (Cond.code yX9_cutOne cX9_cutOne 5 (some .int) :: wsA) D RX9 (CT cI cJ cZ cMic cSrc cSt cAI cAJ)) (hA : ∀ q : Nat, s.heap.size ≤ q → A q) (hX : xT A s) (hN : nX s) (hml : c.maxLocals = 5) (hst : l.stackTraces = false) (kr160 : ∀ (H : Heap) (locs : List Loc) (ls : Array Slot), gC cI cJ cZ cMic cSrc cSt cAI cAJ D ad A s.heap H locs T1 → W p l e { frames := 2, cells := 0, slots := 0, locals := 25 } s m args below meth c H locs 0 0 Q (F0 m 160 ls [.int r1])) : ∀ (T : AT) (H : Heap) (locs : List Loc) (ls : Array Slot) (l0 : Nat) (l1 : Int32) (l2 : Int32) (l3 : Int32) (l4 : Int32), g_X9_cutOne_b61 T l0 l1 l2 l3 l4 = some (r1, T1) → gC cI cJ cZ cMic cSrc cSt cAI cAJ D ad A s.heap H locs T → lv_has ls 5 [(0, .ref (ad l0)), (1, .int l1), (2, .int l2), (3, .int l3), (4, .int l4)] → W p l e { frames := 2, cells := 0, slots := 0, locals := 25 } s m args below meth c H locs 0 0 Q (F0 m 61 ls []) := by
  have hx := E.1
  have hb := E.2.1
  have hts := E.2.2.1
  have hown := E.2.2.2.1
  have hK := E.2.2.2.2
  intro T H locs ls l0 l1 l2 l3 l4 h G hl
  unfold g_X9_cutOne_b61 at h
  refine lv_iload_n hx hb dX9_cutOne_61 rfl (lv_at hl 3 rfl) ?_
  refine lv_bipush (v := 48) hx hb dX9_cutOne_62 (by decide) ?_
  refine lv_icmp_lt (tgt := 109) hx hb dX9_cutOne_64 (by decide) (fun c2 => ?_) (fun c2 => ?_)
  · have h := oif_pos c2 h
    have hl := lv_sub hl [0, 2, 3, 4] rfl
    exact u_X9_cutOne_b109 E hA hX hN hml hst kr160 _ _ _ _ _ _ _ _ h G hl
  · have h := oif_neg c2 h
    refine lv_iload_n hx hb dX9_cutOne_67 rfl (lv_at hl 3 rfl) ?_
    refine lv_bipush (v := 57) hx hb dX9_cutOne_68 (by decide) ?_
    refine lv_icmp_gt (tgt := 109) hx hb dX9_cutOne_70 (by decide) (fun c3 => ?_) (fun c3 => ?_)
    · have h := oif_pos c3 h
      have hl := lv_sub hl [0, 2, 3, 4] rfl
      exact u_X9_cutOne_b109 E hA hX hN hml hst kr160 _ _ _ _ _ _ _ _ h G hl
    · have h := oif_neg c3 h
      refine lv_aload_n hx hb dX9_cutOne_73 rfl (lv_at hl 0 rfl) ?_
      refine lv_iload_n hx hb dX9_cutOne_74 rfl (lv_at hl 1 rfl) ?_
      refine lv_iload_n hx hb dX9_cutOne_75 rfl (lv_at hl 2 rfl) ?_
      refine lv_bipush (v := 48) hx hb dX9_cutOne_76 (by decide) ?_
      refine lv_bipush (v := 57) hx hb dX9_cutOne_78 (by decide) ?_
      obtain ⟨g4, h⟩ := oif_some h
      obtain ⟨r7, T5, eT5, h⟩ := obind2_some h
      refine q_cvi (As := [.int l1, .int l2, .int 48, .int 57]) (rest := []) E G hA hX hN hml (u_X9_runEnd l hst D cI cJ cZ cMic cSrc cSt cAI cAJ ad T l0 l1 l2 (48 : Int32) (57 : Int32) eT5) (cwV 4 hts (gaV qA_193 qA_194 qA_195 qA_185 qA_196) rfl rfl rfl (by decide +kernel) ⟨Nat.le_of_ble_eq_true rfl, Nat.le_of_ble_eq_true rfl⟩) (oO_k g4).1 (cc_o9 (oO_k g4).2) rfl rfl hl.1 rfl (lv_room (Nat.le_of_ble_eq_true rfl)) dX9_cutOne_80 ⟨Nat.zero_le _, Nat.zero_le _⟩ (fun q8 T6 H locs hq G => ?_)
      obtain ⟨hq1, hq2⟩ := hq
      rw [hq2] at G
      refine lv_to hq1 ?_
      clear hq1 hq2 eT5
      refine lv_istore (lv' := [(4, .int r7), (0, .ref (ad l0)), (1, .int l1), (2, .int l2), (3, .int l3)]) hx hb dX9_cutOne_83 hl (by decide) rfl (fun ls hl => ?_)
      refine lv_aload_n hx hb dX9_cutOne_85 rfl (lv_at hl 1 rfl) ?_
      refine lv_iload hx hb dX9_cutOne_86 (lv_at hl 0 rfl) ?_
      refine lv_iload_n hx hb dX9_cutOne_88 rfl (lv_at hl 3 rfl) ?_
      refine lv_isub hx hb dX9_cutOne_89 ?_
      refine lv_topi (fun v9 ev9 => ?_)
      have h := elet_at ev9 h
      clear ev9
      refine lv_iconst (v := 4) hx hb dX9_cutOne_90 (by decide) ?_
      refine lv_icmp_gt (tgt := 98) hx hb dX9_cutOne_91 (by decide) (fun c10 => ?_) (fun c10 => ?_)
      · have h := oif_pos c10 h
        refine lv_bipush (v := 6) hx hb dX9_cutOne_98 (by decide) ?_
        have hl := lv_sub hl [3, 0] rfl
        exact u_X9_cutOne_b100 E hA hX hN hml hst kr160 _ _ _ _ _ _ _ _ h G hl
      · have h := oif_neg c10 h
        refine lv_iconst (v := 2) hx hb dX9_cutOne_94 (by decide) ?_
        refine lv_goto (tgt := 100) hx hb dX9_cutOne_95 (by decide) ?_
        have hl := lv_sub hl [3, 0] rfl
        exact u_X9_cutOne_b100 E hA hX hN hml hst kr160 _ _ _ _ _ _ _ _ h G hl
def g_X9_cutOne_b52  (T : AT) (s0 : Int32) (s1 : Nat) (l2 : Int32) (l4 : Int32) : Option (Int32 × AT) := oif (oO T s1 9 = true) <| obind (g_X9_add T s1 s0 l2 l4) fun T3 => g_X9_cutOne_b158 T3 l4
set_option maxHeartbeats 4000000 in
set_option maxRecDepth 100000 in
theorem u_X9_cutOne_b52 {p : Program} {l : Launch} {e : Env} {s : State} {m : MethodId} {args : Array Value} {below : List Frame} {meth : Method} {c : Code} {Q : State → Prop} {D : va_G} {A : Nat → Prop} {cI cJ cZ cMic cSrc cSt cAI cAJ : ClassId} {ad : Nat → Nat} {r1 : Int32} {T1 : AT} (E : cE p c cX9_cutOne s m args (Cond.code yX9_cutOne cX9_cutOne 5 (some .int) :: wsA) D RX9 (CT cI cJ cZ cMic cSrc cSt cAI cAJ)) (hA : ∀ q : Nat, s.heap.size ≤ q → A q) (hX : xT A s) (hN : nX s) (hml : c.maxLocals = 5) (hst : l.stackTraces = false) (kr160 : ∀ (H : Heap) (locs : List Loc) (ls : Array Slot), gC cI cJ cZ cMic cSrc cSt cAI cAJ D ad A s.heap H locs T1 → W p l e { frames := 2, cells := 0, slots := 0, locals := 25 } s m args below meth c H locs 0 0 Q (F0 m 160 ls [.int r1])) : ∀ (T : AT) (H : Heap) (locs : List Loc) (ls : Array Slot) (s0 : Int32) (s1 : Nat) (l2 : Int32) (l4 : Int32), g_X9_cutOne_b52 T s0 s1 l2 l4 = some (r1, T1) → gC cI cJ cZ cMic cSrc cSt cAI cAJ D ad A s.heap H locs T → lv_has ls 5 [(2, .int l2), (4, .int l4)] → W p l e { frames := 2, cells := 0, slots := 0, locals := 25 } s m args below meth c H locs 0 0 Q (F0 m 52 ls [.int s0, .ref (ad s1)]) := by
  have hx := E.1
  have hb := E.2.1
  have hts := E.2.2.1
  have hown := E.2.2.2.1
  have hK := E.2.2.2.2
  intro T H locs ls s0 s1 l2 l4 h G hl
  unfold g_X9_cutOne_b52 at h
  refine lv_iload_n hx hb dX9_cutOne_52 rfl (lv_at hl 0 rfl) ?_
  refine lv_iload hx hb dX9_cutOne_53 (lv_at hl 1 rfl) ?_
  obtain ⟨g2, h⟩ := oif_some h
  obtain ⟨T3, eT3, h⟩ := obind_some h
  refine q_cvv (As := [.int s0, .int l2, .int l4]) (rest := []) E G hA hX hN hml (u_X9_add l hst D cI cJ cZ cMic cSrc cSt cAI cAJ ad T s1 s0 l2 l4 eT3) (cwV 3 hts (gaV qA_197 qA_198 qA_199 qA_185 qA_200) rfl rfl rfl (by decide +kernel) ⟨Nat.le_of_ble_eq_true rfl, Nat.le_of_ble_eq_true rfl⟩) (oO_k g2).1 (cc_o9 (oO_k g2).2) rfl rfl hl.1 rfl (lv_room (Nat.le_of_ble_eq_true rfl)) dX9_cutOne_55 ⟨Nat.zero_le _, Nat.zero_le _⟩ (fun T4 H locs hq G => ?_)
  rw [hq] at G
  clear hq eT3
  refine lv_goto (tgt := 158) hx hb dX9_cutOne_58 (by decide) ?_
  have hl := lv_sub hl [1] rfl
  exact u_X9_cutOne_b158 E hA hX hN hml hst kr160 _ _ _ _ _ h G hl
def g_X9_cutOne (T : AT) (o : Nat) (a0 : Int32) (a1 : Int32) : Option (Int32 × AT) := oif (oO T o 9 = true) <| obind (T.2.2.2.2 o 0) fun n3 => oif (aA T n3 100 = true) <| oif (inb a1 (T.2.1 n3).2 = true) <| elet (T.2.2.1 n3 a1.toNatClampNeg) fun v6 => elet (a1 + 1) fun v7 => if v6 < 97 then (g_X9_cutOne_b61 T o a0 a1 v6 v7) else (if 122 < v6 then (g_X9_cutOne_b61 T o a0 a1 v6 v7) else (oif (oO T o 9 = true) <| obind2 (g_X9_runEnd T o a0 a1 (97 : Int32) (122 : Int32)) fun r13 T11 => elet (r13 - a1) fun v15 => if 8 < v15 then (g_X9_cutOne_b52 T11 6 o a1 r13) else (g_X9_cutOne_b52 T11 1 o a1 r13)))
set_option maxHeartbeats 4000000 in
set_option maxRecDepth 100000 in
theorem u_X9_cutOne (l : Launch) (hst : l.stackTraces = false) (D : va_G) (cI cJ cZ cMic cSrc cSt cAI cAJ : ClassId) (ad : Nat → Nat) (T : AT) (o : Nat) (a0 : Int32) (a1 : Int32) {r1 : Int32} {T1 : AT} (h : g_X9_cutOne T o a0 a1 = some (r1, T1)) : kCi l yX9_cutOne (Cond.code yX9_cutOne cX9_cutOne 5 (some .int) :: wsA) 2 25 cI cJ cZ cMic cSrc cSt cAI cAJ D ad T [.ref (ad o), .int a0, .int a1] (fun r T9 => r = r1 ∧ T9 = T1) := by
  intro sz
  refine pro_in (cc := cX9_cutOne) (maxL := 5) (ret := (some .int)) (by exact pn_RX9) rfl (by exact Nat.le_of_ble_eq_true rfl) (fun p e s m below meth c ls hx hb hr hts hown hlocks hml hv hl => ?_)
  obtain ⟨hsz, hP, hK, hD0, hX, hN⟩ := hv
  subst hsz
  have hD := hD0.self (sz := s.heap.size)
  generalize hAe : va_A (cW ad T.1 (cc cI cJ cZ cMic cSrc cSt cAI cAJ ad T)) s.heap.size = A at hD hX ⊢
  have hA : ∀ q : Nat, s.heap.size ≤ q → A q := fun q h => by rw [← hAe]; exact Or.inr h
  have G : gC cI cJ cZ cMic cSrc cSt cAI cAJ D ad A s.heap s.heap [] T := ⟨hP, hD, va_S.rf⟩
  have E : cE p c cX9_cutOne s m ([.ref (ad o), .int a0, .int a1] : List Value).toArray (Cond.code yX9_cutOne cX9_cutOne 5 (some .int) :: wsA) D RX9 (CT cI cJ cZ cMic cSrc cSt cAI cAJ) := ⟨hx, hb, hts, hown, hK⟩
  have hl : lv_has ls 5 [(0, .ref (ad o)), (1, .int a0), (2, .int a1)] := hl
  unfold g_X9_cutOne at h
  refine lv_aload_n hx hb dX9_cutOne_0 rfl (lv_at hl 0 rfl) ?_
  obtain ⟨g2, h⟩ := oif_some h
  obtain ⟨n3, en3, h⟩ := obind_some h
  refine c_get E G o 0 (v := .ref (ad n3)) (oO_k g2).1 (cc_o9 (oO_k g2).2) rfl (fun w h => .tail _ (iA_18 h)) (by decide) (.tail _ qA_192) rfl (by rw [en3]; rfl) dX9_cutOne_1 ?_
  clear en3
  refine lv_iload_n hx hb dX9_cutOne_4 rfl (lv_at hl 2 rfl) ?_
  obtain ⟨g4, h⟩ := oif_some h
  obtain ⟨g5, h⟩ := oif_some h
  refine c_iald E G n3 0 (k := a1.toNatClampNeg) (aA_k g4).1 (cc_a100 (aA_k g4).2.1) rfl (inb_k g5).1 (inb_k g5).2 (aA_k g4).2.2 dX9_cutOne_5 ?_
  refine lv_topi (fun v6 ev6 => ?_)
  have h := elet_at ev6 h
  clear ev6
  refine lv_istore_n (lv' := [(3, .int v6), (0, .ref (ad o)), (1, .int a0), (2, .int a1)]) hx hb dX9_cutOne_6 rfl hl (by decide) rfl (fun ls hl => ?_)
  refine lv_iload_n hx hb dX9_cutOne_7 rfl (lv_at hl 3 rfl) ?_
  refine lv_iconst (v := 1) hx hb dX9_cutOne_8 (by decide) ?_
  refine lv_iadd hx hb dX9_cutOne_9 ?_
  refine lv_topi (fun v7 ev7 => ?_)
  have h := elet_at ev7 h
  clear ev7
  refine lv_istore (lv' := [(4, .int v7), (3, .int v6), (0, .ref (ad o)), (1, .int a0), (2, .int a1)]) hx hb dX9_cutOne_10 hl (by decide) rfl (fun ls hl => ?_)
  refine lv_iload_n hx hb dX9_cutOne_12 rfl (lv_at hl 1 rfl) ?_
  refine lv_bipush (v := 97) hx hb dX9_cutOne_13 (by decide) ?_
  refine lv_icmp_lt (tgt := 61) hx hb dX9_cutOne_15 (by decide) (fun c8 => ?_) (fun c8 => ?_)
  · have h := oif_pos c8 h
    have hl := lv_sub hl [2, 3, 4, 1, 0] rfl
    exact u_X9_cutOne_b61 E hA hX hN hml hst (fun H locs ls G => W.iret (v := r1) hx hb hr (fun t ht hW => ⟨⟨r1, T1, rfl, ⟨rfl, rfl⟩, ⟨by rw [ht]; exact G.1, va_K.moved hW.alike hK, G.2.1⟩⟩, G.2.2.F ht⟩) G.2.2.2.2 dX9_cutOne_160) _ _ _ _ _ _ _ _ _ h G hl
  · have h := oif_neg c8 h
    refine lv_iload_n hx hb dX9_cutOne_18 rfl (lv_at hl 1 rfl) ?_
    refine lv_bipush (v := 122) hx hb dX9_cutOne_19 (by decide) ?_
    refine lv_icmp_gt (tgt := 61) hx hb dX9_cutOne_21 (by decide) (fun c9 => ?_) (fun c9 => ?_)
    · have h := oif_pos c9 h
      have hl := lv_sub hl [2, 3, 4, 1, 0] rfl
      exact u_X9_cutOne_b61 E hA hX hN hml hst (fun H locs ls G => W.iret (v := r1) hx hb hr (fun t ht hW => ⟨⟨r1, T1, rfl, ⟨rfl, rfl⟩, ⟨by rw [ht]; exact G.1, va_K.moved hW.alike hK, G.2.1⟩⟩, G.2.2.F ht⟩) G.2.2.2.2 dX9_cutOne_160) _ _ _ _ _ _ _ _ _ h G hl
    · have h := oif_neg c9 h
      refine lv_aload_n hx hb dX9_cutOne_24 rfl (lv_at hl 2 rfl) ?_
      refine lv_iload_n hx hb dX9_cutOne_25 rfl (lv_at hl 3 rfl) ?_
      refine lv_iload_n hx hb dX9_cutOne_26 rfl (lv_at hl 4 rfl) ?_
      refine lv_bipush (v := 97) hx hb dX9_cutOne_27 (by decide) ?_
      refine lv_bipush (v := 122) hx hb dX9_cutOne_29 (by decide) ?_
      obtain ⟨g10, h⟩ := oif_some h
      obtain ⟨r13, T11, eT11, h⟩ := obind2_some h
      refine q_cvi (As := [.int a0, .int a1, .int 97, .int 122]) (rest := []) E G hA hX hN hml (u_X9_runEnd l hst D cI cJ cZ cMic cSrc cSt cAI cAJ ad T o a0 a1 (97 : Int32) (122 : Int32) eT11) (cwV 4 hts (gaV qA_193 qA_194 qA_195 qA_185 qA_196) rfl rfl rfl (by decide +kernel) ⟨Nat.le_of_ble_eq_true rfl, Nat.le_of_ble_eq_true rfl⟩) (oO_k g10).1 (cc_o9 (oO_k g10).2) rfl rfl hl.1 rfl (lv_room (Nat.le_of_ble_eq_true rfl)) dX9_cutOne_31 ⟨Nat.zero_le _, Nat.zero_le _⟩ (fun q14 T12 H locs hq G => ?_)
      obtain ⟨hq1, hq2⟩ := hq
      rw [hq2] at G
      refine lv_to hq1 ?_
      clear hq1 hq2 eT11
      refine lv_istore (lv' := [(4, .int r13), (3, .int v6), (0, .ref (ad o)), (1, .int a0), (2, .int a1)]) hx hb dX9_cutOne_34 hl (by decide) rfl (fun ls hl => ?_)
      refine lv_aload_n hx hb dX9_cutOne_36 rfl (lv_at hl 2 rfl) ?_
      refine lv_iload hx hb dX9_cutOne_37 (lv_at hl 0 rfl) ?_
      refine lv_iload_n hx hb dX9_cutOne_39 rfl (lv_at hl 4 rfl) ?_
      refine lv_isub hx hb dX9_cutOne_40 ?_
      refine lv_topi (fun v15 ev15 => ?_)
      have h := elet_at ev15 h
      clear ev15
      refine lv_bipush (v := 8) hx hb dX9_cutOne_41 (by decide) ?_
      refine lv_icmp_gt (tgt := 50) hx hb dX9_cutOne_43 (by decide) (fun c16 => ?_) (fun c16 => ?_)
      · have h := oif_pos c16 h
        refine lv_bipush (v := 6) hx hb dX9_cutOne_50 (by decide) ?_
        have hl := lv_sub hl [4, 0] rfl
        exact u_X9_cutOne_b52 E hA hX hN hml hst (fun H locs ls G => W.iret (v := r1) hx hb hr (fun t ht hW => ⟨⟨r1, T1, rfl, ⟨rfl, rfl⟩, ⟨by rw [ht]; exact G.1, va_K.moved hW.alike hK, G.2.1⟩⟩, G.2.2.F ht⟩) G.2.2.2.2 dX9_cutOne_160) _ _ _ _ _ _ _ _ h G hl
      · have h := oif_neg c16 h
        refine lv_iconst (v := 1) hx hb dX9_cutOne_46 (by decide) ?_
        refine lv_goto (tgt := 52) hx hb dX9_cutOne_47 (by decide) ?_
        have hl := lv_sub hl [4, 0] rfl
        exact u_X9_cutOne_b52 E hA hX hN hml hst (fun H locs ls G => W.iret (v := r1) hx hb hr (fun t ht hW => ⟨⟨r1, T1, rfl, ⟨rfl, rfl⟩, ⟨by rw [ht]; exact G.1, va_K.moved hW.alike hK, G.2.1⟩⟩, G.2.2.F ht⟩) G.2.2.2.2 dX9_cutOne_160) _ _ _ _ _ _ _ _ h G hl
set_option maxHeartbeats 4000000 in
set_option maxRecDepth 100000 in
theorem s_X9_cutOne_b158 {r1 : Int32} {T1 : AT} : ∀ (T : AT) (l4 : Int32), g_X9_cutOne_b158 T l4 = some (r1, T1) → SP T T1 := by
  intro T l4 h
  have p0 := SP.rf T
  unfold g_X9_cutOne_b158 at h
  rw [← (osome2 h).2]
  exact p0
set_option maxHeartbeats 4000000 in
set_option maxRecDepth 100000 in
theorem s_X9_cutOne_b109 {r1 : Int32} {T1 : AT} : ∀ (T : AT) (l0 : Nat) (l2 : Int32) (l3 : Int32) (l4 : Int32), g_X9_cutOne_b109 T l0 l2 l3 l4 = some (r1, T1) → SP T T1 := by
  intro T l0 l2 l3 l4 h
  have p0 := SP.rf T
  unfold g_X9_cutOne_b109 at h
  rcases oif_or h with ⟨c2, h⟩ | ⟨c2, h⟩
  · have h := h
    obtain ⟨g3, h⟩ := oif_some h
    obtain ⟨T4, eT4, h⟩ := obind_some h
    have p1 : SP T T4 := SP.tr p0 (s_X9_add eT4)
    exact SP.tr p1 (s_X9_cutOne_b158 _ _ h)
  · have h := h
    rcases oif_or h with ⟨c6, h⟩ | ⟨c6, h⟩
    · have h := h
      obtain ⟨g7, h⟩ := oif_some h
      obtain ⟨T8, eT8, h⟩ := obind_some h
      have p1 : SP T T8 := SP.tr p0 (s_X9_add eT8)
      exact SP.tr p1 (s_X9_cutOne_b158 _ _ h)
    · have h := h
      rcases oif_or h with ⟨c10, h⟩ | ⟨c10, h⟩
      · have h := h
        exact SP.tr p0 (s_X9_cutOne_b158 _ _ h)
      · have h := h
        obtain ⟨g11, h⟩ := oif_some h
        obtain ⟨T12, eT12, h⟩ := obind_some h
        have p1 : SP T T12 := SP.tr p0 (s_X9_add eT12)
        exact SP.tr p1 (s_X9_cutOne_b158 _ _ h)
set_option maxHeartbeats 4000000 in
set_option maxRecDepth 100000 in
theorem s_X9_cutOne_b100 {r1 : Int32} {T1 : AT} : ∀ (T : AT) (s0 : Int32) (s1 : Nat) (l2 : Int32) (l4 : Int32), g_X9_cutOne_b100 T s0 s1 l2 l4 = some (r1, T1) → SP T T1 := by
  intro T s0 s1 l2 l4 h
  have p0 := SP.rf T
  unfold g_X9_cutOne_b100 at h
  obtain ⟨g2, h⟩ := oif_some h
  obtain ⟨T3, eT3, h⟩ := obind_some h
  have p1 : SP T T3 := SP.tr p0 (s_X9_add eT3)
  exact SP.tr p1 (s_X9_cutOne_b158 _ _ h)
set_option maxHeartbeats 4000000 in
set_option maxRecDepth 100000 in
theorem s_X9_cutOne_b61 {r1 : Int32} {T1 : AT} : ∀ (T : AT) (l0 : Nat) (l1 : Int32) (l2 : Int32) (l3 : Int32) (l4 : Int32), g_X9_cutOne_b61 T l0 l1 l2 l3 l4 = some (r1, T1) → SP T T1 := by
  intro T l0 l1 l2 l3 l4 h
  have p0 := SP.rf T
  unfold g_X9_cutOne_b61 at h
  rcases oif_or h with ⟨c2, h⟩ | ⟨c2, h⟩
  · have h := h
    exact SP.tr p0 (s_X9_cutOne_b109 _ _ _ _ _ h)
  · have h := h
    rcases oif_or h with ⟨c3, h⟩ | ⟨c3, h⟩
    · have h := h
      exact SP.tr p0 (s_X9_cutOne_b109 _ _ _ _ _ h)
    · have h := h
      obtain ⟨g4, h⟩ := oif_some h
      obtain ⟨r6, T5, eT5, h⟩ := obind2_some h
      have p1 : SP T T5 := SP.tr p0 (s_X9_runEnd eT5)
      obtain ⟨v7, -, h⟩ := elet_some h
      rcases oif_or h with ⟨c8, h⟩ | ⟨c8, h⟩
      · have h := h
        exact SP.tr p1 (s_X9_cutOne_b100 _ _ _ _ _ h)
      · have h := h
        exact SP.tr p1 (s_X9_cutOne_b100 _ _ _ _ _ h)
set_option maxHeartbeats 4000000 in
set_option maxRecDepth 100000 in
theorem s_X9_cutOne_b52 {r1 : Int32} {T1 : AT} : ∀ (T : AT) (s0 : Int32) (s1 : Nat) (l2 : Int32) (l4 : Int32), g_X9_cutOne_b52 T s0 s1 l2 l4 = some (r1, T1) → SP T T1 := by
  intro T s0 s1 l2 l4 h
  have p0 := SP.rf T
  unfold g_X9_cutOne_b52 at h
  obtain ⟨g2, h⟩ := oif_some h
  obtain ⟨T3, eT3, h⟩ := obind_some h
  have p1 : SP T T3 := SP.tr p0 (s_X9_add eT3)
  exact SP.tr p1 (s_X9_cutOne_b158 _ _ h)
set_option maxHeartbeats 4000000 in
set_option maxRecDepth 100000 in
theorem s_X9_cutOne {T : AT} {o : Nat} {a0 : Int32} {a1 : Int32} {r1 : Int32} {T1 : AT} (h : g_X9_cutOne T o a0 a1 = some (r1, T1)) : SP T T1 := by
  have p0 := SP.rf T
  unfold g_X9_cutOne at h
  obtain ⟨g2, h⟩ := oif_some h
  obtain ⟨n3, en3, h⟩ := obind_some h
  obtain ⟨g4, h⟩ := oif_some h
  obtain ⟨g5, h⟩ := oif_some h
  obtain ⟨v6, -, h⟩ := elet_some h
  obtain ⟨v7, -, h⟩ := elet_some h
  rcases oif_or h with ⟨c8, h⟩ | ⟨c8, h⟩
  · have h := h
    exact SP.tr p0 (s_X9_cutOne_b61 _ _ _ _ _ _ h)
  · have h := h
    rcases oif_or h with ⟨c9, h⟩ | ⟨c9, h⟩
    · have h := h
      exact SP.tr p0 (s_X9_cutOne_b61 _ _ _ _ _ _ h)
    · have h := h
      obtain ⟨g10, h⟩ := oif_some h
      obtain ⟨r12, T11, eT11, h⟩ := obind2_some h
      have p1 : SP T T11 := SP.tr p0 (s_X9_runEnd eT11)
      obtain ⟨v13, -, h⟩ := elet_some h
      rcases oif_or h with ⟨c14, h⟩ | ⟨c14, h⟩
      · have h := h
        exact SP.tr p1 (s_X9_cutOne_b52 _ _ _ _ _ h)
      · have h := h
        exact SP.tr p1 (s_X9_cutOne_b52 _ _ _ _ _ h)
def g_X9_cut_b32  (T : AT) (l0 : Nat) (l1 : Int32) : Option (AT) := oif (oO T l0 9 = true) <| obind (g_X9_add T l0 (5 : Int32) l1 l1) fun T3 => some T3
set_option maxHeartbeats 4000000 in
set_option maxRecDepth 100000 in
theorem u_X9_cut_b32 {p : Program} {l : Launch} {e : Env} {s : State} {m : MethodId} {args : Array Value} {below : List Frame} {meth : Method} {c : Code} {Q : State → Prop} {D : va_G} {A : Nat → Prop} {cI cJ cZ cMic cSrc cSt cAI cAJ : ClassId} {ad : Nat → Nat} {T1 : AT} (E : cE p c cX9_cut s m args (Cond.code yX9_cut cX9_cut 4 none :: wsA) D RX9 (CT cI cJ cZ cMic cSrc cSt cAI cAJ)) (hA : ∀ q : Nat, s.heap.size ≤ q → A q) (hX : xT A s) (hN : nX s) (hml : c.maxLocals = 4) (hst : l.stackTraces = false) (kr39 : ∀ (H : Heap) (locs : List Loc) (ls : Array Slot), gC cI cJ cZ cMic cSrc cSt cAI cAJ D ad A s.heap H locs T1 → W p l e { frames := 3, cells := 0, slots := 0, locals := 49 } s m args below meth c H locs 0 0 Q (F0 m 39 ls [])) : ∀ (T : AT) (H : Heap) (locs : List Loc) (ls : Array Slot) (l0 : Nat) (l1 : Int32), g_X9_cut_b32 T l0 l1 = some T1 → gC cI cJ cZ cMic cSrc cSt cAI cAJ D ad A s.heap H locs T → lv_has ls 4 [(0, .ref (ad l0)), (1, .int l1)] → W p l e { frames := 3, cells := 0, slots := 0, locals := 49 } s m args below meth c H locs 0 0 Q (F0 m 32 ls []) := by
  have hx := E.1
  have hb := E.2.1
  have hts := E.2.2.1
  have hown := E.2.2.2.1
  have hK := E.2.2.2.2
  intro T H locs ls l0 l1 h G hl
  unfold g_X9_cut_b32 at h
  refine lv_aload_n hx hb dX9_cut_32 rfl (lv_at hl 0 rfl) ?_
  refine lv_iconst (v := 5) hx hb dX9_cut_33 (by decide) ?_
  refine lv_iload_n hx hb dX9_cut_34 rfl (lv_at hl 1 rfl) ?_
  refine lv_iload_n hx hb dX9_cut_35 rfl (lv_at hl 1 rfl) ?_
  obtain ⟨g2, h⟩ := oif_some h
  obtain ⟨T3, eT3, h⟩ := obind_some h
  refine q_cvv (As := [.int 5, .int l1, .int l1]) (rest := []) E G hA hX hN hml (u_X9_add l hst D cI cJ cZ cMic cSrc cSt cAI cAJ ad T l0 (5 : Int32) l1 l1 eT3) (cwV 3 hts (gaV qA_197 qA_198 qA_199 qA_185 qA_200) rfl rfl rfl (by decide +kernel) ⟨Nat.le_of_ble_eq_true rfl, Nat.le_of_ble_eq_true rfl⟩) (oO_k g2).1 (cc_o9 (oO_k g2).2) rfl rfl hl.1 rfl (lv_room (Nat.le_of_ble_eq_true rfl)) dX9_cut_36 ⟨Nat.zero_le _, Nat.zero_le _⟩ (fun T4 H locs hq G => ?_)
  rw [hq] at G
  clear hq eT3
  rw [osome1 h] at G
  exact kr39 _ _ _ G
def g_X9_cut_b9  : Nat → AT → Nat → Int32 → Int32 → Int32 → Option (AT)
  | 0, _, _, _, _, _ => none
  | n + 1, T, l0, l1, l2, l3 => if l1 ≤ l3 then (g_X9_cut_b32 T l0 l1) else (if l1 ≤ l2 then (g_X9_cut_b32 T l0 l1) else (oif (oO T l0 9 = true) <| obind2 (g_X9_cutOne T l0 l1 l2) fun r7 T5 => elet (l3 + Int32.ofInt (1)) fun v9 => g_X9_cut_b9 n T5 l0 l1 r7 v9))
set_option maxHeartbeats 4000000 in
set_option maxRecDepth 100000 in
theorem u_X9_cut_b9 {p : Program} {l : Launch} {e : Env} {s : State} {m : MethodId} {args : Array Value} {below : List Frame} {meth : Method} {c : Code} {Q : State → Prop} {D : va_G} {A : Nat → Prop} {cI cJ cZ cMic cSrc cSt cAI cAJ : ClassId} {ad : Nat → Nat} {T1 : AT} (E : cE p c cX9_cut s m args (Cond.code yX9_cut cX9_cut 4 none :: wsA) D RX9 (CT cI cJ cZ cMic cSrc cSt cAI cAJ)) (hA : ∀ q : Nat, s.heap.size ≤ q → A q) (hX : xT A s) (hN : nX s) (hml : c.maxLocals = 4) (hst : l.stackTraces = false) (kr39 : ∀ (H : Heap) (locs : List Loc) (ls : Array Slot), gC cI cJ cZ cMic cSrc cSt cAI cAJ D ad A s.heap H locs T1 → W p l e { frames := 3, cells := 0, slots := 0, locals := 49 } s m args below meth c H locs 0 0 Q (F0 m 39 ls [])) : ∀ n : Nat, ∀ (T : AT) (H : Heap) (locs : List Loc) (ls : Array Slot) (l0 : Nat) (l1 : Int32) (l2 : Int32) (l3 : Int32), g_X9_cut_b9 n T l0 l1 l2 l3 = some T1 → gC cI cJ cZ cMic cSrc cSt cAI cAJ D ad A s.heap H locs T → lv_has ls 4 [(0, .ref (ad l0)), (1, .int l1), (2, .int l2), (3, .int l3)] → W p l e { frames := 3, cells := 0, slots := 0, locals := 49 } s m args below meth c H locs 0 0 Q (F0 m 9 ls []) := by
  have hx := E.1
  have hb := E.2.1
  have hts := E.2.2.1
  have hown := E.2.2.2.1
  have hK := E.2.2.2.2
  intro n
  induction n with
  | zero =>
    intro T H locs ls l0 l1 l2 l3 h
    have h : (none : Option (AT)) = some T1 := h
    cases h
  | succ n ih =>
    intro T H locs ls l0 l1 l2 l3 h G hl
    unfold g_X9_cut_b9 at h
    refine lv_iload_n hx hb dX9_cut_9 rfl (lv_at hl 3 rfl) ?_
    refine lv_iload_n hx hb dX9_cut_10 rfl (lv_at hl 1 rfl) ?_
    refine lv_icmp_ge (tgt := 32) hx hb dX9_cut_11 (by decide) (fun c2 => ?_) (fun c2 => ?_)
    · have h := oif_pos c2 h
      have hl := lv_sub hl [0, 1] rfl
      exact u_X9_cut_b32 E hA hX hN hml hst kr39 _ _ _ _ _ _ h G hl
    · have h := oif_neg c2 h
      refine lv_iload_n hx hb dX9_cut_14 rfl (lv_at hl 2 rfl) ?_
      refine lv_iload_n hx hb dX9_cut_15 rfl (lv_at hl 1 rfl) ?_
      refine lv_icmp_ge (tgt := 32) hx hb dX9_cut_16 (by decide) (fun c3 => ?_) (fun c3 => ?_)
      · have h := oif_pos c3 h
        have hl := lv_sub hl [0, 1] rfl
        exact u_X9_cut_b32 E hA hX hN hml hst kr39 _ _ _ _ _ _ h G hl
      · have h := oif_neg c3 h
        refine lv_aload_n hx hb dX9_cut_19 rfl (lv_at hl 0 rfl) ?_
        refine lv_iload_n hx hb dX9_cut_20 rfl (lv_at hl 1 rfl) ?_
        refine lv_iload_n hx hb dX9_cut_21 rfl (lv_at hl 2 rfl) ?_
        obtain ⟨g4, h⟩ := oif_some h
        obtain ⟨r7, T5, eT5, h⟩ := obind2_some h
        refine q_cvi (As := [.int l1, .int l2]) (rest := []) E G hA hX hN hml (u_X9_cutOne l hst D cI cJ cZ cMic cSrc cSt cAI cAJ ad T l0 l1 l2 eT5) (cwV 2 hts (gaV qA_188 qA_189 qA_190 qA_185 qA_191) rfl rfl rfl (by decide +kernel) ⟨Nat.le_of_ble_eq_true rfl, Nat.le_of_ble_eq_true rfl⟩) (oO_k g4).1 (cc_o9 (oO_k g4).2) rfl rfl hl.1 rfl (lv_room (Nat.le_of_ble_eq_true rfl)) dX9_cut_22 ⟨Nat.zero_le _, Nat.zero_le _⟩ (fun q8 T6 H locs hq G => ?_)
        obtain ⟨hq1, hq2⟩ := hq
        rw [hq2] at G
        refine lv_to hq1 ?_
        clear hq1 hq2 eT5
        refine lv_istore_n (lv' := [(2, .int r7), (0, .ref (ad l0)), (1, .int l1), (3, .int l3)]) hx hb dX9_cut_25 rfl hl (by decide) rfl (fun ls hl => ?_)
        obtain ⟨v9, ev9, h⟩ := elet_some h
        refine lv_iinc (v := v9) (lv' := [(3, .int v9), (2, .int r7), (0, .ref (ad l0)), (1, .int l1)]) hx hb dX9_cut_26 hl (k := 3) rfl ev9.symm (by decide) rfl (fun ls hl => ?_)
        refine lv_goto (tgt := 9) hx hb dX9_cut_29 (by decide) ?_
        have hl := lv_sub hl [2, 3, 1, 0] rfl
        exact ih _ _ _ _ _ _ _ _ h G hl
def g_X9_cut (T : AT) (o : Nat) (a0 : Int32) : Option (AT) := oif (oO T o 9 = true) <| elet (uI T o 5 0) fun T3 => g_X9_cut_b9 16384 T3 o a0 0 0
set_option maxHeartbeats 4000000 in
set_option maxRecDepth 100000 in
theorem u_X9_cut (l : Launch) (hst : l.stackTraces = false) (D : va_G) (cI cJ cZ cMic cSrc cSt cAI cAJ : ClassId) (ad : Nat → Nat) (T : AT) (o : Nat) (a0 : Int32) {T1 : AT} (h : g_X9_cut T o a0 = some T1) : kCv l yX9_cut (Cond.code yX9_cut cX9_cut 4 none :: wsA) 3 49 cI cJ cZ cMic cSrc cSt cAI cAJ D ad T [.ref (ad o), .int a0] (fun T9 => T9 = T1) := by
  intro sz
  refine pro_in (cc := cX9_cut) (maxL := 4) (ret := none) (by exact pn_RX9) rfl (by exact Nat.le_of_ble_eq_true rfl) (fun p e s m below meth c ls hx hb hr hts hown hlocks hml hv hl => ?_)
  obtain ⟨hsz, hP, hK, hD0, hX, hN⟩ := hv
  subst hsz
  have hD := hD0.self (sz := s.heap.size)
  generalize hAe : va_A (cW ad T.1 (cc cI cJ cZ cMic cSrc cSt cAI cAJ ad T)) s.heap.size = A at hD hX ⊢
  have hA : ∀ q : Nat, s.heap.size ≤ q → A q := fun q h => by rw [← hAe]; exact Or.inr h
  have G : gC cI cJ cZ cMic cSrc cSt cAI cAJ D ad A s.heap s.heap [] T := ⟨hP, hD, va_S.rf⟩
  have E : cE p c cX9_cut s m ([.ref (ad o), .int a0] : List Value).toArray (Cond.code yX9_cut cX9_cut 4 none :: wsA) D RX9 (CT cI cJ cZ cMic cSrc cSt cAI cAJ) := ⟨hx, hb, hts, hown, hK⟩
  have hl : lv_has ls 4 [(0, .ref (ad o)), (1, .int a0)] := hl
  unfold g_X9_cut at h
  refine lv_aload_n hx hb dX9_cut_0 rfl (lv_at hl 0 rfl) ?_
  refine lv_iconst (v := 0) hx hb dX9_cut_1 (by decide) ?_
  obtain ⟨g2, h⟩ := oif_some h
  refine c_put E G o 5 (v := .int 0) (oO_k g2).1 (cc_o9 (oO_k g2).2) rfl (fun w h => .tail _ (iA_18 h)) tyX9 tyX9_ok nmX9 (by decide) (.tail _ qA_187) ⟨rfl, rfl, rfl⟩ rfl rfl (Nat.le_of_ble_eq_true rfl) dX9_cut_2 (fun H locs G => ?_)
  have G := gC_up_i (f := upd (T.2.2.1 o) 5 0) (by rw [(oO_k g2).2]; rfl) G
  obtain ⟨T3, eT3, h⟩ := elet_some h
  have G : gC cI cJ cZ cMic cSrc cSt cAI cAJ D ad A s.heap H locs T3 := by rw [eT3]; exact G
  clear eT3
  refine lv_iconst (v := 0) hx hb dX9_cut_5 (by decide) ?_
  refine lv_istore_n (lv' := [(2, .int 0), (0, .ref (ad o)), (1, .int a0)]) hx hb dX9_cut_6 rfl hl (by decide) rfl (fun ls hl => ?_)
  refine lv_iconst (v := 0) hx hb dX9_cut_7 (by decide) ?_
  refine lv_istore_n (lv' := [(3, .int 0), (2, .int 0), (0, .ref (ad o)), (1, .int a0)]) hx hb dX9_cut_8 rfl hl (by decide) rfl (fun ls hl => ?_)
  have hl := lv_sub hl [2, 3, 1, 0] rfl
  exact u_X9_cut_b9 E hA hX hN hml hst (fun H locs ls G => W.vret hx hb hr (fun t ht hW => ⟨⟨T1, rfl, rfl, ⟨by rw [ht]; exact G.1, va_K.moved hW.alike hK, G.2.1⟩⟩, G.2.2.F ht⟩) G.2.2.2.2 dX9_cut_39) _ _ _ _ _ _ _ _ _ h G hl
set_option maxHeartbeats 4000000 in
set_option maxRecDepth 100000 in
theorem s_X9_cut_b32 {T1 : AT} : ∀ (T : AT) (l0 : Nat) (l1 : Int32), g_X9_cut_b32 T l0 l1 = some T1 → SP T T1 := by
  intro T l0 l1 h
  have p0 := SP.rf T
  unfold g_X9_cut_b32 at h
  obtain ⟨g2, h⟩ := oif_some h
  obtain ⟨T3, eT3, h⟩ := obind_some h
  have p1 : SP T T3 := SP.tr p0 (s_X9_add eT3)
  rw [← osome1 h]
  exact p1
set_option maxHeartbeats 4000000 in
set_option maxRecDepth 100000 in
theorem s_X9_cut_b9 {T1 : AT} : ∀ n : Nat, ∀ (T : AT) (l0 : Nat) (l1 : Int32) (l2 : Int32) (l3 : Int32), g_X9_cut_b9 n T l0 l1 l2 l3 = some T1 → SP T T1 := by
  intro n
  induction n with
  | zero =>
    intro T l0 l1 l2 l3 h
    have h : (none : Option (AT)) = some T1 := h
    cases h
  | succ n ih =>
    intro T l0 l1 l2 l3 h
    have p0 := SP.rf T
    unfold g_X9_cut_b9 at h
    rcases oif_or h with ⟨c2, h⟩ | ⟨c2, h⟩
    · have h := h
      exact SP.tr p0 (s_X9_cut_b32 _ _ _ h)
    · have h := h
      rcases oif_or h with ⟨c3, h⟩ | ⟨c3, h⟩
      · have h := h
        exact SP.tr p0 (s_X9_cut_b32 _ _ _ h)
      · have h := h
        obtain ⟨g4, h⟩ := oif_some h
        obtain ⟨r6, T5, eT5, h⟩ := obind2_some h
        have p1 : SP T T5 := SP.tr p0 (s_X9_cutOne eT5)
        obtain ⟨v7, ev7, h⟩ := elet_some h
        exact SP.tr p1 (ih _ _ _ _ _ h)
set_option maxHeartbeats 4000000 in
set_option maxRecDepth 100000 in
theorem s_X9_cut {T : AT} {o : Nat} {a0 : Int32} {T1 : AT} (h : g_X9_cut T o a0 = some T1) : SP T T1 := by
  have p0 := SP.rf T
  unfold g_X9_cut at h
  obtain ⟨g2, h⟩ := oif_some h
  obtain ⟨T3, eT3, h⟩ := elet_some h
  have p1 : SP T T3 := SP.tr p0 (by rw [eT3]; exact sp_uI)
  exact SP.tr p1 (s_X9_cut_b9 _ _ _ _ _ _ h)
def g_X6_clear (T : AT) (o : Nat) : Option (AT) := oif (oO T o 6 = true) <| obind (T.2.2.2.2 o 6) fun n3 => oif (oO T n3 1 = true) <| obind (g_X1_clear T n3) fun T5 => oif (oO T5 o 6 = true) <| elet (uI T5 o 5 0) fun T8 => oif (oO T8 o 6 = true) <| elet (uI T8 o 8 0) fun T10 => oif (oO T10 o 6 = true) <| elet (uI T10 o 11 0) fun T12 => oif (oO T12 o 6 = true) <| elet (uI T12 o 12 0) fun T14 => oif (oO T14 o 6 = true) <| elet (uI T14 o 14 0) fun T16 => oif (oO T16 o 6 = true) <| elet (uI T16 o 16 0) fun T18 => some T18
set_option maxHeartbeats 4000000 in
set_option maxRecDepth 100000 in
theorem u_X6_clear (l : Launch) (hst : l.stackTraces = false) (D : va_G) (cI cJ cZ cMic cSrc cSt cAI cAJ : ClassId) (ad : Nat → Nat) (T : AT) (o : Nat) {T1 : AT} (h : g_X6_clear T o = some T1) : kCv l yX6_clear (Cond.code yX6_clear cX6_clear 1 none :: wsA) 2 20 cI cJ cZ cMic cSrc cSt cAI cAJ D ad T [.ref (ad o)] (fun T9 => T9 = T1) := by
  intro sz
  refine pro_in (cc := cX6_clear) (maxL := 1) (ret := none) (by exact pn_RX6) rfl (by exact Nat.le_of_ble_eq_true rfl) (fun p e s m below meth c ls hx hb hr hts hown hlocks hml hv hl => ?_)
  obtain ⟨hsz, hP, hK, hD0, hX, hN⟩ := hv
  subst hsz
  have hD := hD0.self (sz := s.heap.size)
  generalize hAe : va_A (cW ad T.1 (cc cI cJ cZ cMic cSrc cSt cAI cAJ ad T)) s.heap.size = A at hD hX ⊢
  have hA : ∀ q : Nat, s.heap.size ≤ q → A q := fun q h => by rw [← hAe]; exact Or.inr h
  have G : gC cI cJ cZ cMic cSrc cSt cAI cAJ D ad A s.heap s.heap [] T := ⟨hP, hD, va_S.rf⟩
  have E : cE p c cX6_clear s m ([.ref (ad o)] : List Value).toArray (Cond.code yX6_clear cX6_clear 1 none :: wsA) D RX6 (CT cI cJ cZ cMic cSrc cSt cAI cAJ) := ⟨hx, hb, hts, hown, hK⟩
  have hl : lv_has ls 1 [(0, .ref (ad o))] := hl
  unfold g_X6_clear at h
  refine lv_aload_n hx hb dX6_clear_0 rfl (lv_at hl 0 rfl) ?_
  obtain ⟨g2, h⟩ := oif_some h
  obtain ⟨n3, en3, h⟩ := obind_some h
  refine c_get E G o 6 (v := .ref (ad n3)) (oO_k g2).1 (cc_o6 (oO_k g2).2) rfl (fun w h => .tail _ (iA_14 h)) (by decide) (.tail _ qA_209) rfl (by rw [en3]; rfl) dX6_clear_1 ?_
  clear en3
  obtain ⟨g4, h⟩ := oif_some h
  obtain ⟨T5, eT5, h⟩ := obind_some h
  refine q_cvv (As := []) (rest := []) E G hA hX hN hml (u_X1_clear l hst D cI cJ cZ cMic cSrc cSt cAI cAJ ad T n3 eT5) (cwV 0 hts (gaV qA_216 qA_217 qA_218 qA_37 qA_161) rfl rfl rfl (by decide +kernel) ⟨Nat.le_of_ble_eq_true rfl, Nat.le_of_ble_eq_true rfl⟩) (oO_k g4).1 (cc_o1 (oO_k g4).2) rfl rfl hl.1 rfl (lv_room (Nat.le_of_ble_eq_true rfl)) dX6_clear_4 ⟨Nat.zero_le _, Nat.zero_le _⟩ (fun T6 H locs hq G => ?_)
  rw [hq] at G
  clear hq eT5
  refine lv_aload_n hx hb dX6_clear_7 rfl (lv_at hl 0 rfl) ?_
  refine lv_iconst (v := 0) hx hb dX6_clear_8 (by decide) ?_
  obtain ⟨g7, h⟩ := oif_some h
  refine c_put E G o 5 (v := .int 0) (oO_k g7).1 (cc_o6 (oO_k g7).2) rfl (fun w h => .tail _ (iA_14 h)) tyX6 tyX6_ok nmX6 (by decide) (.tail _ qA_210) ⟨rfl, rfl, rfl⟩ rfl rfl (Nat.le_of_ble_eq_true rfl) dX6_clear_9 (fun H locs G => ?_)
  have G := gC_up_i (f := upd (T5.2.2.1 o) 5 0) (by rw [(oO_k g7).2]; rfl) G
  obtain ⟨T8, eT8, h⟩ := elet_some h
  have G : gC cI cJ cZ cMic cSrc cSt cAI cAJ D ad A s.heap H locs T8 := by rw [eT8]; exact G
  clear eT8
  refine lv_aload_n hx hb dX6_clear_12 rfl (lv_at hl 0 rfl) ?_
  refine lv_iconst (v := 0) hx hb dX6_clear_13 (by decide) ?_
  obtain ⟨g9, h⟩ := oif_some h
  refine c_put E G o 8 (v := .int 0) (oO_k g9).1 (cc_o6 (oO_k g9).2) rfl (fun w h => .tail _ (iA_14 h)) tyX6 tyX6_ok nmX6 (by decide) (.tail _ qA_211) ⟨rfl, rfl, rfl⟩ rfl rfl (Nat.le_of_ble_eq_true rfl) dX6_clear_14 (fun H locs G => ?_)
  have G := gC_up_i (f := upd (T8.2.2.1 o) 8 0) (by rw [(oO_k g9).2]; rfl) G
  obtain ⟨T10, eT10, h⟩ := elet_some h
  have G : gC cI cJ cZ cMic cSrc cSt cAI cAJ D ad A s.heap H locs T10 := by rw [eT10]; exact G
  clear eT10
  refine lv_aload_n hx hb dX6_clear_17 rfl (lv_at hl 0 rfl) ?_
  refine lv_iconst (v := 0) hx hb dX6_clear_18 (by decide) ?_
  obtain ⟨g11, h⟩ := oif_some h
  refine c_put E G o 11 (v := .int 0) (oO_k g11).1 (cc_o6 (oO_k g11).2) rfl (fun w h => .tail _ (iA_14 h)) tyX6 tyX6_ok nmX6 (by decide) (.tail _ qA_212) ⟨rfl, rfl, rfl⟩ rfl rfl (Nat.le_of_ble_eq_true rfl) dX6_clear_19 (fun H locs G => ?_)
  have G := gC_up_i (f := upd (T10.2.2.1 o) 11 0) (by rw [(oO_k g11).2]; rfl) G
  obtain ⟨T12, eT12, h⟩ := elet_some h
  have G : gC cI cJ cZ cMic cSrc cSt cAI cAJ D ad A s.heap H locs T12 := by rw [eT12]; exact G
  clear eT12
  refine lv_aload_n hx hb dX6_clear_22 rfl (lv_at hl 0 rfl) ?_
  refine lv_iconst (v := 0) hx hb dX6_clear_23 (by decide) ?_
  obtain ⟨g13, h⟩ := oif_some h
  refine c_put E G o 12 (v := .int 0) (oO_k g13).1 (cc_o6 (oO_k g13).2) rfl (fun w h => .tail _ (iA_14 h)) tyX6 tyX6_ok nmX6 (by decide) (.tail _ qA_213) ⟨rfl, rfl, rfl⟩ rfl rfl (Nat.le_of_ble_eq_true rfl) dX6_clear_24 (fun H locs G => ?_)
  have G := gC_up_i (f := upd (T12.2.2.1 o) 12 0) (by rw [(oO_k g13).2]; rfl) G
  obtain ⟨T14, eT14, h⟩ := elet_some h
  have G : gC cI cJ cZ cMic cSrc cSt cAI cAJ D ad A s.heap H locs T14 := by rw [eT14]; exact G
  clear eT14
  refine lv_aload_n hx hb dX6_clear_27 rfl (lv_at hl 0 rfl) ?_
  refine lv_iconst (v := 0) hx hb dX6_clear_28 (by decide) ?_
  obtain ⟨g15, h⟩ := oif_some h
  refine c_put E G o 14 (v := .int 0) (oO_k g15).1 (cc_o6 (oO_k g15).2) rfl (fun w h => .tail _ (iA_14 h)) tyX6 tyX6_ok nmX6 (by decide) (.tail _ qA_214) ⟨rfl, rfl, rfl⟩ rfl rfl (Nat.le_of_ble_eq_true rfl) dX6_clear_29 (fun H locs G => ?_)
  have G := gC_up_i (f := upd (T14.2.2.1 o) 14 0) (by rw [(oO_k g15).2]; rfl) G
  obtain ⟨T16, eT16, h⟩ := elet_some h
  have G : gC cI cJ cZ cMic cSrc cSt cAI cAJ D ad A s.heap H locs T16 := by rw [eT16]; exact G
  clear eT16
  refine lv_aload_n hx hb dX6_clear_32 rfl (lv_at hl 0 rfl) ?_
  refine lv_iconst (v := 0) hx hb dX6_clear_33 (by decide) ?_
  obtain ⟨g17, h⟩ := oif_some h
  refine c_put E G o 16 (v := .int 0) (oO_k g17).1 (cc_o6 (oO_k g17).2) rfl (fun w h => .tail _ (iA_14 h)) tyX6 tyX6_ok nmX6 (by decide) (.tail _ qA_215) ⟨rfl, rfl, rfl⟩ rfl rfl (Nat.le_of_ble_eq_true rfl) dX6_clear_34 (fun H locs G => ?_)
  have G := gC_up_i (f := upd (T16.2.2.1 o) 16 0) (by rw [(oO_k g17).2]; rfl) G
  obtain ⟨T18, eT18, h⟩ := elet_some h
  have G : gC cI cJ cZ cMic cSrc cSt cAI cAJ D ad A s.heap H locs T18 := by rw [eT18]; exact G
  clear eT18
  exact W.vret hx hb hr (fun t ht hW => ⟨⟨T18, rfl, osome1 h, ⟨by rw [ht]; exact G.1, va_K.moved hW.alike hK, G.2.1⟩⟩, G.2.2.F ht⟩) G.2.2.2.2 dX6_clear_37
set_option maxHeartbeats 4000000 in
set_option maxRecDepth 100000 in
theorem s_X6_clear {T : AT} {o : Nat} {T1 : AT} (h : g_X6_clear T o = some T1) : SP T T1 := by
  have p0 := SP.rf T
  unfold g_X6_clear at h
  obtain ⟨g2, h⟩ := oif_some h
  obtain ⟨n3, en3, h⟩ := obind_some h
  obtain ⟨g4, h⟩ := oif_some h
  obtain ⟨T5, eT5, h⟩ := obind_some h
  have p1 : SP T T5 := SP.tr p0 (s_X1_clear eT5)
  obtain ⟨g7, h⟩ := oif_some h
  obtain ⟨T8, eT8, h⟩ := elet_some h
  have p2 : SP T T8 := SP.tr p1 (by rw [eT8]; exact sp_uI)
  obtain ⟨g9, h⟩ := oif_some h
  obtain ⟨T10, eT10, h⟩ := elet_some h
  have p3 : SP T T10 := SP.tr p2 (by rw [eT10]; exact sp_uI)
  obtain ⟨g11, h⟩ := oif_some h
  obtain ⟨T12, eT12, h⟩ := elet_some h
  have p4 : SP T T12 := SP.tr p3 (by rw [eT12]; exact sp_uI)
  obtain ⟨g13, h⟩ := oif_some h
  obtain ⟨T14, eT14, h⟩ := elet_some h
  have p5 : SP T T14 := SP.tr p4 (by rw [eT14]; exact sp_uI)
  obtain ⟨g15, h⟩ := oif_some h
  obtain ⟨T16, eT16, h⟩ := elet_some h
  have p6 : SP T T16 := SP.tr p5 (by rw [eT16]; exact sp_uI)
  obtain ⟨g17, h⟩ := oif_some h
  obtain ⟨T18, eT18, h⟩ := elet_some h
  have p7 : SP T T18 := SP.tr p6 (by rw [eT18]; exact sp_uI)
  rw [← osome1 h]
  exact p7
def g_X3_kind_b30  (T : AT) (s0 : Int32) : Option (Int32 × AT) := some (s0, T)
set_option maxHeartbeats 4000000 in
set_option maxRecDepth 100000 in
theorem u_X3_kind_b30 {p : Program} {l : Launch} {e : Env} {s : State} {m : MethodId} {args : Array Value} {below : List Frame} {meth : Method} {c : Code} {Q : State → Prop} {D : va_G} {A : Nat → Prop} {cI cJ cZ cMic cSrc cSt cAI cAJ : ClassId} {ad : Nat → Nat} {r1 : Int32} {T1 : AT} (E : cE p c cX3_kind s m args (Cond.code yX3_kind cX3_kind 1 (some .int) :: wsA) D RX3 (CT cI cJ cZ cMic cSrc cSt cAI cAJ)) (hA : ∀ q : Nat, s.heap.size ≤ q → A q) (hX : xT A s) (hN : nX s) (hml : c.maxLocals = 1) (hst : l.stackTraces = false) (kr30 : ∀ (H : Heap) (locs : List Loc) (ls : Array Slot), gC cI cJ cZ cMic cSrc cSt cAI cAJ D ad A s.heap H locs T1 → W p l e { frames := 1, cells := 0, slots := 0, locals := 0 } s m args below meth c H locs 0 0 Q (F0 m 30 ls [.int r1])) : ∀ (T : AT) (H : Heap) (locs : List Loc) (ls : Array Slot) (s0 : Int32), g_X3_kind_b30 T s0 = some (r1, T1) → gC cI cJ cZ cMic cSrc cSt cAI cAJ D ad A s.heap H locs T → lv_has ls 1 [] → W p l e { frames := 1, cells := 0, slots := 0, locals := 0 } s m args below meth c H locs 0 0 Q (F0 m 30 ls [.int s0]) := by
  have hx := E.1
  have hb := E.2.1
  have hts := E.2.2.1
  have hown := E.2.2.2.1
  have hK := E.2.2.2.2
  intro T H locs ls s0 h G hl
  unfold g_X3_kind_b30 at h
  rw [(osome2 h).2] at G
  refine lv_to (osome2 h).1 ?_
  exact kr30 _ _ _ G
def g_X3_kind (T : AT) (o : Nat) : Option (Int32 × AT) := oif (oO T o 3 = true) <| elet (T.2.2.1 o 1) fun v3 => oif (oO T o 3 = true) <| obind (T.2.2.2.2 o 0) fun n5 => oif (oO T n5 9 = true) <| elet (T.2.2.1 n5 5) fun v7 => if v7 ≤ v3 then (g_X3_kind_b30 T 5) else (oif (oO T o 3 = true) <| obind (T.2.2.2.2 o 0) fun n10 => oif (oO T n10 9 = true) <| obind (T.2.2.2.2 n10 2) fun n12 => oif (oO T o 3 = true) <| elet (T.2.2.1 o 1) fun v14 => oif (aA T n12 100 = true) <| oif (inb v14 (T.2.1 n12).2 = true) <| elet (T.2.2.1 n12 v14.toNatClampNeg) fun v17 => g_X3_kind_b30 T v17)
set_option maxHeartbeats 4000000 in
set_option maxRecDepth 100000 in
theorem u_X3_kind (l : Launch) (hst : l.stackTraces = false) (D : va_G) (cI cJ cZ cMic cSrc cSt cAI cAJ : ClassId) (ad : Nat → Nat) (T : AT) (o : Nat) {r1 : Int32} {T1 : AT} (h : g_X3_kind T o = some (r1, T1)) : kCi l yX3_kind (Cond.code yX3_kind cX3_kind 1 (some .int) :: wsA) 1 0 cI cJ cZ cMic cSrc cSt cAI cAJ D ad T [.ref (ad o)] (fun r T9 => r = r1 ∧ T9 = T1) := by
  intro sz
  refine pro_in (cc := cX3_kind) (maxL := 1) (ret := (some .int)) (by exact pn_RX3) rfl (by exact Nat.le_of_ble_eq_true rfl) (fun p e s m below meth c ls hx hb hr hts hown hlocks hml hv hl => ?_)
  obtain ⟨hsz, hP, hK, hD0, hX, hN⟩ := hv
  subst hsz
  have hD := hD0.self (sz := s.heap.size)
  generalize hAe : va_A (cW ad T.1 (cc cI cJ cZ cMic cSrc cSt cAI cAJ ad T)) s.heap.size = A at hD hX ⊢
  have hA : ∀ q : Nat, s.heap.size ≤ q → A q := fun q h => by rw [← hAe]; exact Or.inr h
  have G : gC cI cJ cZ cMic cSrc cSt cAI cAJ D ad A s.heap s.heap [] T := ⟨hP, hD, va_S.rf⟩
  have E : cE p c cX3_kind s m ([.ref (ad o)] : List Value).toArray (Cond.code yX3_kind cX3_kind 1 (some .int) :: wsA) D RX3 (CT cI cJ cZ cMic cSrc cSt cAI cAJ) := ⟨hx, hb, hts, hown, hK⟩
  have hl : lv_has ls 1 [(0, .ref (ad o))] := hl
  unfold g_X3_kind at h
  refine lv_aload_n hx hb dX3_kind_0 rfl (lv_at hl 0 rfl) ?_
  obtain ⟨g2, h⟩ := oif_some h
  refine c_get E G o 1 (oO_k g2).1 (cc_o3 (oO_k g2).2) rfl (fun w h => .tail _ (iA_17 h)) (by decide) (.tail _ qA_176) rfl rfl dX3_kind_1 ?_
  refine lv_topi (fun v3 ev3 => ?_)
  have h := elet_at ev3 h
  clear ev3
  refine lv_aload_n hx hb dX3_kind_4 rfl (lv_at hl 0 rfl) ?_
  obtain ⟨g4, h⟩ := oif_some h
  obtain ⟨n5, en5, h⟩ := obind_some h
  refine c_get E G o 0 (v := .ref (ad n5)) (oO_k g4).1 (cc_o3 (oO_k g4).2) rfl (fun w h => .tail _ (iA_17 h)) (by decide) (.tail _ qA_174) rfl (by rw [en5]; rfl) dX3_kind_5 ?_
  clear en5
  obtain ⟨g6, h⟩ := oif_some h
  refine c_get E G n5 5 (oO_k g6).1 (cc_o9 (oO_k g6).2) rfl (fun w h => .tail _ (iA_18 h)) (by decide) (.tail _ qA_177) rfl rfl dX3_kind_8 ?_
  refine lv_topi (fun v7 ev7 => ?_)
  have h := elet_at ev7 h
  clear ev7
  refine lv_icmp_ge (tgt := 29) hx hb dX3_kind_11 (by decide) (fun c8 => ?_) (fun c8 => ?_)
  · have h := oif_pos c8 h
    refine lv_iconst (v := 5) hx hb dX3_kind_29 (by decide) ?_
    have hl := lv_sub hl [] rfl
    exact u_X3_kind_b30 E hA hX hN hml hst (fun H locs ls G => W.iret (v := r1) hx hb hr (fun t ht hW => ⟨⟨r1, T1, rfl, ⟨rfl, rfl⟩, ⟨by rw [ht]; exact G.1, va_K.moved hW.alike hK, G.2.1⟩⟩, G.2.2.F ht⟩) G.2.2.2.2 dX3_kind_30) _ _ _ _ _ h G hl
  · have h := oif_neg c8 h
    refine lv_aload_n hx hb dX3_kind_14 rfl (lv_at hl 0 rfl) ?_
    obtain ⟨g9, h⟩ := oif_some h
    obtain ⟨n10, en10, h⟩ := obind_some h
    refine c_get E G o 0 (v := .ref (ad n10)) (oO_k g9).1 (cc_o3 (oO_k g9).2) rfl (fun w h => .tail _ (iA_17 h)) (by decide) (.tail _ qA_174) rfl (by rw [en10]; rfl) dX3_kind_15 ?_
    clear en10
    obtain ⟨g11, h⟩ := oif_some h
    obtain ⟨n12, en12, h⟩ := obind_some h
    refine c_get E G n10 2 (v := .ref (ad n12)) (oO_k g11).1 (cc_o9 (oO_k g11).2) rfl (fun w h => .tail _ (iA_18 h)) (by decide) (.tail _ qA_243) rfl (by rw [en12]; rfl) dX3_kind_18 ?_
    clear en12
    refine lv_aload_n hx hb dX3_kind_21 rfl (lv_at hl 0 rfl) ?_
    obtain ⟨g13, h⟩ := oif_some h
    refine c_get E G o 1 (oO_k g13).1 (cc_o3 (oO_k g13).2) rfl (fun w h => .tail _ (iA_17 h)) (by decide) (.tail _ qA_176) rfl rfl dX3_kind_22 ?_
    refine lv_topi (fun v14 ev14 => ?_)
    have h := elet_at ev14 h
    clear ev14
    obtain ⟨g15, h⟩ := oif_some h
    obtain ⟨g16, h⟩ := oif_some h
    refine c_iald E G n12 0 (k := v14.toNatClampNeg) (aA_k g15).1 (cc_a100 (aA_k g15).2.1) rfl (inb_k g16).1 (inb_k g16).2 (aA_k g15).2.2 dX3_kind_25 ?_
    refine lv_topi (fun v17 ev17 => ?_)
    have h := elet_at ev17 h
    clear ev17
    refine lv_goto (tgt := 30) hx hb dX3_kind_26 (by decide) ?_
    have hl := lv_sub hl [] rfl
    exact u_X3_kind_b30 E hA hX hN hml hst (fun H locs ls G => W.iret (v := r1) hx hb hr (fun t ht hW => ⟨⟨r1, T1, rfl, ⟨rfl, rfl⟩, ⟨by rw [ht]; exact G.1, va_K.moved hW.alike hK, G.2.1⟩⟩, G.2.2.F ht⟩) G.2.2.2.2 dX3_kind_30) _ _ _ _ _ h G hl
set_option maxHeartbeats 4000000 in
set_option maxRecDepth 100000 in
theorem s_X3_kind_b30 {r1 : Int32} {T1 : AT} : ∀ (T : AT) (s0 : Int32), g_X3_kind_b30 T s0 = some (r1, T1) → SP T T1 := by
  intro T s0 h
  have p0 := SP.rf T
  unfold g_X3_kind_b30 at h
  rw [← (osome2 h).2]
  exact p0
set_option maxHeartbeats 4000000 in
set_option maxRecDepth 100000 in
theorem s_X3_kind {T : AT} {o : Nat} {r1 : Int32} {T1 : AT} (h : g_X3_kind T o = some (r1, T1)) : SP T T1 := by
  have p0 := SP.rf T
  unfold g_X3_kind at h
  obtain ⟨g2, h⟩ := oif_some h
  obtain ⟨v3, -, h⟩ := elet_some h
  obtain ⟨g4, h⟩ := oif_some h
  obtain ⟨n5, en5, h⟩ := obind_some h
  obtain ⟨g6, h⟩ := oif_some h
  obtain ⟨v7, -, h⟩ := elet_some h
  rcases oif_or h with ⟨c8, h⟩ | ⟨c8, h⟩
  · have h := h
    exact SP.tr p0 (s_X3_kind_b30 _ _ h)
  · have h := h
    obtain ⟨g9, h⟩ := oif_some h
    obtain ⟨n10, en10, h⟩ := obind_some h
    obtain ⟨g11, h⟩ := oif_some h
    obtain ⟨n12, en12, h⟩ := obind_some h
    obtain ⟨g13, h⟩ := oif_some h
    obtain ⟨v14, -, h⟩ := elet_some h
    obtain ⟨g15, h⟩ := oif_some h
    obtain ⟨g16, h⟩ := oif_some h
    obtain ⟨v17, -, h⟩ := elet_some h
    exact SP.tr p0 (s_X3_kind_b30 _ _ h)
def g_X3_isWord_b51 (tx : Nat × (Nat → Int32))  : Nat → AT → Nat → Int32 → Int32 → Int32 → Option (Int32 × AT)
  | 0, _, _, _, _, _ => none
  | n + 1, T, l0, l2, l3, l4 => if l3 ≤ l4 then (some (1, T)) else (oif (oO T l0 3 = true) <| obind (T.2.2.2.2 l0 0) fun n4 => oif (oO T n4 9 = true) <| obind (T.2.2.2.2 n4 0) fun n6 => elet (l2 + l4) fun v7 => oif (aA T n6 100 = true) <| oif (inb v7 (T.2.1 n6).2 = true) <| elet (T.2.2.1 n6 v7.toNatClampNeg) fun v10 => oif (inb l4 tx.1 = true) <| elet (s_ch (tx.2 l4.toNatClampNeg)) fun v13 => if v10 = v13 then (elet (l4 + Int32.ofInt (1)) fun v15 => g_X3_isWord_b51 tx n T l0 l2 l3 v15) else (some (0, T)))
set_option maxHeartbeats 4000000 in
set_option maxRecDepth 100000 in
theorem u_X3_isWord_b51 {p : Program} {l : Launch} {e : Env} {s : State} {m : MethodId} {args : Array Value} {below : List Frame} {meth : Method} {c : Code} {Q : State → Prop} {D : va_G} {A : Nat → Prop} {cI cJ cZ cMic cSrc cSt cAI cAJ : ClassId} {ad : Nat → Nat} {r1 : Int32} {T1 : AT} (E : cE p c cX3_isWord s m args (Cond.code yX3_isWord cX3_isWord 5 (some .boolean) :: wsA) D RX3 (CT cI cJ cZ cMic cSrc cSt cAI cAJ)) (hA : ∀ q : Nat, s.heap.size ≤ q → A q) (hX : xT A s) (hN : nX s) (hml : c.maxLocals = 5) (hst : l.stackTraces = false) {h0 : Nat} (hA0 : ∀ a : Nat, A a → h0 ≤ a) (hT : sAll h0 s) {q : Nat} {tx : Nat × (Nat → Int32)} (hO : sO tx q (fun a => h0 ≤ a) s s.heap) (hC : sT tx) (kr9 : ∀ (H : Heap) (locs : List Loc) (ls : Array Slot), (r1 = 0 ∨ r1 = 1) → gC cI cJ cZ cMic cSrc cSt cAI cAJ D ad A s.heap H locs T1 → W p l e { frames := 5, cells := 0, slots := 0, locals := 87 } s m args below meth c H locs 0 0 Q (F0 m 9 ls [.int r1])) (kr47 : ∀ (H : Heap) (locs : List Loc) (ls : Array Slot), (r1 = 0 ∨ r1 = 1) → gC cI cJ cZ cMic cSrc cSt cAI cAJ D ad A s.heap H locs T1 → W p l e { frames := 5, cells := 0, slots := 0, locals := 87 } s m args below meth c H locs 0 0 Q (F0 m 47 ls [.int r1])) (kr79 : ∀ (H : Heap) (locs : List Loc) (ls : Array Slot), (r1 = 0 ∨ r1 = 1) → gC cI cJ cZ cMic cSrc cSt cAI cAJ D ad A s.heap H locs T1 → W p l e { frames := 5, cells := 0, slots := 0, locals := 87 } s m args below meth c H locs 0 0 Q (F0 m 79 ls [.int r1])) (kr87 : ∀ (H : Heap) (locs : List Loc) (ls : Array Slot), (r1 = 0 ∨ r1 = 1) → gC cI cJ cZ cMic cSrc cSt cAI cAJ D ad A s.heap H locs T1 → W p l e { frames := 5, cells := 0, slots := 0, locals := 87 } s m args below meth c H locs 0 0 Q (F0 m 87 ls [.int r1])) : ∀ n : Nat, ∀ (T : AT) (H : Heap) (locs : List Loc) (ls : Array Slot) (l0 : Nat) (l2 : Int32) (l3 : Int32) (l4 : Int32), g_X3_isWord_b51 tx n T l0 l2 l3 l4 = some (r1, T1) → gC cI cJ cZ cMic cSrc cSt cAI cAJ D ad A s.heap H locs T → lv_has ls 5 [(0, .ref (ad l0)), (1, .ref q), (2, .int l2), (3, .int l3), (4, .int l4)] → W p l e { frames := 5, cells := 0, slots := 0, locals := 87 } s m args below meth c H locs 0 0 Q (F0 m 51 ls []) := by
  have hx := E.1
  have hb := E.2.1
  have hts := E.2.2.1
  have hown := E.2.2.2.1
  have hK := E.2.2.2.2
  intro n
  induction n with
  | zero =>
    intro T H locs ls l0 l2 l3 l4 h
    have h : (none : Option (Int32 × AT)) = some (r1, T1) := h
    cases h
  | succ n ih =>
    intro T H locs ls l0 l2 l3 l4 h G hl
    unfold g_X3_isWord_b51 at h
    refine lv_iload hx hb dX3_isWord_51 (lv_at hl 4 rfl) ?_
    refine lv_iload_n hx hb dX3_isWord_53 rfl (lv_at hl 3 rfl) ?_
    refine lv_icmp_ge (tgt := 86) hx hb dX3_isWord_54 (by decide) (fun c2 => ?_) (fun c2 => ?_)
    · have h := oif_pos c2 h
      refine lv_iconst (v := 1) hx hb dX3_isWord_86 (by decide) ?_
      rw [(osome2 h).2] at G
      refine lv_to (osome2 h).1 ?_
      exact kr87 _ _ _ (.inr ((osome2 h).1).symm) G
    · have h := oif_neg c2 h
      refine lv_aload_n hx hb dX3_isWord_57 rfl (lv_at hl 0 rfl) ?_
      obtain ⟨g3, h⟩ := oif_some h
      obtain ⟨n4, en4, h⟩ := obind_some h
      refine c_get E G l0 0 (v := .ref (ad n4)) (oO_k g3).1 (cc_o3 (oO_k g3).2) rfl (fun w h => .tail _ (iA_17 h)) (by decide) (.tail _ qA_174) rfl (by rw [en4]; rfl) dX3_isWord_58 ?_
      clear en4
      obtain ⟨g5, h⟩ := oif_some h
      obtain ⟨n6, en6, h⟩ := obind_some h
      refine c_get E G n4 0 (v := .ref (ad n6)) (oO_k g5).1 (cc_o9 (oO_k g5).2) rfl (fun w h => .tail _ (iA_18 h)) (by decide) (.tail _ qA_238) rfl (by rw [en6]; rfl) dX3_isWord_61 ?_
      clear en6
      refine lv_iload_n hx hb dX3_isWord_64 rfl (lv_at hl 2 rfl) ?_
      refine lv_iload hx hb dX3_isWord_65 (lv_at hl 4 rfl) ?_
      refine lv_iadd hx hb dX3_isWord_67 ?_
      refine lv_topi (fun v7 ev7 => ?_)
      have h := elet_at ev7 h
      clear ev7
      obtain ⟨g8, h⟩ := oif_some h
      obtain ⟨g9, h⟩ := oif_some h
      refine c_iald E G n6 0 (k := v7.toNatClampNeg) (aA_k g8).1 (cc_a100 (aA_k g8).2.1) rfl (inb_k g9).1 (inb_k g9).2 (aA_k g8).2.2 dX3_isWord_68 ?_
      refine lv_topi (fun v10 ev10 => ?_)
      have h := elet_at ev10 h
      clear ev10
      refine lv_aload_n hx hb dX3_isWord_69 rfl (lv_at hl 1 rfl) ?_
      refine lv_iload hx hb dX3_isWord_70 (lv_at hl 4 rfl) ?_
      obtain ⟨g12, h⟩ := oif_some h
      refine lv_to (inb_k g12).1 ?_
      refine s_callV (As := [.int (nI l4.toNatClampNeg)]) (rest := [.int v10]) ⟨hx, hb, hml, hown, hts⟩ (ja_charAt l (tx := tx) (q := q) (inb_k g12).2 hC.1 (hC.2 _ (inb_k g12).2)) (cwV 1 hts (gaV qA_256 qA_257 qA_258 qA_247 qA_259) rfl rfl rfl (by decide +kernel) ⟨Nat.le_of_ble_eq_true rfl, Nat.le_of_ble_eq_true rfl⟩) (sO.recv hO hA0 G.2.2) (fun _ _ _ _ h => h.blind) (sP.go hO hT.2 hA0 G.2.2) rfl hl.1 rfl (lv_room (Nat.le_of_ble_eq_true rfl)) dX3_isWord_72 ⟨Nat.zero_le _, Nat.zero_le _⟩ (fun r11 hq => ?_)
      refine lv_to hq ?_
      clear hq
      refine lv_topi (fun v13 ev13 => ?_)
      have h := elet_at ev13 h
      clear ev13
      refine lv_icmp_eq (tgt := 80) hx hb dX3_isWord_75 (by decide) (fun c14 => ?_) (fun c14 => ?_)
      · have h := oif_pos c14 h
        obtain ⟨v15, ev15, h⟩ := elet_some h
        refine lv_iinc (v := v15) (lv' := [(4, .int v15), (0, .ref (ad l0)), (1, .ref q), (2, .int l2), (3, .int l3)]) hx hb dX3_isWord_80 hl (k := 4) rfl ev15.symm (by decide) rfl (fun ls hl => ?_)
        refine lv_goto (tgt := 51) hx hb dX3_isWord_83 (by decide) ?_
        have hl := lv_sub hl [1, 2, 3, 4, 0] rfl
        exact ih _ _ _ _ _ _ _ _ h G hl
      · have h := oif_neg c14 h
        refine lv_iconst (v := 0) hx hb dX3_isWord_78 (by decide) ?_
        rw [(osome2 h).2] at G
        refine lv_to (osome2 h).1 ?_
        exact kr79 _ _ _ (.inl ((osome2 h).1).symm) G
def g_X3_isWord (T : AT) (tx : Nat × (Nat → Int32)) (o : Nat) : Option (Int32 × AT) := oif (oO T o 3 = true) <| obind2 (g_X3_kind T o) fun r5 T3 => if r5 = 1 then (oif (oO T3 o 3 = true) <| obind (T3.2.2.2.2 o 0) fun n9 => oif (oO T3 n9 9 = true) <| obind (T3.2.2.2.2 n9 3) fun n11 => oif (oO T3 o 3 = true) <| elet (T3.2.2.1 o 1) fun v13 => oif (aA T3 n11 100 = true) <| oif (inb v13 (T3.2.1 n11).2 = true) <| elet (T3.2.2.1 n11 v13.toNatClampNeg) fun v16 => oif (oO T3 o 3 = true) <| obind (T3.2.2.2.2 o 0) fun n18 => oif (oO T3 n18 9 = true) <| obind (T3.2.2.2.2 n18 4) fun n20 => oif (oO T3 o 3 = true) <| elet (T3.2.2.1 o 1) fun v22 => oif (aA T3 n20 100 = true) <| oif (inb v22 (T3.2.1 n20).2 = true) <| elet (T3.2.2.1 n20 v22.toNatClampNeg) fun v25 => elet (v25 - v16) fun v26 => elet (nI tx.1 >>> (0 &&& 31)) fun v28 => if v26 = v28 then (g_X3_isWord_b51 tx 16384 T3 o v16 v26 0) else (some (0, T3))) else (some (0, T3))
set_option maxHeartbeats 4000000 in
set_option maxRecDepth 100000 in
theorem u_X3_isWord (l : Launch) (hst : l.stackTraces = false) (D : va_G) (cI cJ cZ cMic cSrc cSt cAI cAJ : ClassId) (ad : Nat → Nat) (T : AT) (h0 : Nat) {q : Nat} {tx : Nat × (Nat → Int32)} (hC : sT tx) (o : Nat) {r1 : Int32} {T1 : AT} (h : g_X3_isWord T tx o = some (r1, T1)) : kCiX l yX3_isWord (Cond.code yX3_isWord cX3_isWord 5 (some .boolean) :: wsA) 5 87 cI cJ cZ cMic cSrc cSt cAI cAJ D ad T [.ref (ad o), .ref q] (yT1 cI cJ cZ cMic cSrc cSt cAI cAJ h0 ad T tx q) (fun r T9 => r = r1 ∧ T9 = T1) := by
  intro sz
  refine pro_in (cc := cX3_isWord) (maxL := 5) (ret := (some .boolean)) (by exact pn_RX3) rfl (by exact Nat.le_of_ble_eq_true rfl) (fun p e s m below meth c ls hx hb hr hts hown hlocks hml hv hl => ?_)
  obtain ⟨⟨hsz, hP, hK, hD0, hX, hN⟩, ⟨hA1, hT⟩, hO⟩ := hv
  subst hsz
  have hD := hD0.self (sz := s.heap.size)
  generalize hAe : va_A (cW ad T.1 (cc cI cJ cZ cMic cSrc cSt cAI cAJ ad T)) s.heap.size = A at hD hX hA1 ⊢
  have hA : ∀ q : Nat, s.heap.size ≤ q → A q := fun q h => by rw [← hAe]; exact Or.inr h
  have G : gC cI cJ cZ cMic cSrc cSt cAI cAJ D ad A s.heap s.heap [] T := ⟨hP, hD, va_S.rf⟩
  have E : cE p c cX3_isWord s m ([.ref (ad o), .ref q] : List Value).toArray (Cond.code yX3_isWord cX3_isWord 5 (some .boolean) :: wsA) D RX3 (CT cI cJ cZ cMic cSrc cSt cAI cAJ) := ⟨hx, hb, hts, hown, hK⟩
  have hA0 : ∀ a : Nat, A a → h0 ≤ a := hA1
  have hl : lv_has ls 5 [(0, .ref (ad o)), (1, .ref q)] := hl
  unfold g_X3_isWord at h
  refine lv_aload_n hx hb dX3_isWord_0 rfl (lv_at hl 0 rfl) ?_
  obtain ⟨g2, h⟩ := oif_some h
  obtain ⟨r5, T3, eT3, h⟩ := obind2_some h
  refine q_cvi (As := []) (rest := []) E G hA hX hN hml (u_X3_kind l hst D cI cJ cZ cMic cSrc cSt cAI cAJ ad T o eT3) (cwV 0 hts (gaV qA_239 qA_240 qA_241 qA_222 qA_242) rfl rfl rfl (by decide +kernel) ⟨Nat.le_of_ble_eq_true rfl, Nat.le_of_ble_eq_true rfl⟩) (oO_k g2).1 (cc_o3 (oO_k g2).2) rfl rfl hl.1 rfl (lv_room (Nat.le_of_ble_eq_true rfl)) dX3_isWord_1 ⟨Nat.zero_le _, Nat.zero_le _⟩ (fun q6 T4 H locs hq G => ?_)
  obtain ⟨hq1, hq2⟩ := hq
  rw [hq2] at G
  refine lv_to hq1 ?_
  clear hq1 hq2 eT3
  refine lv_iconst (v := 1) hx hb dX3_isWord_4 (by decide) ?_
  refine lv_icmp_eq (tgt := 10) hx hb dX3_isWord_5 (by decide) (fun c7 => ?_) (fun c7 => ?_)
  · have h := oif_pos c7 h
    refine lv_aload_n hx hb dX3_isWord_10 rfl (lv_at hl 0 rfl) ?_
    obtain ⟨g8, h⟩ := oif_some h
    obtain ⟨n9, en9, h⟩ := obind_some h
    refine c_get E G o 0 (v := .ref (ad n9)) (oO_k g8).1 (cc_o3 (oO_k g8).2) rfl (fun w h => .tail _ (iA_17 h)) (by decide) (.tail _ qA_174) rfl (by rw [en9]; rfl) dX3_isWord_11 ?_
    clear en9
    obtain ⟨g10, h⟩ := oif_some h
    obtain ⟨n11, en11, h⟩ := obind_some h
    refine c_get E G n9 3 (v := .ref (ad n11)) (oO_k g10).1 (cc_o9 (oO_k g10).2) rfl (fun w h => .tail _ (iA_18 h)) (by decide) (.tail _ qA_236) rfl (by rw [en11]; rfl) dX3_isWord_14 ?_
    clear en11
    refine lv_aload_n hx hb dX3_isWord_17 rfl (lv_at hl 0 rfl) ?_
    obtain ⟨g12, h⟩ := oif_some h
    refine c_get E G o 1 (oO_k g12).1 (cc_o3 (oO_k g12).2) rfl (fun w h => .tail _ (iA_17 h)) (by decide) (.tail _ qA_176) rfl rfl dX3_isWord_18 ?_
    refine lv_topi (fun v13 ev13 => ?_)
    have h := elet_at ev13 h
    clear ev13
    obtain ⟨g14, h⟩ := oif_some h
    obtain ⟨g15, h⟩ := oif_some h
    refine c_iald E G n11 0 (k := v13.toNatClampNeg) (aA_k g14).1 (cc_a100 (aA_k g14).2.1) rfl (inb_k g15).1 (inb_k g15).2 (aA_k g14).2.2 dX3_isWord_21 ?_
    refine lv_topi (fun v16 ev16 => ?_)
    have h := elet_at ev16 h
    clear ev16
    refine lv_istore_n (lv' := [(2, .int v16), (0, .ref (ad o)), (1, .ref q)]) hx hb dX3_isWord_22 rfl hl (by decide) rfl (fun ls hl => ?_)
    refine lv_aload_n hx hb dX3_isWord_23 rfl (lv_at hl 1 rfl) ?_
    obtain ⟨g17, h⟩ := oif_some h
    obtain ⟨n18, en18, h⟩ := obind_some h
    refine c_get E G o 0 (v := .ref (ad n18)) (oO_k g17).1 (cc_o3 (oO_k g17).2) rfl (fun w h => .tail _ (iA_17 h)) (by decide) (.tail _ qA_174) rfl (by rw [en18]; rfl) dX3_isWord_24 ?_
    clear en18
    obtain ⟨g19, h⟩ := oif_some h
    obtain ⟨n20, en20, h⟩ := obind_some h
    refine c_get E G n18 4 (v := .ref (ad n20)) (oO_k g19).1 (cc_o9 (oO_k g19).2) rfl (fun w h => .tail _ (iA_18 h)) (by decide) (.tail _ qA_237) rfl (by rw [en20]; rfl) dX3_isWord_27 ?_
    clear en20
    refine lv_aload_n hx hb dX3_isWord_30 rfl (lv_at hl 1 rfl) ?_
    obtain ⟨g21, h⟩ := oif_some h
    refine c_get E G o 1 (oO_k g21).1 (cc_o3 (oO_k g21).2) rfl (fun w h => .tail _ (iA_17 h)) (by decide) (.tail _ qA_176) rfl rfl dX3_isWord_31 ?_
    refine lv_topi (fun v22 ev22 => ?_)
    have h := elet_at ev22 h
    clear ev22
    obtain ⟨g23, h⟩ := oif_some h
    obtain ⟨g24, h⟩ := oif_some h
    refine c_iald E G n20 0 (k := v22.toNatClampNeg) (aA_k g23).1 (cc_a100 (aA_k g23).2.1) rfl (inb_k g24).1 (inb_k g24).2 (aA_k g23).2.2 dX3_isWord_34 ?_
    refine lv_topi (fun v25 ev25 => ?_)
    have h := elet_at ev25 h
    clear ev25
    refine lv_iload_n hx hb dX3_isWord_35 rfl (lv_at hl 0 rfl) ?_
    refine lv_isub hx hb dX3_isWord_36 ?_
    refine lv_topi (fun v26 ev26 => ?_)
    have h := elet_at ev26 h
    clear ev26
    refine lv_istore_n (lv' := [(3, .int v26), (2, .int v16), (0, .ref (ad o)), (1, .ref q)]) hx hb dX3_isWord_37 rfl hl (by decide) rfl (fun ls hl => ?_)
    refine lv_iload_n hx hb dX3_isWord_38 rfl (lv_at hl 0 rfl) ?_
    refine lv_aload_n hx hb dX3_isWord_39 rfl (lv_at hl 3 rfl) ?_
    refine s_callV (As := []) (rest := [.int v26]) ⟨hx, hb, hml, hown, hts⟩ (ja_length l (tx := tx) (q := q)) (cwV 0 hts (gaV qA_244 qA_245 qA_246 qA_247 qA_248) rfl rfl rfl (by decide +kernel) ⟨Nat.le_of_ble_eq_true rfl, Nat.le_of_ble_eq_true rfl⟩) (sO.recv hO hA0 G.2.2) (fun _ _ _ _ h => h.blind) (sP.go hO hT.2 hA0 G.2.2) rfl hl.1 rfl (lv_room (Nat.le_of_ble_eq_true rfl)) dX3_isWord_40 ⟨Nat.zero_le _, Nat.zero_le _⟩ (fun r27 hq => ?_)
    refine lv_to hq ?_
    clear hq
    refine lv_topi (fun v28 ev28 => ?_)
    have h := elet_at ev28 h
    clear ev28
    refine lv_icmp_eq (tgt := 48) hx hb dX3_isWord_43 (by decide) (fun c29 => ?_) (fun c29 => ?_)
    · have h := oif_pos c29 h
      refine lv_iconst (v := 0) hx hb dX3_isWord_48 (by decide) ?_
      refine lv_istore (lv' := [(4, .int 0), (3, .int v26), (2, .int v16), (0, .ref (ad o)), (1, .ref q)]) hx hb dX3_isWord_49 hl (by decide) rfl (fun ls hl => ?_)
      have hl := lv_sub hl [3, 4, 2, 1, 0] rfl
      exact u_X3_isWord_b51 E hA hX hN hml hst hA0 hT hO hC (fun H locs ls gz G => W.zret (v := r1) hx hb hr (nar01 gz) (fun t ht hW => ⟨⟨r1, T1, rfl, ⟨rfl, rfl⟩, ⟨by rw [ht]; exact G.1, va_K.moved hW.alike hK, G.2.1⟩⟩, G.2.2.F ht⟩) G.2.2.2.2 dX3_isWord_9) (fun H locs ls gz G => W.zret (v := r1) hx hb hr (nar01 gz) (fun t ht hW => ⟨⟨r1, T1, rfl, ⟨rfl, rfl⟩, ⟨by rw [ht]; exact G.1, va_K.moved hW.alike hK, G.2.1⟩⟩, G.2.2.F ht⟩) G.2.2.2.2 dX3_isWord_47) (fun H locs ls gz G => W.zret (v := r1) hx hb hr (nar01 gz) (fun t ht hW => ⟨⟨r1, T1, rfl, ⟨rfl, rfl⟩, ⟨by rw [ht]; exact G.1, va_K.moved hW.alike hK, G.2.1⟩⟩, G.2.2.F ht⟩) G.2.2.2.2 dX3_isWord_79) (fun H locs ls gz G => W.zret (v := r1) hx hb hr (nar01 gz) (fun t ht hW => ⟨⟨r1, T1, rfl, ⟨rfl, rfl⟩, ⟨by rw [ht]; exact G.1, va_K.moved hW.alike hK, G.2.1⟩⟩, G.2.2.F ht⟩) G.2.2.2.2 dX3_isWord_87) _ _ _ _ _ _ _ _ _ h G hl
    · have h := oif_neg c29 h
      refine lv_iconst (v := 0) hx hb dX3_isWord_46 (by decide) ?_
      exact W.zret (v := 0) hx hb hr rfl (fun t ht hW => ⟨⟨0, T3, rfl, osome2 h, ⟨by rw [ht]; exact G.1, va_K.moved hW.alike hK, G.2.1⟩⟩, G.2.2.F ht⟩) G.2.2.2.2 dX3_isWord_47
  · have h := oif_neg c7 h
    refine lv_iconst (v := 0) hx hb dX3_isWord_8 (by decide) ?_
    exact W.zret (v := 0) hx hb hr rfl (fun t ht hW => ⟨⟨0, T3, rfl, osome2 h, ⟨by rw [ht]; exact G.1, va_K.moved hW.alike hK, G.2.1⟩⟩, G.2.2.F ht⟩) G.2.2.2.2 dX3_isWord_9
set_option maxHeartbeats 4000000 in
set_option maxRecDepth 100000 in
theorem s_X3_isWord_b51 {tx : Nat × (Nat → Int32)} {r1 : Int32} {T1 : AT} : ∀ n : Nat, ∀ (T : AT) (l0 : Nat) (l2 : Int32) (l3 : Int32) (l4 : Int32), g_X3_isWord_b51 tx n T l0 l2 l3 l4 = some (r1, T1) → SP T T1 := by
  intro n
  induction n with
  | zero =>
    intro T l0 l2 l3 l4 h
    have h : (none : Option (Int32 × AT)) = some (r1, T1) := h
    cases h
  | succ n ih =>
    intro T l0 l2 l3 l4 h
    have p0 := SP.rf T
    unfold g_X3_isWord_b51 at h
    rcases oif_or h with ⟨c2, h⟩ | ⟨c2, h⟩
    · have h := h
      rw [← (osome2 h).2]
      exact p0
    · have h := h
      obtain ⟨g3, h⟩ := oif_some h
      obtain ⟨n4, en4, h⟩ := obind_some h
      obtain ⟨g5, h⟩ := oif_some h
      obtain ⟨n6, en6, h⟩ := obind_some h
      obtain ⟨v7, -, h⟩ := elet_some h
      obtain ⟨g8, h⟩ := oif_some h
      obtain ⟨g9, h⟩ := oif_some h
      obtain ⟨v10, -, h⟩ := elet_some h
      obtain ⟨g11, h⟩ := oif_some h
      obtain ⟨v12, -, h⟩ := elet_some h
      rcases oif_or h with ⟨c13, h⟩ | ⟨c13, h⟩
      · have h := h
        obtain ⟨v14, ev14, h⟩ := elet_some h
        exact SP.tr p0 (ih _ _ _ _ _ h)
      · have h := h
        rw [← (osome2 h).2]
        exact p0
set_option maxHeartbeats 4000000 in
set_option maxRecDepth 100000 in
theorem s_X3_isWord {T : AT} {tx : Nat × (Nat → Int32)} {o : Nat} {r1 : Int32} {T1 : AT} (h : g_X3_isWord T tx o = some (r1, T1)) : SP T T1 := by
  have p0 := SP.rf T
  unfold g_X3_isWord at h
  obtain ⟨g2, h⟩ := oif_some h
  obtain ⟨r4, T3, eT3, h⟩ := obind2_some h
  have p1 : SP T T3 := SP.tr p0 (s_X3_kind eT3)
  rcases oif_or h with ⟨c5, h⟩ | ⟨c5, h⟩
  · have h := h
    obtain ⟨g6, h⟩ := oif_some h
    obtain ⟨n7, en7, h⟩ := obind_some h
    obtain ⟨g8, h⟩ := oif_some h
    obtain ⟨n9, en9, h⟩ := obind_some h
    obtain ⟨g10, h⟩ := oif_some h
    obtain ⟨v11, -, h⟩ := elet_some h
    obtain ⟨g12, h⟩ := oif_some h
    obtain ⟨g13, h⟩ := oif_some h
    obtain ⟨v14, -, h⟩ := elet_some h
    obtain ⟨g15, h⟩ := oif_some h
    obtain ⟨n16, en16, h⟩ := obind_some h
    obtain ⟨g17, h⟩ := oif_some h
    obtain ⟨n18, en18, h⟩ := obind_some h
    obtain ⟨g19, h⟩ := oif_some h
    obtain ⟨v20, -, h⟩ := elet_some h
    obtain ⟨g21, h⟩ := oif_some h
    obtain ⟨g22, h⟩ := oif_some h
    obtain ⟨v23, -, h⟩ := elet_some h
    obtain ⟨v24, -, h⟩ := elet_some h
    obtain ⟨v25, -, h⟩ := elet_some h
    rcases oif_or h with ⟨c26, h⟩ | ⟨c26, h⟩
    · have h := h
      exact SP.tr p1 (s_X3_isWord_b51 _ _ _ _ _ _ h)
    · have h := h
      rw [← (osome2 h).2]
      exact p1
  · have h := h
    rw [← (osome2 h).2]
    exact p1
def g_X3_failAt_b34  (T : AT) (s0 : Int32) (s1 : Nat) : Option (Nat × Int32 × AT) := oif (oO T s1 3 = true) <| elet (uI T s1 3 s0) fun T3 => some (3, 0, T3)
set_option maxHeartbeats 4000000 in
set_option maxRecDepth 100000 in
theorem u_X3_failAt_b34 {p : Program} {l : Launch} {e : Env} {s : State} {m : MethodId} {args : Array Value} {below : List Frame} {meth : Method} {c : Code} {Q : State → Prop} {D : va_G} {A : Nat → Prop} {cI cJ cZ cMic cSrc cSt cAI cAJ : ClassId} {ad : Nat → Nat} {r1 : Int32} {T1 : AT} (E : cE p c cX3_failAt s m args (Cond.code yX3_failAt cX3_failAt 3 none :: wsA) D RX3 (CT cI cJ cZ cMic cSrc cSt cAI cAJ)) (hA : ∀ q : Nat, s.heap.size ≤ q → A q) (hX : xT A s) (hN : nX s) (hml : c.maxLocals = 3) (hst : l.stackTraces = false) : ∀ (T : AT) (H : Heap) (locs : List Loc) (ls : Array Slot) (s0 : Int32) (s1 : Nat), g_X3_failAt_b34 T s0 s1 = some (0, r1, T1) → gC cI cJ cZ cMic cSrc cSt cAI cAJ D ad A s.heap H locs T → lv_has ls 3 [] → W p l e { frames := 6, cells := 0, slots := 0, locals := 81 } s m args below meth c H locs 0 0 Q (F0 m 34 ls [.int s0, .ref (ad s1)]) := by
  have hx := E.1
  have hb := E.2.1
  have hts := E.2.2.1
  have hown := E.2.2.2.1
  have hK := E.2.2.2.2
  intro T H locs ls s0 s1 h G hl
  unfold g_X3_failAt_b34 at h
  obtain ⟨g2, h⟩ := oif_some h
  refine c_put E G s1 3 (v := .int s0) (oO_k g2).1 (cc_o3 (oO_k g2).2) rfl (fun w h => .tail _ (iA_17 h)) tyX3 tyX3_ok nmX3 (by decide) (.tail _ qA_173) ⟨rfl, rfl, rfl⟩ rfl rfl (Nat.le_of_ble_eq_true rfl) dX3_failAt_34 (fun H locs G => ?_)
  have G := gC_up_i (f := upd (T.2.2.1 s1) 3 s0) (by rw [(oO_k g2).2]; rfl) G
  obtain ⟨T3, eT3, h⟩ := elet_some h
  have G : gC cI cJ cZ cMic cSrc cSt cAI cAJ D ad A s.heap H locs T3 := by rw [eT3]; exact G
  clear eT3
  exact absurd (osome3 h).1 (by decide)
def g_X3_failAt_b33  (T : AT) (s0 : Nat) : Option (Nat × Int32 × AT) := g_X3_failAt_b34 T 0 s0
set_option maxHeartbeats 4000000 in
set_option maxRecDepth 100000 in
theorem u_X3_failAt_b33 {p : Program} {l : Launch} {e : Env} {s : State} {m : MethodId} {args : Array Value} {below : List Frame} {meth : Method} {c : Code} {Q : State → Prop} {D : va_G} {A : Nat → Prop} {cI cJ cZ cMic cSrc cSt cAI cAJ : ClassId} {ad : Nat → Nat} {r1 : Int32} {T1 : AT} (E : cE p c cX3_failAt s m args (Cond.code yX3_failAt cX3_failAt 3 none :: wsA) D RX3 (CT cI cJ cZ cMic cSrc cSt cAI cAJ)) (hA : ∀ q : Nat, s.heap.size ≤ q → A q) (hX : xT A s) (hN : nX s) (hml : c.maxLocals = 3) (hst : l.stackTraces = false) : ∀ (T : AT) (H : Heap) (locs : List Loc) (ls : Array Slot) (s0 : Nat), g_X3_failAt_b33 T s0 = some (0, r1, T1) → gC cI cJ cZ cMic cSrc cSt cAI cAJ D ad A s.heap H locs T → lv_has ls 3 [] → W p l e { frames := 6, cells := 0, slots := 0, locals := 81 } s m args below meth c H locs 0 0 Q (F0 m 33 ls [.ref (ad s0)]) := by
  have hx := E.1
  have hb := E.2.1
  have hts := E.2.2.1
  have hown := E.2.2.2.1
  have hK := E.2.2.2.2
  intro T H locs ls s0 h G hl
  unfold g_X3_failAt_b33 at h
  refine lv_iconst (v := 0) hx hb dX3_failAt_33 (by decide) ?_
  have hl := lv_sub hl [] rfl
  exact u_X3_failAt_b34 E hA hX hN hml hst _ _ _ _ _ _ h G hl
def g_X3_failAt (T : AT) (o : Nat) (a0 : Int32) (a1 : Int32) : Option (Nat × Int32 × AT) := oif (oO T o 3 = true) <| elet (uI T o 2 a1) fun T3 => if a0 < 0 then (g_X3_failAt_b33 T3 o) else (oif (oO T3 o 3 = true) <| obind (T3.2.2.2.2 o 0) fun n6 => oif (oO T3 n6 9 = true) <| elet (T3.2.2.1 n6 5) fun v8 => if v8 ≤ a0 then (g_X3_failAt_b33 T3 o) else (oif (oO T3 o 3 = true) <| obind (T3.2.2.2.2 o 0) fun n11 => oif (oO T3 n11 9 = true) <| obind (T3.2.2.2.2 n11 3) fun n13 => oif (aA T3 n13 100 = true) <| oif (inb a0 (T3.2.1 n13).2 = true) <| elet (T3.2.2.1 n13 a0.toNatClampNeg) fun v16 => g_X3_failAt_b34 T3 v16 o))
set_option maxHeartbeats 4000000 in
set_option maxRecDepth 100000 in
theorem u_X3_failAt (l : Launch) (hst : l.stackTraces = false) (D : va_G) (cI cJ cZ cMic cSrc cSt cAI cAJ : ClassId) (ad : Nat → Nat) (T : AT) (o : Nat) (a0 : Int32) (a1 : Int32) {r1 : Int32} {T1 : AT} (h : g_X3_failAt T o a0 a1 = some (0, r1, T1)) : kCv l yX3_failAt (Cond.code yX3_failAt cX3_failAt 3 none :: wsA) 6 81 cI cJ cZ cMic cSrc cSt cAI cAJ D ad T [.ref (ad o), .int a0, .int a1] (fun T9 => T9 = T1) := by
  intro sz
  refine pro_in (cc := cX3_failAt) (maxL := 3) (ret := none) (by exact pn_RX3) rfl (by exact Nat.le_of_ble_eq_true rfl) (fun p e s m below meth c ls hx hb hr hts hown hlocks hml hv hl => ?_)
  obtain ⟨hsz, hP, hK, hD0, hX, hN⟩ := hv
  subst hsz
  have hD := hD0.self (sz := s.heap.size)
  generalize hAe : va_A (cW ad T.1 (cc cI cJ cZ cMic cSrc cSt cAI cAJ ad T)) s.heap.size = A at hD hX ⊢
  have hA : ∀ q : Nat, s.heap.size ≤ q → A q := fun q h => by rw [← hAe]; exact Or.inr h
  have G : gC cI cJ cZ cMic cSrc cSt cAI cAJ D ad A s.heap s.heap [] T := ⟨hP, hD, va_S.rf⟩
  have E : cE p c cX3_failAt s m ([.ref (ad o), .int a0, .int a1] : List Value).toArray (Cond.code yX3_failAt cX3_failAt 3 none :: wsA) D RX3 (CT cI cJ cZ cMic cSrc cSt cAI cAJ) := ⟨hx, hb, hts, hown, hK⟩
  have hl : lv_has ls 3 [(0, .ref (ad o)), (1, .int a0), (2, .int a1)] := hl
  unfold g_X3_failAt at h
  refine lv_aload_n hx hb dX3_failAt_0 rfl (lv_at hl 0 rfl) ?_
  refine lv_iload_n hx hb dX3_failAt_1 rfl (lv_at hl 2 rfl) ?_
  obtain ⟨g2, h⟩ := oif_some h
  refine c_put E G o 2 (v := .int a1) (oO_k g2).1 (cc_o3 (oO_k g2).2) rfl (fun w h => .tail _ (iA_17 h)) tyX3 tyX3_ok nmX3 (by decide) (.tail _ qA_181) ⟨rfl, rfl, rfl⟩ rfl rfl (Nat.le_of_ble_eq_true rfl) dX3_failAt_2 (fun H locs G => ?_)
  have G := gC_up_i (f := upd (T.2.2.1 o) 2 a1) (by rw [(oO_k g2).2]; rfl) G
  obtain ⟨T3, eT3, h⟩ := elet_some h
  have G : gC cI cJ cZ cMic cSrc cSt cAI cAJ D ad A s.heap H locs T3 := by rw [eT3]; exact G
  clear eT3
  refine lv_aload_n hx hb dX3_failAt_5 rfl (lv_at hl 0 rfl) ?_
  refine lv_iload_n hx hb dX3_failAt_6 rfl (lv_at hl 1 rfl) ?_
  refine lv_if_lt (tgt := 33) hx hb dX3_failAt_7 (by decide) (fun c4 => ?_) (fun c4 => ?_)
  · have h := oif_pos c4 h
    have hl := lv_sub hl [] rfl
    exact u_X3_failAt_b33 E hA hX hN hml hst _ _ _ _ _ h G hl
  · have h := oif_neg c4 h
    refine lv_iload_n hx hb dX3_failAt_10 rfl (lv_at hl 1 rfl) ?_
    refine lv_aload_n hx hb dX3_failAt_11 rfl (lv_at hl 0 rfl) ?_
    obtain ⟨g5, h⟩ := oif_some h
    obtain ⟨n6, en6, h⟩ := obind_some h
    refine c_get E G o 0 (v := .ref (ad n6)) (oO_k g5).1 (cc_o3 (oO_k g5).2) rfl (fun w h => .tail _ (iA_17 h)) (by decide) (.tail _ qA_174) rfl (by rw [en6]; rfl) dX3_failAt_12 ?_
    clear en6
    obtain ⟨g7, h⟩ := oif_some h
    refine c_get E G n6 5 (oO_k g7).1 (cc_o9 (oO_k g7).2) rfl (fun w h => .tail _ (iA_18 h)) (by decide) (.tail _ qA_177) rfl rfl dX3_failAt_15 ?_
    refine lv_topi (fun v8 ev8 => ?_)
    have h := elet_at ev8 h
    clear ev8
    refine lv_icmp_ge (tgt := 33) hx hb dX3_failAt_18 (by decide) (fun c9 => ?_) (fun c9 => ?_)
    · have h := oif_pos c9 h
      have hl := lv_sub hl [] rfl
      exact u_X3_failAt_b33 E hA hX hN hml hst _ _ _ _ _ h G hl
    · have h := oif_neg c9 h
      refine lv_aload_n hx hb dX3_failAt_21 rfl (lv_at hl 0 rfl) ?_
      obtain ⟨g10, h⟩ := oif_some h
      obtain ⟨n11, en11, h⟩ := obind_some h
      refine c_get E G o 0 (v := .ref (ad n11)) (oO_k g10).1 (cc_o3 (oO_k g10).2) rfl (fun w h => .tail _ (iA_17 h)) (by decide) (.tail _ qA_174) rfl (by rw [en11]; rfl) dX3_failAt_22 ?_
      clear en11
      obtain ⟨g12, h⟩ := oif_some h
      obtain ⟨n13, en13, h⟩ := obind_some h
      refine c_get E G n11 3 (v := .ref (ad n13)) (oO_k g12).1 (cc_o9 (oO_k g12).2) rfl (fun w h => .tail _ (iA_18 h)) (by decide) (.tail _ qA_236) rfl (by rw [en13]; rfl) dX3_failAt_25 ?_
      clear en13
      refine lv_iload_n hx hb dX3_failAt_28 rfl (lv_at hl 1 rfl) ?_
      obtain ⟨g14, h⟩ := oif_some h
      obtain ⟨g15, h⟩ := oif_some h
      refine c_iald E G n13 0 (k := a0.toNatClampNeg) (aA_k g14).1 (cc_a100 (aA_k g14).2.1) rfl (inb_k g15).1 (inb_k g15).2 (aA_k g14).2.2 dX3_failAt_29 ?_
      refine lv_topi (fun v16 ev16 => ?_)
      have h := elet_at ev16 h
      clear ev16
      refine lv_goto (tgt := 34) hx hb dX3_failAt_30 (by decide) ?_
      have hl := lv_sub hl [] rfl
      exact u_X3_failAt_b34 E hA hX hN hml hst _ _ _ _ _ _ h G hl
set_option maxHeartbeats 4000000 in
set_option maxRecDepth 100000 in
theorem s_X3_failAt_b34 {e1 : Nat} {r1 : Int32} {T1 : AT} : ∀ (T : AT) (s0 : Int32) (s1 : Nat), g_X3_failAt_b34 T s0 s1 = some (e1, r1, T1) → SP T T1 := by
  intro T s0 s1 h
  have p0 := SP.rf T
  unfold g_X3_failAt_b34 at h
  obtain ⟨g2, h⟩ := oif_some h
  obtain ⟨T3, eT3, h⟩ := elet_some h
  have p1 : SP T T3 := SP.tr p0 (by rw [eT3]; exact sp_uI)
  rw [← (osome3 h).2.2]
  exact p1
set_option maxHeartbeats 4000000 in
set_option maxRecDepth 100000 in
theorem s_X3_failAt_b33 {e1 : Nat} {r1 : Int32} {T1 : AT} : ∀ (T : AT) (s0 : Nat), g_X3_failAt_b33 T s0 = some (e1, r1, T1) → SP T T1 := by
  intro T s0 h
  have p0 := SP.rf T
  unfold g_X3_failAt_b33 at h
  exact SP.tr p0 (s_X3_failAt_b34 _ _ _ h)
set_option maxHeartbeats 4000000 in
set_option maxRecDepth 100000 in
theorem s_X3_failAt {T : AT} {o : Nat} {a0 : Int32} {a1 : Int32} {e1 : Nat} {r1 : Int32} {T1 : AT} (h : g_X3_failAt T o a0 a1 = some (e1, r1, T1)) : SP T T1 := by
  have p0 := SP.rf T
  unfold g_X3_failAt at h
  obtain ⟨g2, h⟩ := oif_some h
  obtain ⟨T3, eT3, h⟩ := elet_some h
  have p1 : SP T T3 := SP.tr p0 (by rw [eT3]; exact sp_uI)
  rcases oif_or h with ⟨c4, h⟩ | ⟨c4, h⟩
  · have h := h
    exact SP.tr p1 (s_X3_failAt_b33 _ _ h)
  · have h := h
    obtain ⟨g5, h⟩ := oif_some h
    obtain ⟨n6, en6, h⟩ := obind_some h
    obtain ⟨g7, h⟩ := oif_some h
    obtain ⟨v8, -, h⟩ := elet_some h
    rcases oif_or h with ⟨c9, h⟩ | ⟨c9, h⟩
    · have h := h
      exact SP.tr p1 (s_X3_failAt_b33 _ _ h)
    · have h := h
      obtain ⟨g10, h⟩ := oif_some h
      obtain ⟨n11, en11, h⟩ := obind_some h
      obtain ⟨g12, h⟩ := oif_some h
      obtain ⟨n13, en13, h⟩ := obind_some h
      obtain ⟨g14, h⟩ := oif_some h
      obtain ⟨g15, h⟩ := oif_some h
      obtain ⟨v16, -, h⟩ := elet_some h
      exact SP.tr p1 (s_X3_failAt_b34 _ _ _ h)
set_option maxHeartbeats 4000000 in
set_option maxRecDepth 100000 in
theorem x_X3_failAt_b34 {p : Program} {l : Launch} {e : Env} {s : State} {m : MethodId} {args : Array Value} {below : List Frame} {meth : Method} {c : Code} {Qc : Array Value → State → Outcome → State → Prop} {XC : String → State → State → Prop} {D : va_G} {A : Nat → Prop} {cI cJ cZ cMic cSrc cSt cAI cAJ : ClassId} {ad : Nat → Nat} {e1 : Nat} {r1 : Int32} {T1 : AT} (E : cE p c cX3_failAt s m args (Cond.code yX3_failAt cX3_failAt 3 none :: wsA) D RX3 (CT cI cJ cZ cMic cSrc cSt cAI cAJ)) (hA : ∀ q : Nat, s.heap.size ≤ q → A q) (hX : xT A s) (hN : nX s) (hml : c.maxLocals = 3) (hz9 : True) (hst : l.stackTraces = false) (htab : ∀ x ∈ c.exceptionTable.toList, False) (hlocks : meth.locks = false) (kx : ∀ (H : Heap) (locs : List Loc) (t : State), gC cI cJ cZ cMic cSrc cSt cAI cAJ D ad A s.heap H locs T1 → s.vm.Alike t.vm → H.size ≤ t.heap.size → (∀ q, q < H.size → t.heap[q]? = H[q]?) → XC (exn e1) s t) : ∀ (T : AT) (H : Heap) (locs : List Loc) (ls : Array Slot) (s0 : Int32) (s1 : Nat), g_X3_failAt_b34 T s0 s1 = some (e1 + 1, r1, T1) → gC cI cJ cZ cMic cSrc cSt cAI cAJ D ad A s.heap H locs T → lv_has ls 3 [] → W p l e { frames := 6, cells := 1, slots := 6, locals := 81 } s m args below meth c H locs 0 0 (vx_MQ below Qc XC args s 1 6 A) (F0 m 34 ls [.int s0, .ref (ad s1)]) := by
  have hx := E.1
  have hb := E.2.1
  have hts := E.2.2.1
  have hown := E.2.2.2.1
  have hK := E.2.2.2.2
  intro T H locs ls s0 s1 h G hl
  unfold g_X3_failAt_b34 at h
  obtain ⟨g2, h⟩ := oif_some h
  refine c_put E G s1 3 (v := .int s0) (oO_k g2).1 (cc_o3 (oO_k g2).2) rfl (fun w h => .tail _ (iA_17 h)) tyX3 tyX3_ok nmX3 (by decide) (.tail _ qA_173) ⟨rfl, rfl, rfl⟩ rfl rfl (Nat.le_of_ble_eq_true rfl) dX3_failAt_34 (fun H locs G => ?_)
  have G := gC_up_i (f := upd (T.2.2.1 s1) 3 s0) (by rw [(oO_k g2).2]; rfl) G
  obtain ⟨T3, eT3, h⟩ := elet_some h
  have G : gC cI cJ cZ cMic cSrc cSt cAI cAJ D ad A s.heap H locs T3 := by rw [eT3]; exact G
  clear eT3
  have hz : exn e1 = xIAE := by rw [show e1 = 2 by have := (osome3 h).1; omega]; rfl
  rw [(osome3 h).2.2] at G
  refine vx_throw0 (own := RX3) (cls := xIAE) (names := ["java/lang/RuntimeException", "java/lang/Exception"]) (ik := 284) (ic := 286) (A := A) hx hb hst hown (by decide +kernel) (by decide +kernel) (hts _ (.tail _ qA_297)) (hts _ (.tail _ qA_298)) (vx_hat (B := xB) (fun w h => hts w (.tail _ (iA_24 h))) (by decide +kernel) hX.use) (by decide +kernel) hX.1 hX.2.1 G.2.2 (hl.1.trans hml.symm) dX3_failAt_37 dX3_failAt_40 dX3_failAt_41 dX3_failAt_44 (fun x hx => (htab x hx).elim) (Nat.le_of_ble_eq_true rfl) (Nat.le_of_ble_eq_true rfl) (Nat.le_of_ble_eq_true rfl) (Nat.le_of_ble_eq_true rfl) hlocks (fun t hvm h1 h2 => ?_) G.2.2.2.2 (Nat.le_refl _) (Nat.le_refl _)
  rw [← hz]
  exact kx _ _ _ G hvm h1 h2
set_option maxHeartbeats 4000000 in
set_option maxRecDepth 100000 in
theorem x_X3_failAt_b33 {p : Program} {l : Launch} {e : Env} {s : State} {m : MethodId} {args : Array Value} {below : List Frame} {meth : Method} {c : Code} {Qc : Array Value → State → Outcome → State → Prop} {XC : String → State → State → Prop} {D : va_G} {A : Nat → Prop} {cI cJ cZ cMic cSrc cSt cAI cAJ : ClassId} {ad : Nat → Nat} {e1 : Nat} {r1 : Int32} {T1 : AT} (E : cE p c cX3_failAt s m args (Cond.code yX3_failAt cX3_failAt 3 none :: wsA) D RX3 (CT cI cJ cZ cMic cSrc cSt cAI cAJ)) (hA : ∀ q : Nat, s.heap.size ≤ q → A q) (hX : xT A s) (hN : nX s) (hml : c.maxLocals = 3) (hz9 : True) (hst : l.stackTraces = false) (htab : ∀ x ∈ c.exceptionTable.toList, False) (hlocks : meth.locks = false) (kx : ∀ (H : Heap) (locs : List Loc) (t : State), gC cI cJ cZ cMic cSrc cSt cAI cAJ D ad A s.heap H locs T1 → s.vm.Alike t.vm → H.size ≤ t.heap.size → (∀ q, q < H.size → t.heap[q]? = H[q]?) → XC (exn e1) s t) : ∀ (T : AT) (H : Heap) (locs : List Loc) (ls : Array Slot) (s0 : Nat), g_X3_failAt_b33 T s0 = some (e1 + 1, r1, T1) → gC cI cJ cZ cMic cSrc cSt cAI cAJ D ad A s.heap H locs T → lv_has ls 3 [] → W p l e { frames := 6, cells := 1, slots := 6, locals := 81 } s m args below meth c H locs 0 0 (vx_MQ below Qc XC args s 1 6 A) (F0 m 33 ls [.ref (ad s0)]) := by
  have hx := E.1
  have hb := E.2.1
  have hts := E.2.2.1
  have hown := E.2.2.2.1
  have hK := E.2.2.2.2
  intro T H locs ls s0 h G hl
  unfold g_X3_failAt_b33 at h
  refine lv_iconst (v := 0) hx hb dX3_failAt_33 (by decide) ?_
  have hl := lv_sub hl [] rfl
  exact x_X3_failAt_b34 E hA hX hN hml trivial hst htab hlocks kx _ _ _ _ _ _ h G hl
set_option maxHeartbeats 4000000 in
set_option maxRecDepth 100000 in
theorem x_X3_failAt (l : Launch) (hst : l.stackTraces = false) (D : va_G) (cI cJ cZ cMic cSrc cSt cAI cAJ : ClassId) (ad : Nat → Nat) (T : AT) (o : Nat) (a0 : Int32) (a1 : Int32) {e1 : Nat} {r1 : Int32} {T1 : AT} (h : g_X3_failAt T o a0 a1 = some (e1 + 1, r1, T1)) : kXv l yX3_failAt (Cond.code yX3_failAt cX3_failAt 3 none :: wsA) 6 81 cI cJ cZ cMic cSrc cSt cAI cAJ D ad T [.ref (ad o), .int a0, .int a1] e1 T1 := by
  intro sz
  refine pro_inX (cc := cX3_failAt) (maxL := 3) (ret := none) (by exact pn_RX3) rfl (by exact Nat.le_of_ble_eq_true rfl) (fun p e s m below meth c ls hx hb hr hts hown hlocks htab hml hv hl => ?_)
  obtain ⟨hsz, hP, hK, hD0, hX, hN⟩ := hv
  subst hsz
  have hD := hD0.self (sz := s.heap.size)
  generalize hAe : va_A (cW ad T.1 (cc cI cJ cZ cMic cSrc cSt cAI cAJ ad T)) s.heap.size = A at hD hX ⊢
  have hA : ∀ q : Nat, s.heap.size ≤ q → A q := fun q h => by rw [← hAe]; exact Or.inr h
  have G : gC cI cJ cZ cMic cSrc cSt cAI cAJ D ad A s.heap s.heap [] T := ⟨hP, hD, va_S.rf⟩
  have E : cE p c cX3_failAt s m ([.ref (ad o), .int a0, .int a1] : List Value).toArray (Cond.code yX3_failAt cX3_failAt 3 none :: wsA) D RX3 (CT cI cJ cZ cMic cSrc cSt cAI cAJ) := ⟨hx, hb, hts, hown, hK⟩
  have htab : ∀ x ∈ c.exceptionTable.toList, False := fun x hx => htab x hx
  have hl : lv_has ls 3 [(0, .ref (ad o)), (1, .int a0), (2, .int a1)] := hl
  unfold g_X3_failAt at h
  refine lv_aload_n hx hb dX3_failAt_0 rfl (lv_at hl 0 rfl) ?_
  refine lv_iload_n hx hb dX3_failAt_1 rfl (lv_at hl 2 rfl) ?_
  obtain ⟨g2, h⟩ := oif_some h
  refine c_put E G o 2 (v := .int a1) (oO_k g2).1 (cc_o3 (oO_k g2).2) rfl (fun w h => .tail _ (iA_17 h)) tyX3 tyX3_ok nmX3 (by decide) (.tail _ qA_181) ⟨rfl, rfl, rfl⟩ rfl rfl (Nat.le_of_ble_eq_true rfl) dX3_failAt_2 (fun H locs G => ?_)
  have G := gC_up_i (f := upd (T.2.2.1 o) 2 a1) (by rw [(oO_k g2).2]; rfl) G
  obtain ⟨T3, eT3, h⟩ := elet_some h
  have G : gC cI cJ cZ cMic cSrc cSt cAI cAJ D ad A s.heap H locs T3 := by rw [eT3]; exact G
  clear eT3
  refine lv_aload_n hx hb dX3_failAt_5 rfl (lv_at hl 0 rfl) ?_
  refine lv_iload_n hx hb dX3_failAt_6 rfl (lv_at hl 1 rfl) ?_
  refine lv_if_lt (tgt := 33) hx hb dX3_failAt_7 (by decide) (fun c4 => ?_) (fun c4 => ?_)
  · have h := oif_pos c4 h
    have hl := lv_sub hl [] rfl
    exact x_X3_failAt_b33 E hA hX hN hml trivial hst htab hlocks (fun H locs t G hvm h1 h2 => ⟨T1, trivial, ⟨⟨rfl, rfl⟩, (c_thrown G hK hvm h1 h2).1⟩, (c_thrown G hK hvm h1 h2).2⟩) _ _ _ _ _ h G hl
  · have h := oif_neg c4 h
    refine lv_iload_n hx hb dX3_failAt_10 rfl (lv_at hl 1 rfl) ?_
    refine lv_aload_n hx hb dX3_failAt_11 rfl (lv_at hl 0 rfl) ?_
    obtain ⟨g5, h⟩ := oif_some h
    obtain ⟨n6, en6, h⟩ := obind_some h
    refine c_get E G o 0 (v := .ref (ad n6)) (oO_k g5).1 (cc_o3 (oO_k g5).2) rfl (fun w h => .tail _ (iA_17 h)) (by decide) (.tail _ qA_174) rfl (by rw [en6]; rfl) dX3_failAt_12 ?_
    clear en6
    obtain ⟨g7, h⟩ := oif_some h
    refine c_get E G n6 5 (oO_k g7).1 (cc_o9 (oO_k g7).2) rfl (fun w h => .tail _ (iA_18 h)) (by decide) (.tail _ qA_177) rfl rfl dX3_failAt_15 ?_
    refine lv_topi (fun v8 ev8 => ?_)
    have h := elet_at ev8 h
    clear ev8
    refine lv_icmp_ge (tgt := 33) hx hb dX3_failAt_18 (by decide) (fun c9 => ?_) (fun c9 => ?_)
    · have h := oif_pos c9 h
      have hl := lv_sub hl [] rfl
      exact x_X3_failAt_b33 E hA hX hN hml trivial hst htab hlocks (fun H locs t G hvm h1 h2 => ⟨T1, trivial, ⟨⟨rfl, rfl⟩, (c_thrown G hK hvm h1 h2).1⟩, (c_thrown G hK hvm h1 h2).2⟩) _ _ _ _ _ h G hl
    · have h := oif_neg c9 h
      refine lv_aload_n hx hb dX3_failAt_21 rfl (lv_at hl 0 rfl) ?_
      obtain ⟨g10, h⟩ := oif_some h
      obtain ⟨n11, en11, h⟩ := obind_some h
      refine c_get E G o 0 (v := .ref (ad n11)) (oO_k g10).1 (cc_o3 (oO_k g10).2) rfl (fun w h => .tail _ (iA_17 h)) (by decide) (.tail _ qA_174) rfl (by rw [en11]; rfl) dX3_failAt_22 ?_
      clear en11
      obtain ⟨g12, h⟩ := oif_some h
      obtain ⟨n13, en13, h⟩ := obind_some h
      refine c_get E G n11 3 (v := .ref (ad n13)) (oO_k g12).1 (cc_o9 (oO_k g12).2) rfl (fun w h => .tail _ (iA_18 h)) (by decide) (.tail _ qA_236) rfl (by rw [en13]; rfl) dX3_failAt_25 ?_
      clear en13
      refine lv_iload_n hx hb dX3_failAt_28 rfl (lv_at hl 1 rfl) ?_
      obtain ⟨g14, h⟩ := oif_some h
      obtain ⟨g15, h⟩ := oif_some h
      refine c_iald E G n13 0 (k := a0.toNatClampNeg) (aA_k g14).1 (cc_a100 (aA_k g14).2.1) rfl (inb_k g15).1 (inb_k g15).2 (aA_k g14).2.2 dX3_failAt_29 ?_
      refine lv_topi (fun v16 ev16 => ?_)
      have h := elet_at ev16 h
      clear ev16
      refine lv_goto (tgt := 34) hx hb dX3_failAt_30 (by decide) ?_
      have hl := lv_sub hl [] rfl
      exact x_X3_failAt_b34 E hA hX hN hml trivial hst htab hlocks (fun H locs t G hvm h1 h2 => ⟨T1, trivial, ⟨⟨rfl, rfl⟩, (c_thrown G hK hvm h1 h2).1⟩, (c_thrown G hK hvm h1 h2).2⟩) _ _ _ _ _ _ h G hl
def g_X3_takeWord_b17 (tx : Nat × (Nat → Int32))  (T : AT) (l0 : Nat) : Option (Nat × Int32 × AT) := oif (oO T l0 3 = true) <| elet (T.2.2.1 l0 1) fun v3 => elet (v3 + 1) fun v4 => oif (oO T l0 3 = true) <| elet (uI T l0 1 v4) fun T6 => some (0, 0, T6)
set_option maxHeartbeats 4000000 in
set_option maxRecDepth 100000 in
theorem u_X3_takeWord_b17 {p : Program} {l : Launch} {e : Env} {s : State} {m : MethodId} {args : Array Value} {below : List Frame} {meth : Method} {c : Code} {Q : State → Prop} {D : va_G} {A : Nat → Prop} {cI cJ cZ cMic cSrc cSt cAI cAJ : ClassId} {ad : Nat → Nat} {r1 : Int32} {T1 : AT} (E : cE p c cX3_takeWord s m args (Cond.code yX3_takeWord cX3_takeWord 2 none :: wsA) D RX3 (CT cI cJ cZ cMic cSrc cSt cAI cAJ)) (hA : ∀ q : Nat, s.heap.size ≤ q → A q) (hX : xT A s) (hN : nX s) (hml : c.maxLocals = 2) (hst : l.stackTraces = false) {h0 : Nat} (hA0 : ∀ a : Nat, A a → h0 ≤ a) (hT : sAll h0 s) {q : Nat} {tx : Nat × (Nat → Int32)} (hO : sO tx q (fun a => h0 ≤ a) s s.heap) (hC : sT tx) (kr27 : ∀ (H : Heap) (locs : List Loc) (ls : Array Slot), gC cI cJ cZ cMic cSrc cSt cAI cAJ D ad A s.heap H locs T1 → W p l e { frames := 7, cells := 0, slots := 0, locals := 111 } s m args below meth c H locs 0 0 Q (F0 m 27 ls [])) : ∀ (T : AT) (H : Heap) (locs : List Loc) (ls : Array Slot) (l0 : Nat), g_X3_takeWord_b17 tx T l0 = some (0, r1, T1) → gC cI cJ cZ cMic cSrc cSt cAI cAJ D ad A s.heap H locs T → lv_has ls 2 [(0, .ref (ad l0))] → W p l e { frames := 7, cells := 0, slots := 0, locals := 111 } s m args below meth c H locs 0 0 Q (F0 m 17 ls []) := by
  have hx := E.1
  have hb := E.2.1
  have hts := E.2.2.1
  have hown := E.2.2.2.1
  have hK := E.2.2.2.2
  intro T H locs ls l0 h G hl
  unfold g_X3_takeWord_b17 at h
  refine lv_aload_n hx hb dX3_takeWord_17 rfl (lv_at hl 0 rfl) ?_
  refine lv_dup hx hb dX3_takeWord_18 rfl ?_
  obtain ⟨g2, h⟩ := oif_some h
  refine c_get E G l0 1 (oO_k g2).1 (cc_o3 (oO_k g2).2) rfl (fun w h => .tail _ (iA_17 h)) (by decide) (.tail _ qA_176) rfl rfl dX3_takeWord_19 ?_
  refine lv_topi (fun v3 ev3 => ?_)
  have h := elet_at ev3 h
  clear ev3
  refine lv_iconst (v := 1) hx hb dX3_takeWord_22 (by decide) ?_
  refine lv_iadd hx hb dX3_takeWord_23 ?_
  refine lv_topi (fun v4 ev4 => ?_)
  have h := elet_at ev4 h
  clear ev4
  obtain ⟨g5, h⟩ := oif_some h
  refine c_put E G l0 1 (v := .int v4) (oO_k g5).1 (cc_o3 (oO_k g5).2) rfl (fun w h => .tail _ (iA_17 h)) tyX3 tyX3_ok nmX3 (by decide) (.tail _ qA_176) ⟨rfl, rfl, rfl⟩ rfl rfl (Nat.le_of_ble_eq_true rfl) dX3_takeWord_24 (fun H locs G => ?_)
  have G := gC_up_i (f := upd (T.2.2.1 l0) 1 v4) (by rw [(oO_k g5).2]; rfl) G
  obtain ⟨T6, eT6, h⟩ := elet_some h
  have G : gC cI cJ cZ cMic cSrc cSt cAI cAJ D ad A s.heap H locs T6 := by rw [eT6]; exact G
  clear eT6
  rw [(osome3 h).2.2] at G
  exact kr27 _ _ _ G
def g_X3_takeWord (T : AT) (tx : Nat × (Nat → Int32)) (o : Nat) : Option (Nat × Int32 × AT) := oif (oO T o 3 = true) <| obind2 (g_X3_isWord T tx o) fun r5 T3 => if r5 = 0 then (oif (oO T3 o 3 = true) <| elet (T3.2.2.1 o 1) fun v9 => oif (oO T3 o 3 = true) <| othr (g_X3_failAt T3 o v9 (1 : Int32)) 0 fun r13 T11 => g_X3_takeWord_b17 tx T11 o) else (g_X3_takeWord_b17 tx T3 o)
set_option maxHeartbeats 4000000 in
set_option maxRecDepth 100000 in
theorem u_X3_takeWord (l : Launch) (hst : l.stackTraces = false) (D : va_G) (cI cJ cZ cMic cSrc cSt cAI cAJ : ClassId) (ad : Nat → Nat) (T : AT) (h0 : Nat) {q : Nat} {tx : Nat × (Nat → Int32)} (hC : sT tx) (o : Nat) {r1 : Int32} {T1 : AT} (h : g_X3_takeWord T tx o = some (0, r1, T1)) : kCvX l yX3_takeWord (Cond.code yX3_takeWord cX3_takeWord 2 none :: wsA) 7 111 cI cJ cZ cMic cSrc cSt cAI cAJ D ad T [.ref (ad o), .ref q] (yT1 cI cJ cZ cMic cSrc cSt cAI cAJ h0 ad T tx q) (fun T9 => T9 = T1) := by
  intro sz
  refine pro_in (cc := cX3_takeWord) (maxL := 2) (ret := none) (by exact pn_RX3) rfl (by exact Nat.le_of_ble_eq_true rfl) (fun p e s m below meth c ls hx hb hr hts hown hlocks hml hv hl => ?_)
  obtain ⟨⟨hsz, hP, hK, hD0, hX, hN⟩, ⟨hA1, hT⟩, hO⟩ := hv
  subst hsz
  have hD := hD0.self (sz := s.heap.size)
  generalize hAe : va_A (cW ad T.1 (cc cI cJ cZ cMic cSrc cSt cAI cAJ ad T)) s.heap.size = A at hD hX hA1 ⊢
  have hA : ∀ q : Nat, s.heap.size ≤ q → A q := fun q h => by rw [← hAe]; exact Or.inr h
  have G : gC cI cJ cZ cMic cSrc cSt cAI cAJ D ad A s.heap s.heap [] T := ⟨hP, hD, va_S.rf⟩
  have E : cE p c cX3_takeWord s m ([.ref (ad o), .ref q] : List Value).toArray (Cond.code yX3_takeWord cX3_takeWord 2 none :: wsA) D RX3 (CT cI cJ cZ cMic cSrc cSt cAI cAJ) := ⟨hx, hb, hts, hown, hK⟩
  have hA0 : ∀ a : Nat, A a → h0 ≤ a := hA1
  have hl : lv_has ls 2 [(0, .ref (ad o)), (1, .ref q)] := hl
  unfold g_X3_takeWord at h
  refine lv_aload_n hx hb dX3_takeWord_0 rfl (lv_at hl 0 rfl) ?_
  refine lv_aload_n hx hb dX3_takeWord_1 rfl (lv_at hl 1 rfl) ?_
  obtain ⟨g2, h⟩ := oif_some h
  obtain ⟨r5, T3, eT3, h⟩ := obind2_some h
  refine q_cviX (As := [.ref q]) (rest := []) E G hA hX hN hml (u_X3_isWord l hst D cI cJ cZ cMic cSrc cSt cAI cAJ ad T h0 (q := q) hC o eT3) (cwV 1 hts (gaV qA_232 qA_233 qA_234 qA_222 qA_235) rfl rfl rfl (by decide +kernel) ⟨Nat.le_of_ble_eq_true rfl, Nat.le_of_ble_eq_true rfl⟩) (oO_k g2).1 (cc_o3 (oO_k g2).2) rfl rfl hl.1 rfl (lv_room (Nat.le_of_ble_eq_true rfl)) dX3_takeWord_2 ⟨Nat.zero_le _, Nat.zero_le _⟩ (yT1.blind) (yT1.go hT hA0 hA G hO) (fun q6 T4 H locs hq G => ?_)
  obtain ⟨hq1, hq2⟩ := hq
  rw [hq2] at G
  refine lv_to hq1 ?_
  clear hq1 hq2 eT3
  refine lv_if_ne (tgt := 17) hx hb dX3_takeWord_5 (by decide) (fun c7 => ?_) (fun c7 => ?_)
  · have h := oif_neg c7 h
    have hl := lv_sub hl [0] rfl
    exact u_X3_takeWord_b17 E hA hX hN hml hst hA0 hT hO hC (fun H locs ls G => W.vret hx hb hr (fun t ht hW => ⟨⟨T1, rfl, rfl, ⟨by rw [ht]; exact G.1, va_K.moved hW.alike hK, G.2.1⟩⟩, G.2.2.F ht⟩) G.2.2.2.2 dX3_takeWord_27) _ _ _ _ _ h G hl
  · have h := oif_pos c7 h
    refine lv_aload_n hx hb dX3_takeWord_8 rfl (lv_at hl 0 rfl) ?_
    refine lv_aload_n hx hb dX3_takeWord_9 rfl (lv_at hl 0 rfl) ?_
    obtain ⟨g8, h⟩ := oif_some h
    refine c_get E G o 1 (oO_k g8).1 (cc_o3 (oO_k g8).2) rfl (fun w h => .tail _ (iA_17 h)) (by decide) (.tail _ qA_176) rfl rfl dX3_takeWord_10 ?_
    refine lv_topi (fun v9 ev9 => ?_)
    have h := elet_at ev9 h
    clear ev9
    refine lv_iconst (v := 1) hx hb dX3_takeWord_13 (by decide) ?_
    obtain ⟨g10, h⟩ := oif_some h
    obtain ⟨r13, T11, eT11, h⟩ := othr_n h
    refine q_cvv (As := [.int v9, .int 1]) (rest := []) E G hA hX hN hml (u_X3_failAt l hst D cI cJ cZ cMic cSrc cSt cAI cAJ ad T3 o v9 (1 : Int32) eT11) (cwV 2 hts (gaV qA_293 qA_294 qA_295 qA_222 qA_296) rfl rfl rfl (by decide +kernel) ⟨Nat.le_of_ble_eq_true rfl, Nat.le_of_ble_eq_true rfl⟩) (oO_k g10).1 (cc_o3 (oO_k g10).2) rfl rfl hl.1 rfl (lv_room (Nat.le_of_ble_eq_true rfl)) dX3_takeWord_14 ⟨Nat.zero_le _, Nat.zero_le _⟩ (fun T12 H locs hq G => ?_)
    rw [hq] at G
    clear hq eT11
    have hl := lv_sub hl [0] rfl
    exact u_X3_takeWord_b17 E hA hX hN hml hst hA0 hT hO hC (fun H locs ls G => W.vret hx hb hr (fun t ht hW => ⟨⟨T1, rfl, rfl, ⟨by rw [ht]; exact G.1, va_K.moved hW.alike hK, G.2.1⟩⟩, G.2.2.F ht⟩) G.2.2.2.2 dX3_takeWord_27) _ _ _ _ _ h G hl
set_option maxHeartbeats 4000000 in
set_option maxRecDepth 100000 in
theorem s_X3_takeWord_b17 {tx : Nat × (Nat → Int32)} {e1 : Nat} {r1 : Int32} {T1 : AT} : ∀ (T : AT) (l0 : Nat), g_X3_takeWord_b17 tx T l0 = some (e1, r1, T1) → SP T T1 := by
  intro T l0 h
  have p0 := SP.rf T
  unfold g_X3_takeWord_b17 at h
  obtain ⟨g2, h⟩ := oif_some h
  obtain ⟨v3, -, h⟩ := elet_some h
  obtain ⟨v4, -, h⟩ := elet_some h
  obtain ⟨g5, h⟩ := oif_some h
  obtain ⟨T6, eT6, h⟩ := elet_some h
  have p1 : SP T T6 := SP.tr p0 (by rw [eT6]; exact sp_uI)
  rw [← (osome3 h).2.2]
  exact p1
set_option maxHeartbeats 4000000 in
set_option maxRecDepth 100000 in
theorem s_X3_takeWord {T : AT} {tx : Nat × (Nat → Int32)} {o : Nat} {e1 : Nat} {r1 : Int32} {T1 : AT} (h : g_X3_takeWord T tx o = some (e1, r1, T1)) : SP T T1 := by
  have p0 := SP.rf T
  unfold g_X3_takeWord at h
  obtain ⟨g2, h⟩ := oif_some h
  obtain ⟨r4, T3, eT3, h⟩ := obind2_some h
  have p1 : SP T T3 := SP.tr p0 (s_X3_isWord eT3)
  rcases oif_or h with ⟨c5, h⟩ | ⟨c5, h⟩
  · have h := h
    obtain ⟨g6, h⟩ := oif_some h
    obtain ⟨v7, -, h⟩ := elet_some h
    obtain ⟨g8, h⟩ := oif_some h
    rcases othr_s h with ⟨k9, r9, e9, -⟩ | ⟨r10, T9, eT9, h⟩
    · exact SP.tr p1 (s_X3_failAt e9)
    have p2 : SP T T9 := SP.tr p1 (s_X3_failAt eT9)
    exact SP.tr p2 (s_X3_takeWord_b17 _ _ h)
  · have h := h
    exact SP.tr p1 (s_X3_takeWord_b17 _ _ h)
set_option maxHeartbeats 4000000 in
set_option maxRecDepth 100000 in
theorem x_X3_takeWord_b17 {p : Program} {l : Launch} {e : Env} {s : State} {m : MethodId} {args : Array Value} {below : List Frame} {meth : Method} {c : Code} {Qc : Array Value → State → Outcome → State → Prop} {XC : String → State → State → Prop} {D : va_G} {A : Nat → Prop} {cI cJ cZ cMic cSrc cSt cAI cAJ : ClassId} {ad : Nat → Nat} {e1 : Nat} {r1 : Int32} {T1 : AT} (E : cE p c cX3_takeWord s m args (Cond.code yX3_takeWord cX3_takeWord 2 none :: wsA) D RX3 (CT cI cJ cZ cMic cSrc cSt cAI cAJ)) (hA : ∀ q : Nat, s.heap.size ≤ q → A q) (hX : xT A s) (hN : nX s) (hml : c.maxLocals = 2) {h0 : Nat} (hA0 : ∀ a : Nat, A a → h0 ≤ a) (hT : sAll h0 s) {q : Nat} {tx : Nat × (Nat → Int32)} (hO : sO tx q (fun a => h0 ≤ a) s s.heap) (hC : sT tx) (hz9 : True) (hst : l.stackTraces = false) (htab : ∀ x ∈ c.exceptionTable.toList, False) (hlocks : meth.locks = false) (kx : ∀ (H : Heap) (locs : List Loc) (t : State), gC cI cJ cZ cMic cSrc cSt cAI cAJ D ad A s.heap H locs T1 → s.vm.Alike t.vm → H.size ≤ t.heap.size → (∀ q, q < H.size → t.heap[q]? = H[q]?) → XC (exn e1) s t) : ∀ (T : AT) (H : Heap) (locs : List Loc) (ls : Array Slot) (l0 : Nat), g_X3_takeWord_b17 tx T l0 = some (e1 + 1, r1, T1) → gC cI cJ cZ cMic cSrc cSt cAI cAJ D ad A s.heap H locs T → lv_has ls 2 [(0, .ref (ad l0))] → W p l e { frames := 7, cells := 1, slots := 6, locals := 111 } s m args below meth c H locs 0 0 (vx_MQ below Qc XC args s 1 6 A) (F0 m 17 ls []) := by
  have hx := E.1
  have hb := E.2.1
  have hts := E.2.2.1
  have hown := E.2.2.2.1
  have hK := E.2.2.2.2
  intro T H locs ls l0 h G hl
  unfold g_X3_takeWord_b17 at h
  refine lv_aload_n hx hb dX3_takeWord_17 rfl (lv_at hl 0 rfl) ?_
  refine lv_dup hx hb dX3_takeWord_18 rfl ?_
  obtain ⟨g2, h⟩ := oif_some h
  refine c_get E G l0 1 (oO_k g2).1 (cc_o3 (oO_k g2).2) rfl (fun w h => .tail _ (iA_17 h)) (by decide) (.tail _ qA_176) rfl rfl dX3_takeWord_19 ?_
  refine lv_topi (fun v3 ev3 => ?_)
  have h := elet_at ev3 h
  clear ev3
  refine lv_iconst (v := 1) hx hb dX3_takeWord_22 (by decide) ?_
  refine lv_iadd hx hb dX3_takeWord_23 ?_
  refine lv_topi (fun v4 ev4 => ?_)
  have h := elet_at ev4 h
  clear ev4
  obtain ⟨g5, h⟩ := oif_some h
  refine c_put E G l0 1 (v := .int v4) (oO_k g5).1 (cc_o3 (oO_k g5).2) rfl (fun w h => .tail _ (iA_17 h)) tyX3 tyX3_ok nmX3 (by decide) (.tail _ qA_176) ⟨rfl, rfl, rfl⟩ rfl rfl (Nat.le_of_ble_eq_true rfl) dX3_takeWord_24 (fun H locs G => ?_)
  have G := gC_up_i (f := upd (T.2.2.1 l0) 1 v4) (by rw [(oO_k g5).2]; rfl) G
  obtain ⟨T6, eT6, h⟩ := elet_some h
  have G : gC cI cJ cZ cMic cSrc cSt cAI cAJ D ad A s.heap H locs T6 := by rw [eT6]; exact G
  clear eT6
  exact (Nat.succ_ne_zero _ (congrArg Prod.fst (Option.some.inj h)).symm).elim
set_option maxHeartbeats 4000000 in
set_option maxRecDepth 100000 in
theorem x_X3_takeWord (l : Launch) (hst : l.stackTraces = false) (D : va_G) (cI cJ cZ cMic cSrc cSt cAI cAJ : ClassId) (ad : Nat → Nat) (T : AT) (h0 : Nat) {q : Nat} {tx : Nat × (Nat → Int32)} (hC : sT tx) (o : Nat) {e1 : Nat} {r1 : Int32} {T1 : AT} (h : g_X3_takeWord T tx o = some (e1 + 1, r1, T1)) : kXvX l yX3_takeWord (Cond.code yX3_takeWord cX3_takeWord 2 none :: wsA) 7 111 cI cJ cZ cMic cSrc cSt cAI cAJ D ad T [.ref (ad o), .ref q] (yT1 cI cJ cZ cMic cSrc cSt cAI cAJ h0 ad T tx q) e1 T1 := by
  intro sz
  refine pro_inX (cc := cX3_takeWord) (maxL := 2) (ret := none) (by exact pn_RX3) rfl (by exact Nat.le_of_ble_eq_true rfl) (fun p e s m below meth c ls hx hb hr hts hown hlocks htab hml hv hl => ?_)
  obtain ⟨⟨hsz, hP, hK, hD0, hX, hN⟩, ⟨hA1, hT⟩, hO⟩ := hv
  subst hsz
  have hD := hD0.self (sz := s.heap.size)
  generalize hAe : va_A (cW ad T.1 (cc cI cJ cZ cMic cSrc cSt cAI cAJ ad T)) s.heap.size = A at hD hX hA1 ⊢
  have hA : ∀ q : Nat, s.heap.size ≤ q → A q := fun q h => by rw [← hAe]; exact Or.inr h
  have G : gC cI cJ cZ cMic cSrc cSt cAI cAJ D ad A s.heap s.heap [] T := ⟨hP, hD, va_S.rf⟩
  have E : cE p c cX3_takeWord s m ([.ref (ad o), .ref q] : List Value).toArray (Cond.code yX3_takeWord cX3_takeWord 2 none :: wsA) D RX3 (CT cI cJ cZ cMic cSrc cSt cAI cAJ) := ⟨hx, hb, hts, hown, hK⟩
  have htab : ∀ x ∈ c.exceptionTable.toList, False := fun x hx => htab x hx
  have hA0 : ∀ a : Nat, A a → h0 ≤ a := hA1
  have hl : lv_has ls 2 [(0, .ref (ad o)), (1, .ref q)] := hl
  unfold g_X3_takeWord at h
  refine lv_aload_n hx hb dX3_takeWord_0 rfl (lv_at hl 0 rfl) ?_
  refine lv_aload_n hx hb dX3_takeWord_1 rfl (lv_at hl 1 rfl) ?_
  obtain ⟨g2, h⟩ := oif_some h
  obtain ⟨r5, T3, eT3, h⟩ := obind2_some h
  refine q_cviX (As := [.ref q]) (rest := []) E G hA hX hN hml (u_X3_isWord l hst D cI cJ cZ cMic cSrc cSt cAI cAJ ad T h0 (q := q) hC o eT3) (cwV 1 hts (gaV qA_232 qA_233 qA_234 qA_222 qA_235) rfl rfl rfl (by decide +kernel) ⟨Nat.le_of_ble_eq_true rfl, Nat.le_of_ble_eq_true rfl⟩) (oO_k g2).1 (cc_o3 (oO_k g2).2) rfl rfl hl.1 rfl (lv_room (Nat.le_of_ble_eq_true rfl)) dX3_takeWord_2 ⟨Nat.zero_le _, Nat.zero_le _⟩ (yT1.blind) (yT1.go hT hA0 hA G hO) (fun q6 T4 H locs hq G => ?_)
  obtain ⟨hq1, hq2⟩ := hq
  rw [hq2] at G
  refine lv_to hq1 ?_
  clear hq1 hq2 eT3
  refine lv_if_ne (tgt := 17) hx hb dX3_takeWord_5 (by decide) (fun c7 => ?_) (fun c7 => ?_)
  · have h := oif_neg c7 h
    have hl := lv_sub hl [0] rfl
    exact x_X3_takeWord_b17 E hA hX hN hml hA0 hT hO hC trivial hst htab hlocks (fun H locs t G hvm h1 h2 => ⟨T1, trivial, ⟨⟨rfl, rfl⟩, (c_thrown G hK hvm h1 h2).1⟩, (c_thrown G hK hvm h1 h2).2⟩) _ _ _ _ _ h G hl
  · have h := oif_pos c7 h
    refine lv_aload_n hx hb dX3_takeWord_8 rfl (lv_at hl 0 rfl) ?_
    refine lv_aload_n hx hb dX3_takeWord_9 rfl (lv_at hl 0 rfl) ?_
    obtain ⟨g8, h⟩ := oif_some h
    refine c_get E G o 1 (oO_k g8).1 (cc_o3 (oO_k g8).2) rfl (fun w h => .tail _ (iA_17 h)) (by decide) (.tail _ qA_176) rfl rfl dX3_takeWord_10 ?_
    refine lv_topi (fun v9 ev9 => ?_)
    have h := elet_at ev9 h
    clear ev9
    refine lv_iconst (v := 1) hx hb dX3_takeWord_13 (by decide) ?_
    obtain ⟨g10, h⟩ := oif_some h
    rcases othr_t h with ⟨r0, eT11⟩ | ⟨r13, T11, eT11, h⟩
    · refine q_xvv (As := [.int v9, .int 1]) (rest := []) E G hA hX hN hml (x_X3_failAt l hst D cI cJ cZ cMic cSrc cSt cAI cAJ ad T3 o v9 (1 : Int32) eT11) (cwV 2 hts (gaV qA_293 qA_294 qA_295 qA_222 qA_296) rfl rfl rfl (by decide +kernel) ⟨Nat.le_of_ble_eq_true rfl, Nat.le_of_ble_eq_true rfl⟩) (oO_k g10).1 (cc_o3 (oO_k g10).2) rfl rfl hl.1 rfl (lv_room (Nat.le_of_ble_eq_true rfl)) dX3_takeWord_14 ⟨Nat.le_of_ble_eq_true rfl, Nat.le_of_ble_eq_true rfl⟩ (fun E9 ce q9 T9 H locs hp G hce hcv hcl => ?_)
      obtain ⟨hE, hT⟩ := hp
      subst hE
      rw [hT] at G
      exact vx_out (fun x hx => (htab x hx).elim) hlocks hce hcv hcl (fun t ht hvm => ⟨T1, trivial, ⟨⟨rfl, rfl⟩, by rw [ht]; exact G.1, va_K.moved hvm hK, G.2.1⟩, G.2.2.F ht⟩) G.2.2.2.2 (Nat.le_refl _) (Nat.le_refl _)
    refine q_cvv (As := [.int v9, .int 1]) (rest := []) E G hA hX hN hml (u_X3_failAt l hst D cI cJ cZ cMic cSrc cSt cAI cAJ ad T3 o v9 (1 : Int32) eT11) (cwV 2 hts (gaV qA_293 qA_294 qA_295 qA_222 qA_296) rfl rfl rfl (by decide +kernel) ⟨Nat.le_of_ble_eq_true rfl, Nat.le_of_ble_eq_true rfl⟩) (oO_k g10).1 (cc_o3 (oO_k g10).2) rfl rfl hl.1 rfl (lv_room (Nat.le_of_ble_eq_true rfl)) dX3_takeWord_14 ⟨Nat.zero_le _, Nat.zero_le _⟩ (fun T12 H locs hq G => ?_)
    rw [hq] at G
    clear hq eT11
    have hl := lv_sub hl [0] rfl
    exact x_X3_takeWord_b17 E hA hX hN hml hA0 hT hO hC trivial hst htab hlocks (fun H locs t G hvm h1 h2 => ⟨T1, trivial, ⟨⟨rfl, rfl⟩, (c_thrown G hK hvm h1 h2).1⟩, (c_thrown G hK hvm h1 h2).2⟩) _ _ _ _ _ h G hl
def g_X3_value_b15  : Nat → AT → Nat → Int32 → Int32 → Option (Int32 × AT)
  | 0, _, _, _, _ => none
  | n + 1, T, l0, l1, l2 => oif (oO T l0 3 = true) <| obind (T.2.2.2.2 l0 0) fun n3 => oif (oO T n3 9 = true) <| obind (T.2.2.2.2 n3 4) fun n5 => oif (oO T l0 3 = true) <| elet (T.2.2.1 l0 1) fun v7 => oif (aA T n5 100 = true) <| oif (inb v7 (T.2.1 n5).2 = true) <| elet (T.2.2.1 n5 v7.toNatClampNeg) fun v10 => if v10 ≤ l2 then (some (l1, T)) else (elet (10 * l1) fun v12 => oif (oO T l0 3 = true) <| obind (T.2.2.2.2 l0 0) fun n14 => oif (oO T n14 9 = true) <| obind (T.2.2.2.2 n14 0) fun n16 => oif (aA T n16 100 = true) <| oif (inb l2 (T.2.1 n16).2 = true) <| elet (T.2.2.1 n16 l2.toNatClampNeg) fun v19 => elet (v12 + v19) fun v20 => elet (v20 - 48) fun v21 => elet (l2 + Int32.ofInt (1)) fun v22 => g_X3_value_b15 n T l0 v21 v22)
set_option maxHeartbeats 4000000 in
set_option maxRecDepth 100000 in
theorem u_X3_value_b15 {p : Program} {l : Launch} {e : Env} {s : State} {m : MethodId} {args : Array Value} {below : List Frame} {meth : Method} {c : Code} {Q : State → Prop} {D : va_G} {A : Nat → Prop} {cI cJ cZ cMic cSrc cSt cAI cAJ : ClassId} {ad : Nat → Nat} {r1 : Int32} {T1 : AT} (E : cE p c cX3_value s m args (Cond.code yX3_value cX3_value 3 (some .int) :: wsA) D RX3 (CT cI cJ cZ cMic cSrc cSt cAI cAJ)) (hA : ∀ q : Nat, s.heap.size ≤ q → A q) (hX : xT A s) (hN : nX s) (hml : c.maxLocals = 3) (hst : l.stackTraces = false) (kr56 : ∀ (H : Heap) (locs : List Loc) (ls : Array Slot), gC cI cJ cZ cMic cSrc cSt cAI cAJ D ad A s.heap H locs T1 → W p l e { frames := 1, cells := 0, slots := 0, locals := 0 } s m args below meth c H locs 0 0 Q (F0 m 56 ls [.int r1])) : ∀ n : Nat, ∀ (T : AT) (H : Heap) (locs : List Loc) (ls : Array Slot) (l0 : Nat) (l1 : Int32) (l2 : Int32), g_X3_value_b15 n T l0 l1 l2 = some (r1, T1) → gC cI cJ cZ cMic cSrc cSt cAI cAJ D ad A s.heap H locs T → lv_has ls 3 [(0, .ref (ad l0)), (1, .int l1), (2, .int l2)] → W p l e { frames := 1, cells := 0, slots := 0, locals := 0 } s m args below meth c H locs 0 0 Q (F0 m 15 ls []) := by
  have hx := E.1
  have hb := E.2.1
  have hts := E.2.2.1
  have hown := E.2.2.2.1
  have hK := E.2.2.2.2
  intro n
  induction n with
  | zero =>
    intro T H locs ls l0 l1 l2 h
    have h : (none : Option (Int32 × AT)) = some (r1, T1) := h
    cases h
  | succ n ih =>
    intro T H locs ls l0 l1 l2 h G hl
    unfold g_X3_value_b15 at h
    refine lv_iload_n hx hb dX3_value_15 rfl (lv_at hl 2 rfl) ?_
    refine lv_aload_n hx hb dX3_value_16 rfl (lv_at hl 0 rfl) ?_
    obtain ⟨g2, h⟩ := oif_some h
    obtain ⟨n3, en3, h⟩ := obind_some h
    refine c_get E G l0 0 (v := .ref (ad n3)) (oO_k g2).1 (cc_o3 (oO_k g2).2) rfl (fun w h => .tail _ (iA_17 h)) (by decide) (.tail _ qA_174) rfl (by rw [en3]; rfl) dX3_value_17 ?_
    clear en3
    obtain ⟨g4, h⟩ := oif_some h
    obtain ⟨n5, en5, h⟩ := obind_some h
    refine c_get E G n3 4 (v := .ref (ad n5)) (oO_k g4).1 (cc_o9 (oO_k g4).2) rfl (fun w h => .tail _ (iA_18 h)) (by decide) (.tail _ qA_237) rfl (by rw [en5]; rfl) dX3_value_20 ?_
    clear en5
    refine lv_aload_n hx hb dX3_value_23 rfl (lv_at hl 0 rfl) ?_
    obtain ⟨g6, h⟩ := oif_some h
    refine c_get E G l0 1 (oO_k g6).1 (cc_o3 (oO_k g6).2) rfl (fun w h => .tail _ (iA_17 h)) (by decide) (.tail _ qA_176) rfl rfl dX3_value_24 ?_
    refine lv_topi (fun v7 ev7 => ?_)
    have h := elet_at ev7 h
    clear ev7
    obtain ⟨g8, h⟩ := oif_some h
    obtain ⟨g9, h⟩ := oif_some h
    refine c_iald E G n5 0 (k := v7.toNatClampNeg) (aA_k g8).1 (cc_a100 (aA_k g8).2.1) rfl (inb_k g9).1 (inb_k g9).2 (aA_k g8).2.2 dX3_value_27 ?_
    refine lv_topi (fun v10 ev10 => ?_)
    have h := elet_at ev10 h
    clear ev10
    refine lv_icmp_ge (tgt := 55) hx hb dX3_value_28 (by decide) (fun c11 => ?_) (fun c11 => ?_)
    · have h := oif_pos c11 h
      refine lv_iload_n hx hb dX3_value_55 rfl (lv_at hl 1 rfl) ?_
      rw [(osome2 h).2] at G
      refine lv_to (osome2 h).1 ?_
      exact kr56 _ _ _ G
    · have h := oif_neg c11 h
      refine lv_bipush (v := 10) hx hb dX3_value_31 (by decide) ?_
      refine lv_iload_n hx hb dX3_value_33 rfl (lv_at hl 1 rfl) ?_
      refine lv_imul hx hb dX3_value_34 ?_
      refine lv_topi (fun v12 ev12 => ?_)
      have h := elet_at ev12 h
      clear ev12
      refine lv_aload_n hx hb dX3_value_35 rfl (lv_at hl 0 rfl) ?_
      obtain ⟨g13, h⟩ := oif_some h
      obtain ⟨n14, en14, h⟩ := obind_some h
      refine c_get E G l0 0 (v := .ref (ad n14)) (oO_k g13).1 (cc_o3 (oO_k g13).2) rfl (fun w h => .tail _ (iA_17 h)) (by decide) (.tail _ qA_174) rfl (by rw [en14]; rfl) dX3_value_36 ?_
      clear en14
      obtain ⟨g15, h⟩ := oif_some h
      obtain ⟨n16, en16, h⟩ := obind_some h
      refine c_get E G n14 0 (v := .ref (ad n16)) (oO_k g15).1 (cc_o9 (oO_k g15).2) rfl (fun w h => .tail _ (iA_18 h)) (by decide) (.tail _ qA_238) rfl (by rw [en16]; rfl) dX3_value_39 ?_
      clear en16
      refine lv_iload_n hx hb dX3_value_42 rfl (lv_at hl 2 rfl) ?_
      obtain ⟨g17, h⟩ := oif_some h
      obtain ⟨g18, h⟩ := oif_some h
      refine c_iald E G n16 0 (k := l2.toNatClampNeg) (aA_k g17).1 (cc_a100 (aA_k g17).2.1) rfl (inb_k g18).1 (inb_k g18).2 (aA_k g17).2.2 dX3_value_43 ?_
      refine lv_topi (fun v19 ev19 => ?_)
      have h := elet_at ev19 h
      clear ev19
      refine lv_iadd hx hb dX3_value_44 ?_
      refine lv_topi (fun v20 ev20 => ?_)
      have h := elet_at ev20 h
      clear ev20
      refine lv_bipush (v := 48) hx hb dX3_value_45 (by decide) ?_
      refine lv_isub hx hb dX3_value_47 ?_
      refine lv_topi (fun v21 ev21 => ?_)
      have h := elet_at ev21 h
      clear ev21
      refine lv_istore_n (lv' := [(1, .int v21), (0, .ref (ad l0)), (2, .int l2)]) hx hb dX3_value_48 rfl hl (by decide) rfl (fun ls hl => ?_)
      obtain ⟨v22, ev22, h⟩ := elet_some h
      refine lv_iinc (v := v22) (lv' := [(2, .int v22), (1, .int v21), (0, .ref (ad l0))]) hx hb dX3_value_49 hl (k := 2) rfl ev22.symm (by decide) rfl (fun ls hl => ?_)
      refine lv_goto (tgt := 15) hx hb dX3_value_52 (by decide) ?_
      have hl := lv_sub hl [2, 1, 0] rfl
      exact ih _ _ _ _ _ _ _ h G hl
def g_X3_value (T : AT) (o : Nat) : Option (Int32 × AT) := oif (oO T o 3 = true) <| obind (T.2.2.2.2 o 0) fun n3 => oif (oO T n3 9 = true) <| obind (T.2.2.2.2 n3 3) fun n5 => oif (oO T o 3 = true) <| elet (T.2.2.1 o 1) fun v7 => oif (aA T n5 100 = true) <| oif (inb v7 (T.2.1 n5).2 = true) <| elet (T.2.2.1 n5 v7.toNatClampNeg) fun v10 => g_X3_value_b15 16384 T o 0 v10
set_option maxHeartbeats 4000000 in
set_option maxRecDepth 100000 in
theorem u_X3_value (l : Launch) (hst : l.stackTraces = false) (D : va_G) (cI cJ cZ cMic cSrc cSt cAI cAJ : ClassId) (ad : Nat → Nat) (T : AT) (o : Nat) {r1 : Int32} {T1 : AT} (h : g_X3_value T o = some (r1, T1)) : kCi l yX3_value (Cond.code yX3_value cX3_value 3 (some .int) :: wsA) 1 0 cI cJ cZ cMic cSrc cSt cAI cAJ D ad T [.ref (ad o)] (fun r T9 => r = r1 ∧ T9 = T1) := by
  intro sz
  refine pro_in (cc := cX3_value) (maxL := 3) (ret := (some .int)) (by exact pn_RX3) rfl (by exact Nat.le_of_ble_eq_true rfl) (fun p e s m below meth c ls hx hb hr hts hown hlocks hml hv hl => ?_)
  obtain ⟨hsz, hP, hK, hD0, hX, hN⟩ := hv
  subst hsz
  have hD := hD0.self (sz := s.heap.size)
  generalize hAe : va_A (cW ad T.1 (cc cI cJ cZ cMic cSrc cSt cAI cAJ ad T)) s.heap.size = A at hD hX ⊢
  have hA : ∀ q : Nat, s.heap.size ≤ q → A q := fun q h => by rw [← hAe]; exact Or.inr h
  have G : gC cI cJ cZ cMic cSrc cSt cAI cAJ D ad A s.heap s.heap [] T := ⟨hP, hD, va_S.rf⟩
  have E : cE p c cX3_value s m ([.ref (ad o)] : List Value).toArray (Cond.code yX3_value cX3_value 3 (some .int) :: wsA) D RX3 (CT cI cJ cZ cMic cSrc cSt cAI cAJ) := ⟨hx, hb, hts, hown, hK⟩
  have hl : lv_has ls 3 [(0, .ref (ad o))] := hl
  unfold g_X3_value at h
  refine lv_iconst (v := 0) hx hb dX3_value_0 (by decide) ?_
  refine lv_istore_n (lv' := [(1, .int 0), (0, .ref (ad o))]) hx hb dX3_value_1 rfl hl (by decide) rfl (fun ls hl => ?_)
  refine lv_aload_n hx hb dX3_value_2 rfl (lv_at hl 1 rfl) ?_
  obtain ⟨g2, h⟩ := oif_some h
  obtain ⟨n3, en3, h⟩ := obind_some h
  refine c_get E G o 0 (v := .ref (ad n3)) (oO_k g2).1 (cc_o3 (oO_k g2).2) rfl (fun w h => .tail _ (iA_17 h)) (by decide) (.tail _ qA_174) rfl (by rw [en3]; rfl) dX3_value_3 ?_
  clear en3
  obtain ⟨g4, h⟩ := oif_some h
  obtain ⟨n5, en5, h⟩ := obind_some h
  refine c_get E G n3 3 (v := .ref (ad n5)) (oO_k g4).1 (cc_o9 (oO_k g4).2) rfl (fun w h => .tail _ (iA_18 h)) (by decide) (.tail _ qA_236) rfl (by rw [en5]; rfl) dX3_value_6 ?_
  clear en5
  refine lv_aload_n hx hb dX3_value_9 rfl (lv_at hl 1 rfl) ?_
  obtain ⟨g6, h⟩ := oif_some h
  refine c_get E G o 1 (oO_k g6).1 (cc_o3 (oO_k g6).2) rfl (fun w h => .tail _ (iA_17 h)) (by decide) (.tail _ qA_176) rfl rfl dX3_value_10 ?_
  refine lv_topi (fun v7 ev7 => ?_)
  have h := elet_at ev7 h
  clear ev7
  obtain ⟨g8, h⟩ := oif_some h
  obtain ⟨g9, h⟩ := oif_some h
  refine c_iald E G n5 0 (k := v7.toNatClampNeg) (aA_k g8).1 (cc_a100 (aA_k g8).2.1) rfl (inb_k g9).1 (inb_k g9).2 (aA_k g8).2.2 dX3_value_13 ?_
  refine lv_topi (fun v10 ev10 => ?_)
  have h := elet_at ev10 h
  clear ev10
  refine lv_istore_n (lv' := [(2, .int v10), (1, .int 0), (0, .ref (ad o))]) hx hb dX3_value_14 rfl hl (by decide) rfl (fun ls hl => ?_)
  have hl := lv_sub hl [2, 1, 0] rfl
  exact u_X3_value_b15 E hA hX hN hml hst (fun H locs ls G => W.iret (v := r1) hx hb hr (fun t ht hW => ⟨⟨r1, T1, rfl, ⟨rfl, rfl⟩, ⟨by rw [ht]; exact G.1, va_K.moved hW.alike hK, G.2.1⟩⟩, G.2.2.F ht⟩) G.2.2.2.2 dX3_value_56) _ _ _ _ _ _ _ _ h G hl
set_option maxHeartbeats 4000000 in
set_option maxRecDepth 100000 in
theorem s_X3_value_b15 {r1 : Int32} {T1 : AT} : ∀ n : Nat, ∀ (T : AT) (l0 : Nat) (l1 : Int32) (l2 : Int32), g_X3_value_b15 n T l0 l1 l2 = some (r1, T1) → SP T T1 := by
  intro n
  induction n with
  | zero =>
    intro T l0 l1 l2 h
    have h : (none : Option (Int32 × AT)) = some (r1, T1) := h
    cases h
  | succ n ih =>
    intro T l0 l1 l2 h
    have p0 := SP.rf T
    unfold g_X3_value_b15 at h
    obtain ⟨g2, h⟩ := oif_some h
    obtain ⟨n3, en3, h⟩ := obind_some h
    obtain ⟨g4, h⟩ := oif_some h
    obtain ⟨n5, en5, h⟩ := obind_some h
    obtain ⟨g6, h⟩ := oif_some h
    obtain ⟨v7, -, h⟩ := elet_some h
    obtain ⟨g8, h⟩ := oif_some h
    obtain ⟨g9, h⟩ := oif_some h
    obtain ⟨v10, -, h⟩ := elet_some h
    rcases oif_or h with ⟨c11, h⟩ | ⟨c11, h⟩
    · have h := h
      rw [← (osome2 h).2]
      exact p0
    · have h := h
      obtain ⟨v12, -, h⟩ := elet_some h
      obtain ⟨g13, h⟩ := oif_some h
      obtain ⟨n14, en14, h⟩ := obind_some h
      obtain ⟨g15, h⟩ := oif_some h
      obtain ⟨n16, en16, h⟩ := obind_some h
      obtain ⟨g17, h⟩ := oif_some h
      obtain ⟨g18, h⟩ := oif_some h
      obtain ⟨v19, -, h⟩ := elet_some h
      obtain ⟨v20, -, h⟩ := elet_some h
      obtain ⟨v21, -, h⟩ := elet_some h
      obtain ⟨v22, ev22, h⟩ := elet_some h
      exact SP.tr p0 (ih _ _ _ _ h)
set_option maxHeartbeats 4000000 in
set_option maxRecDepth 100000 in
theorem s_X3_value {T : AT} {o : Nat} {r1 : Int32} {T1 : AT} (h : g_X3_value T o = some (r1, T1)) : SP T T1 := by
  have p0 := SP.rf T
  unfold g_X3_value at h
  obtain ⟨g2, h⟩ := oif_some h
  obtain ⟨n3, en3, h⟩ := obind_some h
  obtain ⟨g4, h⟩ := oif_some h
  obtain ⟨n5, en5, h⟩ := obind_some h
  obtain ⟨g6, h⟩ := oif_some h
  obtain ⟨v7, -, h⟩ := elet_some h
  obtain ⟨g8, h⟩ := oif_some h
  obtain ⟨g9, h⟩ := oif_some h
  obtain ⟨v10, -, h⟩ := elet_some h
  exact SP.tr p0 (s_X3_value_b15 _ _ _ _ _ h)
end
section
/-! 11ke.cd4.lean.txt -/
def g_X3_number_b41  (T : AT) (l0 : Nat) (l3 : Int32) : Option (Nat × Int32 × AT) := oif (oO T l0 3 = true) <| elet (T.2.2.1 l0 1) fun v3 => elet (v3 + 1) fun v4 => oif (oO T l0 3 = true) <| elet (uI T l0 1 v4) fun T6 => some (0, l3, T6)
set_option maxHeartbeats 4000000 in
set_option maxRecDepth 100000 in
theorem u_X3_number_b41 {p : Program} {l : Launch} {e : Env} {s : State} {m : MethodId} {args : Array Value} {below : List Frame} {meth : Method} {c : Code} {Q : State → Prop} {D : va_G} {A : Nat → Prop} {cI cJ cZ cMic cSrc cSt cAI cAJ : ClassId} {ad : Nat → Nat} {r1 : Int32} {T1 : AT} (E : cE p c cX3_number s m args (Cond.code yX3_number cX3_number 4 (some .int) :: wsA) D RX3 (CT cI cJ cZ cMic cSrc cSt cAI cAJ)) (hA : ∀ q : Nat, s.heap.size ≤ q → A q) (hX : xT A s) (hN : nX s) (hml : c.maxLocals = 4) (hst : l.stackTraces = false) (kr52 : ∀ (H : Heap) (locs : List Loc) (ls : Array Slot), gC cI cJ cZ cMic cSrc cSt cAI cAJ D ad A s.heap H locs T1 → W p l e { frames := 7, cells := 0, slots := 0, locals := 103 } s m args below meth c H locs 0 0 Q (F0 m 52 ls [.int r1])) : ∀ (T : AT) (H : Heap) (locs : List Loc) (ls : Array Slot) (l0 : Nat) (l3 : Int32), g_X3_number_b41 T l0 l3 = some (0, r1, T1) → gC cI cJ cZ cMic cSrc cSt cAI cAJ D ad A s.heap H locs T → lv_has ls 4 [(0, .ref (ad l0)), (3, .int l3)] → W p l e { frames := 7, cells := 0, slots := 0, locals := 103 } s m args below meth c H locs 0 0 Q (F0 m 41 ls []) := by
  have hx := E.1
  have hb := E.2.1
  have hts := E.2.2.1
  have hown := E.2.2.2.1
  have hK := E.2.2.2.2
  intro T H locs ls l0 l3 h G hl
  unfold g_X3_number_b41 at h
  refine lv_aload_n hx hb dX3_number_41 rfl (lv_at hl 0 rfl) ?_
  refine lv_dup hx hb dX3_number_42 rfl ?_
  obtain ⟨g2, h⟩ := oif_some h
  refine c_get E G l0 1 (oO_k g2).1 (cc_o3 (oO_k g2).2) rfl (fun w h => .tail _ (iA_17 h)) (by decide) (.tail _ qA_176) rfl rfl dX3_number_43 ?_
  refine lv_topi (fun v3 ev3 => ?_)
  have h := elet_at ev3 h
  clear ev3
  refine lv_iconst (v := 1) hx hb dX3_number_46 (by decide) ?_
  refine lv_iadd hx hb dX3_number_47 ?_
  refine lv_topi (fun v4 ev4 => ?_)
  have h := elet_at ev4 h
  clear ev4
  obtain ⟨g5, h⟩ := oif_some h
  refine c_put E G l0 1 (v := .int v4) (oO_k g5).1 (cc_o3 (oO_k g5).2) rfl (fun w h => .tail _ (iA_17 h)) tyX3 tyX3_ok nmX3 (by decide) (.tail _ qA_176) ⟨rfl, rfl, rfl⟩ rfl rfl (Nat.le_of_ble_eq_true rfl) dX3_number_48 (fun H locs G => ?_)
  have G := gC_up_i (f := upd (T.2.2.1 l0) 1 v4) (by rw [(oO_k g5).2]; rfl) G
  obtain ⟨T6, eT6, h⟩ := elet_some h
  have G : gC cI cJ cZ cMic cSrc cSt cAI cAJ D ad A s.heap H locs T6 := by rw [eT6]; exact G
  clear eT6
  refine lv_iload_n hx hb dX3_number_51 rfl (lv_at hl 1 rfl) ?_
  rw [(osome3 h).2.2] at G
  refine lv_to (osome3 h).2.1 ?_
  exact kr52 _ _ _ G
def g_X3_number_b32  (T : AT) (l0 : Nat) (l3 : Int32) : Option (Nat × Int32 × AT) := oif (oO T l0 3 = true) <| elet (T.2.2.1 l0 1) fun v3 => oif (oO T l0 3 = true) <| othr (g_X3_failAt T l0 v3 (2 : Int32)) 0 fun r7 T5 => g_X3_number_b41 T5 l0 l3
set_option maxHeartbeats 4000000 in
set_option maxRecDepth 100000 in
theorem u_X3_number_b32 {p : Program} {l : Launch} {e : Env} {s : State} {m : MethodId} {args : Array Value} {below : List Frame} {meth : Method} {c : Code} {Q : State → Prop} {D : va_G} {A : Nat → Prop} {cI cJ cZ cMic cSrc cSt cAI cAJ : ClassId} {ad : Nat → Nat} {r1 : Int32} {T1 : AT} (E : cE p c cX3_number s m args (Cond.code yX3_number cX3_number 4 (some .int) :: wsA) D RX3 (CT cI cJ cZ cMic cSrc cSt cAI cAJ)) (hA : ∀ q : Nat, s.heap.size ≤ q → A q) (hX : xT A s) (hN : nX s) (hml : c.maxLocals = 4) (hst : l.stackTraces = false) (kr52 : ∀ (H : Heap) (locs : List Loc) (ls : Array Slot), gC cI cJ cZ cMic cSrc cSt cAI cAJ D ad A s.heap H locs T1 → W p l e { frames := 7, cells := 0, slots := 0, locals := 103 } s m args below meth c H locs 0 0 Q (F0 m 52 ls [.int r1])) : ∀ (T : AT) (H : Heap) (locs : List Loc) (ls : Array Slot) (l0 : Nat) (l3 : Int32), g_X3_number_b32 T l0 l3 = some (0, r1, T1) → gC cI cJ cZ cMic cSrc cSt cAI cAJ D ad A s.heap H locs T → lv_has ls 4 [(0, .ref (ad l0)), (3, .int l3)] → W p l e { frames := 7, cells := 0, slots := 0, locals := 103 } s m args below meth c H locs 0 0 Q (F0 m 32 ls []) := by
  have hx := E.1
  have hb := E.2.1
  have hts := E.2.2.1
  have hown := E.2.2.2.1
  have hK := E.2.2.2.2
  intro T H locs ls l0 l3 h G hl
  unfold g_X3_number_b32 at h
  refine lv_aload_n hx hb dX3_number_32 rfl (lv_at hl 0 rfl) ?_
  refine lv_aload_n hx hb dX3_number_33 rfl (lv_at hl 0 rfl) ?_
  obtain ⟨g2, h⟩ := oif_some h
  refine c_get E G l0 1 (oO_k g2).1 (cc_o3 (oO_k g2).2) rfl (fun w h => .tail _ (iA_17 h)) (by decide) (.tail _ qA_176) rfl rfl dX3_number_34 ?_
  refine lv_topi (fun v3 ev3 => ?_)
  have h := elet_at ev3 h
  clear ev3
  refine lv_iconst (v := 2) hx hb dX3_number_37 (by decide) ?_
  obtain ⟨g4, h⟩ := oif_some h
  obtain ⟨r7, T5, eT5, h⟩ := othr_n h
  refine q_cvv (As := [.int v3, .int 2]) (rest := []) E G hA hX hN hml (u_X3_failAt l hst D cI cJ cZ cMic cSrc cSt cAI cAJ ad T l0 v3 (2 : Int32) eT5) (cwV 2 hts (gaV qA_293 qA_294 qA_295 qA_222 qA_296) rfl rfl rfl (by decide +kernel) ⟨Nat.le_of_ble_eq_true rfl, Nat.le_of_ble_eq_true rfl⟩) (oO_k g4).1 (cc_o3 (oO_k g4).2) rfl rfl hl.1 rfl (lv_room (Nat.le_of_ble_eq_true rfl)) dX3_number_38 ⟨Nat.zero_le _, Nat.zero_le _⟩ (fun T6 H locs hq G => ?_)
  rw [hq] at G
  clear hq eT5
  have hl := lv_sub hl [0, 1] rfl
  exact u_X3_number_b41 E hA hX hN hml hst kr52 _ _ _ _ _ _ h G hl
def g_X3_number_b17  (T : AT) (l0 : Nat) (l1 : Int32) (l2 : Int32) : Option (Nat × Int32 × AT) := oif (oO T l0 3 = true) <| obind2 (g_X3_value T l0) fun r5 T3 => if r5 < l1 then (g_X3_number_b32 T3 l0 r5) else (if r5 ≤ l2 then (g_X3_number_b41 T3 l0 r5) else (g_X3_number_b32 T3 l0 r5))
set_option maxHeartbeats 4000000 in
set_option maxRecDepth 100000 in
theorem u_X3_number_b17 {p : Program} {l : Launch} {e : Env} {s : State} {m : MethodId} {args : Array Value} {below : List Frame} {meth : Method} {c : Code} {Q : State → Prop} {D : va_G} {A : Nat → Prop} {cI cJ cZ cMic cSrc cSt cAI cAJ : ClassId} {ad : Nat → Nat} {r1 : Int32} {T1 : AT} (E : cE p c cX3_number s m args (Cond.code yX3_number cX3_number 4 (some .int) :: wsA) D RX3 (CT cI cJ cZ cMic cSrc cSt cAI cAJ)) (hA : ∀ q : Nat, s.heap.size ≤ q → A q) (hX : xT A s) (hN : nX s) (hml : c.maxLocals = 4) (hst : l.stackTraces = false) (kr52 : ∀ (H : Heap) (locs : List Loc) (ls : Array Slot), gC cI cJ cZ cMic cSrc cSt cAI cAJ D ad A s.heap H locs T1 → W p l e { frames := 7, cells := 0, slots := 0, locals := 103 } s m args below meth c H locs 0 0 Q (F0 m 52 ls [.int r1])) : ∀ (T : AT) (H : Heap) (locs : List Loc) (ls : Array Slot) (l0 : Nat) (l1 : Int32) (l2 : Int32), g_X3_number_b17 T l0 l1 l2 = some (0, r1, T1) → gC cI cJ cZ cMic cSrc cSt cAI cAJ D ad A s.heap H locs T → lv_has ls 4 [(0, .ref (ad l0)), (1, .int l1), (2, .int l2)] → W p l e { frames := 7, cells := 0, slots := 0, locals := 103 } s m args below meth c H locs 0 0 Q (F0 m 17 ls []) := by
  have hx := E.1
  have hb := E.2.1
  have hts := E.2.2.1
  have hown := E.2.2.2.1
  have hK := E.2.2.2.2
  intro T H locs ls l0 l1 l2 h G hl
  unfold g_X3_number_b17 at h
  refine lv_aload_n hx hb dX3_number_17 rfl (lv_at hl 0 rfl) ?_
  obtain ⟨g2, h⟩ := oif_some h
  obtain ⟨r5, T3, eT3, h⟩ := obind2_some h
  refine q_cvi (As := []) (rest := []) E G hA hX hN hml (u_X3_value l hst D cI cJ cZ cMic cSrc cSt cAI cAJ ad T l0 eT3) (cwV 0 hts (gaV qA_303 qA_304 qA_305 qA_222 qA_306) rfl rfl rfl (by decide +kernel) ⟨Nat.le_of_ble_eq_true rfl, Nat.le_of_ble_eq_true rfl⟩) (oO_k g2).1 (cc_o3 (oO_k g2).2) rfl rfl hl.1 rfl (lv_room (Nat.le_of_ble_eq_true rfl)) dX3_number_18 ⟨Nat.zero_le _, Nat.zero_le _⟩ (fun q6 T4 H locs hq G => ?_)
  obtain ⟨hq1, hq2⟩ := hq
  rw [hq2] at G
  refine lv_to hq1 ?_
  clear hq1 hq2 eT3
  refine lv_istore_n (lv' := [(3, .int r5), (0, .ref (ad l0)), (1, .int l1), (2, .int l2)]) hx hb dX3_number_21 rfl hl (by decide) rfl (fun ls hl => ?_)
  refine lv_iload_n hx hb dX3_number_22 rfl (lv_at hl 0 rfl) ?_
  refine lv_iload_n hx hb dX3_number_23 rfl (lv_at hl 2 rfl) ?_
  refine lv_icmp_lt (tgt := 32) hx hb dX3_number_24 (by decide) (fun c7 => ?_) (fun c7 => ?_)
  · have h := oif_pos c7 h
    have hl := lv_sub hl [1, 0] rfl
    exact u_X3_number_b32 E hA hX hN hml hst kr52 _ _ _ _ _ _ h G hl
  · have h := oif_neg c7 h
    refine lv_iload_n hx hb dX3_number_27 rfl (lv_at hl 0 rfl) ?_
    refine lv_iload_n hx hb dX3_number_28 rfl (lv_at hl 3 rfl) ?_
    refine lv_icmp_le (tgt := 41) hx hb dX3_number_29 (by decide) (fun c8 => ?_) (fun c8 => ?_)
    · have h := oif_pos c8 h
      have hl := lv_sub hl [1, 0] rfl
      exact u_X3_number_b41 E hA hX hN hml hst kr52 _ _ _ _ _ _ h G hl
    · have h := oif_neg c8 h
      have hl := lv_sub hl [1, 0] rfl
      exact u_X3_number_b32 E hA hX hN hml hst kr52 _ _ _ _ _ _ h G hl
def g_X3_number (T : AT) (o : Nat) (a0 : Int32) (a1 : Int32) : Option (Nat × Int32 × AT) := oif (oO T o 3 = true) <| obind2 (g_X3_kind T o) fun r5 T3 => if r5 = 2 then (g_X3_number_b17 T3 o a0 a1) else (oif (oO T3 o 3 = true) <| elet (T3.2.2.1 o 1) fun v9 => oif (oO T3 o 3 = true) <| othr (g_X3_failAt T3 o v9 (1 : Int32)) 0 fun r13 T11 => g_X3_number_b17 T11 o a0 a1)
set_option maxHeartbeats 4000000 in
set_option maxRecDepth 100000 in
theorem u_X3_number (l : Launch) (hst : l.stackTraces = false) (D : va_G) (cI cJ cZ cMic cSrc cSt cAI cAJ : ClassId) (ad : Nat → Nat) (T : AT) (o : Nat) (a0 : Int32) (a1 : Int32) {r1 : Int32} {T1 : AT} (h : g_X3_number T o a0 a1 = some (0, r1, T1)) : kCi l yX3_number (Cond.code yX3_number cX3_number 4 (some .int) :: wsA) 7 103 cI cJ cZ cMic cSrc cSt cAI cAJ D ad T [.ref (ad o), .int a0, .int a1] (fun r T9 => r = r1 ∧ T9 = T1) := by
  intro sz
  refine pro_in (cc := cX3_number) (maxL := 4) (ret := (some .int)) (by exact pn_RX3) rfl (by exact Nat.le_of_ble_eq_true rfl) (fun p e s m below meth c ls hx hb hr hts hown hlocks hml hv hl => ?_)
  obtain ⟨hsz, hP, hK, hD0, hX, hN⟩ := hv
  subst hsz
  have hD := hD0.self (sz := s.heap.size)
  generalize hAe : va_A (cW ad T.1 (cc cI cJ cZ cMic cSrc cSt cAI cAJ ad T)) s.heap.size = A at hD hX ⊢
  have hA : ∀ q : Nat, s.heap.size ≤ q → A q := fun q h => by rw [← hAe]; exact Or.inr h
  have G : gC cI cJ cZ cMic cSrc cSt cAI cAJ D ad A s.heap s.heap [] T := ⟨hP, hD, va_S.rf⟩
  have E : cE p c cX3_number s m ([.ref (ad o), .int a0, .int a1] : List Value).toArray (Cond.code yX3_number cX3_number 4 (some .int) :: wsA) D RX3 (CT cI cJ cZ cMic cSrc cSt cAI cAJ) := ⟨hx, hb, hts, hown, hK⟩
  have hl : lv_has ls 4 [(0, .ref (ad o)), (1, .int a0), (2, .int a1)] := hl
  unfold g_X3_number at h
  refine lv_aload_n hx hb dX3_number_0 rfl (lv_at hl 0 rfl) ?_
  obtain ⟨g2, h⟩ := oif_some h
  obtain ⟨r5, T3, eT3, h⟩ := obind2_some h
  refine q_cvi (As := []) (rest := []) E G hA hX hN hml (u_X3_kind l hst D cI cJ cZ cMic cSrc cSt cAI cAJ ad T o eT3) (cwV 0 hts (gaV qA_239 qA_240 qA_241 qA_222 qA_242) rfl rfl rfl (by decide +kernel) ⟨Nat.le_of_ble_eq_true rfl, Nat.le_of_ble_eq_true rfl⟩) (oO_k g2).1 (cc_o3 (oO_k g2).2) rfl rfl hl.1 rfl (lv_room (Nat.le_of_ble_eq_true rfl)) dX3_number_1 ⟨Nat.zero_le _, Nat.zero_le _⟩ (fun q6 T4 H locs hq G => ?_)
  obtain ⟨hq1, hq2⟩ := hq
  rw [hq2] at G
  refine lv_to hq1 ?_
  clear hq1 hq2 eT3
  refine lv_iconst (v := 2) hx hb dX3_number_4 (by decide) ?_
  refine lv_icmp_eq (tgt := 17) hx hb dX3_number_5 (by decide) (fun c7 => ?_) (fun c7 => ?_)
  · have h := oif_pos c7 h
    have hl := lv_sub hl [0, 1, 2] rfl
    exact u_X3_number_b17 E hA hX hN hml hst (fun H locs ls G => W.iret (v := r1) hx hb hr (fun t ht hW => ⟨⟨r1, T1, rfl, ⟨rfl, rfl⟩, ⟨by rw [ht]; exact G.1, va_K.moved hW.alike hK, G.2.1⟩⟩, G.2.2.F ht⟩) G.2.2.2.2 dX3_number_52) _ _ _ _ _ _ _ h G hl
  · have h := oif_neg c7 h
    refine lv_aload_n hx hb dX3_number_8 rfl (lv_at hl 0 rfl) ?_
    refine lv_aload_n hx hb dX3_number_9 rfl (lv_at hl 0 rfl) ?_
    obtain ⟨g8, h⟩ := oif_some h
    refine c_get E G o 1 (oO_k g8).1 (cc_o3 (oO_k g8).2) rfl (fun w h => .tail _ (iA_17 h)) (by decide) (.tail _ qA_176) rfl rfl dX3_number_10 ?_
    refine lv_topi (fun v9 ev9 => ?_)
    have h := elet_at ev9 h
    clear ev9
    refine lv_iconst (v := 1) hx hb dX3_number_13 (by decide) ?_
    obtain ⟨g10, h⟩ := oif_some h
    obtain ⟨r13, T11, eT11, h⟩ := othr_n h
    refine q_cvv (As := [.int v9, .int 1]) (rest := []) E G hA hX hN hml (u_X3_failAt l hst D cI cJ cZ cMic cSrc cSt cAI cAJ ad T3 o v9 (1 : Int32) eT11) (cwV 2 hts (gaV qA_293 qA_294 qA_295 qA_222 qA_296) rfl rfl rfl (by decide +kernel) ⟨Nat.le_of_ble_eq_true rfl, Nat.le_of_ble_eq_true rfl⟩) (oO_k g10).1 (cc_o3 (oO_k g10).2) rfl rfl hl.1 rfl (lv_room (Nat.le_of_ble_eq_true rfl)) dX3_number_14 ⟨Nat.zero_le _, Nat.zero_le _⟩ (fun T12 H locs hq G => ?_)
    rw [hq] at G
    clear hq eT11
    have hl := lv_sub hl [0, 1, 2] rfl
    exact u_X3_number_b17 E hA hX hN hml hst (fun H locs ls G => W.iret (v := r1) hx hb hr (fun t ht hW => ⟨⟨r1, T1, rfl, ⟨rfl, rfl⟩, ⟨by rw [ht]; exact G.1, va_K.moved hW.alike hK, G.2.1⟩⟩, G.2.2.F ht⟩) G.2.2.2.2 dX3_number_52) _ _ _ _ _ _ _ h G hl
set_option maxHeartbeats 4000000 in
set_option maxRecDepth 100000 in
theorem s_X3_number_b41 {e1 : Nat} {r1 : Int32} {T1 : AT} : ∀ (T : AT) (l0 : Nat) (l3 : Int32), g_X3_number_b41 T l0 l3 = some (e1, r1, T1) → SP T T1 := by
  intro T l0 l3 h
  have p0 := SP.rf T
  unfold g_X3_number_b41 at h
  obtain ⟨g2, h⟩ := oif_some h
  obtain ⟨v3, -, h⟩ := elet_some h
  obtain ⟨v4, -, h⟩ := elet_some h
  obtain ⟨g5, h⟩ := oif_some h
  obtain ⟨T6, eT6, h⟩ := elet_some h
  have p1 : SP T T6 := SP.tr p0 (by rw [eT6]; exact sp_uI)
  rw [← (osome3 h).2.2]
  exact p1
set_option maxHeartbeats 4000000 in
set_option maxRecDepth 100000 in
theorem s_X3_number_b32 {e1 : Nat} {r1 : Int32} {T1 : AT} : ∀ (T : AT) (l0 : Nat) (l3 : Int32), g_X3_number_b32 T l0 l3 = some (e1, r1, T1) → SP T T1 := by
  intro T l0 l3 h
  have p0 := SP.rf T
  unfold g_X3_number_b32 at h
  obtain ⟨g2, h⟩ := oif_some h
  obtain ⟨v3, -, h⟩ := elet_some h
  obtain ⟨g4, h⟩ := oif_some h
  rcases othr_s h with ⟨k9, r9, e9, -⟩ | ⟨r6, T5, eT5, h⟩
  · exact SP.tr p0 (s_X3_failAt e9)
  have p1 : SP T T5 := SP.tr p0 (s_X3_failAt eT5)
  exact SP.tr p1 (s_X3_number_b41 _ _ _ h)
set_option maxHeartbeats 4000000 in
set_option maxRecDepth 100000 in
theorem s_X3_number_b17 {e1 : Nat} {r1 : Int32} {T1 : AT} : ∀ (T : AT) (l0 : Nat) (l1 : Int32) (l2 : Int32), g_X3_number_b17 T l0 l1 l2 = some (e1, r1, T1) → SP T T1 := by
  intro T l0 l1 l2 h
  have p0 := SP.rf T
  unfold g_X3_number_b17 at h
  obtain ⟨g2, h⟩ := oif_some h
  obtain ⟨r4, T3, eT3, h⟩ := obind2_some h
  have p1 : SP T T3 := SP.tr p0 (s_X3_value eT3)
  rcases oif_or h with ⟨c5, h⟩ | ⟨c5, h⟩
  · have h := h
    exact SP.tr p1 (s_X3_number_b32 _ _ _ h)
  · have h := h
    rcases oif_or h with ⟨c6, h⟩ | ⟨c6, h⟩
    · have h := h
      exact SP.tr p1 (s_X3_number_b41 _ _ _ h)
    · have h := h
      exact SP.tr p1 (s_X3_number_b32 _ _ _ h)
set_option maxHeartbeats 4000000 in
set_option maxRecDepth 100000 in
theorem s_X3_number {T : AT} {o : Nat} {a0 : Int32} {a1 : Int32} {e1 : Nat} {r1 : Int32} {T1 : AT} (h : g_X3_number T o a0 a1 = some (e1, r1, T1)) : SP T T1 := by
  have p0 := SP.rf T
  unfold g_X3_number at h
  obtain ⟨g2, h⟩ := oif_some h
  obtain ⟨r4, T3, eT3, h⟩ := obind2_some h
  have p1 : SP T T3 := SP.tr p0 (s_X3_kind eT3)
  rcases oif_or h with ⟨c5, h⟩ | ⟨c5, h⟩
  · have h := h
    exact SP.tr p1 (s_X3_number_b17 _ _ _ _ h)
  · have h := h
    obtain ⟨g6, h⟩ := oif_some h
    obtain ⟨v7, -, h⟩ := elet_some h
    obtain ⟨g8, h⟩ := oif_some h
    rcases othr_s h with ⟨k9, r9, e9, -⟩ | ⟨r10, T9, eT9, h⟩
    · exact SP.tr p1 (s_X3_failAt e9)
    have p2 : SP T T9 := SP.tr p1 (s_X3_failAt eT9)
    exact SP.tr p2 (s_X3_number_b17 _ _ _ _ h)
set_option maxHeartbeats 4000000 in
set_option maxRecDepth 100000 in
theorem x_X3_number_b41 {p : Program} {l : Launch} {e : Env} {s : State} {m : MethodId} {args : Array Value} {below : List Frame} {meth : Method} {c : Code} {Qc : Array Value → State → Outcome → State → Prop} {XC : String → State → State → Prop} {D : va_G} {A : Nat → Prop} {cI cJ cZ cMic cSrc cSt cAI cAJ : ClassId} {ad : Nat → Nat} {e1 : Nat} {r1 : Int32} {T1 : AT} (E : cE p c cX3_number s m args (Cond.code yX3_number cX3_number 4 (some .int) :: wsA) D RX3 (CT cI cJ cZ cMic cSrc cSt cAI cAJ)) (hA : ∀ q : Nat, s.heap.size ≤ q → A q) (hX : xT A s) (hN : nX s) (hml : c.maxLocals = 4) (hz9 : True) (hst : l.stackTraces = false) (htab : ∀ x ∈ c.exceptionTable.toList, False) (hlocks : meth.locks = false) (kx : ∀ (H : Heap) (locs : List Loc) (t : State), gC cI cJ cZ cMic cSrc cSt cAI cAJ D ad A s.heap H locs T1 → s.vm.Alike t.vm → H.size ≤ t.heap.size → (∀ q, q < H.size → t.heap[q]? = H[q]?) → XC (exn e1) s t) : ∀ (T : AT) (H : Heap) (locs : List Loc) (ls : Array Slot) (l0 : Nat) (l3 : Int32), g_X3_number_b41 T l0 l3 = some (e1 + 1, r1, T1) → gC cI cJ cZ cMic cSrc cSt cAI cAJ D ad A s.heap H locs T → lv_has ls 4 [(0, .ref (ad l0)), (3, .int l3)] → W p l e { frames := 7, cells := 1, slots := 6, locals := 103 } s m args below meth c H locs 0 0 (vx_MQ below Qc XC args s 1 6 A) (F0 m 41 ls []) := by
  have hx := E.1
  have hb := E.2.1
  have hts := E.2.2.1
  have hown := E.2.2.2.1
  have hK := E.2.2.2.2
  intro T H locs ls l0 l3 h G hl
  unfold g_X3_number_b41 at h
  refine lv_aload_n hx hb dX3_number_41 rfl (lv_at hl 0 rfl) ?_
  refine lv_dup hx hb dX3_number_42 rfl ?_
  obtain ⟨g2, h⟩ := oif_some h
  refine c_get E G l0 1 (oO_k g2).1 (cc_o3 (oO_k g2).2) rfl (fun w h => .tail _ (iA_17 h)) (by decide) (.tail _ qA_176) rfl rfl dX3_number_43 ?_
  refine lv_topi (fun v3 ev3 => ?_)
  have h := elet_at ev3 h
  clear ev3
  refine lv_iconst (v := 1) hx hb dX3_number_46 (by decide) ?_
  refine lv_iadd hx hb dX3_number_47 ?_
  refine lv_topi (fun v4 ev4 => ?_)
  have h := elet_at ev4 h
  clear ev4
  obtain ⟨g5, h⟩ := oif_some h
  refine c_put E G l0 1 (v := .int v4) (oO_k g5).1 (cc_o3 (oO_k g5).2) rfl (fun w h => .tail _ (iA_17 h)) tyX3 tyX3_ok nmX3 (by decide) (.tail _ qA_176) ⟨rfl, rfl, rfl⟩ rfl rfl (Nat.le_of_ble_eq_true rfl) dX3_number_48 (fun H locs G => ?_)
  have G := gC_up_i (f := upd (T.2.2.1 l0) 1 v4) (by rw [(oO_k g5).2]; rfl) G
  obtain ⟨T6, eT6, h⟩ := elet_some h
  have G : gC cI cJ cZ cMic cSrc cSt cAI cAJ D ad A s.heap H locs T6 := by rw [eT6]; exact G
  clear eT6
  refine lv_iload_n hx hb dX3_number_51 rfl (lv_at hl 1 rfl) ?_
  exact (Nat.succ_ne_zero _ (congrArg Prod.fst (Option.some.inj h)).symm).elim
set_option maxHeartbeats 4000000 in
set_option maxRecDepth 100000 in
theorem x_X3_number_b32 {p : Program} {l : Launch} {e : Env} {s : State} {m : MethodId} {args : Array Value} {below : List Frame} {meth : Method} {c : Code} {Qc : Array Value → State → Outcome → State → Prop} {XC : String → State → State → Prop} {D : va_G} {A : Nat → Prop} {cI cJ cZ cMic cSrc cSt cAI cAJ : ClassId} {ad : Nat → Nat} {e1 : Nat} {r1 : Int32} {T1 : AT} (E : cE p c cX3_number s m args (Cond.code yX3_number cX3_number 4 (some .int) :: wsA) D RX3 (CT cI cJ cZ cMic cSrc cSt cAI cAJ)) (hA : ∀ q : Nat, s.heap.size ≤ q → A q) (hX : xT A s) (hN : nX s) (hml : c.maxLocals = 4) (hz9 : True) (hst : l.stackTraces = false) (htab : ∀ x ∈ c.exceptionTable.toList, False) (hlocks : meth.locks = false) (kx : ∀ (H : Heap) (locs : List Loc) (t : State), gC cI cJ cZ cMic cSrc cSt cAI cAJ D ad A s.heap H locs T1 → s.vm.Alike t.vm → H.size ≤ t.heap.size → (∀ q, q < H.size → t.heap[q]? = H[q]?) → XC (exn e1) s t) : ∀ (T : AT) (H : Heap) (locs : List Loc) (ls : Array Slot) (l0 : Nat) (l3 : Int32), g_X3_number_b32 T l0 l3 = some (e1 + 1, r1, T1) → gC cI cJ cZ cMic cSrc cSt cAI cAJ D ad A s.heap H locs T → lv_has ls 4 [(0, .ref (ad l0)), (3, .int l3)] → W p l e { frames := 7, cells := 1, slots := 6, locals := 103 } s m args below meth c H locs 0 0 (vx_MQ below Qc XC args s 1 6 A) (F0 m 32 ls []) := by
  have hx := E.1
  have hb := E.2.1
  have hts := E.2.2.1
  have hown := E.2.2.2.1
  have hK := E.2.2.2.2
  intro T H locs ls l0 l3 h G hl
  unfold g_X3_number_b32 at h
  refine lv_aload_n hx hb dX3_number_32 rfl (lv_at hl 0 rfl) ?_
  refine lv_aload_n hx hb dX3_number_33 rfl (lv_at hl 0 rfl) ?_
  obtain ⟨g2, h⟩ := oif_some h
  refine c_get E G l0 1 (oO_k g2).1 (cc_o3 (oO_k g2).2) rfl (fun w h => .tail _ (iA_17 h)) (by decide) (.tail _ qA_176) rfl rfl dX3_number_34 ?_
  refine lv_topi (fun v3 ev3 => ?_)
  have h := elet_at ev3 h
  clear ev3
  refine lv_iconst (v := 2) hx hb dX3_number_37 (by decide) ?_
  obtain ⟨g4, h⟩ := oif_some h
  rcases othr_t h with ⟨r0, eT5⟩ | ⟨r7, T5, eT5, h⟩
  · refine q_xvv (As := [.int v3, .int 2]) (rest := []) E G hA hX hN hml (x_X3_failAt l hst D cI cJ cZ cMic cSrc cSt cAI cAJ ad T l0 v3 (2 : Int32) eT5) (cwV 2 hts (gaV qA_293 qA_294 qA_295 qA_222 qA_296) rfl rfl rfl (by decide +kernel) ⟨Nat.le_of_ble_eq_true rfl, Nat.le_of_ble_eq_true rfl⟩) (oO_k g4).1 (cc_o3 (oO_k g4).2) rfl rfl hl.1 rfl (lv_room (Nat.le_of_ble_eq_true rfl)) dX3_number_38 ⟨Nat.le_of_ble_eq_true rfl, Nat.le_of_ble_eq_true rfl⟩ (fun E9 ce q9 T9 H locs hp G hce hcv hcl => ?_)
    obtain ⟨hE, hT⟩ := hp
    subst hE
    rw [hT] at G
    exact vx_out (fun x hx => (htab x hx).elim) hlocks hce hcv hcl (fun t ht hvm => kx _ _ _ G hvm (by rw [ht]; exact Nat.le_refl _) (fun q hq => by rw [ht])) G.2.2.2.2 (Nat.le_refl _) (Nat.le_refl _)
  refine q_cvv (As := [.int v3, .int 2]) (rest := []) E G hA hX hN hml (u_X3_failAt l hst D cI cJ cZ cMic cSrc cSt cAI cAJ ad T l0 v3 (2 : Int32) eT5) (cwV 2 hts (gaV qA_293 qA_294 qA_295 qA_222 qA_296) rfl rfl rfl (by decide +kernel) ⟨Nat.le_of_ble_eq_true rfl, Nat.le_of_ble_eq_true rfl⟩) (oO_k g4).1 (cc_o3 (oO_k g4).2) rfl rfl hl.1 rfl (lv_room (Nat.le_of_ble_eq_true rfl)) dX3_number_38 ⟨Nat.zero_le _, Nat.zero_le _⟩ (fun T6 H locs hq G => ?_)
  rw [hq] at G
  clear hq eT5
  have hl := lv_sub hl [0, 1] rfl
  exact x_X3_number_b41 E hA hX hN hml trivial hst htab hlocks kx _ _ _ _ _ _ h G hl
set_option maxHeartbeats 4000000 in
set_option maxRecDepth 100000 in
theorem x_X3_number_b17 {p : Program} {l : Launch} {e : Env} {s : State} {m : MethodId} {args : Array Value} {below : List Frame} {meth : Method} {c : Code} {Qc : Array Value → State → Outcome → State → Prop} {XC : String → State → State → Prop} {D : va_G} {A : Nat → Prop} {cI cJ cZ cMic cSrc cSt cAI cAJ : ClassId} {ad : Nat → Nat} {e1 : Nat} {r1 : Int32} {T1 : AT} (E : cE p c cX3_number s m args (Cond.code yX3_number cX3_number 4 (some .int) :: wsA) D RX3 (CT cI cJ cZ cMic cSrc cSt cAI cAJ)) (hA : ∀ q : Nat, s.heap.size ≤ q → A q) (hX : xT A s) (hN : nX s) (hml : c.maxLocals = 4) (hz9 : True) (hst : l.stackTraces = false) (htab : ∀ x ∈ c.exceptionTable.toList, False) (hlocks : meth.locks = false) (kx : ∀ (H : Heap) (locs : List Loc) (t : State), gC cI cJ cZ cMic cSrc cSt cAI cAJ D ad A s.heap H locs T1 → s.vm.Alike t.vm → H.size ≤ t.heap.size → (∀ q, q < H.size → t.heap[q]? = H[q]?) → XC (exn e1) s t) : ∀ (T : AT) (H : Heap) (locs : List Loc) (ls : Array Slot) (l0 : Nat) (l1 : Int32) (l2 : Int32), g_X3_number_b17 T l0 l1 l2 = some (e1 + 1, r1, T1) → gC cI cJ cZ cMic cSrc cSt cAI cAJ D ad A s.heap H locs T → lv_has ls 4 [(0, .ref (ad l0)), (1, .int l1), (2, .int l2)] → W p l e { frames := 7, cells := 1, slots := 6, locals := 103 } s m args below meth c H locs 0 0 (vx_MQ below Qc XC args s 1 6 A) (F0 m 17 ls []) := by
  have hx := E.1
  have hb := E.2.1
  have hts := E.2.2.1
  have hown := E.2.2.2.1
  have hK := E.2.2.2.2
  intro T H locs ls l0 l1 l2 h G hl
  unfold g_X3_number_b17 at h
  refine lv_aload_n hx hb dX3_number_17 rfl (lv_at hl 0 rfl) ?_
  obtain ⟨g2, h⟩ := oif_some h
  obtain ⟨r5, T3, eT3, h⟩ := obind2_some h
  refine q_cvi (As := []) (rest := []) E G hA hX hN hml (u_X3_value l hst D cI cJ cZ cMic cSrc cSt cAI cAJ ad T l0 eT3) (cwV 0 hts (gaV qA_303 qA_304 qA_305 qA_222 qA_306) rfl rfl rfl (by decide +kernel) ⟨Nat.le_of_ble_eq_true rfl, Nat.le_of_ble_eq_true rfl⟩) (oO_k g2).1 (cc_o3 (oO_k g2).2) rfl rfl hl.1 rfl (lv_room (Nat.le_of_ble_eq_true rfl)) dX3_number_18 ⟨Nat.zero_le _, Nat.zero_le _⟩ (fun q6 T4 H locs hq G => ?_)
  obtain ⟨hq1, hq2⟩ := hq
  rw [hq2] at G
  refine lv_to hq1 ?_
  clear hq1 hq2 eT3
  refine lv_istore_n (lv' := [(3, .int r5), (0, .ref (ad l0)), (1, .int l1), (2, .int l2)]) hx hb dX3_number_21 rfl hl (by decide) rfl (fun ls hl => ?_)
  refine lv_iload_n hx hb dX3_number_22 rfl (lv_at hl 0 rfl) ?_
  refine lv_iload_n hx hb dX3_number_23 rfl (lv_at hl 2 rfl) ?_
  refine lv_icmp_lt (tgt := 32) hx hb dX3_number_24 (by decide) (fun c7 => ?_) (fun c7 => ?_)
  · have h := oif_pos c7 h
    have hl := lv_sub hl [1, 0] rfl
    exact x_X3_number_b32 E hA hX hN hml trivial hst htab hlocks kx _ _ _ _ _ _ h G hl
  · have h := oif_neg c7 h
    refine lv_iload_n hx hb dX3_number_27 rfl (lv_at hl 0 rfl) ?_
    refine lv_iload_n hx hb dX3_number_28 rfl (lv_at hl 3 rfl) ?_
    refine lv_icmp_le (tgt := 41) hx hb dX3_number_29 (by decide) (fun c8 => ?_) (fun c8 => ?_)
    · have h := oif_pos c8 h
      have hl := lv_sub hl [1, 0] rfl
      exact x_X3_number_b41 E hA hX hN hml trivial hst htab hlocks kx _ _ _ _ _ _ h G hl
    · have h := oif_neg c8 h
      have hl := lv_sub hl [1, 0] rfl
      exact x_X3_number_b32 E hA hX hN hml trivial hst htab hlocks kx _ _ _ _ _ _ h G hl
set_option maxHeartbeats 4000000 in
set_option maxRecDepth 100000 in
theorem x_X3_number (l : Launch) (hst : l.stackTraces = false) (D : va_G) (cI cJ cZ cMic cSrc cSt cAI cAJ : ClassId) (ad : Nat → Nat) (T : AT) (o : Nat) (a0 : Int32) (a1 : Int32) {e1 : Nat} {r1 : Int32} {T1 : AT} (h : g_X3_number T o a0 a1 = some (e1 + 1, r1, T1)) : kXi l yX3_number (Cond.code yX3_number cX3_number 4 (some .int) :: wsA) 7 103 cI cJ cZ cMic cSrc cSt cAI cAJ D ad T [.ref (ad o), .int a0, .int a1] e1 T1 := by
  intro sz
  refine pro_inX (cc := cX3_number) (maxL := 4) (ret := (some .int)) (by exact pn_RX3) rfl (by exact Nat.le_of_ble_eq_true rfl) (fun p e s m below meth c ls hx hb hr hts hown hlocks htab hml hv hl => ?_)
  obtain ⟨hsz, hP, hK, hD0, hX, hN⟩ := hv
  subst hsz
  have hD := hD0.self (sz := s.heap.size)
  generalize hAe : va_A (cW ad T.1 (cc cI cJ cZ cMic cSrc cSt cAI cAJ ad T)) s.heap.size = A at hD hX ⊢
  have hA : ∀ q : Nat, s.heap.size ≤ q → A q := fun q h => by rw [← hAe]; exact Or.inr h
  have G : gC cI cJ cZ cMic cSrc cSt cAI cAJ D ad A s.heap s.heap [] T := ⟨hP, hD, va_S.rf⟩
  have E : cE p c cX3_number s m ([.ref (ad o), .int a0, .int a1] : List Value).toArray (Cond.code yX3_number cX3_number 4 (some .int) :: wsA) D RX3 (CT cI cJ cZ cMic cSrc cSt cAI cAJ) := ⟨hx, hb, hts, hown, hK⟩
  have htab : ∀ x ∈ c.exceptionTable.toList, False := fun x hx => htab x hx
  have hl : lv_has ls 4 [(0, .ref (ad o)), (1, .int a0), (2, .int a1)] := hl
  unfold g_X3_number at h
  refine lv_aload_n hx hb dX3_number_0 rfl (lv_at hl 0 rfl) ?_
  obtain ⟨g2, h⟩ := oif_some h
  obtain ⟨r5, T3, eT3, h⟩ := obind2_some h
  refine q_cvi (As := []) (rest := []) E G hA hX hN hml (u_X3_kind l hst D cI cJ cZ cMic cSrc cSt cAI cAJ ad T o eT3) (cwV 0 hts (gaV qA_239 qA_240 qA_241 qA_222 qA_242) rfl rfl rfl (by decide +kernel) ⟨Nat.le_of_ble_eq_true rfl, Nat.le_of_ble_eq_true rfl⟩) (oO_k g2).1 (cc_o3 (oO_k g2).2) rfl rfl hl.1 rfl (lv_room (Nat.le_of_ble_eq_true rfl)) dX3_number_1 ⟨Nat.zero_le _, Nat.zero_le _⟩ (fun q6 T4 H locs hq G => ?_)
  obtain ⟨hq1, hq2⟩ := hq
  rw [hq2] at G
  refine lv_to hq1 ?_
  clear hq1 hq2 eT3
  refine lv_iconst (v := 2) hx hb dX3_number_4 (by decide) ?_
  refine lv_icmp_eq (tgt := 17) hx hb dX3_number_5 (by decide) (fun c7 => ?_) (fun c7 => ?_)
  · have h := oif_pos c7 h
    have hl := lv_sub hl [0, 1, 2] rfl
    exact x_X3_number_b17 E hA hX hN hml trivial hst htab hlocks (fun H locs t G hvm h1 h2 => ⟨T1, trivial, ⟨⟨rfl, rfl⟩, (c_thrown G hK hvm h1 h2).1⟩, (c_thrown G hK hvm h1 h2).2⟩) _ _ _ _ _ _ _ h G hl
  · have h := oif_neg c7 h
    refine lv_aload_n hx hb dX3_number_8 rfl (lv_at hl 0 rfl) ?_
    refine lv_aload_n hx hb dX3_number_9 rfl (lv_at hl 0 rfl) ?_
    obtain ⟨g8, h⟩ := oif_some h
    refine c_get E G o 1 (oO_k g8).1 (cc_o3 (oO_k g8).2) rfl (fun w h => .tail _ (iA_17 h)) (by decide) (.tail _ qA_176) rfl rfl dX3_number_10 ?_
    refine lv_topi (fun v9 ev9 => ?_)
    have h := elet_at ev9 h
    clear ev9
    refine lv_iconst (v := 1) hx hb dX3_number_13 (by decide) ?_
    obtain ⟨g10, h⟩ := oif_some h
    rcases othr_t h with ⟨r0, eT11⟩ | ⟨r13, T11, eT11, h⟩
    · refine q_xvv (As := [.int v9, .int 1]) (rest := []) E G hA hX hN hml (x_X3_failAt l hst D cI cJ cZ cMic cSrc cSt cAI cAJ ad T3 o v9 (1 : Int32) eT11) (cwV 2 hts (gaV qA_293 qA_294 qA_295 qA_222 qA_296) rfl rfl rfl (by decide +kernel) ⟨Nat.le_of_ble_eq_true rfl, Nat.le_of_ble_eq_true rfl⟩) (oO_k g10).1 (cc_o3 (oO_k g10).2) rfl rfl hl.1 rfl (lv_room (Nat.le_of_ble_eq_true rfl)) dX3_number_14 ⟨Nat.le_of_ble_eq_true rfl, Nat.le_of_ble_eq_true rfl⟩ (fun E9 ce q9 T9 H locs hp G hce hcv hcl => ?_)
      obtain ⟨hE, hT⟩ := hp
      subst hE
      rw [hT] at G
      exact vx_out (fun x hx => (htab x hx).elim) hlocks hce hcv hcl (fun t ht hvm => ⟨T1, trivial, ⟨⟨rfl, rfl⟩, by rw [ht]; exact G.1, va_K.moved hvm hK, G.2.1⟩, G.2.2.F ht⟩) G.2.2.2.2 (Nat.le_refl _) (Nat.le_refl _)
    refine q_cvv (As := [.int v9, .int 1]) (rest := []) E G hA hX hN hml (u_X3_failAt l hst D cI cJ cZ cMic cSrc cSt cAI cAJ ad T3 o v9 (1 : Int32) eT11) (cwV 2 hts (gaV qA_293 qA_294 qA_295 qA_222 qA_296) rfl rfl rfl (by decide +kernel) ⟨Nat.le_of_ble_eq_true rfl, Nat.le_of_ble_eq_true rfl⟩) (oO_k g10).1 (cc_o3 (oO_k g10).2) rfl rfl hl.1 rfl (lv_room (Nat.le_of_ble_eq_true rfl)) dX3_number_14 ⟨Nat.zero_le _, Nat.zero_le _⟩ (fun T12 H locs hq G => ?_)
    rw [hq] at G
    clear hq eT11
    have hl := lv_sub hl [0, 1, 2] rfl
    exact x_X3_number_b17 E hA hX hN hml trivial hst htab hlocks (fun H locs t G hvm h1 h2 => ⟨T1, trivial, ⟨⟨rfl, rfl⟩, (c_thrown G hK hvm h1 h2).1⟩, (c_thrown G hK hvm h1 h2).2⟩) _ _ _ _ _ _ _ h G hl
def g_X3_parseHead (T : AT) (o : Nat) (a0 : Nat) : Option (Nat × Int32 × AT) := oif (oO T o 3 = true) <| othr (g_X3_takeWord T (sTx "camera") o) 0 fun r6 T4 => oif (oO T4 o 3 = true) <| othr (g_X3_takeWord T4 (sTx "distance") o) 0 fun r12 T10 => oif (oO T10 o 3 = true) <| othr (g_X3_number T10 o (100 : Int32) (5000 : Int32)) 0 fun r17 T15 => oif (oO T15 a0 6 = true) <| elet (uI T15 a0 0 r17) fun T20 => oif (oO T20 o 3 = true) <| othr (g_X3_takeWord T20 (sTx "step") o) 0 fun r25 T23 => oif (oO T23 o 3 = true) <| othr (g_X3_number T23 o (1 : Int32) (99 : Int32)) 0 fun r30 T28 => oif (oO T28 a0 6 = true) <| elet (uI T28 a0 1 r30) fun T33 => oif (oO T33 o 3 = true) <| othr (g_X3_takeWord T33 (sTx "samples") o) 0 fun r38 T36 => oif (oO T36 o 3 = true) <| othr (g_X3_number T36 o (32 : Int32) (200 : Int32)) 0 fun r43 T41 => oif (oO T41 a0 6 = true) <| elet (uI T41 a0 2 r43) fun T46 => oif (oO T46 o 3 = true) <| othr (g_X3_takeWord T46 (sTx "limit") o) 0 fun r51 T49 => oif (oO T49 o 3 = true) <| othr (g_X3_number T49 o (1 : Int32) (9999 : Int32)) 0 fun r56 T54 => oif (oO T54 a0 6 = true) <| elet (uI T54 a0 3 r56) fun T59 => some (0, 0, T59)
set_option maxHeartbeats 4000000 in
set_option maxRecDepth 100000 in
theorem u_X3_parseHead (l : Launch) (hst : l.stackTraces = false) (D : va_G) (cI cJ cZ cMic cSrc cSt cAI cAJ : ClassId) (ad : Nat → Nat) (T : AT) (h0 : Nat) (o : Nat) (a0 : Nat) {r1 : Int32} {T1 : AT} (h : g_X3_parseHead T o a0 = some (0, r1, T1)) : kCvX l yX3_parseHead (Cond.code yX3_parseHead cX3_parseHead 2 none :: wsA) 8 132 cI cJ cZ cMic cSrc cSt cAI cAJ D ad T [.ref (ad o), .ref (ad a0)] (yT0 cI cJ cZ cMic cSrc cSt cAI cAJ h0 ad T) (fun T9 => T9 = T1) := by
  intro sz
  refine pro_in (cc := cX3_parseHead) (maxL := 2) (ret := none) (by exact pn_RX3) rfl (by exact Nat.le_of_ble_eq_true rfl) (fun p e s m below meth c ls hx hb hr hts hown hlocks hml hv hl => ?_)
  obtain ⟨⟨hsz, hP, hK, hD0, hX, hN⟩, hA1, hT⟩ := hv
  subst hsz
  have hD := hD0.self (sz := s.heap.size)
  generalize hAe : va_A (cW ad T.1 (cc cI cJ cZ cMic cSrc cSt cAI cAJ ad T)) s.heap.size = A at hD hX hA1 ⊢
  have hA : ∀ q : Nat, s.heap.size ≤ q → A q := fun q h => by rw [← hAe]; exact Or.inr h
  have G : gC cI cJ cZ cMic cSrc cSt cAI cAJ D ad A s.heap s.heap [] T := ⟨hP, hD, va_S.rf⟩
  have E : cE p c cX3_parseHead s m ([.ref (ad o), .ref (ad a0)] : List Value).toArray (Cond.code yX3_parseHead cX3_parseHead 2 none :: wsA) D RX3 (CT cI cJ cZ cMic cSrc cSt cAI cAJ) := ⟨hx, hb, hts, hown, hK⟩
  have hA0 : ∀ a : Nat, A a → h0 ≤ a := hA1
  have hl : lv_has ls 2 [(0, .ref (ad o)), (1, .ref (ad a0))] := hl
  unfold g_X3_parseHead at h
  refine lv_aload_n hx hb dX3_parseHead_0 rfl (lv_at hl 0 rfl) ?_
  obtain ⟨w2, hw2, ow2⟩ := hT.1 ("AcousticCamera$Parser", 66, "camera") (List.mem_of_getElem? (i := 0) rfl)
  refine va_ldcS hx hb hown hw2 dX3_parseHead_1 ?_
  obtain ⟨g3, h⟩ := oif_some h
  obtain ⟨r6, T4, eT4, h⟩ := othr_n h
  refine q_cvvX (As := [.ref w2]) (rest := []) E G hA hX hN hml (u_X3_takeWord l hst D cI cJ cZ cMic cSrc cSt cAI cAJ ad T h0 (q := w2) (sTx_ok (by decide +kernel)) o eT4) (cwV 1 hts (gaV qA_228 qA_229 qA_230 qA_222 qA_231) rfl rfl rfl (by decide +kernel) ⟨Nat.le_of_ble_eq_true rfl, Nat.le_of_ble_eq_true rfl⟩) (oO_k g3).1 (cc_o3 (oO_k g3).2) rfl rfl hl.1 rfl (lv_room (Nat.le_of_ble_eq_true rfl)) dX3_parseHead_3 ⟨Nat.zero_le _, Nat.zero_le _⟩ (yT1.blind) (yT1.go hT hA0 hA G ow2) (fun T5 H locs hq G => ?_)
  rw [hq] at G
  clear hq eT4
  refine lv_aload_n hx hb dX3_parseHead_6 rfl (lv_at hl 0 rfl) ?_
  obtain ⟨w8, hw8, ow8⟩ := hT.1 ("AcousticCamera$Parser", 72, "distance") (List.mem_of_getElem? (i := 1) rfl)
  refine va_ldcS hx hb hown hw8 dX3_parseHead_7 ?_
  obtain ⟨g9, h⟩ := oif_some h
  obtain ⟨r12, T10, eT10, h⟩ := othr_n h
  refine q_cvvX (As := [.ref w8]) (rest := []) E G hA hX hN hml (u_X3_takeWord l hst D cI cJ cZ cMic cSrc cSt cAI cAJ ad T4 h0 (q := w8) (sTx_ok (by decide +kernel)) o eT10) (cwV 1 hts (gaV qA_228 qA_229 qA_230 qA_222 qA_231) rfl rfl rfl (by decide +kernel) ⟨Nat.le_of_ble_eq_true rfl, Nat.le_of_ble_eq_true rfl⟩) (oO_k g9).1 (cc_o3 (oO_k g9).2) rfl rfl hl.1 rfl (lv_room (Nat.le_of_ble_eq_true rfl)) dX3_parseHead_9 ⟨Nat.zero_le _, Nat.zero_le _⟩ (yT1.blind) (yT1.go hT hA0 hA G ow8) (fun T11 H locs hq G => ?_)
  rw [hq] at G
  clear hq eT10
  refine lv_aload_n hx hb dX3_parseHead_12 rfl (lv_at hl 1 rfl) ?_
  refine lv_aload_n hx hb dX3_parseHead_13 rfl (lv_at hl 0 rfl) ?_
  refine lv_bipush (v := 100) hx hb dX3_parseHead_14 (by decide) ?_
  refine lv_sipush (v := 5000) hx hb dX3_parseHead_16 (by decide) ?_
  obtain ⟨g14, h⟩ := oif_some h
  obtain ⟨r17, T15, eT15, h⟩ := othr_n h
  refine q_cvi (As := [.int 100, .int 5000]) (rest := [.ref (ad a0)]) E G hA hX hN hml (u_X3_number l hst D cI cJ cZ cMic cSrc cSt cAI cAJ ad T10 o (100 : Int32) (5000 : Int32) eT15) (cwV 2 hts (gaV qA_299 qA_300 qA_301 qA_222 qA_302) rfl rfl rfl (by decide +kernel) ⟨Nat.le_of_ble_eq_true rfl, Nat.le_of_ble_eq_true rfl⟩) (oO_k g14).1 (cc_o3 (oO_k g14).2) rfl rfl hl.1 rfl (lv_room (Nat.le_of_ble_eq_true rfl)) dX3_parseHead_19 ⟨Nat.zero_le _, Nat.zero_le _⟩ (fun q18 T16 H locs hq G => ?_)
  obtain ⟨hq1, hq2⟩ := hq
  rw [hq2] at G
  refine lv_to hq1 ?_
  clear hq1 hq2 eT15
  obtain ⟨g19, h⟩ := oif_some h
  refine c_put E G a0 0 (v := .int r17) (oO_k g19).1 (cc_o6 (oO_k g19).2) rfl (fun w h => .tail _ (iA_14 h)) tyX6 tyX6_ok nmX6 (by decide) (.tail _ qA_224) ⟨rfl, rfl, rfl⟩ rfl rfl (Nat.le_of_ble_eq_true rfl) dX3_parseHead_22 (fun H locs G => ?_)
  have G := gC_up_i (f := upd (T15.2.2.1 a0) 0 r17) (by rw [(oO_k g19).2]; rfl) G
  obtain ⟨T20, eT20, h⟩ := elet_some h
  have G : gC cI cJ cZ cMic cSrc cSt cAI cAJ D ad A s.heap H locs T20 := by rw [eT20]; exact G
  clear eT20
  refine lv_aload_n hx hb dX3_parseHead_25 rfl (lv_at hl 0 rfl) ?_
  obtain ⟨w21, hw21, ow21⟩ := hT.1 ("AcousticCamera$Parser", 80, "step") (List.mem_of_getElem? (i := 2) rfl)
  refine va_ldcS hx hb hown hw21 dX3_parseHead_26 ?_
  obtain ⟨g22, h⟩ := oif_some h
  obtain ⟨r25, T23, eT23, h⟩ := othr_n h
  refine q_cvvX (As := [.ref w21]) (rest := []) E G hA hX hN hml (u_X3_takeWord l hst D cI cJ cZ cMic cSrc cSt cAI cAJ ad T20 h0 (q := w21) (sTx_ok (by decide +kernel)) o eT23) (cwV 1 hts (gaV qA_228 qA_229 qA_230 qA_222 qA_231) rfl rfl rfl (by decide +kernel) ⟨Nat.le_of_ble_eq_true rfl, Nat.le_of_ble_eq_true rfl⟩) (oO_k g22).1 (cc_o3 (oO_k g22).2) rfl rfl hl.1 rfl (lv_room (Nat.le_of_ble_eq_true rfl)) dX3_parseHead_28 ⟨Nat.zero_le _, Nat.zero_le _⟩ (yT1.blind) (yT1.go hT hA0 hA G ow21) (fun T24 H locs hq G => ?_)
  rw [hq] at G
  clear hq eT23
  refine lv_aload_n hx hb dX3_parseHead_31 rfl (lv_at hl 1 rfl) ?_
  refine lv_aload_n hx hb dX3_parseHead_32 rfl (lv_at hl 0 rfl) ?_
  refine lv_iconst (v := 1) hx hb dX3_parseHead_33 (by decide) ?_
  refine lv_bipush (v := 99) hx hb dX3_parseHead_34 (by decide) ?_
  obtain ⟨g27, h⟩ := oif_some h
  obtain ⟨r30, T28, eT28, h⟩ := othr_n h
  refine q_cvi (As := [.int 1, .int 99]) (rest := [.ref (ad a0)]) E G hA hX hN hml (u_X3_number l hst D cI cJ cZ cMic cSrc cSt cAI cAJ ad T23 o (1 : Int32) (99 : Int32) eT28) (cwV 2 hts (gaV qA_299 qA_300 qA_301 qA_222 qA_302) rfl rfl rfl (by decide +kernel) ⟨Nat.le_of_ble_eq_true rfl, Nat.le_of_ble_eq_true rfl⟩) (oO_k g27).1 (cc_o3 (oO_k g27).2) rfl rfl hl.1 rfl (lv_room (Nat.le_of_ble_eq_true rfl)) dX3_parseHead_36 ⟨Nat.zero_le _, Nat.zero_le _⟩ (fun q31 T29 H locs hq G => ?_)
  obtain ⟨hq1, hq2⟩ := hq
  rw [hq2] at G
  refine lv_to hq1 ?_
  clear hq1 hq2 eT28
  obtain ⟨g32, h⟩ := oif_some h
  refine c_put E G a0 1 (v := .int r30) (oO_k g32).1 (cc_o6 (oO_k g32).2) rfl (fun w h => .tail _ (iA_14 h)) tyX6 tyX6_ok nmX6 (by decide) (.tail _ qA_225) ⟨rfl, rfl, rfl⟩ rfl rfl (Nat.le_of_ble_eq_true rfl) dX3_parseHead_39 (fun H locs G => ?_)
  have G := gC_up_i (f := upd (T28.2.2.1 a0) 1 r30) (by rw [(oO_k g32).2]; rfl) G
  obtain ⟨T33, eT33, h⟩ := elet_some h
  have G : gC cI cJ cZ cMic cSrc cSt cAI cAJ D ad A s.heap H locs T33 := by rw [eT33]; exact G
  clear eT33
  refine lv_aload_n hx hb dX3_parseHead_42 rfl (lv_at hl 0 rfl) ?_
  obtain ⟨w34, hw34, ow34⟩ := hT.1 ("AcousticCamera$Parser", 84, "samples") (List.mem_of_getElem? (i := 3) rfl)
  refine va_ldcS hx hb hown hw34 dX3_parseHead_43 ?_
  obtain ⟨g35, h⟩ := oif_some h
  obtain ⟨r38, T36, eT36, h⟩ := othr_n h
  refine q_cvvX (As := [.ref w34]) (rest := []) E G hA hX hN hml (u_X3_takeWord l hst D cI cJ cZ cMic cSrc cSt cAI cAJ ad T33 h0 (q := w34) (sTx_ok (by decide +kernel)) o eT36) (cwV 1 hts (gaV qA_228 qA_229 qA_230 qA_222 qA_231) rfl rfl rfl (by decide +kernel) ⟨Nat.le_of_ble_eq_true rfl, Nat.le_of_ble_eq_true rfl⟩) (oO_k g35).1 (cc_o3 (oO_k g35).2) rfl rfl hl.1 rfl (lv_room (Nat.le_of_ble_eq_true rfl)) dX3_parseHead_45 ⟨Nat.zero_le _, Nat.zero_le _⟩ (yT1.blind) (yT1.go hT hA0 hA G ow34) (fun T37 H locs hq G => ?_)
  rw [hq] at G
  clear hq eT36
  refine lv_aload_n hx hb dX3_parseHead_48 rfl (lv_at hl 1 rfl) ?_
  refine lv_aload_n hx hb dX3_parseHead_49 rfl (lv_at hl 0 rfl) ?_
  refine lv_bipush (v := 32) hx hb dX3_parseHead_50 (by decide) ?_
  refine lv_sipush (v := 200) hx hb dX3_parseHead_52 (by decide) ?_
  obtain ⟨g40, h⟩ := oif_some h
  obtain ⟨r43, T41, eT41, h⟩ := othr_n h
  refine q_cvi (As := [.int 32, .int 200]) (rest := [.ref (ad a0)]) E G hA hX hN hml (u_X3_number l hst D cI cJ cZ cMic cSrc cSt cAI cAJ ad T36 o (32 : Int32) (200 : Int32) eT41) (cwV 2 hts (gaV qA_299 qA_300 qA_301 qA_222 qA_302) rfl rfl rfl (by decide +kernel) ⟨Nat.le_of_ble_eq_true rfl, Nat.le_of_ble_eq_true rfl⟩) (oO_k g40).1 (cc_o3 (oO_k g40).2) rfl rfl hl.1 rfl (lv_room (Nat.le_of_ble_eq_true rfl)) dX3_parseHead_55 ⟨Nat.zero_le _, Nat.zero_le _⟩ (fun q44 T42 H locs hq G => ?_)
  obtain ⟨hq1, hq2⟩ := hq
  rw [hq2] at G
  refine lv_to hq1 ?_
  clear hq1 hq2 eT41
  obtain ⟨g45, h⟩ := oif_some h
  refine c_put E G a0 2 (v := .int r43) (oO_k g45).1 (cc_o6 (oO_k g45).2) rfl (fun w h => .tail _ (iA_14 h)) tyX6 tyX6_ok nmX6 (by decide) (.tail _ qA_226) ⟨rfl, rfl, rfl⟩ rfl rfl (Nat.le_of_ble_eq_true rfl) dX3_parseHead_58 (fun H locs G => ?_)
  have G := gC_up_i (f := upd (T41.2.2.1 a0) 2 r43) (by rw [(oO_k g45).2]; rfl) G
  obtain ⟨T46, eT46, h⟩ := elet_some h
  have G : gC cI cJ cZ cMic cSrc cSt cAI cAJ D ad A s.heap H locs T46 := by rw [eT46]; exact G
  clear eT46
  refine lv_aload_n hx hb dX3_parseHead_61 rfl (lv_at hl 0 rfl) ?_
  obtain ⟨w47, hw47, ow47⟩ := hT.1 ("AcousticCamera$Parser", 88, "limit") (List.mem_of_getElem? (i := 4) rfl)
  refine va_ldcS hx hb hown hw47 dX3_parseHead_62 ?_
  obtain ⟨g48, h⟩ := oif_some h
  obtain ⟨r51, T49, eT49, h⟩ := othr_n h
  refine q_cvvX (As := [.ref w47]) (rest := []) E G hA hX hN hml (u_X3_takeWord l hst D cI cJ cZ cMic cSrc cSt cAI cAJ ad T46 h0 (q := w47) (sTx_ok (by decide +kernel)) o eT49) (cwV 1 hts (gaV qA_228 qA_229 qA_230 qA_222 qA_231) rfl rfl rfl (by decide +kernel) ⟨Nat.le_of_ble_eq_true rfl, Nat.le_of_ble_eq_true rfl⟩) (oO_k g48).1 (cc_o3 (oO_k g48).2) rfl rfl hl.1 rfl (lv_room (Nat.le_of_ble_eq_true rfl)) dX3_parseHead_64 ⟨Nat.zero_le _, Nat.zero_le _⟩ (yT1.blind) (yT1.go hT hA0 hA G ow47) (fun T50 H locs hq G => ?_)
  rw [hq] at G
  clear hq eT49
  refine lv_aload_n hx hb dX3_parseHead_67 rfl (lv_at hl 1 rfl) ?_
  refine lv_aload_n hx hb dX3_parseHead_68 rfl (lv_at hl 0 rfl) ?_
  refine lv_iconst (v := 1) hx hb dX3_parseHead_69 (by decide) ?_
  refine lv_sipush (v := 9999) hx hb dX3_parseHead_70 (by decide) ?_
  obtain ⟨g53, h⟩ := oif_some h
  obtain ⟨r56, T54, eT54, h⟩ := othr_n h
  refine q_cvi (As := [.int 1, .int 9999]) (rest := [.ref (ad a0)]) E G hA hX hN hml (u_X3_number l hst D cI cJ cZ cMic cSrc cSt cAI cAJ ad T49 o (1 : Int32) (9999 : Int32) eT54) (cwV 2 hts (gaV qA_299 qA_300 qA_301 qA_222 qA_302) rfl rfl rfl (by decide +kernel) ⟨Nat.le_of_ble_eq_true rfl, Nat.le_of_ble_eq_true rfl⟩) (oO_k g53).1 (cc_o3 (oO_k g53).2) rfl rfl hl.1 rfl (lv_room (Nat.le_of_ble_eq_true rfl)) dX3_parseHead_73 ⟨Nat.zero_le _, Nat.zero_le _⟩ (fun q57 T55 H locs hq G => ?_)
  obtain ⟨hq1, hq2⟩ := hq
  rw [hq2] at G
  refine lv_to hq1 ?_
  clear hq1 hq2 eT54
  obtain ⟨g58, h⟩ := oif_some h
  refine c_put E G a0 3 (v := .int r56) (oO_k g58).1 (cc_o6 (oO_k g58).2) rfl (fun w h => .tail _ (iA_14 h)) tyX6 tyX6_ok nmX6 (by decide) (.tail _ qA_227) ⟨rfl, rfl, rfl⟩ rfl rfl (Nat.le_of_ble_eq_true rfl) dX3_parseHead_76 (fun H locs G => ?_)
  have G := gC_up_i (f := upd (T54.2.2.1 a0) 3 r56) (by rw [(oO_k g58).2]; rfl) G
  obtain ⟨T59, eT59, h⟩ := elet_some h
  have G : gC cI cJ cZ cMic cSrc cSt cAI cAJ D ad A s.heap H locs T59 := by rw [eT59]; exact G
  clear eT59
  exact W.vret hx hb hr (fun t ht hW => ⟨⟨T59, rfl, (osome3 h).2.2, ⟨by rw [ht]; exact G.1, va_K.moved hW.alike hK, G.2.1⟩⟩, G.2.2.F ht⟩) G.2.2.2.2 dX3_parseHead_79
set_option maxHeartbeats 4000000 in
set_option maxRecDepth 100000 in
theorem s_X3_parseHead {T : AT} {o : Nat} {a0 : Nat} {e1 : Nat} {r1 : Int32} {T1 : AT} (h : g_X3_parseHead T o a0 = some (e1, r1, T1)) : SP T T1 := by
  have p0 := SP.rf T
  unfold g_X3_parseHead at h
  obtain ⟨g3, h⟩ := oif_some h
  rcases othr_s h with ⟨k9, r9, e9, -⟩ | ⟨r5, T4, eT4, h⟩
  · exact SP.tr p0 (s_X3_takeWord e9)
  have p1 : SP T T4 := SP.tr p0 (s_X3_takeWord eT4)
  obtain ⟨g7, h⟩ := oif_some h
  rcases othr_s h with ⟨k9, r9, e9, -⟩ | ⟨r9, T8, eT8, h⟩
  · exact SP.tr p1 (s_X3_takeWord e9)
  have p2 : SP T T8 := SP.tr p1 (s_X3_takeWord eT8)
  obtain ⟨g10, h⟩ := oif_some h
  rcases othr_s h with ⟨k9, r9, e9, -⟩ | ⟨r12, T11, eT11, h⟩
  · exact SP.tr p2 (s_X3_number e9)
  have p3 : SP T T11 := SP.tr p2 (s_X3_number eT11)
  obtain ⟨g13, h⟩ := oif_some h
  obtain ⟨T14, eT14, h⟩ := elet_some h
  have p4 : SP T T14 := SP.tr p3 (by rw [eT14]; exact sp_uI)
  obtain ⟨g16, h⟩ := oif_some h
  rcases othr_s h with ⟨k9, r9, e9, -⟩ | ⟨r18, T17, eT17, h⟩
  · exact SP.tr p4 (s_X3_takeWord e9)
  have p5 : SP T T17 := SP.tr p4 (s_X3_takeWord eT17)
  obtain ⟨g19, h⟩ := oif_some h
  rcases othr_s h with ⟨k9, r9, e9, -⟩ | ⟨r21, T20, eT20, h⟩
  · exact SP.tr p5 (s_X3_number e9)
  have p6 : SP T T20 := SP.tr p5 (s_X3_number eT20)
  obtain ⟨g22, h⟩ := oif_some h
  obtain ⟨T23, eT23, h⟩ := elet_some h
  have p7 : SP T T23 := SP.tr p6 (by rw [eT23]; exact sp_uI)
  obtain ⟨g25, h⟩ := oif_some h
  rcases othr_s h with ⟨k9, r9, e9, -⟩ | ⟨r27, T26, eT26, h⟩
  · exact SP.tr p7 (s_X3_takeWord e9)
  have p8 : SP T T26 := SP.tr p7 (s_X3_takeWord eT26)
  obtain ⟨g28, h⟩ := oif_some h
  rcases othr_s h with ⟨k9, r9, e9, -⟩ | ⟨r30, T29, eT29, h⟩
  · exact SP.tr p8 (s_X3_number e9)
  have p9 : SP T T29 := SP.tr p8 (s_X3_number eT29)
  obtain ⟨g31, h⟩ := oif_some h
  obtain ⟨T32, eT32, h⟩ := elet_some h
  have p10 : SP T T32 := SP.tr p9 (by rw [eT32]; exact sp_uI)
  obtain ⟨g34, h⟩ := oif_some h
  rcases othr_s h with ⟨k9, r9, e9, -⟩ | ⟨r36, T35, eT35, h⟩
  · exact SP.tr p10 (s_X3_takeWord e9)
  have p11 : SP T T35 := SP.tr p10 (s_X3_takeWord eT35)
  obtain ⟨g37, h⟩ := oif_some h
  rcases othr_s h with ⟨k9, r9, e9, -⟩ | ⟨r39, T38, eT38, h⟩
  · exact SP.tr p11 (s_X3_number e9)
  have p12 : SP T T38 := SP.tr p11 (s_X3_number eT38)
  obtain ⟨g40, h⟩ := oif_some h
  obtain ⟨T41, eT41, h⟩ := elet_some h
  have p13 : SP T T41 := SP.tr p12 (by rw [eT41]; exact sp_uI)
  rw [← (osome3 h).2.2]
  exact p13
set_option maxHeartbeats 4000000 in
set_option maxRecDepth 100000 in
theorem x_X3_parseHead (l : Launch) (hst : l.stackTraces = false) (D : va_G) (cI cJ cZ cMic cSrc cSt cAI cAJ : ClassId) (ad : Nat → Nat) (T : AT) (h0 : Nat) (o : Nat) (a0 : Nat) {e1 : Nat} {r1 : Int32} {T1 : AT} (h : g_X3_parseHead T o a0 = some (e1 + 1, r1, T1)) : kXvX l yX3_parseHead (Cond.code yX3_parseHead cX3_parseHead 2 none :: wsA) 8 132 cI cJ cZ cMic cSrc cSt cAI cAJ D ad T [.ref (ad o), .ref (ad a0)] (yT0 cI cJ cZ cMic cSrc cSt cAI cAJ h0 ad T) e1 T1 := by
  intro sz
  refine pro_inX (cc := cX3_parseHead) (maxL := 2) (ret := none) (by exact pn_RX3) rfl (by exact Nat.le_of_ble_eq_true rfl) (fun p e s m below meth c ls hx hb hr hts hown hlocks htab hml hv hl => ?_)
  obtain ⟨⟨hsz, hP, hK, hD0, hX, hN⟩, hA1, hT⟩ := hv
  subst hsz
  have hD := hD0.self (sz := s.heap.size)
  generalize hAe : va_A (cW ad T.1 (cc cI cJ cZ cMic cSrc cSt cAI cAJ ad T)) s.heap.size = A at hD hX hA1 ⊢
  have hA : ∀ q : Nat, s.heap.size ≤ q → A q := fun q h => by rw [← hAe]; exact Or.inr h
  have G : gC cI cJ cZ cMic cSrc cSt cAI cAJ D ad A s.heap s.heap [] T := ⟨hP, hD, va_S.rf⟩
  have E : cE p c cX3_parseHead s m ([.ref (ad o), .ref (ad a0)] : List Value).toArray (Cond.code yX3_parseHead cX3_parseHead 2 none :: wsA) D RX3 (CT cI cJ cZ cMic cSrc cSt cAI cAJ) := ⟨hx, hb, hts, hown, hK⟩
  have htab : ∀ x ∈ c.exceptionTable.toList, False := fun x hx => htab x hx
  have hA0 : ∀ a : Nat, A a → h0 ≤ a := hA1
  have hl : lv_has ls 2 [(0, .ref (ad o)), (1, .ref (ad a0))] := hl
  unfold g_X3_parseHead at h
  refine lv_aload_n hx hb dX3_parseHead_0 rfl (lv_at hl 0 rfl) ?_
  obtain ⟨w2, hw2, ow2⟩ := hT.1 ("AcousticCamera$Parser", 66, "camera") (List.mem_of_getElem? (i := 0) rfl)
  refine va_ldcS hx hb hown hw2 dX3_parseHead_1 ?_
  obtain ⟨g3, h⟩ := oif_some h
  rcases othr_t h with ⟨r0, eT4⟩ | ⟨r6, T4, eT4, h⟩
  · refine q_xvvX (As := [.ref w2]) (rest := []) E G hA hX hN hml (x_X3_takeWord l hst D cI cJ cZ cMic cSrc cSt cAI cAJ ad T h0 (q := w2) (sTx_ok (by decide +kernel)) o eT4) (cwV 1 hts (gaV qA_228 qA_229 qA_230 qA_222 qA_231) rfl rfl rfl (by decide +kernel) ⟨Nat.le_of_ble_eq_true rfl, Nat.le_of_ble_eq_true rfl⟩) (oO_k g3).1 (cc_o3 (oO_k g3).2) rfl rfl hl.1 rfl (lv_room (Nat.le_of_ble_eq_true rfl)) dX3_parseHead_3 ⟨Nat.le_of_ble_eq_true rfl, Nat.le_of_ble_eq_true rfl⟩ (yT1.blind) (yT1.go hT hA0 hA G ow2) (fun E9 ce q9 T9 H locs hp G hce hcv hcl => ?_)
    obtain ⟨hE, hT⟩ := hp
    subst hE
    rw [hT] at G
    exact vx_out (fun x hx => (htab x hx).elim) hlocks hce hcv hcl (fun t ht hvm => ⟨T1, trivial, ⟨⟨rfl, rfl⟩, by rw [ht]; exact G.1, va_K.moved hvm hK, G.2.1⟩, G.2.2.F ht⟩) G.2.2.2.2 (Nat.le_refl _) (Nat.le_refl _)
  refine q_cvvX (As := [.ref w2]) (rest := []) E G hA hX hN hml (u_X3_takeWord l hst D cI cJ cZ cMic cSrc cSt cAI cAJ ad T h0 (q := w2) (sTx_ok (by decide +kernel)) o eT4) (cwV 1 hts (gaV qA_228 qA_229 qA_230 qA_222 qA_231) rfl rfl rfl (by decide +kernel) ⟨Nat.le_of_ble_eq_true rfl, Nat.le_of_ble_eq_true rfl⟩) (oO_k g3).1 (cc_o3 (oO_k g3).2) rfl rfl hl.1 rfl (lv_room (Nat.le_of_ble_eq_true rfl)) dX3_parseHead_3 ⟨Nat.zero_le _, Nat.zero_le _⟩ (yT1.blind) (yT1.go hT hA0 hA G ow2) (fun T5 H locs hq G => ?_)
  rw [hq] at G
  clear hq eT4
  refine lv_aload_n hx hb dX3_parseHead_6 rfl (lv_at hl 0 rfl) ?_
  obtain ⟨w8, hw8, ow8⟩ := hT.1 ("AcousticCamera$Parser", 72, "distance") (List.mem_of_getElem? (i := 1) rfl)
  refine va_ldcS hx hb hown hw8 dX3_parseHead_7 ?_
  obtain ⟨g9, h⟩ := oif_some h
  rcases othr_t h with ⟨r0, eT10⟩ | ⟨r12, T10, eT10, h⟩
  · refine q_xvvX (As := [.ref w8]) (rest := []) E G hA hX hN hml (x_X3_takeWord l hst D cI cJ cZ cMic cSrc cSt cAI cAJ ad T4 h0 (q := w8) (sTx_ok (by decide +kernel)) o eT10) (cwV 1 hts (gaV qA_228 qA_229 qA_230 qA_222 qA_231) rfl rfl rfl (by decide +kernel) ⟨Nat.le_of_ble_eq_true rfl, Nat.le_of_ble_eq_true rfl⟩) (oO_k g9).1 (cc_o3 (oO_k g9).2) rfl rfl hl.1 rfl (lv_room (Nat.le_of_ble_eq_true rfl)) dX3_parseHead_9 ⟨Nat.le_of_ble_eq_true rfl, Nat.le_of_ble_eq_true rfl⟩ (yT1.blind) (yT1.go hT hA0 hA G ow8) (fun E9 ce q9 T9 H locs hp G hce hcv hcl => ?_)
    obtain ⟨hE, hT⟩ := hp
    subst hE
    rw [hT] at G
    exact vx_out (fun x hx => (htab x hx).elim) hlocks hce hcv hcl (fun t ht hvm => ⟨T1, trivial, ⟨⟨rfl, rfl⟩, by rw [ht]; exact G.1, va_K.moved hvm hK, G.2.1⟩, G.2.2.F ht⟩) G.2.2.2.2 (Nat.le_refl _) (Nat.le_refl _)
  refine q_cvvX (As := [.ref w8]) (rest := []) E G hA hX hN hml (u_X3_takeWord l hst D cI cJ cZ cMic cSrc cSt cAI cAJ ad T4 h0 (q := w8) (sTx_ok (by decide +kernel)) o eT10) (cwV 1 hts (gaV qA_228 qA_229 qA_230 qA_222 qA_231) rfl rfl rfl (by decide +kernel) ⟨Nat.le_of_ble_eq_true rfl, Nat.le_of_ble_eq_true rfl⟩) (oO_k g9).1 (cc_o3 (oO_k g9).2) rfl rfl hl.1 rfl (lv_room (Nat.le_of_ble_eq_true rfl)) dX3_parseHead_9 ⟨Nat.zero_le _, Nat.zero_le _⟩ (yT1.blind) (yT1.go hT hA0 hA G ow8) (fun T11 H locs hq G => ?_)
  rw [hq] at G
  clear hq eT10
  refine lv_aload_n hx hb dX3_parseHead_12 rfl (lv_at hl 1 rfl) ?_
  refine lv_aload_n hx hb dX3_parseHead_13 rfl (lv_at hl 0 rfl) ?_
  refine lv_bipush (v := 100) hx hb dX3_parseHead_14 (by decide) ?_
  refine lv_sipush (v := 5000) hx hb dX3_parseHead_16 (by decide) ?_
  obtain ⟨g14, h⟩ := oif_some h
  rcases othr_t h with ⟨r0, eT15⟩ | ⟨r17, T15, eT15, h⟩
  · refine q_xvi (As := [.int 100, .int 5000]) (rest := [.ref (ad a0)]) E G hA hX hN hml (x_X3_number l hst D cI cJ cZ cMic cSrc cSt cAI cAJ ad T10 o (100 : Int32) (5000 : Int32) eT15) (cwV 2 hts (gaV qA_299 qA_300 qA_301 qA_222 qA_302) rfl rfl rfl (by decide +kernel) ⟨Nat.le_of_ble_eq_true rfl, Nat.le_of_ble_eq_true rfl⟩) (oO_k g14).1 (cc_o3 (oO_k g14).2) rfl rfl hl.1 rfl (lv_room (Nat.le_of_ble_eq_true rfl)) dX3_parseHead_19 ⟨Nat.le_of_ble_eq_true rfl, Nat.le_of_ble_eq_true rfl⟩ (fun E9 ce q9 T9 H locs hp G hce hcv hcl => ?_)
    obtain ⟨hE, hT⟩ := hp
    subst hE
    rw [hT] at G
    exact vx_out (fun x hx => (htab x hx).elim) hlocks hce hcv hcl (fun t ht hvm => ⟨T1, trivial, ⟨⟨rfl, rfl⟩, by rw [ht]; exact G.1, va_K.moved hvm hK, G.2.1⟩, G.2.2.F ht⟩) G.2.2.2.2 (Nat.le_refl _) (Nat.le_refl _)
  refine q_cvi (As := [.int 100, .int 5000]) (rest := [.ref (ad a0)]) E G hA hX hN hml (u_X3_number l hst D cI cJ cZ cMic cSrc cSt cAI cAJ ad T10 o (100 : Int32) (5000 : Int32) eT15) (cwV 2 hts (gaV qA_299 qA_300 qA_301 qA_222 qA_302) rfl rfl rfl (by decide +kernel) ⟨Nat.le_of_ble_eq_true rfl, Nat.le_of_ble_eq_true rfl⟩) (oO_k g14).1 (cc_o3 (oO_k g14).2) rfl rfl hl.1 rfl (lv_room (Nat.le_of_ble_eq_true rfl)) dX3_parseHead_19 ⟨Nat.zero_le _, Nat.zero_le _⟩ (fun q18 T16 H locs hq G => ?_)
  obtain ⟨hq1, hq2⟩ := hq
  rw [hq2] at G
  refine lv_to hq1 ?_
  clear hq1 hq2 eT15
  obtain ⟨g19, h⟩ := oif_some h
  refine c_put E G a0 0 (v := .int r17) (oO_k g19).1 (cc_o6 (oO_k g19).2) rfl (fun w h => .tail _ (iA_14 h)) tyX6 tyX6_ok nmX6 (by decide) (.tail _ qA_224) ⟨rfl, rfl, rfl⟩ rfl rfl (Nat.le_of_ble_eq_true rfl) dX3_parseHead_22 (fun H locs G => ?_)
  have G := gC_up_i (f := upd (T15.2.2.1 a0) 0 r17) (by rw [(oO_k g19).2]; rfl) G
  obtain ⟨T20, eT20, h⟩ := elet_some h
  have G : gC cI cJ cZ cMic cSrc cSt cAI cAJ D ad A s.heap H locs T20 := by rw [eT20]; exact G
  clear eT20
  refine lv_aload_n hx hb dX3_parseHead_25 rfl (lv_at hl 0 rfl) ?_
  obtain ⟨w21, hw21, ow21⟩ := hT.1 ("AcousticCamera$Parser", 80, "step") (List.mem_of_getElem? (i := 2) rfl)
  refine va_ldcS hx hb hown hw21 dX3_parseHead_26 ?_
  obtain ⟨g22, h⟩ := oif_some h
  rcases othr_t h with ⟨r0, eT23⟩ | ⟨r25, T23, eT23, h⟩
  · refine q_xvvX (As := [.ref w21]) (rest := []) E G hA hX hN hml (x_X3_takeWord l hst D cI cJ cZ cMic cSrc cSt cAI cAJ ad T20 h0 (q := w21) (sTx_ok (by decide +kernel)) o eT23) (cwV 1 hts (gaV qA_228 qA_229 qA_230 qA_222 qA_231) rfl rfl rfl (by decide +kernel) ⟨Nat.le_of_ble_eq_true rfl, Nat.le_of_ble_eq_true rfl⟩) (oO_k g22).1 (cc_o3 (oO_k g22).2) rfl rfl hl.1 rfl (lv_room (Nat.le_of_ble_eq_true rfl)) dX3_parseHead_28 ⟨Nat.le_of_ble_eq_true rfl, Nat.le_of_ble_eq_true rfl⟩ (yT1.blind) (yT1.go hT hA0 hA G ow21) (fun E9 ce q9 T9 H locs hp G hce hcv hcl => ?_)
    obtain ⟨hE, hT⟩ := hp
    subst hE
    rw [hT] at G
    exact vx_out (fun x hx => (htab x hx).elim) hlocks hce hcv hcl (fun t ht hvm => ⟨T1, trivial, ⟨⟨rfl, rfl⟩, by rw [ht]; exact G.1, va_K.moved hvm hK, G.2.1⟩, G.2.2.F ht⟩) G.2.2.2.2 (Nat.le_refl _) (Nat.le_refl _)
  refine q_cvvX (As := [.ref w21]) (rest := []) E G hA hX hN hml (u_X3_takeWord l hst D cI cJ cZ cMic cSrc cSt cAI cAJ ad T20 h0 (q := w21) (sTx_ok (by decide +kernel)) o eT23) (cwV 1 hts (gaV qA_228 qA_229 qA_230 qA_222 qA_231) rfl rfl rfl (by decide +kernel) ⟨Nat.le_of_ble_eq_true rfl, Nat.le_of_ble_eq_true rfl⟩) (oO_k g22).1 (cc_o3 (oO_k g22).2) rfl rfl hl.1 rfl (lv_room (Nat.le_of_ble_eq_true rfl)) dX3_parseHead_28 ⟨Nat.zero_le _, Nat.zero_le _⟩ (yT1.blind) (yT1.go hT hA0 hA G ow21) (fun T24 H locs hq G => ?_)
  rw [hq] at G
  clear hq eT23
  refine lv_aload_n hx hb dX3_parseHead_31 rfl (lv_at hl 1 rfl) ?_
  refine lv_aload_n hx hb dX3_parseHead_32 rfl (lv_at hl 0 rfl) ?_
  refine lv_iconst (v := 1) hx hb dX3_parseHead_33 (by decide) ?_
  refine lv_bipush (v := 99) hx hb dX3_parseHead_34 (by decide) ?_
  obtain ⟨g27, h⟩ := oif_some h
  rcases othr_t h with ⟨r0, eT28⟩ | ⟨r30, T28, eT28, h⟩
  · refine q_xvi (As := [.int 1, .int 99]) (rest := [.ref (ad a0)]) E G hA hX hN hml (x_X3_number l hst D cI cJ cZ cMic cSrc cSt cAI cAJ ad T23 o (1 : Int32) (99 : Int32) eT28) (cwV 2 hts (gaV qA_299 qA_300 qA_301 qA_222 qA_302) rfl rfl rfl (by decide +kernel) ⟨Nat.le_of_ble_eq_true rfl, Nat.le_of_ble_eq_true rfl⟩) (oO_k g27).1 (cc_o3 (oO_k g27).2) rfl rfl hl.1 rfl (lv_room (Nat.le_of_ble_eq_true rfl)) dX3_parseHead_36 ⟨Nat.le_of_ble_eq_true rfl, Nat.le_of_ble_eq_true rfl⟩ (fun E9 ce q9 T9 H locs hp G hce hcv hcl => ?_)
    obtain ⟨hE, hT⟩ := hp
    subst hE
    rw [hT] at G
    exact vx_out (fun x hx => (htab x hx).elim) hlocks hce hcv hcl (fun t ht hvm => ⟨T1, trivial, ⟨⟨rfl, rfl⟩, by rw [ht]; exact G.1, va_K.moved hvm hK, G.2.1⟩, G.2.2.F ht⟩) G.2.2.2.2 (Nat.le_refl _) (Nat.le_refl _)
  refine q_cvi (As := [.int 1, .int 99]) (rest := [.ref (ad a0)]) E G hA hX hN hml (u_X3_number l hst D cI cJ cZ cMic cSrc cSt cAI cAJ ad T23 o (1 : Int32) (99 : Int32) eT28) (cwV 2 hts (gaV qA_299 qA_300 qA_301 qA_222 qA_302) rfl rfl rfl (by decide +kernel) ⟨Nat.le_of_ble_eq_true rfl, Nat.le_of_ble_eq_true rfl⟩) (oO_k g27).1 (cc_o3 (oO_k g27).2) rfl rfl hl.1 rfl (lv_room (Nat.le_of_ble_eq_true rfl)) dX3_parseHead_36 ⟨Nat.zero_le _, Nat.zero_le _⟩ (fun q31 T29 H locs hq G => ?_)
  obtain ⟨hq1, hq2⟩ := hq
  rw [hq2] at G
  refine lv_to hq1 ?_
  clear hq1 hq2 eT28
  obtain ⟨g32, h⟩ := oif_some h
  refine c_put E G a0 1 (v := .int r30) (oO_k g32).1 (cc_o6 (oO_k g32).2) rfl (fun w h => .tail _ (iA_14 h)) tyX6 tyX6_ok nmX6 (by decide) (.tail _ qA_225) ⟨rfl, rfl, rfl⟩ rfl rfl (Nat.le_of_ble_eq_true rfl) dX3_parseHead_39 (fun H locs G => ?_)
  have G := gC_up_i (f := upd (T28.2.2.1 a0) 1 r30) (by rw [(oO_k g32).2]; rfl) G
  obtain ⟨T33, eT33, h⟩ := elet_some h
  have G : gC cI cJ cZ cMic cSrc cSt cAI cAJ D ad A s.heap H locs T33 := by rw [eT33]; exact G
  clear eT33
  refine lv_aload_n hx hb dX3_parseHead_42 rfl (lv_at hl 0 rfl) ?_
  obtain ⟨w34, hw34, ow34⟩ := hT.1 ("AcousticCamera$Parser", 84, "samples") (List.mem_of_getElem? (i := 3) rfl)
  refine va_ldcS hx hb hown hw34 dX3_parseHead_43 ?_
  obtain ⟨g35, h⟩ := oif_some h
  rcases othr_t h with ⟨r0, eT36⟩ | ⟨r38, T36, eT36, h⟩
  · refine q_xvvX (As := [.ref w34]) (rest := []) E G hA hX hN hml (x_X3_takeWord l hst D cI cJ cZ cMic cSrc cSt cAI cAJ ad T33 h0 (q := w34) (sTx_ok (by decide +kernel)) o eT36) (cwV 1 hts (gaV qA_228 qA_229 qA_230 qA_222 qA_231) rfl rfl rfl (by decide +kernel) ⟨Nat.le_of_ble_eq_true rfl, Nat.le_of_ble_eq_true rfl⟩) (oO_k g35).1 (cc_o3 (oO_k g35).2) rfl rfl hl.1 rfl (lv_room (Nat.le_of_ble_eq_true rfl)) dX3_parseHead_45 ⟨Nat.le_of_ble_eq_true rfl, Nat.le_of_ble_eq_true rfl⟩ (yT1.blind) (yT1.go hT hA0 hA G ow34) (fun E9 ce q9 T9 H locs hp G hce hcv hcl => ?_)
    obtain ⟨hE, hT⟩ := hp
    subst hE
    rw [hT] at G
    exact vx_out (fun x hx => (htab x hx).elim) hlocks hce hcv hcl (fun t ht hvm => ⟨T1, trivial, ⟨⟨rfl, rfl⟩, by rw [ht]; exact G.1, va_K.moved hvm hK, G.2.1⟩, G.2.2.F ht⟩) G.2.2.2.2 (Nat.le_refl _) (Nat.le_refl _)
  refine q_cvvX (As := [.ref w34]) (rest := []) E G hA hX hN hml (u_X3_takeWord l hst D cI cJ cZ cMic cSrc cSt cAI cAJ ad T33 h0 (q := w34) (sTx_ok (by decide +kernel)) o eT36) (cwV 1 hts (gaV qA_228 qA_229 qA_230 qA_222 qA_231) rfl rfl rfl (by decide +kernel) ⟨Nat.le_of_ble_eq_true rfl, Nat.le_of_ble_eq_true rfl⟩) (oO_k g35).1 (cc_o3 (oO_k g35).2) rfl rfl hl.1 rfl (lv_room (Nat.le_of_ble_eq_true rfl)) dX3_parseHead_45 ⟨Nat.zero_le _, Nat.zero_le _⟩ (yT1.blind) (yT1.go hT hA0 hA G ow34) (fun T37 H locs hq G => ?_)
  rw [hq] at G
  clear hq eT36
  refine lv_aload_n hx hb dX3_parseHead_48 rfl (lv_at hl 1 rfl) ?_
  refine lv_aload_n hx hb dX3_parseHead_49 rfl (lv_at hl 0 rfl) ?_
  refine lv_bipush (v := 32) hx hb dX3_parseHead_50 (by decide) ?_
  refine lv_sipush (v := 200) hx hb dX3_parseHead_52 (by decide) ?_
  obtain ⟨g40, h⟩ := oif_some h
  rcases othr_t h with ⟨r0, eT41⟩ | ⟨r43, T41, eT41, h⟩
  · refine q_xvi (As := [.int 32, .int 200]) (rest := [.ref (ad a0)]) E G hA hX hN hml (x_X3_number l hst D cI cJ cZ cMic cSrc cSt cAI cAJ ad T36 o (32 : Int32) (200 : Int32) eT41) (cwV 2 hts (gaV qA_299 qA_300 qA_301 qA_222 qA_302) rfl rfl rfl (by decide +kernel) ⟨Nat.le_of_ble_eq_true rfl, Nat.le_of_ble_eq_true rfl⟩) (oO_k g40).1 (cc_o3 (oO_k g40).2) rfl rfl hl.1 rfl (lv_room (Nat.le_of_ble_eq_true rfl)) dX3_parseHead_55 ⟨Nat.le_of_ble_eq_true rfl, Nat.le_of_ble_eq_true rfl⟩ (fun E9 ce q9 T9 H locs hp G hce hcv hcl => ?_)
    obtain ⟨hE, hT⟩ := hp
    subst hE
    rw [hT] at G
    exact vx_out (fun x hx => (htab x hx).elim) hlocks hce hcv hcl (fun t ht hvm => ⟨T1, trivial, ⟨⟨rfl, rfl⟩, by rw [ht]; exact G.1, va_K.moved hvm hK, G.2.1⟩, G.2.2.F ht⟩) G.2.2.2.2 (Nat.le_refl _) (Nat.le_refl _)
  refine q_cvi (As := [.int 32, .int 200]) (rest := [.ref (ad a0)]) E G hA hX hN hml (u_X3_number l hst D cI cJ cZ cMic cSrc cSt cAI cAJ ad T36 o (32 : Int32) (200 : Int32) eT41) (cwV 2 hts (gaV qA_299 qA_300 qA_301 qA_222 qA_302) rfl rfl rfl (by decide +kernel) ⟨Nat.le_of_ble_eq_true rfl, Nat.le_of_ble_eq_true rfl⟩) (oO_k g40).1 (cc_o3 (oO_k g40).2) rfl rfl hl.1 rfl (lv_room (Nat.le_of_ble_eq_true rfl)) dX3_parseHead_55 ⟨Nat.zero_le _, Nat.zero_le _⟩ (fun q44 T42 H locs hq G => ?_)
  obtain ⟨hq1, hq2⟩ := hq
  rw [hq2] at G
  refine lv_to hq1 ?_
  clear hq1 hq2 eT41
  obtain ⟨g45, h⟩ := oif_some h
  refine c_put E G a0 2 (v := .int r43) (oO_k g45).1 (cc_o6 (oO_k g45).2) rfl (fun w h => .tail _ (iA_14 h)) tyX6 tyX6_ok nmX6 (by decide) (.tail _ qA_226) ⟨rfl, rfl, rfl⟩ rfl rfl (Nat.le_of_ble_eq_true rfl) dX3_parseHead_58 (fun H locs G => ?_)
  have G := gC_up_i (f := upd (T41.2.2.1 a0) 2 r43) (by rw [(oO_k g45).2]; rfl) G
  obtain ⟨T46, eT46, h⟩ := elet_some h
  have G : gC cI cJ cZ cMic cSrc cSt cAI cAJ D ad A s.heap H locs T46 := by rw [eT46]; exact G
  clear eT46
  refine lv_aload_n hx hb dX3_parseHead_61 rfl (lv_at hl 0 rfl) ?_
  obtain ⟨w47, hw47, ow47⟩ := hT.1 ("AcousticCamera$Parser", 88, "limit") (List.mem_of_getElem? (i := 4) rfl)
  refine va_ldcS hx hb hown hw47 dX3_parseHead_62 ?_
  obtain ⟨g48, h⟩ := oif_some h
  rcases othr_t h with ⟨r0, eT49⟩ | ⟨r51, T49, eT49, h⟩
  · refine q_xvvX (As := [.ref w47]) (rest := []) E G hA hX hN hml (x_X3_takeWord l hst D cI cJ cZ cMic cSrc cSt cAI cAJ ad T46 h0 (q := w47) (sTx_ok (by decide +kernel)) o eT49) (cwV 1 hts (gaV qA_228 qA_229 qA_230 qA_222 qA_231) rfl rfl rfl (by decide +kernel) ⟨Nat.le_of_ble_eq_true rfl, Nat.le_of_ble_eq_true rfl⟩) (oO_k g48).1 (cc_o3 (oO_k g48).2) rfl rfl hl.1 rfl (lv_room (Nat.le_of_ble_eq_true rfl)) dX3_parseHead_64 ⟨Nat.le_of_ble_eq_true rfl, Nat.le_of_ble_eq_true rfl⟩ (yT1.blind) (yT1.go hT hA0 hA G ow47) (fun E9 ce q9 T9 H locs hp G hce hcv hcl => ?_)
    obtain ⟨hE, hT⟩ := hp
    subst hE
    rw [hT] at G
    exact vx_out (fun x hx => (htab x hx).elim) hlocks hce hcv hcl (fun t ht hvm => ⟨T1, trivial, ⟨⟨rfl, rfl⟩, by rw [ht]; exact G.1, va_K.moved hvm hK, G.2.1⟩, G.2.2.F ht⟩) G.2.2.2.2 (Nat.le_refl _) (Nat.le_refl _)
  refine q_cvvX (As := [.ref w47]) (rest := []) E G hA hX hN hml (u_X3_takeWord l hst D cI cJ cZ cMic cSrc cSt cAI cAJ ad T46 h0 (q := w47) (sTx_ok (by decide +kernel)) o eT49) (cwV 1 hts (gaV qA_228 qA_229 qA_230 qA_222 qA_231) rfl rfl rfl (by decide +kernel) ⟨Nat.le_of_ble_eq_true rfl, Nat.le_of_ble_eq_true rfl⟩) (oO_k g48).1 (cc_o3 (oO_k g48).2) rfl rfl hl.1 rfl (lv_room (Nat.le_of_ble_eq_true rfl)) dX3_parseHead_64 ⟨Nat.zero_le _, Nat.zero_le _⟩ (yT1.blind) (yT1.go hT hA0 hA G ow47) (fun T50 H locs hq G => ?_)
  rw [hq] at G
  clear hq eT49
  refine lv_aload_n hx hb dX3_parseHead_67 rfl (lv_at hl 1 rfl) ?_
  refine lv_aload_n hx hb dX3_parseHead_68 rfl (lv_at hl 0 rfl) ?_
  refine lv_iconst (v := 1) hx hb dX3_parseHead_69 (by decide) ?_
  refine lv_sipush (v := 9999) hx hb dX3_parseHead_70 (by decide) ?_
  obtain ⟨g53, h⟩ := oif_some h
  rcases othr_t h with ⟨r0, eT54⟩ | ⟨r56, T54, eT54, h⟩
  · refine q_xvi (As := [.int 1, .int 9999]) (rest := [.ref (ad a0)]) E G hA hX hN hml (x_X3_number l hst D cI cJ cZ cMic cSrc cSt cAI cAJ ad T49 o (1 : Int32) (9999 : Int32) eT54) (cwV 2 hts (gaV qA_299 qA_300 qA_301 qA_222 qA_302) rfl rfl rfl (by decide +kernel) ⟨Nat.le_of_ble_eq_true rfl, Nat.le_of_ble_eq_true rfl⟩) (oO_k g53).1 (cc_o3 (oO_k g53).2) rfl rfl hl.1 rfl (lv_room (Nat.le_of_ble_eq_true rfl)) dX3_parseHead_73 ⟨Nat.le_of_ble_eq_true rfl, Nat.le_of_ble_eq_true rfl⟩ (fun E9 ce q9 T9 H locs hp G hce hcv hcl => ?_)
    obtain ⟨hE, hT⟩ := hp
    subst hE
    rw [hT] at G
    exact vx_out (fun x hx => (htab x hx).elim) hlocks hce hcv hcl (fun t ht hvm => ⟨T1, trivial, ⟨⟨rfl, rfl⟩, by rw [ht]; exact G.1, va_K.moved hvm hK, G.2.1⟩, G.2.2.F ht⟩) G.2.2.2.2 (Nat.le_refl _) (Nat.le_refl _)
  refine q_cvi (As := [.int 1, .int 9999]) (rest := [.ref (ad a0)]) E G hA hX hN hml (u_X3_number l hst D cI cJ cZ cMic cSrc cSt cAI cAJ ad T49 o (1 : Int32) (9999 : Int32) eT54) (cwV 2 hts (gaV qA_299 qA_300 qA_301 qA_222 qA_302) rfl rfl rfl (by decide +kernel) ⟨Nat.le_of_ble_eq_true rfl, Nat.le_of_ble_eq_true rfl⟩) (oO_k g53).1 (cc_o3 (oO_k g53).2) rfl rfl hl.1 rfl (lv_room (Nat.le_of_ble_eq_true rfl)) dX3_parseHead_73 ⟨Nat.zero_le _, Nat.zero_le _⟩ (fun q57 T55 H locs hq G => ?_)
  obtain ⟨hq1, hq2⟩ := hq
  rw [hq2] at G
  refine lv_to hq1 ?_
  clear hq1 hq2 eT54
  obtain ⟨g58, h⟩ := oif_some h
  refine c_put E G a0 3 (v := .int r56) (oO_k g58).1 (cc_o6 (oO_k g58).2) rfl (fun w h => .tail _ (iA_14 h)) tyX6 tyX6_ok nmX6 (by decide) (.tail _ qA_227) ⟨rfl, rfl, rfl⟩ rfl rfl (Nat.le_of_ble_eq_true rfl) dX3_parseHead_76 (fun H locs G => ?_)
  have G := gC_up_i (f := upd (T54.2.2.1 a0) 3 r56) (by rw [(oO_k g58).2]; rfl) G
  obtain ⟨T59, eT59, h⟩ := elet_some h
  have G : gC cI cJ cZ cMic cSrc cSt cAI cAJ D ad A s.heap H locs T59 := by rw [eT59]; exact G
  clear eT59
  exact (Nat.succ_ne_zero _ (congrArg Prod.fst (Option.some.inj h)).symm).elim
def g_X3_startLine_b13  (T : AT) (l0 : Nat) : Option (Nat × Int32 × AT) := oif (oO T l0 3 = true) <| elet (T.2.2.1 l0 1) fun v3 => elet (v3 + 1) fun v4 => oif (oO T l0 3 = true) <| elet (uI T l0 1 v4) fun T6 => some (0, 0, T6)
set_option maxHeartbeats 4000000 in
set_option maxRecDepth 100000 in
theorem u_X3_startLine_b13 {p : Program} {l : Launch} {e : Env} {s : State} {m : MethodId} {args : Array Value} {below : List Frame} {meth : Method} {c : Code} {Q : State → Prop} {D : va_G} {A : Nat → Prop} {cI cJ cZ cMic cSrc cSt cAI cAJ : ClassId} {ad : Nat → Nat} {r1 : Int32} {T1 : AT} (E : cE p c cX3_startLine s m args (Cond.code yX3_startLine cX3_startLine 3 none :: wsA) D RX3 (CT cI cJ cZ cMic cSrc cSt cAI cAJ)) (hA : ∀ q : Nat, s.heap.size ≤ q → A q) (hX : xT A s) (hN : nX s) (hml : c.maxLocals = 3) (hst : l.stackTraces = false) (kr23 : ∀ (H : Heap) (locs : List Loc) (ls : Array Slot), gC cI cJ cZ cMic cSrc cSt cAI cAJ D ad A s.heap H locs T1 → W p l e { frames := 7, cells := 0, slots := 0, locals := 103 } s m args below meth c H locs 0 0 Q (F0 m 23 ls [])) : ∀ (T : AT) (H : Heap) (locs : List Loc) (ls : Array Slot) (l0 : Nat), g_X3_startLine_b13 T l0 = some (0, r1, T1) → gC cI cJ cZ cMic cSrc cSt cAI cAJ D ad A s.heap H locs T → lv_has ls 3 [(0, .ref (ad l0))] → W p l e { frames := 7, cells := 0, slots := 0, locals := 103 } s m args below meth c H locs 0 0 Q (F0 m 13 ls []) := by
  have hx := E.1
  have hb := E.2.1
  have hts := E.2.2.1
  have hown := E.2.2.2.1
  have hK := E.2.2.2.2
  intro T H locs ls l0 h G hl
  unfold g_X3_startLine_b13 at h
  refine lv_aload_n hx hb dX3_startLine_13 rfl (lv_at hl 0 rfl) ?_
  refine lv_dup hx hb dX3_startLine_14 rfl ?_
  obtain ⟨g2, h⟩ := oif_some h
  refine c_get E G l0 1 (oO_k g2).1 (cc_o3 (oO_k g2).2) rfl (fun w h => .tail _ (iA_17 h)) (by decide) (.tail _ qA_176) rfl rfl dX3_startLine_15 ?_
  refine lv_topi (fun v3 ev3 => ?_)
  have h := elet_at ev3 h
  clear ev3
  refine lv_iconst (v := 1) hx hb dX3_startLine_18 (by decide) ?_
  refine lv_iadd hx hb dX3_startLine_19 ?_
  refine lv_topi (fun v4 ev4 => ?_)
  have h := elet_at ev4 h
  clear ev4
  obtain ⟨g5, h⟩ := oif_some h
  refine c_put E G l0 1 (v := .int v4) (oO_k g5).1 (cc_o3 (oO_k g5).2) rfl (fun w h => .tail _ (iA_17 h)) tyX3 tyX3_ok nmX3 (by decide) (.tail _ qA_176) ⟨rfl, rfl, rfl⟩ rfl rfl (Nat.le_of_ble_eq_true rfl) dX3_startLine_20 (fun H locs G => ?_)
  have G := gC_up_i (f := upd (T.2.2.1 l0) 1 v4) (by rw [(oO_k g5).2]; rfl) G
  obtain ⟨T6, eT6, h⟩ := elet_some h
  have G : gC cI cJ cZ cMic cSrc cSt cAI cAJ D ad A s.heap H locs T6 := by rw [eT6]; exact G
  clear eT6
  rw [(osome3 h).2.2] at G
  exact kr23 _ _ _ G
def g_X3_startLine (T : AT) (o : Nat) (a0 : Int32) (a1 : Int32) : Option (Nat × Int32 × AT) := if a0 = 0 then (g_X3_startLine_b13 T o) else (oif (oO T o 3 = true) <| elet (T.2.2.1 o 1) fun v4 => oif (oO T o 3 = true) <| othr (g_X3_failAt T o v4 a1) 0 fun r8 T6 => g_X3_startLine_b13 T6 o)
set_option maxHeartbeats 4000000 in
set_option maxRecDepth 100000 in
theorem u_X3_startLine (l : Launch) (hst : l.stackTraces = false) (D : va_G) (cI cJ cZ cMic cSrc cSt cAI cAJ : ClassId) (ad : Nat → Nat) (T : AT) (o : Nat) (a0 : Int32) (a1 : Int32) {r1 : Int32} {T1 : AT} (h : g_X3_startLine T o a0 a1 = some (0, r1, T1)) : kCv l yX3_startLine (Cond.code yX3_startLine cX3_startLine 3 none :: wsA) 7 103 cI cJ cZ cMic cSrc cSt cAI cAJ D ad T [.ref (ad o), .int a0, .int a1] (fun T9 => T9 = T1) := by
  intro sz
  refine pro_in (cc := cX3_startLine) (maxL := 3) (ret := none) (by exact pn_RX3) rfl (by exact Nat.le_of_ble_eq_true rfl) (fun p e s m below meth c ls hx hb hr hts hown hlocks hml hv hl => ?_)
  obtain ⟨hsz, hP, hK, hD0, hX, hN⟩ := hv
  subst hsz
  have hD := hD0.self (sz := s.heap.size)
  generalize hAe : va_A (cW ad T.1 (cc cI cJ cZ cMic cSrc cSt cAI cAJ ad T)) s.heap.size = A at hD hX ⊢
  have hA : ∀ q : Nat, s.heap.size ≤ q → A q := fun q h => by rw [← hAe]; exact Or.inr h
  have G : gC cI cJ cZ cMic cSrc cSt cAI cAJ D ad A s.heap s.heap [] T := ⟨hP, hD, va_S.rf⟩
  have E : cE p c cX3_startLine s m ([.ref (ad o), .int a0, .int a1] : List Value).toArray (Cond.code yX3_startLine cX3_startLine 3 none :: wsA) D RX3 (CT cI cJ cZ cMic cSrc cSt cAI cAJ) := ⟨hx, hb, hts, hown, hK⟩
  have hl : lv_has ls 3 [(0, .ref (ad o)), (1, .int a0), (2, .int a1)] := hl
  unfold g_X3_startLine at h
  refine lv_iload_n hx hb dX3_startLine_0 rfl (lv_at hl 1 rfl) ?_
  refine lv_if_eq (tgt := 13) hx hb dX3_startLine_1 (by decide) (fun c2 => ?_) (fun c2 => ?_)
  · have h := oif_pos c2 h
    have hl := lv_sub hl [0] rfl
    exact u_X3_startLine_b13 E hA hX hN hml hst (fun H locs ls G => W.vret hx hb hr (fun t ht hW => ⟨⟨T1, rfl, rfl, ⟨by rw [ht]; exact G.1, va_K.moved hW.alike hK, G.2.1⟩⟩, G.2.2.F ht⟩) G.2.2.2.2 dX3_startLine_23) _ _ _ _ _ h G hl
  · have h := oif_neg c2 h
    refine lv_aload_n hx hb dX3_startLine_4 rfl (lv_at hl 0 rfl) ?_
    refine lv_aload_n hx hb dX3_startLine_5 rfl (lv_at hl 0 rfl) ?_
    obtain ⟨g3, h⟩ := oif_some h
    refine c_get E G o 1 (oO_k g3).1 (cc_o3 (oO_k g3).2) rfl (fun w h => .tail _ (iA_17 h)) (by decide) (.tail _ qA_176) rfl rfl dX3_startLine_6 ?_
    refine lv_topi (fun v4 ev4 => ?_)
    have h := elet_at ev4 h
    clear ev4
    refine lv_iload_n hx hb dX3_startLine_9 rfl (lv_at hl 2 rfl) ?_
    obtain ⟨g5, h⟩ := oif_some h
    obtain ⟨r8, T6, eT6, h⟩ := othr_n h
    refine q_cvv (As := [.int v4, .int a1]) (rest := []) E G hA hX hN hml (u_X3_failAt l hst D cI cJ cZ cMic cSrc cSt cAI cAJ ad T o v4 a1 eT6) (cwV 2 hts (gaV qA_293 qA_294 qA_295 qA_222 qA_296) rfl rfl rfl (by decide +kernel) ⟨Nat.le_of_ble_eq_true rfl, Nat.le_of_ble_eq_true rfl⟩) (oO_k g5).1 (cc_o3 (oO_k g5).2) rfl rfl hl.1 rfl (lv_room (Nat.le_of_ble_eq_true rfl)) dX3_startLine_10 ⟨Nat.zero_le _, Nat.zero_le _⟩ (fun T7 H locs hq G => ?_)
    rw [hq] at G
    clear hq eT6
    have hl := lv_sub hl [0] rfl
    exact u_X3_startLine_b13 E hA hX hN hml hst (fun H locs ls G => W.vret hx hb hr (fun t ht hW => ⟨⟨T1, rfl, rfl, ⟨by rw [ht]; exact G.1, va_K.moved hW.alike hK, G.2.1⟩⟩, G.2.2.F ht⟩) G.2.2.2.2 dX3_startLine_23) _ _ _ _ _ h G hl
set_option maxHeartbeats 4000000 in
set_option maxRecDepth 100000 in
theorem s_X3_startLine_b13 {e1 : Nat} {r1 : Int32} {T1 : AT} : ∀ (T : AT) (l0 : Nat), g_X3_startLine_b13 T l0 = some (e1, r1, T1) → SP T T1 := by
  intro T l0 h
  have p0 := SP.rf T
  unfold g_X3_startLine_b13 at h
  obtain ⟨g2, h⟩ := oif_some h
  obtain ⟨v3, -, h⟩ := elet_some h
  obtain ⟨v4, -, h⟩ := elet_some h
  obtain ⟨g5, h⟩ := oif_some h
  obtain ⟨T6, eT6, h⟩ := elet_some h
  have p1 : SP T T6 := SP.tr p0 (by rw [eT6]; exact sp_uI)
  rw [← (osome3 h).2.2]
  exact p1
set_option maxHeartbeats 4000000 in
set_option maxRecDepth 100000 in
theorem s_X3_startLine {T : AT} {o : Nat} {a0 : Int32} {a1 : Int32} {e1 : Nat} {r1 : Int32} {T1 : AT} (h : g_X3_startLine T o a0 a1 = some (e1, r1, T1)) : SP T T1 := by
  have p0 := SP.rf T
  unfold g_X3_startLine at h
  rcases oif_or h with ⟨c2, h⟩ | ⟨c2, h⟩
  · have h := h
    exact SP.tr p0 (s_X3_startLine_b13 _ _ h)
  · have h := h
    obtain ⟨g3, h⟩ := oif_some h
    obtain ⟨v4, -, h⟩ := elet_some h
    obtain ⟨g5, h⟩ := oif_some h
    rcases othr_s h with ⟨k9, r9, e9, -⟩ | ⟨r7, T6, eT6, h⟩
    · exact SP.tr p0 (s_X3_failAt e9)
    have p1 : SP T T6 := SP.tr p0 (s_X3_failAt eT6)
    exact SP.tr p1 (s_X3_startLine_b13 _ _ h)
set_option maxHeartbeats 4000000 in
set_option maxRecDepth 100000 in
theorem x_X3_startLine_b13 {p : Program} {l : Launch} {e : Env} {s : State} {m : MethodId} {args : Array Value} {below : List Frame} {meth : Method} {c : Code} {Qc : Array Value → State → Outcome → State → Prop} {XC : String → State → State → Prop} {D : va_G} {A : Nat → Prop} {cI cJ cZ cMic cSrc cSt cAI cAJ : ClassId} {ad : Nat → Nat} {e1 : Nat} {r1 : Int32} {T1 : AT} (E : cE p c cX3_startLine s m args (Cond.code yX3_startLine cX3_startLine 3 none :: wsA) D RX3 (CT cI cJ cZ cMic cSrc cSt cAI cAJ)) (hA : ∀ q : Nat, s.heap.size ≤ q → A q) (hX : xT A s) (hN : nX s) (hml : c.maxLocals = 3) (hz9 : True) (hst : l.stackTraces = false) (htab : ∀ x ∈ c.exceptionTable.toList, False) (hlocks : meth.locks = false) (kx : ∀ (H : Heap) (locs : List Loc) (t : State), gC cI cJ cZ cMic cSrc cSt cAI cAJ D ad A s.heap H locs T1 → s.vm.Alike t.vm → H.size ≤ t.heap.size → (∀ q, q < H.size → t.heap[q]? = H[q]?) → XC (exn e1) s t) : ∀ (T : AT) (H : Heap) (locs : List Loc) (ls : Array Slot) (l0 : Nat), g_X3_startLine_b13 T l0 = some (e1 + 1, r1, T1) → gC cI cJ cZ cMic cSrc cSt cAI cAJ D ad A s.heap H locs T → lv_has ls 3 [(0, .ref (ad l0))] → W p l e { frames := 7, cells := 1, slots := 6, locals := 103 } s m args below meth c H locs 0 0 (vx_MQ below Qc XC args s 1 6 A) (F0 m 13 ls []) := by
  have hx := E.1
  have hb := E.2.1
  have hts := E.2.2.1
  have hown := E.2.2.2.1
  have hK := E.2.2.2.2
  intro T H locs ls l0 h G hl
  unfold g_X3_startLine_b13 at h
  refine lv_aload_n hx hb dX3_startLine_13 rfl (lv_at hl 0 rfl) ?_
  refine lv_dup hx hb dX3_startLine_14 rfl ?_
  obtain ⟨g2, h⟩ := oif_some h
  refine c_get E G l0 1 (oO_k g2).1 (cc_o3 (oO_k g2).2) rfl (fun w h => .tail _ (iA_17 h)) (by decide) (.tail _ qA_176) rfl rfl dX3_startLine_15 ?_
  refine lv_topi (fun v3 ev3 => ?_)
  have h := elet_at ev3 h
  clear ev3
  refine lv_iconst (v := 1) hx hb dX3_startLine_18 (by decide) ?_
  refine lv_iadd hx hb dX3_startLine_19 ?_
  refine lv_topi (fun v4 ev4 => ?_)
  have h := elet_at ev4 h
  clear ev4
  obtain ⟨g5, h⟩ := oif_some h
  refine c_put E G l0 1 (v := .int v4) (oO_k g5).1 (cc_o3 (oO_k g5).2) rfl (fun w h => .tail _ (iA_17 h)) tyX3 tyX3_ok nmX3 (by decide) (.tail _ qA_176) ⟨rfl, rfl, rfl⟩ rfl rfl (Nat.le_of_ble_eq_true rfl) dX3_startLine_20 (fun H locs G => ?_)
  have G := gC_up_i (f := upd (T.2.2.1 l0) 1 v4) (by rw [(oO_k g5).2]; rfl) G
  obtain ⟨T6, eT6, h⟩ := elet_some h
  have G : gC cI cJ cZ cMic cSrc cSt cAI cAJ D ad A s.heap H locs T6 := by rw [eT6]; exact G
  clear eT6
  exact (Nat.succ_ne_zero _ (congrArg Prod.fst (Option.some.inj h)).symm).elim
set_option maxHeartbeats 4000000 in
set_option maxRecDepth 100000 in
theorem x_X3_startLine (l : Launch) (hst : l.stackTraces = false) (D : va_G) (cI cJ cZ cMic cSrc cSt cAI cAJ : ClassId) (ad : Nat → Nat) (T : AT) (o : Nat) (a0 : Int32) (a1 : Int32) {e1 : Nat} {r1 : Int32} {T1 : AT} (h : g_X3_startLine T o a0 a1 = some (e1 + 1, r1, T1)) : kXv l yX3_startLine (Cond.code yX3_startLine cX3_startLine 3 none :: wsA) 7 103 cI cJ cZ cMic cSrc cSt cAI cAJ D ad T [.ref (ad o), .int a0, .int a1] e1 T1 := by
  intro sz
  refine pro_inX (cc := cX3_startLine) (maxL := 3) (ret := none) (by exact pn_RX3) rfl (by exact Nat.le_of_ble_eq_true rfl) (fun p e s m below meth c ls hx hb hr hts hown hlocks htab hml hv hl => ?_)
  obtain ⟨hsz, hP, hK, hD0, hX, hN⟩ := hv
  subst hsz
  have hD := hD0.self (sz := s.heap.size)
  generalize hAe : va_A (cW ad T.1 (cc cI cJ cZ cMic cSrc cSt cAI cAJ ad T)) s.heap.size = A at hD hX ⊢
  have hA : ∀ q : Nat, s.heap.size ≤ q → A q := fun q h => by rw [← hAe]; exact Or.inr h
  have G : gC cI cJ cZ cMic cSrc cSt cAI cAJ D ad A s.heap s.heap [] T := ⟨hP, hD, va_S.rf⟩
  have E : cE p c cX3_startLine s m ([.ref (ad o), .int a0, .int a1] : List Value).toArray (Cond.code yX3_startLine cX3_startLine 3 none :: wsA) D RX3 (CT cI cJ cZ cMic cSrc cSt cAI cAJ) := ⟨hx, hb, hts, hown, hK⟩
  have htab : ∀ x ∈ c.exceptionTable.toList, False := fun x hx => htab x hx
  have hl : lv_has ls 3 [(0, .ref (ad o)), (1, .int a0), (2, .int a1)] := hl
  unfold g_X3_startLine at h
  refine lv_iload_n hx hb dX3_startLine_0 rfl (lv_at hl 1 rfl) ?_
  refine lv_if_eq (tgt := 13) hx hb dX3_startLine_1 (by decide) (fun c2 => ?_) (fun c2 => ?_)
  · have h := oif_pos c2 h
    have hl := lv_sub hl [0] rfl
    exact x_X3_startLine_b13 E hA hX hN hml trivial hst htab hlocks (fun H locs t G hvm h1 h2 => ⟨T1, trivial, ⟨⟨rfl, rfl⟩, (c_thrown G hK hvm h1 h2).1⟩, (c_thrown G hK hvm h1 h2).2⟩) _ _ _ _ _ h G hl
  · have h := oif_neg c2 h
    refine lv_aload_n hx hb dX3_startLine_4 rfl (lv_at hl 0 rfl) ?_
    refine lv_aload_n hx hb dX3_startLine_5 rfl (lv_at hl 0 rfl) ?_
    obtain ⟨g3, h⟩ := oif_some h
    refine c_get E G o 1 (oO_k g3).1 (cc_o3 (oO_k g3).2) rfl (fun w h => .tail _ (iA_17 h)) (by decide) (.tail _ qA_176) rfl rfl dX3_startLine_6 ?_
    refine lv_topi (fun v4 ev4 => ?_)
    have h := elet_at ev4 h
    clear ev4
    refine lv_iload_n hx hb dX3_startLine_9 rfl (lv_at hl 2 rfl) ?_
    obtain ⟨g5, h⟩ := oif_some h
    rcases othr_t h with ⟨r0, eT6⟩ | ⟨r8, T6, eT6, h⟩
    · refine q_xvv (As := [.int v4, .int a1]) (rest := []) E G hA hX hN hml (x_X3_failAt l hst D cI cJ cZ cMic cSrc cSt cAI cAJ ad T o v4 a1 eT6) (cwV 2 hts (gaV qA_293 qA_294 qA_295 qA_222 qA_296) rfl rfl rfl (by decide +kernel) ⟨Nat.le_of_ble_eq_true rfl, Nat.le_of_ble_eq_true rfl⟩) (oO_k g5).1 (cc_o3 (oO_k g5).2) rfl rfl hl.1 rfl (lv_room (Nat.le_of_ble_eq_true rfl)) dX3_startLine_10 ⟨Nat.le_of_ble_eq_true rfl, Nat.le_of_ble_eq_true rfl⟩ (fun E9 ce q9 T9 H locs hp G hce hcv hcl => ?_)
      obtain ⟨hE, hT⟩ := hp
      subst hE
      rw [hT] at G
      exact vx_out (fun x hx => (htab x hx).elim) hlocks hce hcv hcl (fun t ht hvm => ⟨T1, trivial, ⟨⟨rfl, rfl⟩, by rw [ht]; exact G.1, va_K.moved hvm hK, G.2.1⟩, G.2.2.F ht⟩) G.2.2.2.2 (Nat.le_refl _) (Nat.le_refl _)
    refine q_cvv (As := [.int v4, .int a1]) (rest := []) E G hA hX hN hml (u_X3_failAt l hst D cI cJ cZ cMic cSrc cSt cAI cAJ ad T o v4 a1 eT6) (cwV 2 hts (gaV qA_293 qA_294 qA_295 qA_222 qA_296) rfl rfl rfl (by decide +kernel) ⟨Nat.le_of_ble_eq_true rfl, Nat.le_of_ble_eq_true rfl⟩) (oO_k g5).1 (cc_o3 (oO_k g5).2) rfl rfl hl.1 rfl (lv_room (Nat.le_of_ble_eq_true rfl)) dX3_startLine_10 ⟨Nat.zero_le _, Nat.zero_le _⟩ (fun T7 H locs hq G => ?_)
    rw [hq] at G
    clear hq eT6
    have hl := lv_sub hl [0] rfl
    exact x_X3_startLine_b13 E hA hX hN hml trivial hst htab hlocks (fun H locs t G hvm h1 h2 => ⟨T1, trivial, ⟨⟨rfl, rfl⟩, (c_thrown G hK hvm h1 h2).1⟩, (c_thrown G hK hvm h1 h2).2⟩) _ _ _ _ _ h G hl
def g_X3_parseOff_b41  (T : AT) (l1 : Nat) (l2 : Int32) : Option (Nat × Int32 × AT) := oif (oO T l1 6 = true) <| obind (T.2.2.2.2 l1 7) fun n3 => oif (aA T n3 104 = true) <| oif (inb l2 (T.2.1 n3).2 = true) <| obind (T.2.2.2.2 n3 l2.toNatClampNeg) fun n6 => oif (oO T n6 7 = true) <| elet (uI T n6 9 1) fun T8 => some (0, 0, T8)
set_option maxHeartbeats 4000000 in
set_option maxRecDepth 100000 in
theorem u_X3_parseOff_b41 {p : Program} {l : Launch} {e : Env} {s : State} {m : MethodId} {args : Array Value} {below : List Frame} {meth : Method} {c : Code} {Q : State → Prop} {D : va_G} {A : Nat → Prop} {cI cJ cZ cMic cSrc cSt cAI cAJ : ClassId} {ad : Nat → Nat} {r1 : Int32} {T1 : AT} (E : cE p c cX3_parseOff s m args (Cond.code yX3_parseOff cX3_parseOff 3 none :: wsA) D RX3 (CT cI cJ cZ cMic cSrc cSt cAI cAJ)) (hA : ∀ q : Nat, s.heap.size ≤ q → A q) (hX : xT A s) (hN : nX s) (hml : c.maxLocals = 3) (hst : l.stackTraces = false) (kr51 : ∀ (H : Heap) (locs : List Loc) (ls : Array Slot), gC cI cJ cZ cMic cSrc cSt cAI cAJ D ad A s.heap H locs T1 → W p l e { frames := 8, cells := 0, slots := 0, locals := 126 } s m args below meth c H locs 0 0 Q (F0 m 51 ls [])) : ∀ (T : AT) (H : Heap) (locs : List Loc) (ls : Array Slot) (l1 : Nat) (l2 : Int32), g_X3_parseOff_b41 T l1 l2 = some (0, r1, T1) → gC cI cJ cZ cMic cSrc cSt cAI cAJ D ad A s.heap H locs T → lv_has ls 3 [(1, .ref (ad l1)), (2, .int l2)] → W p l e { frames := 8, cells := 0, slots := 0, locals := 126 } s m args below meth c H locs 0 0 Q (F0 m 41 ls []) := by
  have hx := E.1
  have hb := E.2.1
  have hts := E.2.2.1
  have hown := E.2.2.2.1
  have hK := E.2.2.2.2
  intro T H locs ls l1 l2 h G hl
  unfold g_X3_parseOff_b41 at h
  refine lv_aload_n hx hb dX3_parseOff_41 rfl (lv_at hl 0 rfl) ?_
  obtain ⟨g2, h⟩ := oif_some h
  obtain ⟨n3, en3, h⟩ := obind_some h
  refine c_get E G l1 7 (v := .ref (ad n3)) (oO_k g2).1 (cc_o6 (oO_k g2).2) rfl (fun w h => .tail _ (iA_14 h)) (by decide) (.tail _ qA_344) rfl (by rw [en3]; rfl) dX3_parseOff_42 ?_
  clear en3
  refine lv_iload_n hx hb dX3_parseOff_45 rfl (lv_at hl 1 rfl) ?_
  obtain ⟨g4, h⟩ := oif_some h
  obtain ⟨g5, h⟩ := oif_some h
  obtain ⟨n6, en6, h⟩ := obind_some h
  refine c_aldq E G n3 4 (k := l2.toNatClampNeg) (v := .ref (ad n6)) (aA_k g4).1 (cc_a104 (aA_k g4).2.1) rfl (inb_k g5).1 (inb_k g5).2 (aA_k g4).2.2 (by show va_rf ((T.2.2.2.2 n3 l2.toNatClampNeg).map ad) = _; rw [en6]; rfl) dX3_parseOff_46 ?_
  clear en6
  refine lv_iconst (v := 1) hx hb dX3_parseOff_47 (by decide) ?_
  obtain ⟨g7, h⟩ := oif_some h
  refine c_put E G n6 9 (v := .int 1) (oO_k g7).1 (cc_o7 (oO_k g7).2) rfl (fun w h => .tail _ (iA_20 h)) tyX7 tyX7_ok nmX7 (by decide) (.tail _ qA_354) ⟨rfl, rfl, rfl⟩ rfl rfl (Nat.le_of_ble_eq_true rfl) dX3_parseOff_48 (fun H locs G => ?_)
  have G := gC_up_i (f := upd (T.2.2.1 n6) 9 1) (by rw [(oO_k g7).2]; rfl) G
  obtain ⟨T8, eT8, h⟩ := elet_some h
  have G : gC cI cJ cZ cMic cSrc cSt cAI cAJ D ad A s.heap H locs T8 := by rw [eT8]; exact G
  clear eT8
  rw [(osome3 h).2.2] at G
  exact kr51 _ _ _ G
def g_X3_parseOff (T : AT) (o : Nat) (a0 : Nat) : Option (Nat × Int32 × AT) := oif (oO T o 3 = true) <| othr (g_X3_startLine T o (0 : Int32) (3 : Int32)) 0 fun r5 T3 => oif (oO T3 a0 6 = true) <| elet (T3.2.2.1 a0 8) fun v8 => elet (v8 - 1) fun v9 => oif (oO T3 o 3 = true) <| othr (g_X3_number T3 o (0 : Int32) v9) 0 fun r13 T11 => oif (oO T11 a0 6 = true) <| obind (T11.2.2.2.2 a0 7) fun n16 => oif (aA T11 n16 104 = true) <| oif (inb r13 (T11.2.1 n16).2 = true) <| obind (T11.2.2.2.2 n16 r13.toNatClampNeg) fun n19 => oif (oO T11 n19 7 = true) <| elet (T11.2.2.1 n19 9) fun v21 => if v21 = 0 then (g_X3_parseOff_b41 T11 a0 r13) else (oif (oO T11 o 3 = true) <| elet (T11.2.2.1 o 1) fun v24 => elet (v24 - 1) fun v25 => oif (oO T11 o 3 = true) <| othr (g_X3_failAt T11 o v25 (3 : Int32)) 0 fun r29 T27 => g_X3_parseOff_b41 T27 a0 r13)
set_option maxHeartbeats 4000000 in
set_option maxRecDepth 100000 in
theorem u_X3_parseOff (l : Launch) (hst : l.stackTraces = false) (D : va_G) (cI cJ cZ cMic cSrc cSt cAI cAJ : ClassId) (ad : Nat → Nat) (T : AT) (o : Nat) (a0 : Nat) {r1 : Int32} {T1 : AT} (h : g_X3_parseOff T o a0 = some (0, r1, T1)) : kCv l yX3_parseOff (Cond.code yX3_parseOff cX3_parseOff 3 none :: wsA) 8 126 cI cJ cZ cMic cSrc cSt cAI cAJ D ad T [.ref (ad o), .ref (ad a0)] (fun T9 => T9 = T1) := by
  intro sz
  refine pro_in (cc := cX3_parseOff) (maxL := 3) (ret := none) (by exact pn_RX3) rfl (by exact Nat.le_of_ble_eq_true rfl) (fun p e s m below meth c ls hx hb hr hts hown hlocks hml hv hl => ?_)
  obtain ⟨hsz, hP, hK, hD0, hX, hN⟩ := hv
  subst hsz
  have hD := hD0.self (sz := s.heap.size)
  generalize hAe : va_A (cW ad T.1 (cc cI cJ cZ cMic cSrc cSt cAI cAJ ad T)) s.heap.size = A at hD hX ⊢
  have hA : ∀ q : Nat, s.heap.size ≤ q → A q := fun q h => by rw [← hAe]; exact Or.inr h
  have G : gC cI cJ cZ cMic cSrc cSt cAI cAJ D ad A s.heap s.heap [] T := ⟨hP, hD, va_S.rf⟩
  have E : cE p c cX3_parseOff s m ([.ref (ad o), .ref (ad a0)] : List Value).toArray (Cond.code yX3_parseOff cX3_parseOff 3 none :: wsA) D RX3 (CT cI cJ cZ cMic cSrc cSt cAI cAJ) := ⟨hx, hb, hts, hown, hK⟩
  have hl : lv_has ls 3 [(0, .ref (ad o)), (1, .ref (ad a0))] := hl
  unfold g_X3_parseOff at h
  refine lv_aload_n hx hb dX3_parseOff_0 rfl (lv_at hl 0 rfl) ?_
  refine lv_iconst (v := 0) hx hb dX3_parseOff_1 (by decide) ?_
  refine lv_iconst (v := 3) hx hb dX3_parseOff_2 (by decide) ?_
  obtain ⟨g2, h⟩ := oif_some h
  obtain ⟨r5, T3, eT3, h⟩ := othr_n h
  refine q_cvv (As := [.int 0, .int 3]) (rest := []) E G hA hX hN hml (u_X3_startLine l hst D cI cJ cZ cMic cSrc cSt cAI cAJ ad T o (0 : Int32) (3 : Int32) eT3) (cwV 2 hts (gaV qA_321 qA_322 qA_323 qA_222 qA_324) rfl rfl rfl (by decide +kernel) ⟨Nat.le_of_ble_eq_true rfl, Nat.le_of_ble_eq_true rfl⟩) (oO_k g2).1 (cc_o3 (oO_k g2).2) rfl rfl hl.1 rfl (lv_room (Nat.le_of_ble_eq_true rfl)) dX3_parseOff_3 ⟨Nat.zero_le _, Nat.zero_le _⟩ (fun T4 H locs hq G => ?_)
  rw [hq] at G
  clear hq eT3
  refine lv_aload_n hx hb dX3_parseOff_6 rfl (lv_at hl 0 rfl) ?_
  refine lv_iconst (v := 0) hx hb dX3_parseOff_7 (by decide) ?_
  refine lv_aload_n hx hb dX3_parseOff_8 rfl (lv_at hl 1 rfl) ?_
  obtain ⟨g7, h⟩ := oif_some h
  refine c_get E G a0 8 (oO_k g7).1 (cc_o6 (oO_k g7).2) rfl (fun w h => .tail _ (iA_14 h)) (by decide) (.tail _ qA_343) rfl rfl dX3_parseOff_9 ?_
  refine lv_topi (fun v8 ev8 => ?_)
  have h := elet_at ev8 h
  clear ev8
  refine lv_iconst (v := 1) hx hb dX3_parseOff_12 (by decide) ?_
  refine lv_isub hx hb dX3_parseOff_13 ?_
  refine lv_topi (fun v9 ev9 => ?_)
  have h := elet_at ev9 h
  clear ev9
  obtain ⟨g10, h⟩ := oif_some h
  obtain ⟨r13, T11, eT11, h⟩ := othr_n h
  refine q_cvi (As := [.int 0, .int v9]) (rest := []) E G hA hX hN hml (u_X3_number l hst D cI cJ cZ cMic cSrc cSt cAI cAJ ad T3 o (0 : Int32) v9 eT11) (cwV 2 hts (gaV qA_299 qA_300 qA_301 qA_222 qA_302) rfl rfl rfl (by decide +kernel) ⟨Nat.le_of_ble_eq_true rfl, Nat.le_of_ble_eq_true rfl⟩) (oO_k g10).1 (cc_o3 (oO_k g10).2) rfl rfl hl.1 rfl (lv_room (Nat.le_of_ble_eq_true rfl)) dX3_parseOff_14 ⟨Nat.zero_le _, Nat.zero_le _⟩ (fun q14 T12 H locs hq G => ?_)
  obtain ⟨hq1, hq2⟩ := hq
  rw [hq2] at G
  refine lv_to hq1 ?_
  clear hq1 hq2 eT11
  refine lv_istore_n (lv' := [(2, .int r13), (0, .ref (ad o)), (1, .ref (ad a0))]) hx hb dX3_parseOff_17 rfl hl (by decide) rfl (fun ls hl => ?_)
  refine lv_aload_n hx hb dX3_parseOff_18 rfl (lv_at hl 2 rfl) ?_
  obtain ⟨g15, h⟩ := oif_some h
  obtain ⟨n16, en16, h⟩ := obind_some h
  refine c_get E G a0 7 (v := .ref (ad n16)) (oO_k g15).1 (cc_o6 (oO_k g15).2) rfl (fun w h => .tail _ (iA_14 h)) (by decide) (.tail _ qA_344) rfl (by rw [en16]; rfl) dX3_parseOff_19 ?_
  clear en16
  refine lv_iload_n hx hb dX3_parseOff_22 rfl (lv_at hl 0 rfl) ?_
  obtain ⟨g17, h⟩ := oif_some h
  obtain ⟨g18, h⟩ := oif_some h
  obtain ⟨n19, en19, h⟩ := obind_some h
  refine c_aldq E G n16 4 (k := r13.toNatClampNeg) (v := .ref (ad n19)) (aA_k g17).1 (cc_a104 (aA_k g17).2.1) rfl (inb_k g18).1 (inb_k g18).2 (aA_k g17).2.2 (by show va_rf ((T11.2.2.2.2 n16 r13.toNatClampNeg).map ad) = _; rw [en19]; rfl) dX3_parseOff_23 ?_
  clear en19
  obtain ⟨g20, h⟩ := oif_some h
  refine c_get E G n19 9 (oO_k g20).1 (cc_o7 (oO_k g20).2) rfl (fun w h => .tail _ (iA_20 h)) (by decide) (.tail _ qA_354) rfl rfl dX3_parseOff_24 ?_
  refine lv_topi (fun v21 ev21 => ?_)
  have h := elet_at ev21 h
  clear ev21
  refine lv_if_eq (tgt := 41) hx hb dX3_parseOff_27 (by decide) (fun c22 => ?_) (fun c22 => ?_)
  · have h := oif_pos c22 h
    have hl := lv_sub hl [2, 0] rfl
    exact u_X3_parseOff_b41 E hA hX hN hml hst (fun H locs ls G => W.vret hx hb hr (fun t ht hW => ⟨⟨T1, rfl, rfl, ⟨by rw [ht]; exact G.1, va_K.moved hW.alike hK, G.2.1⟩⟩, G.2.2.F ht⟩) G.2.2.2.2 dX3_parseOff_51) _ _ _ _ _ _ h G hl
  · have h := oif_neg c22 h
    refine lv_aload_n hx hb dX3_parseOff_30 rfl (lv_at hl 1 rfl) ?_
    refine lv_aload_n hx hb dX3_parseOff_31 rfl (lv_at hl 1 rfl) ?_
    obtain ⟨g23, h⟩ := oif_some h
    refine c_get E G o 1 (oO_k g23).1 (cc_o3 (oO_k g23).2) rfl (fun w h => .tail _ (iA_17 h)) (by decide) (.tail _ qA_176) rfl rfl dX3_parseOff_32 ?_
    refine lv_topi (fun v24 ev24 => ?_)
    have h := elet_at ev24 h
    clear ev24
    refine lv_iconst (v := 1) hx hb dX3_parseOff_35 (by decide) ?_
    refine lv_isub hx hb dX3_parseOff_36 ?_
    refine lv_topi (fun v25 ev25 => ?_)
    have h := elet_at ev25 h
    clear ev25
    refine lv_iconst (v := 3) hx hb dX3_parseOff_37 (by decide) ?_
    obtain ⟨g26, h⟩ := oif_some h
    obtain ⟨r29, T27, eT27, h⟩ := othr_n h
    refine q_cvv (As := [.int v25, .int 3]) (rest := []) E G hA hX hN hml (u_X3_failAt l hst D cI cJ cZ cMic cSrc cSt cAI cAJ ad T11 o v25 (3 : Int32) eT27) (cwV 2 hts (gaV qA_293 qA_294 qA_295 qA_222 qA_296) rfl rfl rfl (by decide +kernel) ⟨Nat.le_of_ble_eq_true rfl, Nat.le_of_ble_eq_true rfl⟩) (oO_k g26).1 (cc_o3 (oO_k g26).2) rfl rfl hl.1 rfl (lv_room (Nat.le_of_ble_eq_true rfl)) dX3_parseOff_38 ⟨Nat.zero_le _, Nat.zero_le _⟩ (fun T28 H locs hq G => ?_)
    rw [hq] at G
    clear hq eT27
    have hl := lv_sub hl [2, 0] rfl
    exact u_X3_parseOff_b41 E hA hX hN hml hst (fun H locs ls G => W.vret hx hb hr (fun t ht hW => ⟨⟨T1, rfl, rfl, ⟨by rw [ht]; exact G.1, va_K.moved hW.alike hK, G.2.1⟩⟩, G.2.2.F ht⟩) G.2.2.2.2 dX3_parseOff_51) _ _ _ _ _ _ h G hl
set_option maxHeartbeats 4000000 in
set_option maxRecDepth 100000 in
theorem s_X3_parseOff_b41 {e1 : Nat} {r1 : Int32} {T1 : AT} : ∀ (T : AT) (l1 : Nat) (l2 : Int32), g_X3_parseOff_b41 T l1 l2 = some (e1, r1, T1) → SP T T1 := by
  intro T l1 l2 h
  have p0 := SP.rf T
  unfold g_X3_parseOff_b41 at h
  obtain ⟨g2, h⟩ := oif_some h
  obtain ⟨n3, en3, h⟩ := obind_some h
  obtain ⟨g4, h⟩ := oif_some h
  obtain ⟨g5, h⟩ := oif_some h
  obtain ⟨n6, en6, h⟩ := obind_some h
  obtain ⟨g7, h⟩ := oif_some h
  obtain ⟨T8, eT8, h⟩ := elet_some h
  have p1 : SP T T8 := SP.tr p0 (by rw [eT8]; exact sp_uI)
  rw [← (osome3 h).2.2]
  exact p1
set_option maxHeartbeats 4000000 in
set_option maxRecDepth 100000 in
theorem s_X3_parseOff {T : AT} {o : Nat} {a0 : Nat} {e1 : Nat} {r1 : Int32} {T1 : AT} (h : g_X3_parseOff T o a0 = some (e1, r1, T1)) : SP T T1 := by
  have p0 := SP.rf T
  unfold g_X3_parseOff at h
  obtain ⟨g2, h⟩ := oif_some h
  rcases othr_s h with ⟨k9, r9, e9, -⟩ | ⟨r4, T3, eT3, h⟩
  · exact SP.tr p0 (s_X3_startLine e9)
  have p1 : SP T T3 := SP.tr p0 (s_X3_startLine eT3)
  obtain ⟨g5, h⟩ := oif_some h
  obtain ⟨v6, -, h⟩ := elet_some h
  obtain ⟨v7, -, h⟩ := elet_some h
  obtain ⟨g8, h⟩ := oif_some h
  rcases othr_s h with ⟨k9, r9, e9, -⟩ | ⟨r10, T9, eT9, h⟩
  · exact SP.tr p1 (s_X3_number e9)
  have p2 : SP T T9 := SP.tr p1 (s_X3_number eT9)
  obtain ⟨g11, h⟩ := oif_some h
  obtain ⟨n12, en12, h⟩ := obind_some h
  obtain ⟨g13, h⟩ := oif_some h
  obtain ⟨g14, h⟩ := oif_some h
  obtain ⟨n15, en15, h⟩ := obind_some h
  obtain ⟨g16, h⟩ := oif_some h
  obtain ⟨v17, -, h⟩ := elet_some h
  rcases oif_or h with ⟨c18, h⟩ | ⟨c18, h⟩
  · have h := h
    exact SP.tr p2 (s_X3_parseOff_b41 _ _ _ h)
  · have h := h
    obtain ⟨g19, h⟩ := oif_some h
    obtain ⟨v20, -, h⟩ := elet_some h
    obtain ⟨v21, -, h⟩ := elet_some h
    obtain ⟨g22, h⟩ := oif_some h
    rcases othr_s h with ⟨k9, r9, e9, -⟩ | ⟨r24, T23, eT23, h⟩
    · exact SP.tr p2 (s_X3_failAt e9)
    have p3 : SP T T23 := SP.tr p2 (s_X3_failAt eT23)
    exact SP.tr p3 (s_X3_parseOff_b41 _ _ _ h)
set_option maxHeartbeats 4000000 in
set_option maxRecDepth 100000 in
theorem x_X3_parseOff_b41 {p : Program} {l : Launch} {e : Env} {s : State} {m : MethodId} {args : Array Value} {below : List Frame} {meth : Method} {c : Code} {Qc : Array Value → State → Outcome → State → Prop} {XC : String → State → State → Prop} {D : va_G} {A : Nat → Prop} {cI cJ cZ cMic cSrc cSt cAI cAJ : ClassId} {ad : Nat → Nat} {e1 : Nat} {r1 : Int32} {T1 : AT} (E : cE p c cX3_parseOff s m args (Cond.code yX3_parseOff cX3_parseOff 3 none :: wsA) D RX3 (CT cI cJ cZ cMic cSrc cSt cAI cAJ)) (hA : ∀ q : Nat, s.heap.size ≤ q → A q) (hX : xT A s) (hN : nX s) (hml : c.maxLocals = 3) (hz9 : True) (hst : l.stackTraces = false) (htab : ∀ x ∈ c.exceptionTable.toList, False) (hlocks : meth.locks = false) (kx : ∀ (H : Heap) (locs : List Loc) (t : State), gC cI cJ cZ cMic cSrc cSt cAI cAJ D ad A s.heap H locs T1 → s.vm.Alike t.vm → H.size ≤ t.heap.size → (∀ q, q < H.size → t.heap[q]? = H[q]?) → XC (exn e1) s t) : ∀ (T : AT) (H : Heap) (locs : List Loc) (ls : Array Slot) (l1 : Nat) (l2 : Int32), g_X3_parseOff_b41 T l1 l2 = some (e1 + 1, r1, T1) → gC cI cJ cZ cMic cSrc cSt cAI cAJ D ad A s.heap H locs T → lv_has ls 3 [(1, .ref (ad l1)), (2, .int l2)] → W p l e { frames := 8, cells := 1, slots := 6, locals := 126 } s m args below meth c H locs 0 0 (vx_MQ below Qc XC args s 1 6 A) (F0 m 41 ls []) := by
  have hx := E.1
  have hb := E.2.1
  have hts := E.2.2.1
  have hown := E.2.2.2.1
  have hK := E.2.2.2.2
  intro T H locs ls l1 l2 h G hl
  unfold g_X3_parseOff_b41 at h
  refine lv_aload_n hx hb dX3_parseOff_41 rfl (lv_at hl 0 rfl) ?_
  obtain ⟨g2, h⟩ := oif_some h
  obtain ⟨n3, en3, h⟩ := obind_some h
  refine c_get E G l1 7 (v := .ref (ad n3)) (oO_k g2).1 (cc_o6 (oO_k g2).2) rfl (fun w h => .tail _ (iA_14 h)) (by decide) (.tail _ qA_344) rfl (by rw [en3]; rfl) dX3_parseOff_42 ?_
  clear en3
  refine lv_iload_n hx hb dX3_parseOff_45 rfl (lv_at hl 1 rfl) ?_
  obtain ⟨g4, h⟩ := oif_some h
  obtain ⟨g5, h⟩ := oif_some h
  obtain ⟨n6, en6, h⟩ := obind_some h
  refine c_aldq E G n3 4 (k := l2.toNatClampNeg) (v := .ref (ad n6)) (aA_k g4).1 (cc_a104 (aA_k g4).2.1) rfl (inb_k g5).1 (inb_k g5).2 (aA_k g4).2.2 (by show va_rf ((T.2.2.2.2 n3 l2.toNatClampNeg).map ad) = _; rw [en6]; rfl) dX3_parseOff_46 ?_
  clear en6
  refine lv_iconst (v := 1) hx hb dX3_parseOff_47 (by decide) ?_
  obtain ⟨g7, h⟩ := oif_some h
  refine c_put E G n6 9 (v := .int 1) (oO_k g7).1 (cc_o7 (oO_k g7).2) rfl (fun w h => .tail _ (iA_20 h)) tyX7 tyX7_ok nmX7 (by decide) (.tail _ qA_354) ⟨rfl, rfl, rfl⟩ rfl rfl (Nat.le_of_ble_eq_true rfl) dX3_parseOff_48 (fun H locs G => ?_)
  have G := gC_up_i (f := upd (T.2.2.1 n6) 9 1) (by rw [(oO_k g7).2]; rfl) G
  obtain ⟨T8, eT8, h⟩ := elet_some h
  have G : gC cI cJ cZ cMic cSrc cSt cAI cAJ D ad A s.heap H locs T8 := by rw [eT8]; exact G
  clear eT8
  exact (Nat.succ_ne_zero _ (congrArg Prod.fst (Option.some.inj h)).symm).elim
set_option maxHeartbeats 4000000 in
set_option maxRecDepth 100000 in
theorem x_X3_parseOff (l : Launch) (hst : l.stackTraces = false) (D : va_G) (cI cJ cZ cMic cSrc cSt cAI cAJ : ClassId) (ad : Nat → Nat) (T : AT) (o : Nat) (a0 : Nat) {e1 : Nat} {r1 : Int32} {T1 : AT} (h : g_X3_parseOff T o a0 = some (e1 + 1, r1, T1)) : kXv l yX3_parseOff (Cond.code yX3_parseOff cX3_parseOff 3 none :: wsA) 8 126 cI cJ cZ cMic cSrc cSt cAI cAJ D ad T [.ref (ad o), .ref (ad a0)] e1 T1 := by
  intro sz
  refine pro_inX (cc := cX3_parseOff) (maxL := 3) (ret := none) (by exact pn_RX3) rfl (by exact Nat.le_of_ble_eq_true rfl) (fun p e s m below meth c ls hx hb hr hts hown hlocks htab hml hv hl => ?_)
  obtain ⟨hsz, hP, hK, hD0, hX, hN⟩ := hv
  subst hsz
  have hD := hD0.self (sz := s.heap.size)
  generalize hAe : va_A (cW ad T.1 (cc cI cJ cZ cMic cSrc cSt cAI cAJ ad T)) s.heap.size = A at hD hX ⊢
  have hA : ∀ q : Nat, s.heap.size ≤ q → A q := fun q h => by rw [← hAe]; exact Or.inr h
  have G : gC cI cJ cZ cMic cSrc cSt cAI cAJ D ad A s.heap s.heap [] T := ⟨hP, hD, va_S.rf⟩
  have E : cE p c cX3_parseOff s m ([.ref (ad o), .ref (ad a0)] : List Value).toArray (Cond.code yX3_parseOff cX3_parseOff 3 none :: wsA) D RX3 (CT cI cJ cZ cMic cSrc cSt cAI cAJ) := ⟨hx, hb, hts, hown, hK⟩
  have htab : ∀ x ∈ c.exceptionTable.toList, False := fun x hx => htab x hx
  have hl : lv_has ls 3 [(0, .ref (ad o)), (1, .ref (ad a0))] := hl
  unfold g_X3_parseOff at h
  refine lv_aload_n hx hb dX3_parseOff_0 rfl (lv_at hl 0 rfl) ?_
  refine lv_iconst (v := 0) hx hb dX3_parseOff_1 (by decide) ?_
  refine lv_iconst (v := 3) hx hb dX3_parseOff_2 (by decide) ?_
  obtain ⟨g2, h⟩ := oif_some h
  rcases othr_t h with ⟨r0, eT3⟩ | ⟨r5, T3, eT3, h⟩
  · refine q_xvv (As := [.int 0, .int 3]) (rest := []) E G hA hX hN hml (x_X3_startLine l hst D cI cJ cZ cMic cSrc cSt cAI cAJ ad T o (0 : Int32) (3 : Int32) eT3) (cwV 2 hts (gaV qA_321 qA_322 qA_323 qA_222 qA_324) rfl rfl rfl (by decide +kernel) ⟨Nat.le_of_ble_eq_true rfl, Nat.le_of_ble_eq_true rfl⟩) (oO_k g2).1 (cc_o3 (oO_k g2).2) rfl rfl hl.1 rfl (lv_room (Nat.le_of_ble_eq_true rfl)) dX3_parseOff_3 ⟨Nat.le_of_ble_eq_true rfl, Nat.le_of_ble_eq_true rfl⟩ (fun E9 ce q9 T9 H locs hp G hce hcv hcl => ?_)
    obtain ⟨hE, hT⟩ := hp
    subst hE
    rw [hT] at G
    exact vx_out (fun x hx => (htab x hx).elim) hlocks hce hcv hcl (fun t ht hvm => ⟨T1, trivial, ⟨⟨rfl, rfl⟩, by rw [ht]; exact G.1, va_K.moved hvm hK, G.2.1⟩, G.2.2.F ht⟩) G.2.2.2.2 (Nat.le_refl _) (Nat.le_refl _)
  refine q_cvv (As := [.int 0, .int 3]) (rest := []) E G hA hX hN hml (u_X3_startLine l hst D cI cJ cZ cMic cSrc cSt cAI cAJ ad T o (0 : Int32) (3 : Int32) eT3) (cwV 2 hts (gaV qA_321 qA_322 qA_323 qA_222 qA_324) rfl rfl rfl (by decide +kernel) ⟨Nat.le_of_ble_eq_true rfl, Nat.le_of_ble_eq_true rfl⟩) (oO_k g2).1 (cc_o3 (oO_k g2).2) rfl rfl hl.1 rfl (lv_room (Nat.le_of_ble_eq_true rfl)) dX3_parseOff_3 ⟨Nat.zero_le _, Nat.zero_le _⟩ (fun T4 H locs hq G => ?_)
  rw [hq] at G
  clear hq eT3
  refine lv_aload_n hx hb dX3_parseOff_6 rfl (lv_at hl 0 rfl) ?_
  refine lv_iconst (v := 0) hx hb dX3_parseOff_7 (by decide) ?_
  refine lv_aload_n hx hb dX3_parseOff_8 rfl (lv_at hl 1 rfl) ?_
  obtain ⟨g7, h⟩ := oif_some h
  refine c_get E G a0 8 (oO_k g7).1 (cc_o6 (oO_k g7).2) rfl (fun w h => .tail _ (iA_14 h)) (by decide) (.tail _ qA_343) rfl rfl dX3_parseOff_9 ?_
  refine lv_topi (fun v8 ev8 => ?_)
  have h := elet_at ev8 h
  clear ev8
  refine lv_iconst (v := 1) hx hb dX3_parseOff_12 (by decide) ?_
  refine lv_isub hx hb dX3_parseOff_13 ?_
  refine lv_topi (fun v9 ev9 => ?_)
  have h := elet_at ev9 h
  clear ev9
  obtain ⟨g10, h⟩ := oif_some h
  rcases othr_t h with ⟨r0, eT11⟩ | ⟨r13, T11, eT11, h⟩
  · refine q_xvi (As := [.int 0, .int v9]) (rest := []) E G hA hX hN hml (x_X3_number l hst D cI cJ cZ cMic cSrc cSt cAI cAJ ad T3 o (0 : Int32) v9 eT11) (cwV 2 hts (gaV qA_299 qA_300 qA_301 qA_222 qA_302) rfl rfl rfl (by decide +kernel) ⟨Nat.le_of_ble_eq_true rfl, Nat.le_of_ble_eq_true rfl⟩) (oO_k g10).1 (cc_o3 (oO_k g10).2) rfl rfl hl.1 rfl (lv_room (Nat.le_of_ble_eq_true rfl)) dX3_parseOff_14 ⟨Nat.le_of_ble_eq_true rfl, Nat.le_of_ble_eq_true rfl⟩ (fun E9 ce q9 T9 H locs hp G hce hcv hcl => ?_)
    obtain ⟨hE, hT⟩ := hp
    subst hE
    rw [hT] at G
    exact vx_out (fun x hx => (htab x hx).elim) hlocks hce hcv hcl (fun t ht hvm => ⟨T1, trivial, ⟨⟨rfl, rfl⟩, by rw [ht]; exact G.1, va_K.moved hvm hK, G.2.1⟩, G.2.2.F ht⟩) G.2.2.2.2 (Nat.le_refl _) (Nat.le_refl _)
  refine q_cvi (As := [.int 0, .int v9]) (rest := []) E G hA hX hN hml (u_X3_number l hst D cI cJ cZ cMic cSrc cSt cAI cAJ ad T3 o (0 : Int32) v9 eT11) (cwV 2 hts (gaV qA_299 qA_300 qA_301 qA_222 qA_302) rfl rfl rfl (by decide +kernel) ⟨Nat.le_of_ble_eq_true rfl, Nat.le_of_ble_eq_true rfl⟩) (oO_k g10).1 (cc_o3 (oO_k g10).2) rfl rfl hl.1 rfl (lv_room (Nat.le_of_ble_eq_true rfl)) dX3_parseOff_14 ⟨Nat.zero_le _, Nat.zero_le _⟩ (fun q14 T12 H locs hq G => ?_)
  obtain ⟨hq1, hq2⟩ := hq
  rw [hq2] at G
  refine lv_to hq1 ?_
  clear hq1 hq2 eT11
  refine lv_istore_n (lv' := [(2, .int r13), (0, .ref (ad o)), (1, .ref (ad a0))]) hx hb dX3_parseOff_17 rfl hl (by decide) rfl (fun ls hl => ?_)
  refine lv_aload_n hx hb dX3_parseOff_18 rfl (lv_at hl 2 rfl) ?_
  obtain ⟨g15, h⟩ := oif_some h
  obtain ⟨n16, en16, h⟩ := obind_some h
  refine c_get E G a0 7 (v := .ref (ad n16)) (oO_k g15).1 (cc_o6 (oO_k g15).2) rfl (fun w h => .tail _ (iA_14 h)) (by decide) (.tail _ qA_344) rfl (by rw [en16]; rfl) dX3_parseOff_19 ?_
  clear en16
  refine lv_iload_n hx hb dX3_parseOff_22 rfl (lv_at hl 0 rfl) ?_
  obtain ⟨g17, h⟩ := oif_some h
  obtain ⟨g18, h⟩ := oif_some h
  obtain ⟨n19, en19, h⟩ := obind_some h
  refine c_aldq E G n16 4 (k := r13.toNatClampNeg) (v := .ref (ad n19)) (aA_k g17).1 (cc_a104 (aA_k g17).2.1) rfl (inb_k g18).1 (inb_k g18).2 (aA_k g17).2.2 (by show va_rf ((T11.2.2.2.2 n16 r13.toNatClampNeg).map ad) = _; rw [en19]; rfl) dX3_parseOff_23 ?_
  clear en19
  obtain ⟨g20, h⟩ := oif_some h
  refine c_get E G n19 9 (oO_k g20).1 (cc_o7 (oO_k g20).2) rfl (fun w h => .tail _ (iA_20 h)) (by decide) (.tail _ qA_354) rfl rfl dX3_parseOff_24 ?_
  refine lv_topi (fun v21 ev21 => ?_)
  have h := elet_at ev21 h
  clear ev21
  refine lv_if_eq (tgt := 41) hx hb dX3_parseOff_27 (by decide) (fun c22 => ?_) (fun c22 => ?_)
  · have h := oif_pos c22 h
    have hl := lv_sub hl [2, 0] rfl
    exact x_X3_parseOff_b41 E hA hX hN hml trivial hst htab hlocks (fun H locs t G hvm h1 h2 => ⟨T1, trivial, ⟨⟨rfl, rfl⟩, (c_thrown G hK hvm h1 h2).1⟩, (c_thrown G hK hvm h1 h2).2⟩) _ _ _ _ _ _ h G hl
  · have h := oif_neg c22 h
    refine lv_aload_n hx hb dX3_parseOff_30 rfl (lv_at hl 1 rfl) ?_
    refine lv_aload_n hx hb dX3_parseOff_31 rfl (lv_at hl 1 rfl) ?_
    obtain ⟨g23, h⟩ := oif_some h
    refine c_get E G o 1 (oO_k g23).1 (cc_o3 (oO_k g23).2) rfl (fun w h => .tail _ (iA_17 h)) (by decide) (.tail _ qA_176) rfl rfl dX3_parseOff_32 ?_
    refine lv_topi (fun v24 ev24 => ?_)
    have h := elet_at ev24 h
    clear ev24
    refine lv_iconst (v := 1) hx hb dX3_parseOff_35 (by decide) ?_
    refine lv_isub hx hb dX3_parseOff_36 ?_
    refine lv_topi (fun v25 ev25 => ?_)
    have h := elet_at ev25 h
    clear ev25
    refine lv_iconst (v := 3) hx hb dX3_parseOff_37 (by decide) ?_
    obtain ⟨g26, h⟩ := oif_some h
    rcases othr_t h with ⟨r0, eT27⟩ | ⟨r29, T27, eT27, h⟩
    · refine q_xvv (As := [.int v25, .int 3]) (rest := []) E G hA hX hN hml (x_X3_failAt l hst D cI cJ cZ cMic cSrc cSt cAI cAJ ad T11 o v25 (3 : Int32) eT27) (cwV 2 hts (gaV qA_293 qA_294 qA_295 qA_222 qA_296) rfl rfl rfl (by decide +kernel) ⟨Nat.le_of_ble_eq_true rfl, Nat.le_of_ble_eq_true rfl⟩) (oO_k g26).1 (cc_o3 (oO_k g26).2) rfl rfl hl.1 rfl (lv_room (Nat.le_of_ble_eq_true rfl)) dX3_parseOff_38 ⟨Nat.le_of_ble_eq_true rfl, Nat.le_of_ble_eq_true rfl⟩ (fun E9 ce q9 T9 H locs hp G hce hcv hcl => ?_)
      obtain ⟨hE, hT⟩ := hp
      subst hE
      rw [hT] at G
      exact vx_out (fun x hx => (htab x hx).elim) hlocks hce hcv hcl (fun t ht hvm => ⟨T1, trivial, ⟨⟨rfl, rfl⟩, by rw [ht]; exact G.1, va_K.moved hvm hK, G.2.1⟩, G.2.2.F ht⟩) G.2.2.2.2 (Nat.le_refl _) (Nat.le_refl _)
    refine q_cvv (As := [.int v25, .int 3]) (rest := []) E G hA hX hN hml (u_X3_failAt l hst D cI cJ cZ cMic cSrc cSt cAI cAJ ad T11 o v25 (3 : Int32) eT27) (cwV 2 hts (gaV qA_293 qA_294 qA_295 qA_222 qA_296) rfl rfl rfl (by decide +kernel) ⟨Nat.le_of_ble_eq_true rfl, Nat.le_of_ble_eq_true rfl⟩) (oO_k g26).1 (cc_o3 (oO_k g26).2) rfl rfl hl.1 rfl (lv_room (Nat.le_of_ble_eq_true rfl)) dX3_parseOff_38 ⟨Nat.zero_le _, Nat.zero_le _⟩ (fun T28 H locs hq G => ?_)
    rw [hq] at G
    clear hq eT27
    have hl := lv_sub hl [2, 0] rfl
    exact x_X3_parseOff_b41 E hA hX hN hml trivial hst htab hlocks (fun H locs t G hvm h1 h2 => ⟨T1, trivial, ⟨⟨rfl, rfl⟩, (c_thrown G hK hvm h1 h2).1⟩, (c_thrown G hK hvm h1 h2).2⟩) _ _ _ _ _ _ h G hl
def g_X6_addShade_b29  (T : AT)  : Option (AT) := some T
set_option maxHeartbeats 4000000 in
set_option maxRecDepth 100000 in
theorem u_X6_addShade_b29 {p : Program} {l : Launch} {e : Env} {s : State} {m : MethodId} {args : Array Value} {below : List Frame} {meth : Method} {c : Code} {Q : State → Prop} {D : va_G} {A : Nat → Prop} {cI cJ cZ cMic cSrc cSt cAI cAJ : ClassId} {ad : Nat → Nat} {T1 : AT} (E : cE p c cX6_addShade s m args (Cond.code yX6_addShade cX6_addShade 2 none :: wsA) D RX6 (CT cI cJ cZ cMic cSrc cSt cAI cAJ)) (hA : ∀ q : Nat, s.heap.size ≤ q → A q) (hX : xT A s) (hN : nX s) (hml : c.maxLocals = 2) (hst : l.stackTraces = false) (kr29 : ∀ (H : Heap) (locs : List Loc) (ls : Array Slot), gC cI cJ cZ cMic cSrc cSt cAI cAJ D ad A s.heap H locs T1 → W p l e { frames := 1, cells := 0, slots := 0, locals := 0 } s m args below meth c H locs 0 0 Q (F0 m 29 ls [])) : ∀ (T : AT) (H : Heap) (locs : List Loc) (ls : Array Slot), g_X6_addShade_b29 T = some T1 → gC cI cJ cZ cMic cSrc cSt cAI cAJ D ad A s.heap H locs T → lv_has ls 2 [] → W p l e { frames := 1, cells := 0, slots := 0, locals := 0 } s m args below meth c H locs 0 0 Q (F0 m 29 ls []) := by
  have hx := E.1
  have hb := E.2.1
  have hts := E.2.2.1
  have hown := E.2.2.2.1
  have hK := E.2.2.2.2
  intro T H locs ls h G hl
  unfold g_X6_addShade_b29 at h
  rw [osome1 h] at G
  exact kr29 _ _ _ G
def g_X6_addShade (T : AT) (o : Nat) (a0 : Int32) : Option (AT) := oif (oO T o 6 = true) <| elet (T.2.2.1 o 16) fun v3 => if 12 ≤ v3 then (g_X6_addShade_b29 T) else (oif (oO T o 6 = true) <| obind (T.2.2.2.2 o 15) fun n6 => oif (oO T o 6 = true) <| elet (T.2.2.1 o 16) fun v8 => oif (aA T n6 100 = true) <| oif (inb v8 (T.2.1 n6).2 = true) <| elet (uI T n6 v8.toNatClampNeg a0) fun T11 => oif (oO T11 o 6 = true) <| elet (T11.2.2.1 o 16) fun v13 => elet (v13 + 1) fun v14 => oif (oO T11 o 6 = true) <| elet (uI T11 o 16 v14) fun T16 => g_X6_addShade_b29 T16)
set_option maxHeartbeats 4000000 in
set_option maxRecDepth 100000 in
theorem u_X6_addShade (l : Launch) (hst : l.stackTraces = false) (D : va_G) (cI cJ cZ cMic cSrc cSt cAI cAJ : ClassId) (ad : Nat → Nat) (T : AT) (o : Nat) (a0 : Int32) {T1 : AT} (h : g_X6_addShade T o a0 = some T1) : kCv l yX6_addShade (Cond.code yX6_addShade cX6_addShade 2 none :: wsA) 1 0 cI cJ cZ cMic cSrc cSt cAI cAJ D ad T [.ref (ad o), .int a0] (fun T9 => T9 = T1) := by
  intro sz
  refine pro_in (cc := cX6_addShade) (maxL := 2) (ret := none) (by exact pn_RX6) rfl (by exact Nat.le_of_ble_eq_true rfl) (fun p e s m below meth c ls hx hb hr hts hown hlocks hml hv hl => ?_)
  obtain ⟨hsz, hP, hK, hD0, hX, hN⟩ := hv
  subst hsz
  have hD := hD0.self (sz := s.heap.size)
  generalize hAe : va_A (cW ad T.1 (cc cI cJ cZ cMic cSrc cSt cAI cAJ ad T)) s.heap.size = A at hD hX ⊢
  have hA : ∀ q : Nat, s.heap.size ≤ q → A q := fun q h => by rw [← hAe]; exact Or.inr h
  have G : gC cI cJ cZ cMic cSrc cSt cAI cAJ D ad A s.heap s.heap [] T := ⟨hP, hD, va_S.rf⟩
  have E : cE p c cX6_addShade s m ([.ref (ad o), .int a0] : List Value).toArray (Cond.code yX6_addShade cX6_addShade 2 none :: wsA) D RX6 (CT cI cJ cZ cMic cSrc cSt cAI cAJ) := ⟨hx, hb, hts, hown, hK⟩
  have hl : lv_has ls 2 [(0, .ref (ad o)), (1, .int a0)] := hl
  unfold g_X6_addShade at h
  refine lv_aload_n hx hb dX6_addShade_0 rfl (lv_at hl 0 rfl) ?_
  obtain ⟨g2, h⟩ := oif_some h
  refine c_get E G o 16 (oO_k g2).1 (cc_o6 (oO_k g2).2) rfl (fun w h => .tail _ (iA_14 h)) (by decide) (.tail _ qA_215) rfl rfl dX6_addShade_1 ?_
  refine lv_topi (fun v3 ev3 => ?_)
  have h := elet_at ev3 h
  clear ev3
  refine lv_bipush (v := 12) hx hb dX6_addShade_4 (by decide) ?_
  refine lv_icmp_ge (tgt := 29) hx hb dX6_addShade_6 (by decide) (fun c4 => ?_) (fun c4 => ?_)
  · have h := oif_pos c4 h
    have hl := lv_sub hl [] rfl
    exact u_X6_addShade_b29 E hA hX hN hml hst (fun H locs ls G => W.vret hx hb hr (fun t ht hW => ⟨⟨T1, rfl, rfl, ⟨by rw [ht]; exact G.1, va_K.moved hW.alike hK, G.2.1⟩⟩, G.2.2.F ht⟩) G.2.2.2.2 dX6_addShade_29) _ _ _ _ h G hl
  · have h := oif_neg c4 h
    refine lv_aload_n hx hb dX6_addShade_9 rfl (lv_at hl 0 rfl) ?_
    obtain ⟨g5, h⟩ := oif_some h
    obtain ⟨n6, en6, h⟩ := obind_some h
    refine c_get E G o 15 (v := .ref (ad n6)) (oO_k g5).1 (cc_o6 (oO_k g5).2) rfl (fun w h => .tail _ (iA_14 h)) (by decide) (.tail _ qA_400) rfl (by rw [en6]; rfl) dX6_addShade_10 ?_
    clear en6
    refine lv_aload_n hx hb dX6_addShade_13 rfl (lv_at hl 0 rfl) ?_
    obtain ⟨g7, h⟩ := oif_some h
    refine c_get E G o 16 (oO_k g7).1 (cc_o6 (oO_k g7).2) rfl (fun w h => .tail _ (iA_14 h)) (by decide) (.tail _ qA_215) rfl rfl dX6_addShade_14 ?_
    refine lv_topi (fun v8 ev8 => ?_)
    have h := elet_at ev8 h
    clear ev8
    refine lv_iload_n hx hb dX6_addShade_17 rfl (lv_at hl 1 rfl) ?_
    obtain ⟨g9, h⟩ := oif_some h
    obtain ⟨g10, h⟩ := oif_some h
    refine c_iast E G n6 0 (k := v8.toNatClampNeg) (v := a0) (aA_k g9).1 (cc_a100 (aA_k g9).2.1) rfl (inb_k g10).1 (inb_k g10).2 (aA_k g9).2.2 dX6_addShade_18 (fun H locs G => ?_)
    have G := gC_up_i (f := upd (T.2.2.1 n6) v8.toNatClampNeg a0) (ccv_100 (aA_k g9).2.1) G
    obtain ⟨T11, eT11, h⟩ := elet_some h
    have G : gC cI cJ cZ cMic cSrc cSt cAI cAJ D ad A s.heap H locs T11 := by rw [eT11]; exact G
    clear eT11
    refine lv_aload_n hx hb dX6_addShade_19 rfl (lv_at hl 0 rfl) ?_
    refine lv_dup hx hb dX6_addShade_20 rfl ?_
    obtain ⟨g12, h⟩ := oif_some h
    refine c_get E G o 16 (oO_k g12).1 (cc_o6 (oO_k g12).2) rfl (fun w h => .tail _ (iA_14 h)) (by decide) (.tail _ qA_215) rfl rfl dX6_addShade_21 ?_
    refine lv_topi (fun v13 ev13 => ?_)
    have h := elet_at ev13 h
    clear ev13
    refine lv_iconst (v := 1) hx hb dX6_addShade_24 (by decide) ?_
    refine lv_iadd hx hb dX6_addShade_25 ?_
    refine lv_topi (fun v14 ev14 => ?_)
    have h := elet_at ev14 h
    clear ev14
    obtain ⟨g15, h⟩ := oif_some h
    refine c_put E G o 16 (v := .int v14) (oO_k g15).1 (cc_o6 (oO_k g15).2) rfl (fun w h => .tail _ (iA_14 h)) tyX6 tyX6_ok nmX6 (by decide) (.tail _ qA_215) ⟨rfl, rfl, rfl⟩ rfl rfl (Nat.le_of_ble_eq_true rfl) dX6_addShade_26 (fun H locs G => ?_)
    have G := gC_up_i (f := upd (T11.2.2.1 o) 16 v14) (by rw [(oO_k g15).2]; rfl) G
    obtain ⟨T16, eT16, h⟩ := elet_some h
    have G : gC cI cJ cZ cMic cSrc cSt cAI cAJ D ad A s.heap H locs T16 := by rw [eT16]; exact G
    clear eT16
    have hl := lv_sub hl [] rfl
    exact u_X6_addShade_b29 E hA hX hN hml hst (fun H locs ls G => W.vret hx hb hr (fun t ht hW => ⟨⟨T1, rfl, rfl, ⟨by rw [ht]; exact G.1, va_K.moved hW.alike hK, G.2.1⟩⟩, G.2.2.F ht⟩) G.2.2.2.2 dX6_addShade_29) _ _ _ _ h G hl
set_option maxHeartbeats 4000000 in
set_option maxRecDepth 100000 in
theorem s_X6_addShade_b29 {T1 : AT} : ∀ (T : AT), g_X6_addShade_b29 T = some T1 → SP T T1 := by
  intro T h
  have p0 := SP.rf T
  unfold g_X6_addShade_b29 at h
  rw [← osome1 h]
  exact p0
set_option maxHeartbeats 4000000 in
set_option maxRecDepth 100000 in
theorem s_X6_addShade {T : AT} {o : Nat} {a0 : Int32} {T1 : AT} (h : g_X6_addShade T o a0 = some T1) : SP T T1 := by
  have p0 := SP.rf T
  unfold g_X6_addShade at h
  obtain ⟨g2, h⟩ := oif_some h
  obtain ⟨v3, -, h⟩ := elet_some h
  rcases oif_or h with ⟨c4, h⟩ | ⟨c4, h⟩
  · have h := h
    exact SP.tr p0 (s_X6_addShade_b29 _ h)
  · have h := h
    obtain ⟨g5, h⟩ := oif_some h
    obtain ⟨n6, en6, h⟩ := obind_some h
    obtain ⟨g7, h⟩ := oif_some h
    obtain ⟨v8, -, h⟩ := elet_some h
    obtain ⟨g9, h⟩ := oif_some h
    obtain ⟨g10, h⟩ := oif_some h
    obtain ⟨T11, eT11, h⟩ := elet_some h
    have p1 : SP T T11 := SP.tr p0 (by rw [eT11]; exact sp_uI)
    obtain ⟨g12, h⟩ := oif_some h
    obtain ⟨v13, -, h⟩ := elet_some h
    obtain ⟨v14, -, h⟩ := elet_some h
    obtain ⟨g15, h⟩ := oif_some h
    obtain ⟨T16, eT16, h⟩ := elet_some h
    have p2 : SP T T16 := SP.tr p1 (by rw [eT16]; exact sp_uI)
    exact SP.tr p2 (s_X6_addShade_b29 _ h)
def g_X3_failAsTooMany_b26  (T : AT) (s0 : Int32) (s1 : Int32) (s2 : Nat) : Option (Nat × Int32 × AT) := oif (oO T s2 3 = true) <| othr (g_X3_failAt T s2 s1 s0) 0 fun r5 T3 => some (0, 0, T3)
set_option maxHeartbeats 4000000 in
set_option maxRecDepth 100000 in
theorem u_X3_failAsTooMany_b26 {p : Program} {l : Launch} {e : Env} {s : State} {m : MethodId} {args : Array Value} {below : List Frame} {meth : Method} {c : Code} {Q : State → Prop} {D : va_G} {A : Nat → Prop} {cI cJ cZ cMic cSrc cSt cAI cAJ : ClassId} {ad : Nat → Nat} {r1 : Int32} {T1 : AT} (E : cE p c cX3_failAsTooMany s m args (Cond.code yX3_failAsTooMany cX3_failAsTooMany 2 none :: wsA) D RX3 (CT cI cJ cZ cMic cSrc cSt cAI cAJ)) (hA : ∀ q : Nat, s.heap.size ≤ q → A q) (hX : xT A s) (hN : nX s) (hml : c.maxLocals = 2) (hst : l.stackTraces = false) (kr29 : ∀ (H : Heap) (locs : List Loc) (ls : Array Slot), gC cI cJ cZ cMic cSrc cSt cAI cAJ D ad A s.heap H locs T1 → W p l e { frames := 7, cells := 0, slots := 0, locals := 103 } s m args below meth c H locs 0 0 Q (F0 m 29 ls [])) : ∀ (T : AT) (H : Heap) (locs : List Loc) (ls : Array Slot) (s0 : Int32) (s1 : Int32) (s2 : Nat), g_X3_failAsTooMany_b26 T s0 s1 s2 = some (0, r1, T1) → gC cI cJ cZ cMic cSrc cSt cAI cAJ D ad A s.heap H locs T → lv_has ls 2 [] → W p l e { frames := 7, cells := 0, slots := 0, locals := 103 } s m args below meth c H locs 0 0 Q (F0 m 26 ls [.int s0, .int s1, .ref (ad s2)]) := by
  have hx := E.1
  have hb := E.2.1
  have hts := E.2.2.1
  have hown := E.2.2.2.1
  have hK := E.2.2.2.2
  intro T H locs ls s0 s1 s2 h G hl
  unfold g_X3_failAsTooMany_b26 at h
  obtain ⟨g2, h⟩ := oif_some h
  obtain ⟨r5, T3, eT3, h⟩ := othr_n h
  refine q_cvv (As := [.int s1, .int s0]) (rest := []) E G hA hX hN hml (u_X3_failAt l hst D cI cJ cZ cMic cSrc cSt cAI cAJ ad T s2 s1 s0 eT3) (cwV 2 hts (gaV qA_293 qA_294 qA_295 qA_222 qA_296) rfl rfl rfl (by decide +kernel) ⟨Nat.le_of_ble_eq_true rfl, Nat.le_of_ble_eq_true rfl⟩) (oO_k g2).1 (cc_o3 (oO_k g2).2) rfl rfl hl.1 rfl (lv_room (Nat.le_of_ble_eq_true rfl)) dX3_failAsTooMany_26 ⟨Nat.zero_le _, Nat.zero_le _⟩ (fun T4 H locs hq G => ?_)
  rw [hq] at G
  clear hq eT3
  rw [(osome3 h).2.2] at G
  exact kr29 _ _ _ G
def g_X3_failAsTooMany_b25  (T : AT) (s0 : Int32) (s1 : Nat) : Option (Nat × Int32 × AT) := g_X3_failAsTooMany_b26 T 4 s0 s1
set_option maxHeartbeats 4000000 in
set_option maxRecDepth 100000 in
theorem u_X3_failAsTooMany_b25 {p : Program} {l : Launch} {e : Env} {s : State} {m : MethodId} {args : Array Value} {below : List Frame} {meth : Method} {c : Code} {Q : State → Prop} {D : va_G} {A : Nat → Prop} {cI cJ cZ cMic cSrc cSt cAI cAJ : ClassId} {ad : Nat → Nat} {r1 : Int32} {T1 : AT} (E : cE p c cX3_failAsTooMany s m args (Cond.code yX3_failAsTooMany cX3_failAsTooMany 2 none :: wsA) D RX3 (CT cI cJ cZ cMic cSrc cSt cAI cAJ)) (hA : ∀ q : Nat, s.heap.size ≤ q → A q) (hX : xT A s) (hN : nX s) (hml : c.maxLocals = 2) (hst : l.stackTraces = false) (kr29 : ∀ (H : Heap) (locs : List Loc) (ls : Array Slot), gC cI cJ cZ cMic cSrc cSt cAI cAJ D ad A s.heap H locs T1 → W p l e { frames := 7, cells := 0, slots := 0, locals := 103 } s m args below meth c H locs 0 0 Q (F0 m 29 ls [])) : ∀ (T : AT) (H : Heap) (locs : List Loc) (ls : Array Slot) (s0 : Int32) (s1 : Nat), g_X3_failAsTooMany_b25 T s0 s1 = some (0, r1, T1) → gC cI cJ cZ cMic cSrc cSt cAI cAJ D ad A s.heap H locs T → lv_has ls 2 [] → W p l e { frames := 7, cells := 0, slots := 0, locals := 103 } s m args below meth c H locs 0 0 Q (F0 m 25 ls [.int s0, .ref (ad s1)]) := by
  have hx := E.1
  have hb := E.2.1
  have hts := E.2.2.1
  have hown := E.2.2.2.1
  have hK := E.2.2.2.2
  intro T H locs ls s0 s1 h G hl
  unfold g_X3_failAsTooMany_b25 at h
  refine lv_iconst (v := 4) hx hb dX3_failAsTooMany_25 (by decide) ?_
  have hl := lv_sub hl [] rfl
  exact u_X3_failAsTooMany_b26 E hA hX hN hml hst kr29 _ _ _ _ _ _ _ h G hl
def g_X3_failAsTooMany (T : AT) (o : Nat) (a0 : Int32) : Option (Nat × Int32 × AT) := oif (oO T o 3 = true) <| elet (T.2.2.1 o 1) fun v3 => oif (oO T o 3 = true) <| obind2 (g_X3_kind T o) fun r7 T5 => if r7 = 2 then (oif (oO T5 o 3 = true) <| obind2 (g_X3_value T5 o) fun r13 T11 => if r13 ≤ a0 then (g_X3_failAsTooMany_b25 T11 v3 o) else (g_X3_failAsTooMany_b26 T11 2 v3 o)) else (g_X3_failAsTooMany_b25 T5 v3 o)
set_option maxHeartbeats 4000000 in
set_option maxRecDepth 100000 in
theorem u_X3_failAsTooMany (l : Launch) (hst : l.stackTraces = false) (D : va_G) (cI cJ cZ cMic cSrc cSt cAI cAJ : ClassId) (ad : Nat → Nat) (T : AT) (o : Nat) (a0 : Int32) {r1 : Int32} {T1 : AT} (h : g_X3_failAsTooMany T o a0 = some (0, r1, T1)) : kCv l yX3_failAsTooMany (Cond.code yX3_failAsTooMany cX3_failAsTooMany 2 none :: wsA) 7 103 cI cJ cZ cMic cSrc cSt cAI cAJ D ad T [.ref (ad o), .int a0] (fun T9 => T9 = T1) := by
  intro sz
  refine pro_in (cc := cX3_failAsTooMany) (maxL := 2) (ret := none) (by exact pn_RX3) rfl (by exact Nat.le_of_ble_eq_true rfl) (fun p e s m below meth c ls hx hb hr hts hown hlocks hml hv hl => ?_)
  obtain ⟨hsz, hP, hK, hD0, hX, hN⟩ := hv
  subst hsz
  have hD := hD0.self (sz := s.heap.size)
  generalize hAe : va_A (cW ad T.1 (cc cI cJ cZ cMic cSrc cSt cAI cAJ ad T)) s.heap.size = A at hD hX ⊢
  have hA : ∀ q : Nat, s.heap.size ≤ q → A q := fun q h => by rw [← hAe]; exact Or.inr h
  have G : gC cI cJ cZ cMic cSrc cSt cAI cAJ D ad A s.heap s.heap [] T := ⟨hP, hD, va_S.rf⟩
  have E : cE p c cX3_failAsTooMany s m ([.ref (ad o), .int a0] : List Value).toArray (Cond.code yX3_failAsTooMany cX3_failAsTooMany 2 none :: wsA) D RX3 (CT cI cJ cZ cMic cSrc cSt cAI cAJ) := ⟨hx, hb, hts, hown, hK⟩
  have hl : lv_has ls 2 [(0, .ref (ad o)), (1, .int a0)] := hl
  unfold g_X3_failAsTooMany at h
  refine lv_aload_n hx hb dX3_failAsTooMany_0 rfl (lv_at hl 0 rfl) ?_
  refine lv_aload_n hx hb dX3_failAsTooMany_1 rfl (lv_at hl 0 rfl) ?_
  obtain ⟨g2, h⟩ := oif_some h
  refine c_get E G o 1 (oO_k g2).1 (cc_o3 (oO_k g2).2) rfl (fun w h => .tail _ (iA_17 h)) (by decide) (.tail _ qA_176) rfl rfl dX3_failAsTooMany_2 ?_
  refine lv_topi (fun v3 ev3 => ?_)
  have h := elet_at ev3 h
  clear ev3
  refine lv_aload_n hx hb dX3_failAsTooMany_5 rfl (lv_at hl 0 rfl) ?_
  obtain ⟨g4, h⟩ := oif_some h
  obtain ⟨r7, T5, eT5, h⟩ := obind2_some h
  refine q_cvi (As := []) (rest := [.int v3, .ref (ad o)]) E G hA hX hN hml (u_X3_kind l hst D cI cJ cZ cMic cSrc cSt cAI cAJ ad T o eT5) (cwV 0 hts (gaV qA_239 qA_240 qA_241 qA_222 qA_242) rfl rfl rfl (by decide +kernel) ⟨Nat.le_of_ble_eq_true rfl, Nat.le_of_ble_eq_true rfl⟩) (oO_k g4).1 (cc_o3 (oO_k g4).2) rfl rfl hl.1 rfl (lv_room (Nat.le_of_ble_eq_true rfl)) dX3_failAsTooMany_6 ⟨Nat.zero_le _, Nat.zero_le _⟩ (fun q8 T6 H locs hq G => ?_)
  obtain ⟨hq1, hq2⟩ := hq
  rw [hq2] at G
  refine lv_to hq1 ?_
  clear hq1 hq2 eT5
  refine lv_iconst (v := 2) hx hb dX3_failAsTooMany_9 (by decide) ?_
  refine lv_icmp_ne (tgt := 25) hx hb dX3_failAsTooMany_10 (by decide) (fun c9 => ?_) (fun c9 => ?_)
  · have h := oif_neg c9 h
    have hl := lv_sub hl [] rfl
    exact u_X3_failAsTooMany_b25 E hA hX hN hml hst (fun H locs ls G => W.vret hx hb hr (fun t ht hW => ⟨⟨T1, rfl, rfl, ⟨by rw [ht]; exact G.1, va_K.moved hW.alike hK, G.2.1⟩⟩, G.2.2.F ht⟩) G.2.2.2.2 dX3_failAsTooMany_29) _ _ _ _ _ _ h G hl
  · have h := oif_pos c9 h
    refine lv_aload_n hx hb dX3_failAsTooMany_13 rfl (lv_at hl 0 rfl) ?_
    obtain ⟨g10, h⟩ := oif_some h
    obtain ⟨r13, T11, eT11, h⟩ := obind2_some h
    refine q_cvi (As := []) (rest := [.int v3, .ref (ad o)]) E G hA hX hN hml (u_X3_value l hst D cI cJ cZ cMic cSrc cSt cAI cAJ ad T5 o eT11) (cwV 0 hts (gaV qA_303 qA_304 qA_305 qA_222 qA_306) rfl rfl rfl (by decide +kernel) ⟨Nat.le_of_ble_eq_true rfl, Nat.le_of_ble_eq_true rfl⟩) (oO_k g10).1 (cc_o3 (oO_k g10).2) rfl rfl hl.1 rfl (lv_room (Nat.le_of_ble_eq_true rfl)) dX3_failAsTooMany_14 ⟨Nat.zero_le _, Nat.zero_le _⟩ (fun q14 T12 H locs hq G => ?_)
    obtain ⟨hq1, hq2⟩ := hq
    rw [hq2] at G
    refine lv_to hq1 ?_
    clear hq1 hq2 eT11
    refine lv_iload_n hx hb dX3_failAsTooMany_17 rfl (lv_at hl 1 rfl) ?_
    refine lv_icmp_le (tgt := 25) hx hb dX3_failAsTooMany_18 (by decide) (fun c15 => ?_) (fun c15 => ?_)
    · have h := oif_pos c15 h
      have hl := lv_sub hl [] rfl
      exact u_X3_failAsTooMany_b25 E hA hX hN hml hst (fun H locs ls G => W.vret hx hb hr (fun t ht hW => ⟨⟨T1, rfl, rfl, ⟨by rw [ht]; exact G.1, va_K.moved hW.alike hK, G.2.1⟩⟩, G.2.2.F ht⟩) G.2.2.2.2 dX3_failAsTooMany_29) _ _ _ _ _ _ h G hl
    · have h := oif_neg c15 h
      refine lv_iconst (v := 2) hx hb dX3_failAsTooMany_21 (by decide) ?_
      refine lv_goto (tgt := 26) hx hb dX3_failAsTooMany_22 (by decide) ?_
      have hl := lv_sub hl [] rfl
      exact u_X3_failAsTooMany_b26 E hA hX hN hml hst (fun H locs ls G => W.vret hx hb hr (fun t ht hW => ⟨⟨T1, rfl, rfl, ⟨by rw [ht]; exact G.1, va_K.moved hW.alike hK, G.2.1⟩⟩, G.2.2.F ht⟩) G.2.2.2.2 dX3_failAsTooMany_29) _ _ _ _ _ _ _ h G hl
set_option maxHeartbeats 4000000 in
set_option maxRecDepth 100000 in
theorem s_X3_failAsTooMany_b26 {e1 : Nat} {r1 : Int32} {T1 : AT} : ∀ (T : AT) (s0 : Int32) (s1 : Int32) (s2 : Nat), g_X3_failAsTooMany_b26 T s0 s1 s2 = some (e1, r1, T1) → SP T T1 := by
  intro T s0 s1 s2 h
  have p0 := SP.rf T
  unfold g_X3_failAsTooMany_b26 at h
  obtain ⟨g2, h⟩ := oif_some h
  rcases othr_s h with ⟨k9, r9, e9, -⟩ | ⟨r4, T3, eT3, h⟩
  · exact SP.tr p0 (s_X3_failAt e9)
  have p1 : SP T T3 := SP.tr p0 (s_X3_failAt eT3)
  rw [← (osome3 h).2.2]
  exact p1
set_option maxHeartbeats 4000000 in
set_option maxRecDepth 100000 in
theorem s_X3_failAsTooMany_b25 {e1 : Nat} {r1 : Int32} {T1 : AT} : ∀ (T : AT) (s0 : Int32) (s1 : Nat), g_X3_failAsTooMany_b25 T s0 s1 = some (e1, r1, T1) → SP T T1 := by
  intro T s0 s1 h
  have p0 := SP.rf T
  unfold g_X3_failAsTooMany_b25 at h
  exact SP.tr p0 (s_X3_failAsTooMany_b26 _ _ _ _ h)
set_option maxHeartbeats 4000000 in
set_option maxRecDepth 100000 in
theorem s_X3_failAsTooMany {T : AT} {o : Nat} {a0 : Int32} {e1 : Nat} {r1 : Int32} {T1 : AT} (h : g_X3_failAsTooMany T o a0 = some (e1, r1, T1)) : SP T T1 := by
  have p0 := SP.rf T
  unfold g_X3_failAsTooMany at h
  obtain ⟨g2, h⟩ := oif_some h
  obtain ⟨v3, -, h⟩ := elet_some h
  obtain ⟨g4, h⟩ := oif_some h
  obtain ⟨r6, T5, eT5, h⟩ := obind2_some h
  have p1 : SP T T5 := SP.tr p0 (s_X3_kind eT5)
  rcases oif_or h with ⟨c7, h⟩ | ⟨c7, h⟩
  · have h := h
    obtain ⟨g8, h⟩ := oif_some h
    obtain ⟨r10, T9, eT9, h⟩ := obind2_some h
    have p2 : SP T T9 := SP.tr p1 (s_X3_value eT9)
    rcases oif_or h with ⟨c11, h⟩ | ⟨c11, h⟩
    · have h := h
      exact SP.tr p2 (s_X3_failAsTooMany_b25 _ _ _ h)
    · have h := h
      exact SP.tr p2 (s_X3_failAsTooMany_b26 _ _ _ _ h)
  · have h := h
    exact SP.tr p1 (s_X3_failAsTooMany_b25 _ _ _ h)
set_option maxHeartbeats 4000000 in
set_option maxRecDepth 100000 in
theorem x_X3_failAsTooMany_b26 {p : Program} {l : Launch} {e : Env} {s : State} {m : MethodId} {args : Array Value} {below : List Frame} {meth : Method} {c : Code} {Qc : Array Value → State → Outcome → State → Prop} {XC : String → State → State → Prop} {D : va_G} {A : Nat → Prop} {cI cJ cZ cMic cSrc cSt cAI cAJ : ClassId} {ad : Nat → Nat} {e1 : Nat} {r1 : Int32} {T1 : AT} (E : cE p c cX3_failAsTooMany s m args (Cond.code yX3_failAsTooMany cX3_failAsTooMany 2 none :: wsA) D RX3 (CT cI cJ cZ cMic cSrc cSt cAI cAJ)) (hA : ∀ q : Nat, s.heap.size ≤ q → A q) (hX : xT A s) (hN : nX s) (hml : c.maxLocals = 2) (hz9 : True) (hst : l.stackTraces = false) (htab : ∀ x ∈ c.exceptionTable.toList, False) (hlocks : meth.locks = false) (kx : ∀ (H : Heap) (locs : List Loc) (t : State), gC cI cJ cZ cMic cSrc cSt cAI cAJ D ad A s.heap H locs T1 → s.vm.Alike t.vm → H.size ≤ t.heap.size → (∀ q, q < H.size → t.heap[q]? = H[q]?) → XC (exn e1) s t) : ∀ (T : AT) (H : Heap) (locs : List Loc) (ls : Array Slot) (s0 : Int32) (s1 : Int32) (s2 : Nat), g_X3_failAsTooMany_b26 T s0 s1 s2 = some (e1 + 1, r1, T1) → gC cI cJ cZ cMic cSrc cSt cAI cAJ D ad A s.heap H locs T → lv_has ls 2 [] → W p l e { frames := 7, cells := 1, slots := 6, locals := 103 } s m args below meth c H locs 0 0 (vx_MQ below Qc XC args s 1 6 A) (F0 m 26 ls [.int s0, .int s1, .ref (ad s2)]) := by
  have hx := E.1
  have hb := E.2.1
  have hts := E.2.2.1
  have hown := E.2.2.2.1
  have hK := E.2.2.2.2
  intro T H locs ls s0 s1 s2 h G hl
  unfold g_X3_failAsTooMany_b26 at h
  obtain ⟨g2, h⟩ := oif_some h
  rcases othr_t h with ⟨r0, eT3⟩ | ⟨r5, T3, eT3, h⟩
  · refine q_xvv (As := [.int s1, .int s0]) (rest := []) E G hA hX hN hml (x_X3_failAt l hst D cI cJ cZ cMic cSrc cSt cAI cAJ ad T s2 s1 s0 eT3) (cwV 2 hts (gaV qA_293 qA_294 qA_295 qA_222 qA_296) rfl rfl rfl (by decide +kernel) ⟨Nat.le_of_ble_eq_true rfl, Nat.le_of_ble_eq_true rfl⟩) (oO_k g2).1 (cc_o3 (oO_k g2).2) rfl rfl hl.1 rfl (lv_room (Nat.le_of_ble_eq_true rfl)) dX3_failAsTooMany_26 ⟨Nat.le_of_ble_eq_true rfl, Nat.le_of_ble_eq_true rfl⟩ (fun E9 ce q9 T9 H locs hp G hce hcv hcl => ?_)
    obtain ⟨hE, hT⟩ := hp
    subst hE
    rw [hT] at G
    exact vx_out (fun x hx => (htab x hx).elim) hlocks hce hcv hcl (fun t ht hvm => kx _ _ _ G hvm (by rw [ht]; exact Nat.le_refl _) (fun q hq => by rw [ht])) G.2.2.2.2 (Nat.le_refl _) (Nat.le_refl _)
  refine q_cvv (As := [.int s1, .int s0]) (rest := []) E G hA hX hN hml (u_X3_failAt l hst D cI cJ cZ cMic cSrc cSt cAI cAJ ad T s2 s1 s0 eT3) (cwV 2 hts (gaV qA_293 qA_294 qA_295 qA_222 qA_296) rfl rfl rfl (by decide +kernel) ⟨Nat.le_of_ble_eq_true rfl, Nat.le_of_ble_eq_true rfl⟩) (oO_k g2).1 (cc_o3 (oO_k g2).2) rfl rfl hl.1 rfl (lv_room (Nat.le_of_ble_eq_true rfl)) dX3_failAsTooMany_26 ⟨Nat.zero_le _, Nat.zero_le _⟩ (fun T4 H locs hq G => ?_)
  rw [hq] at G
  clear hq eT3
  exact (Nat.succ_ne_zero _ (congrArg Prod.fst (Option.some.inj h)).symm).elim
set_option maxHeartbeats 4000000 in
set_option maxRecDepth 100000 in
theorem x_X3_failAsTooMany_b25 {p : Program} {l : Launch} {e : Env} {s : State} {m : MethodId} {args : Array Value} {below : List Frame} {meth : Method} {c : Code} {Qc : Array Value → State → Outcome → State → Prop} {XC : String → State → State → Prop} {D : va_G} {A : Nat → Prop} {cI cJ cZ cMic cSrc cSt cAI cAJ : ClassId} {ad : Nat → Nat} {e1 : Nat} {r1 : Int32} {T1 : AT} (E : cE p c cX3_failAsTooMany s m args (Cond.code yX3_failAsTooMany cX3_failAsTooMany 2 none :: wsA) D RX3 (CT cI cJ cZ cMic cSrc cSt cAI cAJ)) (hA : ∀ q : Nat, s.heap.size ≤ q → A q) (hX : xT A s) (hN : nX s) (hml : c.maxLocals = 2) (hz9 : True) (hst : l.stackTraces = false) (htab : ∀ x ∈ c.exceptionTable.toList, False) (hlocks : meth.locks = false) (kx : ∀ (H : Heap) (locs : List Loc) (t : State), gC cI cJ cZ cMic cSrc cSt cAI cAJ D ad A s.heap H locs T1 → s.vm.Alike t.vm → H.size ≤ t.heap.size → (∀ q, q < H.size → t.heap[q]? = H[q]?) → XC (exn e1) s t) : ∀ (T : AT) (H : Heap) (locs : List Loc) (ls : Array Slot) (s0 : Int32) (s1 : Nat), g_X3_failAsTooMany_b25 T s0 s1 = some (e1 + 1, r1, T1) → gC cI cJ cZ cMic cSrc cSt cAI cAJ D ad A s.heap H locs T → lv_has ls 2 [] → W p l e { frames := 7, cells := 1, slots := 6, locals := 103 } s m args below meth c H locs 0 0 (vx_MQ below Qc XC args s 1 6 A) (F0 m 25 ls [.int s0, .ref (ad s1)]) := by
  have hx := E.1
  have hb := E.2.1
  have hts := E.2.2.1
  have hown := E.2.2.2.1
  have hK := E.2.2.2.2
  intro T H locs ls s0 s1 h G hl
  unfold g_X3_failAsTooMany_b25 at h
  refine lv_iconst (v := 4) hx hb dX3_failAsTooMany_25 (by decide) ?_
  have hl := lv_sub hl [] rfl
  exact x_X3_failAsTooMany_b26 E hA hX hN hml trivial hst htab hlocks kx _ _ _ _ _ _ _ h G hl
set_option maxHeartbeats 4000000 in
set_option maxRecDepth 100000 in
theorem x_X3_failAsTooMany (l : Launch) (hst : l.stackTraces = false) (D : va_G) (cI cJ cZ cMic cSrc cSt cAI cAJ : ClassId) (ad : Nat → Nat) (T : AT) (o : Nat) (a0 : Int32) {e1 : Nat} {r1 : Int32} {T1 : AT} (h : g_X3_failAsTooMany T o a0 = some (e1 + 1, r1, T1)) : kXv l yX3_failAsTooMany (Cond.code yX3_failAsTooMany cX3_failAsTooMany 2 none :: wsA) 7 103 cI cJ cZ cMic cSrc cSt cAI cAJ D ad T [.ref (ad o), .int a0] e1 T1 := by
  intro sz
  refine pro_inX (cc := cX3_failAsTooMany) (maxL := 2) (ret := none) (by exact pn_RX3) rfl (by exact Nat.le_of_ble_eq_true rfl) (fun p e s m below meth c ls hx hb hr hts hown hlocks htab hml hv hl => ?_)
  obtain ⟨hsz, hP, hK, hD0, hX, hN⟩ := hv
  subst hsz
  have hD := hD0.self (sz := s.heap.size)
  generalize hAe : va_A (cW ad T.1 (cc cI cJ cZ cMic cSrc cSt cAI cAJ ad T)) s.heap.size = A at hD hX ⊢
  have hA : ∀ q : Nat, s.heap.size ≤ q → A q := fun q h => by rw [← hAe]; exact Or.inr h
  have G : gC cI cJ cZ cMic cSrc cSt cAI cAJ D ad A s.heap s.heap [] T := ⟨hP, hD, va_S.rf⟩
  have E : cE p c cX3_failAsTooMany s m ([.ref (ad o), .int a0] : List Value).toArray (Cond.code yX3_failAsTooMany cX3_failAsTooMany 2 none :: wsA) D RX3 (CT cI cJ cZ cMic cSrc cSt cAI cAJ) := ⟨hx, hb, hts, hown, hK⟩
  have htab : ∀ x ∈ c.exceptionTable.toList, False := fun x hx => htab x hx
  have hl : lv_has ls 2 [(0, .ref (ad o)), (1, .int a0)] := hl
  unfold g_X3_failAsTooMany at h
  refine lv_aload_n hx hb dX3_failAsTooMany_0 rfl (lv_at hl 0 rfl) ?_
  refine lv_aload_n hx hb dX3_failAsTooMany_1 rfl (lv_at hl 0 rfl) ?_
  obtain ⟨g2, h⟩ := oif_some h
  refine c_get E G o 1 (oO_k g2).1 (cc_o3 (oO_k g2).2) rfl (fun w h => .tail _ (iA_17 h)) (by decide) (.tail _ qA_176) rfl rfl dX3_failAsTooMany_2 ?_
  refine lv_topi (fun v3 ev3 => ?_)
  have h := elet_at ev3 h
  clear ev3
  refine lv_aload_n hx hb dX3_failAsTooMany_5 rfl (lv_at hl 0 rfl) ?_
  obtain ⟨g4, h⟩ := oif_some h
  obtain ⟨r7, T5, eT5, h⟩ := obind2_some h
  refine q_cvi (As := []) (rest := [.int v3, .ref (ad o)]) E G hA hX hN hml (u_X3_kind l hst D cI cJ cZ cMic cSrc cSt cAI cAJ ad T o eT5) (cwV 0 hts (gaV qA_239 qA_240 qA_241 qA_222 qA_242) rfl rfl rfl (by decide +kernel) ⟨Nat.le_of_ble_eq_true rfl, Nat.le_of_ble_eq_true rfl⟩) (oO_k g4).1 (cc_o3 (oO_k g4).2) rfl rfl hl.1 rfl (lv_room (Nat.le_of_ble_eq_true rfl)) dX3_failAsTooMany_6 ⟨Nat.zero_le _, Nat.zero_le _⟩ (fun q8 T6 H locs hq G => ?_)
  obtain ⟨hq1, hq2⟩ := hq
  rw [hq2] at G
  refine lv_to hq1 ?_
  clear hq1 hq2 eT5
  refine lv_iconst (v := 2) hx hb dX3_failAsTooMany_9 (by decide) ?_
  refine lv_icmp_ne (tgt := 25) hx hb dX3_failAsTooMany_10 (by decide) (fun c9 => ?_) (fun c9 => ?_)
  · have h := oif_neg c9 h
    have hl := lv_sub hl [] rfl
    exact x_X3_failAsTooMany_b25 E hA hX hN hml trivial hst htab hlocks (fun H locs t G hvm h1 h2 => ⟨T1, trivial, ⟨⟨rfl, rfl⟩, (c_thrown G hK hvm h1 h2).1⟩, (c_thrown G hK hvm h1 h2).2⟩) _ _ _ _ _ _ h G hl
  · have h := oif_pos c9 h
    refine lv_aload_n hx hb dX3_failAsTooMany_13 rfl (lv_at hl 0 rfl) ?_
    obtain ⟨g10, h⟩ := oif_some h
    obtain ⟨r13, T11, eT11, h⟩ := obind2_some h
    refine q_cvi (As := []) (rest := [.int v3, .ref (ad o)]) E G hA hX hN hml (u_X3_value l hst D cI cJ cZ cMic cSrc cSt cAI cAJ ad T5 o eT11) (cwV 0 hts (gaV qA_303 qA_304 qA_305 qA_222 qA_306) rfl rfl rfl (by decide +kernel) ⟨Nat.le_of_ble_eq_true rfl, Nat.le_of_ble_eq_true rfl⟩) (oO_k g10).1 (cc_o3 (oO_k g10).2) rfl rfl hl.1 rfl (lv_room (Nat.le_of_ble_eq_true rfl)) dX3_failAsTooMany_14 ⟨Nat.zero_le _, Nat.zero_le _⟩ (fun q14 T12 H locs hq G => ?_)
    obtain ⟨hq1, hq2⟩ := hq
    rw [hq2] at G
    refine lv_to hq1 ?_
    clear hq1 hq2 eT11
    refine lv_iload_n hx hb dX3_failAsTooMany_17 rfl (lv_at hl 1 rfl) ?_
    refine lv_icmp_le (tgt := 25) hx hb dX3_failAsTooMany_18 (by decide) (fun c15 => ?_) (fun c15 => ?_)
    · have h := oif_pos c15 h
      have hl := lv_sub hl [] rfl
      exact x_X3_failAsTooMany_b25 E hA hX hN hml trivial hst htab hlocks (fun H locs t G hvm h1 h2 => ⟨T1, trivial, ⟨⟨rfl, rfl⟩, (c_thrown G hK hvm h1 h2).1⟩, (c_thrown G hK hvm h1 h2).2⟩) _ _ _ _ _ _ h G hl
    · have h := oif_neg c15 h
      refine lv_iconst (v := 2) hx hb dX3_failAsTooMany_21 (by decide) ?_
      refine lv_goto (tgt := 26) hx hb dX3_failAsTooMany_22 (by decide) ?_
      have hl := lv_sub hl [] rfl
      exact x_X3_failAsTooMany_b26 E hA hX hN hml trivial hst htab hlocks (fun H locs t G hvm h1 h2 => ⟨T1, trivial, ⟨⟨rfl, rfl⟩, (c_thrown G hK hvm h1 h2).1⟩, (c_thrown G hK hvm h1 h2).2⟩) _ _ _ _ _ _ _ h G hl
def g_X3_parseShade_b73  (T : AT)  : Option (Nat × Int32 × AT) := some (0, 0, T)
set_option maxHeartbeats 4000000 in
set_option maxRecDepth 100000 in
theorem u_X3_parseShade_b73 {p : Program} {l : Launch} {e : Env} {s : State} {m : MethodId} {args : Array Value} {below : List Frame} {meth : Method} {c : Code} {Q : State → Prop} {D : va_G} {A : Nat → Prop} {cI cJ cZ cMic cSrc cSt cAI cAJ : ClassId} {ad : Nat → Nat} {r1 : Int32} {T1 : AT} (E : cE p c cX3_parseShade s m args (Cond.code yX3_parseShade cX3_parseShade 3 none :: wsA) D RX3 (CT cI cJ cZ cMic cSrc cSt cAI cAJ)) (hA : ∀ q : Nat, s.heap.size ≤ q → A q) (hX : xT A s) (hN : nX s) (hml : c.maxLocals = 3) (hst : l.stackTraces = false) (kr73 : ∀ (H : Heap) (locs : List Loc) (ls : Array Slot), gC cI cJ cZ cMic cSrc cSt cAI cAJ D ad A s.heap H locs T1 → W p l e { frames := 8, cells := 0, slots := 0, locals := 126 } s m args below meth c H locs 0 0 Q (F0 m 73 ls [])) : ∀ (T : AT) (H : Heap) (locs : List Loc) (ls : Array Slot), g_X3_parseShade_b73 T = some (0, r1, T1) → gC cI cJ cZ cMic cSrc cSt cAI cAJ D ad A s.heap H locs T → lv_has ls 3 [] → W p l e { frames := 8, cells := 0, slots := 0, locals := 126 } s m args below meth c H locs 0 0 Q (F0 m 73 ls []) := by
  have hx := E.1
  have hb := E.2.1
  have hts := E.2.2.1
  have hown := E.2.2.2.1
  have hK := E.2.2.2.2
  intro T H locs ls h G hl
  unfold g_X3_parseShade_b73 at h
  rw [(osome3 h).2.2] at G
  exact kr73 _ _ _ G
def g_X3_parseShade_b56 (k30 : AT → Nat → Nat → Int32 → Option (Nat × Int32 × AT)) (T : AT) (l0 : Nat) (l1 : Nat) (l2 : Int32) : Option (Nat × Int32 × AT) := oif (oO T l0 3 = true) <| othr (g_X3_number T l0 (0 : Int32) (9 : Int32)) 0 fun r5 T3 => oif (oO T3 l1 6 = true) <| obind (g_X6_addShade T3 l1 r5) fun T8 => elet (l2 + Int32.ofInt (1)) fun v10 => k30 T8 l0 l1 v10
set_option maxHeartbeats 4000000 in
set_option maxRecDepth 100000 in
theorem u_X3_parseShade_b56 {p : Program} {l : Launch} {e : Env} {s : State} {m : MethodId} {args : Array Value} {below : List Frame} {meth : Method} {c : Code} {Q : State → Prop} {D : va_G} {A : Nat → Prop} {cI cJ cZ cMic cSrc cSt cAI cAJ : ClassId} {ad : Nat → Nat} {r1 : Int32} {T1 : AT} (E : cE p c cX3_parseShade s m args (Cond.code yX3_parseShade cX3_parseShade 3 none :: wsA) D RX3 (CT cI cJ cZ cMic cSrc cSt cAI cAJ)) (hA : ∀ q : Nat, s.heap.size ≤ q → A q) (hX : xT A s) (hN : nX s) (hml : c.maxLocals = 3) (hst : l.stackTraces = false) (kr73 : ∀ (H : Heap) (locs : List Loc) (ls : Array Slot), gC cI cJ cZ cMic cSrc cSt cAI cAJ D ad A s.heap H locs T1 → W p l e { frames := 8, cells := 0, slots := 0, locals := 126 } s m args below meth c H locs 0 0 Q (F0 m 73 ls [])) {k30 : AT → Nat → Nat → Int32 → Option (Nat × Int32 × AT)} (hk30 : ∀ (T : AT) (H : Heap) (locs : List Loc) (ls : Array Slot) (l0 : Nat) (l1 : Nat) (l2 : Int32), k30 T l0 l1 l2 = some (0, r1, T1) → gC cI cJ cZ cMic cSrc cSt cAI cAJ D ad A s.heap H locs T → lv_has ls 3 [(0, .ref (ad l0)), (1, .ref (ad l1)), (2, .int l2)] → W p l e { frames := 8, cells := 0, slots := 0, locals := 126 } s m args below meth c H locs 0 0 Q (F0 m 30 ls [])) : ∀ (T : AT) (H : Heap) (locs : List Loc) (ls : Array Slot) (l0 : Nat) (l1 : Nat) (l2 : Int32), g_X3_parseShade_b56 k30 T l0 l1 l2 = some (0, r1, T1) → gC cI cJ cZ cMic cSrc cSt cAI cAJ D ad A s.heap H locs T → lv_has ls 3 [(0, .ref (ad l0)), (1, .ref (ad l1)), (2, .int l2)] → W p l e { frames := 8, cells := 0, slots := 0, locals := 126 } s m args below meth c H locs 0 0 Q (F0 m 56 ls []) := by
  have hx := E.1
  have hb := E.2.1
  have hts := E.2.2.1
  have hown := E.2.2.2.1
  have hK := E.2.2.2.2
  intro T H locs ls l0 l1 l2 h G hl
  unfold g_X3_parseShade_b56 at h
  refine lv_aload_n hx hb dX3_parseShade_56 rfl (lv_at hl 1 rfl) ?_
  refine lv_aload_n hx hb dX3_parseShade_57 rfl (lv_at hl 0 rfl) ?_
  refine lv_iconst (v := 0) hx hb dX3_parseShade_58 (by decide) ?_
  refine lv_bipush (v := 9) hx hb dX3_parseShade_59 (by decide) ?_
  obtain ⟨g2, h⟩ := oif_some h
  obtain ⟨r5, T3, eT3, h⟩ := othr_n h
  refine q_cvi (As := [.int 0, .int 9]) (rest := [.ref (ad l1)]) E G hA hX hN hml (u_X3_number l hst D cI cJ cZ cMic cSrc cSt cAI cAJ ad T l0 (0 : Int32) (9 : Int32) eT3) (cwV 2 hts (gaV qA_299 qA_300 qA_301 qA_222 qA_302) rfl rfl rfl (by decide +kernel) ⟨Nat.le_of_ble_eq_true rfl, Nat.le_of_ble_eq_true rfl⟩) (oO_k g2).1 (cc_o3 (oO_k g2).2) rfl rfl hl.1 rfl (lv_room (Nat.le_of_ble_eq_true rfl)) dX3_parseShade_61 ⟨Nat.zero_le _, Nat.zero_le _⟩ (fun q6 T4 H locs hq G => ?_)
  obtain ⟨hq1, hq2⟩ := hq
  rw [hq2] at G
  refine lv_to hq1 ?_
  clear hq1 hq2 eT3
  obtain ⟨g7, h⟩ := oif_some h
  obtain ⟨T8, eT8, h⟩ := obind_some h
  refine q_cvv (As := [.int r5]) (rest := []) E G hA hX hN hml (u_X6_addShade l hst D cI cJ cZ cMic cSrc cSt cAI cAJ ad T3 l1 r5 eT8) (cwV 1 hts (gaV qA_396 qA_397 qA_398 qA_207 qA_399) rfl rfl rfl (by decide +kernel) ⟨Nat.le_of_ble_eq_true rfl, Nat.le_of_ble_eq_true rfl⟩) (oO_k g7).1 (cc_o6 (oO_k g7).2) rfl rfl hl.1 rfl (lv_room (Nat.le_of_ble_eq_true rfl)) dX3_parseShade_64 ⟨Nat.zero_le _, Nat.zero_le _⟩ (fun T9 H locs hq G => ?_)
  rw [hq] at G
  clear hq eT8
  obtain ⟨v10, ev10, h⟩ := elet_some h
  refine lv_iinc (v := v10) (lv' := [(2, .int v10), (0, .ref (ad l0)), (1, .ref (ad l1))]) hx hb dX3_parseShade_67 hl (k := 2) rfl ev10.symm (by decide) rfl (fun ls hl => ?_)
  refine lv_goto (tgt := 30) hx hb dX3_parseShade_70 (by decide) ?_
  have hl := lv_sub hl [1, 2, 0] rfl
  exact hk30 _ _ _ _ _ _ _ h G hl
def g_X3_parseShade_b30  : Nat → AT → Nat → Nat → Int32 → Option (Nat × Int32 × AT)
  | 0, _, _, _, _ => none
  | n + 1, T, l0, l1, l2 => if 12 < l2 then (g_X3_parseShade_b73 T) else (oif (oO T l0 3 = true) <| obind2 (g_X3_kind T l0) fun r6 T4 => if r6 = 2 then (if l2 = 12 then (oif (oO T4 l0 3 = true) <| othr (g_X3_failAsTooMany T4 l0 (9 : Int32)) 0 fun r13 T11 => g_X3_parseShade_b56 (g_X3_parseShade_b30 n) T11 l0 l1 l2) else (g_X3_parseShade_b56 (g_X3_parseShade_b30 n) T4 l0 l1 l2)) else (g_X3_parseShade_b73 T4))
set_option maxHeartbeats 4000000 in
set_option maxRecDepth 100000 in
theorem u_X3_parseShade_b30 {p : Program} {l : Launch} {e : Env} {s : State} {m : MethodId} {args : Array Value} {below : List Frame} {meth : Method} {c : Code} {Q : State → Prop} {D : va_G} {A : Nat → Prop} {cI cJ cZ cMic cSrc cSt cAI cAJ : ClassId} {ad : Nat → Nat} {r1 : Int32} {T1 : AT} (E : cE p c cX3_parseShade s m args (Cond.code yX3_parseShade cX3_parseShade 3 none :: wsA) D RX3 (CT cI cJ cZ cMic cSrc cSt cAI cAJ)) (hA : ∀ q : Nat, s.heap.size ≤ q → A q) (hX : xT A s) (hN : nX s) (hml : c.maxLocals = 3) (hst : l.stackTraces = false) (kr73 : ∀ (H : Heap) (locs : List Loc) (ls : Array Slot), gC cI cJ cZ cMic cSrc cSt cAI cAJ D ad A s.heap H locs T1 → W p l e { frames := 8, cells := 0, slots := 0, locals := 126 } s m args below meth c H locs 0 0 Q (F0 m 73 ls [])) : ∀ n : Nat, ∀ (T : AT) (H : Heap) (locs : List Loc) (ls : Array Slot) (l0 : Nat) (l1 : Nat) (l2 : Int32), g_X3_parseShade_b30 n T l0 l1 l2 = some (0, r1, T1) → gC cI cJ cZ cMic cSrc cSt cAI cAJ D ad A s.heap H locs T → lv_has ls 3 [(0, .ref (ad l0)), (1, .ref (ad l1)), (2, .int l2)] → W p l e { frames := 8, cells := 0, slots := 0, locals := 126 } s m args below meth c H locs 0 0 Q (F0 m 30 ls []) := by
  have hx := E.1
  have hb := E.2.1
  have hts := E.2.2.1
  have hown := E.2.2.2.1
  have hK := E.2.2.2.2
  intro n
  induction n with
  | zero =>
    intro T H locs ls l0 l1 l2 h
    have h : (none : Option (Nat × Int32 × AT)) = some (0, r1, T1) := h
    cases h
  | succ n ih =>
    intro T H locs ls l0 l1 l2 h G hl
    unfold g_X3_parseShade_b30 at h
    refine lv_iload_n hx hb dX3_parseShade_30 rfl (lv_at hl 2 rfl) ?_
    refine lv_bipush (v := 12) hx hb dX3_parseShade_31 (by decide) ?_
    refine lv_icmp_gt (tgt := 73) hx hb dX3_parseShade_33 (by decide) (fun c2 => ?_) (fun c2 => ?_)
    · have h := oif_pos c2 h
      have hl := lv_sub hl [] rfl
      exact u_X3_parseShade_b73 E hA hX hN hml hst kr73 _ _ _ _ h G hl
    · have h := oif_neg c2 h
      refine lv_aload_n hx hb dX3_parseShade_36 rfl (lv_at hl 0 rfl) ?_
      obtain ⟨g3, h⟩ := oif_some h
      obtain ⟨r6, T4, eT4, h⟩ := obind2_some h
      refine q_cvi (As := []) (rest := []) E G hA hX hN hml (u_X3_kind l hst D cI cJ cZ cMic cSrc cSt cAI cAJ ad T l0 eT4) (cwV 0 hts (gaV qA_239 qA_240 qA_241 qA_222 qA_242) rfl rfl rfl (by decide +kernel) ⟨Nat.le_of_ble_eq_true rfl, Nat.le_of_ble_eq_true rfl⟩) (oO_k g3).1 (cc_o3 (oO_k g3).2) rfl rfl hl.1 rfl (lv_room (Nat.le_of_ble_eq_true rfl)) dX3_parseShade_37 ⟨Nat.zero_le _, Nat.zero_le _⟩ (fun q7 T5 H locs hq G => ?_)
      obtain ⟨hq1, hq2⟩ := hq
      rw [hq2] at G
      refine lv_to hq1 ?_
      clear hq1 hq2 eT4
      refine lv_iconst (v := 2) hx hb dX3_parseShade_40 (by decide) ?_
      refine lv_icmp_ne (tgt := 73) hx hb dX3_parseShade_41 (by decide) (fun c8 => ?_) (fun c8 => ?_)
      · have h := oif_neg c8 h
        have hl := lv_sub hl [] rfl
        exact u_X3_parseShade_b73 E hA hX hN hml hst kr73 _ _ _ _ h G hl
      · have h := oif_pos c8 h
        refine lv_iload_n hx hb dX3_parseShade_44 rfl (lv_at hl 2 rfl) ?_
        refine lv_bipush (v := 12) hx hb dX3_parseShade_45 (by decide) ?_
        refine lv_icmp_ne (tgt := 56) hx hb dX3_parseShade_47 (by decide) (fun c9 => ?_) (fun c9 => ?_)
        · have h := oif_neg c9 h
          have hl := lv_sub hl [0, 1, 2] rfl
          exact u_X3_parseShade_b56 E hA hX hN hml hst kr73 ih _ _ _ _ _ _ _ h G hl
        · have h := oif_pos c9 h
          refine lv_aload_n hx hb dX3_parseShade_50 rfl (lv_at hl 0 rfl) ?_
          refine lv_bipush (v := 9) hx hb dX3_parseShade_51 (by decide) ?_
          obtain ⟨g10, h⟩ := oif_some h
          obtain ⟨r13, T11, eT11, h⟩ := othr_n h
          refine q_cvv (As := [.int 9]) (rest := []) E G hA hX hN hml (u_X3_failAsTooMany l hst D cI cJ cZ cMic cSrc cSt cAI cAJ ad T4 l0 (9 : Int32) eT11) (cwV 1 hts (gaV qA_376 qA_377 qA_378 qA_222 qA_379) rfl rfl rfl (by decide +kernel) ⟨Nat.le_of_ble_eq_true rfl, Nat.le_of_ble_eq_true rfl⟩) (oO_k g10).1 (cc_o3 (oO_k g10).2) rfl rfl hl.1 rfl (lv_room (Nat.le_of_ble_eq_true rfl)) dX3_parseShade_53 ⟨Nat.zero_le _, Nat.zero_le _⟩ (fun T12 H locs hq G => ?_)
          rw [hq] at G
          clear hq eT11
          have hl := lv_sub hl [0, 1, 2] rfl
          exact u_X3_parseShade_b56 E hA hX hN hml hst kr73 ih _ _ _ _ _ _ _ h G hl
def g_X3_parseShade_b13  (T : AT) (s0 : Int32) (s1 : Nat) (l0 : Nat) (l1 : Nat) : Option (Nat × Int32 × AT) := oif (oO T s1 3 = true) <| othr (g_X3_startLine T s1 s0 (3 : Int32)) 0 fun r5 T3 => oif (oO T3 l0 3 = true) <| othr (g_X3_number T3 l0 (0 : Int32) (9 : Int32)) 0 fun r10 T8 => oif (oO T8 l1 6 = true) <| obind (g_X6_addShade T8 l1 r10) fun T13 => g_X3_parseShade_b30 16384 T13 l0 l1 1
set_option maxHeartbeats 4000000 in
set_option maxRecDepth 100000 in
theorem u_X3_parseShade_b13 {p : Program} {l : Launch} {e : Env} {s : State} {m : MethodId} {args : Array Value} {below : List Frame} {meth : Method} {c : Code} {Q : State → Prop} {D : va_G} {A : Nat → Prop} {cI cJ cZ cMic cSrc cSt cAI cAJ : ClassId} {ad : Nat → Nat} {r1 : Int32} {T1 : AT} (E : cE p c cX3_parseShade s m args (Cond.code yX3_parseShade cX3_parseShade 3 none :: wsA) D RX3 (CT cI cJ cZ cMic cSrc cSt cAI cAJ)) (hA : ∀ q : Nat, s.heap.size ≤ q → A q) (hX : xT A s) (hN : nX s) (hml : c.maxLocals = 3) (hst : l.stackTraces = false) (kr73 : ∀ (H : Heap) (locs : List Loc) (ls : Array Slot), gC cI cJ cZ cMic cSrc cSt cAI cAJ D ad A s.heap H locs T1 → W p l e { frames := 8, cells := 0, slots := 0, locals := 126 } s m args below meth c H locs 0 0 Q (F0 m 73 ls [])) : ∀ (T : AT) (H : Heap) (locs : List Loc) (ls : Array Slot) (s0 : Int32) (s1 : Nat) (l0 : Nat) (l1 : Nat), g_X3_parseShade_b13 T s0 s1 l0 l1 = some (0, r1, T1) → gC cI cJ cZ cMic cSrc cSt cAI cAJ D ad A s.heap H locs T → lv_has ls 3 [(0, .ref (ad l0)), (1, .ref (ad l1))] → W p l e { frames := 8, cells := 0, slots := 0, locals := 126 } s m args below meth c H locs 0 0 Q (F0 m 13 ls [.int s0, .ref (ad s1)]) := by
  have hx := E.1
  have hb := E.2.1
  have hts := E.2.2.1
  have hown := E.2.2.2.1
  have hK := E.2.2.2.2
  intro T H locs ls s0 s1 l0 l1 h G hl
  unfold g_X3_parseShade_b13 at h
  refine lv_iconst (v := 3) hx hb dX3_parseShade_13 (by decide) ?_
  obtain ⟨g2, h⟩ := oif_some h
  obtain ⟨r5, T3, eT3, h⟩ := othr_n h
  refine q_cvv (As := [.int s0, .int 3]) (rest := []) E G hA hX hN hml (u_X3_startLine l hst D cI cJ cZ cMic cSrc cSt cAI cAJ ad T s1 s0 (3 : Int32) eT3) (cwV 2 hts (gaV qA_321 qA_322 qA_323 qA_222 qA_324) rfl rfl rfl (by decide +kernel) ⟨Nat.le_of_ble_eq_true rfl, Nat.le_of_ble_eq_true rfl⟩) (oO_k g2).1 (cc_o3 (oO_k g2).2) rfl rfl hl.1 rfl (lv_room (Nat.le_of_ble_eq_true rfl)) dX3_parseShade_14 ⟨Nat.zero_le _, Nat.zero_le _⟩ (fun T4 H locs hq G => ?_)
  rw [hq] at G
  clear hq eT3
  refine lv_aload_n hx hb dX3_parseShade_17 rfl (lv_at hl 1 rfl) ?_
  refine lv_aload_n hx hb dX3_parseShade_18 rfl (lv_at hl 0 rfl) ?_
  refine lv_iconst (v := 0) hx hb dX3_parseShade_19 (by decide) ?_
  refine lv_bipush (v := 9) hx hb dX3_parseShade_20 (by decide) ?_
  obtain ⟨g7, h⟩ := oif_some h
  obtain ⟨r10, T8, eT8, h⟩ := othr_n h
  refine q_cvi (As := [.int 0, .int 9]) (rest := [.ref (ad l1)]) E G hA hX hN hml (u_X3_number l hst D cI cJ cZ cMic cSrc cSt cAI cAJ ad T3 l0 (0 : Int32) (9 : Int32) eT8) (cwV 2 hts (gaV qA_299 qA_300 qA_301 qA_222 qA_302) rfl rfl rfl (by decide +kernel) ⟨Nat.le_of_ble_eq_true rfl, Nat.le_of_ble_eq_true rfl⟩) (oO_k g7).1 (cc_o3 (oO_k g7).2) rfl rfl hl.1 rfl (lv_room (Nat.le_of_ble_eq_true rfl)) dX3_parseShade_22 ⟨Nat.zero_le _, Nat.zero_le _⟩ (fun q11 T9 H locs hq G => ?_)
  obtain ⟨hq1, hq2⟩ := hq
  rw [hq2] at G
  refine lv_to hq1 ?_
  clear hq1 hq2 eT8
  obtain ⟨g12, h⟩ := oif_some h
  obtain ⟨T13, eT13, h⟩ := obind_some h
  refine q_cvv (As := [.int r10]) (rest := []) E G hA hX hN hml (u_X6_addShade l hst D cI cJ cZ cMic cSrc cSt cAI cAJ ad T8 l1 r10 eT13) (cwV 1 hts (gaV qA_396 qA_397 qA_398 qA_207 qA_399) rfl rfl rfl (by decide +kernel) ⟨Nat.le_of_ble_eq_true rfl, Nat.le_of_ble_eq_true rfl⟩) (oO_k g12).1 (cc_o6 (oO_k g12).2) rfl rfl hl.1 rfl (lv_room (Nat.le_of_ble_eq_true rfl)) dX3_parseShade_25 ⟨Nat.zero_le _, Nat.zero_le _⟩ (fun T14 H locs hq G => ?_)
  rw [hq] at G
  clear hq eT13
  refine lv_iconst (v := 1) hx hb dX3_parseShade_28 (by decide) ?_
  refine lv_istore_n (lv' := [(2, .int 1), (0, .ref (ad l0)), (1, .ref (ad l1))]) hx hb dX3_parseShade_29 rfl hl (by decide) rfl (fun ls hl => ?_)
  have hl := lv_sub hl [1, 2, 0] rfl
  exact u_X3_parseShade_b30 E hA hX hN hml hst kr73 _ _ _ _ _ _ _ _ h G hl
def g_X3_parseShade (T : AT) (o : Nat) (a0 : Nat) : Option (Nat × Int32 × AT) := oif (oO T a0 6 = true) <| elet (T.2.2.1 a0 16) fun v3 => if v3 ≤ 0 then (g_X3_parseShade_b13 T 0 o o a0) else (g_X3_parseShade_b13 T 1 o o a0)
set_option maxHeartbeats 4000000 in
set_option maxRecDepth 100000 in
theorem u_X3_parseShade (l : Launch) (hst : l.stackTraces = false) (D : va_G) (cI cJ cZ cMic cSrc cSt cAI cAJ : ClassId) (ad : Nat → Nat) (T : AT) (o : Nat) (a0 : Nat) {r1 : Int32} {T1 : AT} (h : g_X3_parseShade T o a0 = some (0, r1, T1)) : kCv l yX3_parseShade (Cond.code yX3_parseShade cX3_parseShade 3 none :: wsA) 8 126 cI cJ cZ cMic cSrc cSt cAI cAJ D ad T [.ref (ad o), .ref (ad a0)] (fun T9 => T9 = T1) := by
  intro sz
  refine pro_in (cc := cX3_parseShade) (maxL := 3) (ret := none) (by exact pn_RX3) rfl (by exact Nat.le_of_ble_eq_true rfl) (fun p e s m below meth c ls hx hb hr hts hown hlocks hml hv hl => ?_)
  obtain ⟨hsz, hP, hK, hD0, hX, hN⟩ := hv
  subst hsz
  have hD := hD0.self (sz := s.heap.size)
  generalize hAe : va_A (cW ad T.1 (cc cI cJ cZ cMic cSrc cSt cAI cAJ ad T)) s.heap.size = A at hD hX ⊢
  have hA : ∀ q : Nat, s.heap.size ≤ q → A q := fun q h => by rw [← hAe]; exact Or.inr h
  have G : gC cI cJ cZ cMic cSrc cSt cAI cAJ D ad A s.heap s.heap [] T := ⟨hP, hD, va_S.rf⟩
  have E : cE p c cX3_parseShade s m ([.ref (ad o), .ref (ad a0)] : List Value).toArray (Cond.code yX3_parseShade cX3_parseShade 3 none :: wsA) D RX3 (CT cI cJ cZ cMic cSrc cSt cAI cAJ) := ⟨hx, hb, hts, hown, hK⟩
  have hl : lv_has ls 3 [(0, .ref (ad o)), (1, .ref (ad a0))] := hl
  unfold g_X3_parseShade at h
  refine lv_aload_n hx hb dX3_parseShade_0 rfl (lv_at hl 0 rfl) ?_
  refine lv_aload_n hx hb dX3_parseShade_1 rfl (lv_at hl 1 rfl) ?_
  obtain ⟨g2, h⟩ := oif_some h
  refine c_get E G a0 16 (oO_k g2).1 (cc_o6 (oO_k g2).2) rfl (fun w h => .tail _ (iA_14 h)) (by decide) (.tail _ qA_395) rfl rfl dX3_parseShade_2 ?_
  refine lv_topi (fun v3 ev3 => ?_)
  have h := elet_at ev3 h
  clear ev3
  refine lv_if_le (tgt := 12) hx hb dX3_parseShade_5 (by decide) (fun c4 => ?_) (fun c4 => ?_)
  · have h := oif_pos c4 h
    refine lv_iconst (v := 0) hx hb dX3_parseShade_12 (by decide) ?_
    have hl := lv_sub hl [0, 1] rfl
    exact u_X3_parseShade_b13 E hA hX hN hml hst (fun H locs ls G => W.vret hx hb hr (fun t ht hW => ⟨⟨T1, rfl, rfl, ⟨by rw [ht]; exact G.1, va_K.moved hW.alike hK, G.2.1⟩⟩, G.2.2.F ht⟩) G.2.2.2.2 dX3_parseShade_73) _ _ _ _ _ _ _ _ h G hl
  · have h := oif_neg c4 h
    refine lv_iconst (v := 1) hx hb dX3_parseShade_8 (by decide) ?_
    refine lv_goto (tgt := 13) hx hb dX3_parseShade_9 (by decide) ?_
    have hl := lv_sub hl [0, 1] rfl
    exact u_X3_parseShade_b13 E hA hX hN hml hst (fun H locs ls G => W.vret hx hb hr (fun t ht hW => ⟨⟨T1, rfl, rfl, ⟨by rw [ht]; exact G.1, va_K.moved hW.alike hK, G.2.1⟩⟩, G.2.2.F ht⟩) G.2.2.2.2 dX3_parseShade_73) _ _ _ _ _ _ _ _ h G hl
set_option maxHeartbeats 4000000 in
set_option maxRecDepth 100000 in
theorem s_X3_parseShade_b73 {e1 : Nat} {r1 : Int32} {T1 : AT} : ∀ (T : AT), g_X3_parseShade_b73 T = some (e1, r1, T1) → SP T T1 := by
  intro T h
  have p0 := SP.rf T
  unfold g_X3_parseShade_b73 at h
  rw [← (osome3 h).2.2]
  exact p0
set_option maxHeartbeats 4000000 in
set_option maxRecDepth 100000 in
theorem s_X3_parseShade_b56 {e1 : Nat} {r1 : Int32} {T1 : AT} {k30 : AT → Nat → Nat → Int32 → Option (Nat × Int32 × AT)} (hk30 : ∀ (T : AT) (l0 : Nat) (l1 : Nat) (l2 : Int32), k30 T l0 l1 l2 = some (e1, r1, T1) → SP T T1) : ∀ (T : AT) (l0 : Nat) (l1 : Nat) (l2 : Int32), g_X3_parseShade_b56 k30 T l0 l1 l2 = some (e1, r1, T1) → SP T T1 := by
  intro T l0 l1 l2 h
  have p0 := SP.rf T
  unfold g_X3_parseShade_b56 at h
  obtain ⟨g2, h⟩ := oif_some h
  rcases othr_s h with ⟨k9, r9, e9, -⟩ | ⟨r4, T3, eT3, h⟩
  · exact SP.tr p0 (s_X3_number e9)
  have p1 : SP T T3 := SP.tr p0 (s_X3_number eT3)
  obtain ⟨g5, h⟩ := oif_some h
  obtain ⟨T6, eT6, h⟩ := obind_some h
  have p2 : SP T T6 := SP.tr p1 (s_X6_addShade eT6)
  obtain ⟨v8, ev8, h⟩ := elet_some h
  exact SP.tr p2 (hk30 _ _ _ _ h)
set_option maxHeartbeats 4000000 in
set_option maxRecDepth 100000 in
theorem s_X3_parseShade_b30 {e1 : Nat} {r1 : Int32} {T1 : AT} : ∀ n : Nat, ∀ (T : AT) (l0 : Nat) (l1 : Nat) (l2 : Int32), g_X3_parseShade_b30 n T l0 l1 l2 = some (e1, r1, T1) → SP T T1 := by
  intro n
  induction n with
  | zero =>
    intro T l0 l1 l2 h
    have h : (none : Option (Nat × Int32 × AT)) = some (e1, r1, T1) := h
    cases h
  | succ n ih =>
    intro T l0 l1 l2 h
    have p0 := SP.rf T
    unfold g_X3_parseShade_b30 at h
    rcases oif_or h with ⟨c2, h⟩ | ⟨c2, h⟩
    · have h := h
      exact SP.tr p0 (s_X3_parseShade_b73 _ h)
    · have h := h
      obtain ⟨g3, h⟩ := oif_some h
      obtain ⟨r5, T4, eT4, h⟩ := obind2_some h
      have p1 : SP T T4 := SP.tr p0 (s_X3_kind eT4)
      rcases oif_or h with ⟨c6, h⟩ | ⟨c6, h⟩
      · have h := h
        rcases oif_or h with ⟨c7, h⟩ | ⟨c7, h⟩
        · have h := h
          obtain ⟨g8, h⟩ := oif_some h
          rcases othr_s h with ⟨k9, r9, e9, -⟩ | ⟨r10, T9, eT9, h⟩
          · exact SP.tr p1 (s_X3_failAsTooMany e9)
          have p2 : SP T T9 := SP.tr p1 (s_X3_failAsTooMany eT9)
          exact SP.tr p2 (s_X3_parseShade_b56 ih _ _ _ _ h)
        · have h := h
          exact SP.tr p1 (s_X3_parseShade_b56 ih _ _ _ _ h)
      · have h := h
        exact SP.tr p1 (s_X3_parseShade_b73 _ h)
set_option maxHeartbeats 4000000 in
set_option maxRecDepth 100000 in
theorem s_X3_parseShade_b13 {e1 : Nat} {r1 : Int32} {T1 : AT} : ∀ (T : AT) (s0 : Int32) (s1 : Nat) (l0 : Nat) (l1 : Nat), g_X3_parseShade_b13 T s0 s1 l0 l1 = some (e1, r1, T1) → SP T T1 := by
  intro T s0 s1 l0 l1 h
  have p0 := SP.rf T
  unfold g_X3_parseShade_b13 at h
  obtain ⟨g2, h⟩ := oif_some h
  rcases othr_s h with ⟨k9, r9, e9, -⟩ | ⟨r4, T3, eT3, h⟩
  · exact SP.tr p0 (s_X3_startLine e9)
  have p1 : SP T T3 := SP.tr p0 (s_X3_startLine eT3)
  obtain ⟨g5, h⟩ := oif_some h
  rcases othr_s h with ⟨k9, r9, e9, -⟩ | ⟨r7, T6, eT6, h⟩
  · exact SP.tr p1 (s_X3_number e9)
  have p2 : SP T T6 := SP.tr p1 (s_X3_number eT6)
  obtain ⟨g8, h⟩ := oif_some h
  obtain ⟨T9, eT9, h⟩ := obind_some h
  have p3 : SP T T9 := SP.tr p2 (s_X6_addShade eT9)
  exact SP.tr p3 (s_X3_parseShade_b30 _ _ _ _ _ h)
set_option maxHeartbeats 4000000 in
set_option maxRecDepth 100000 in
theorem s_X3_parseShade {T : AT} {o : Nat} {a0 : Nat} {e1 : Nat} {r1 : Int32} {T1 : AT} (h : g_X3_parseShade T o a0 = some (e1, r1, T1)) : SP T T1 := by
  have p0 := SP.rf T
  unfold g_X3_parseShade at h
  obtain ⟨g2, h⟩ := oif_some h
  obtain ⟨v3, -, h⟩ := elet_some h
  rcases oif_or h with ⟨c4, h⟩ | ⟨c4, h⟩
  · have h := h
    exact SP.tr p0 (s_X3_parseShade_b13 _ _ _ _ _ h)
  · have h := h
    exact SP.tr p0 (s_X3_parseShade_b13 _ _ _ _ _ h)
set_option maxHeartbeats 4000000 in
set_option maxRecDepth 100000 in
theorem x_X3_parseShade_b73 {p : Program} {l : Launch} {e : Env} {s : State} {m : MethodId} {args : Array Value} {below : List Frame} {meth : Method} {c : Code} {Qc : Array Value → State → Outcome → State → Prop} {XC : String → State → State → Prop} {D : va_G} {A : Nat → Prop} {cI cJ cZ cMic cSrc cSt cAI cAJ : ClassId} {ad : Nat → Nat} {e1 : Nat} {r1 : Int32} {T1 : AT} (E : cE p c cX3_parseShade s m args (Cond.code yX3_parseShade cX3_parseShade 3 none :: wsA) D RX3 (CT cI cJ cZ cMic cSrc cSt cAI cAJ)) (hA : ∀ q : Nat, s.heap.size ≤ q → A q) (hX : xT A s) (hN : nX s) (hml : c.maxLocals = 3) (hz9 : True) (hst : l.stackTraces = false) (htab : ∀ x ∈ c.exceptionTable.toList, False) (hlocks : meth.locks = false) (kx : ∀ (H : Heap) (locs : List Loc) (t : State), gC cI cJ cZ cMic cSrc cSt cAI cAJ D ad A s.heap H locs T1 → s.vm.Alike t.vm → H.size ≤ t.heap.size → (∀ q, q < H.size → t.heap[q]? = H[q]?) → XC (exn e1) s t) : ∀ (T : AT) (H : Heap) (locs : List Loc) (ls : Array Slot), g_X3_parseShade_b73 T = some (e1 + 1, r1, T1) → gC cI cJ cZ cMic cSrc cSt cAI cAJ D ad A s.heap H locs T → lv_has ls 3 [] → W p l e { frames := 8, cells := 1, slots := 6, locals := 126 } s m args below meth c H locs 0 0 (vx_MQ below Qc XC args s 1 6 A) (F0 m 73 ls []) := by
  have hx := E.1
  have hb := E.2.1
  have hts := E.2.2.1
  have hown := E.2.2.2.1
  have hK := E.2.2.2.2
  intro T H locs ls h G hl
  unfold g_X3_parseShade_b73 at h
  exact (Nat.succ_ne_zero _ (congrArg Prod.fst (Option.some.inj h)).symm).elim
set_option maxHeartbeats 4000000 in
set_option maxRecDepth 100000 in
theorem x_X3_parseShade_b56 {p : Program} {l : Launch} {e : Env} {s : State} {m : MethodId} {args : Array Value} {below : List Frame} {meth : Method} {c : Code} {Qc : Array Value → State → Outcome → State → Prop} {XC : String → State → State → Prop} {D : va_G} {A : Nat → Prop} {cI cJ cZ cMic cSrc cSt cAI cAJ : ClassId} {ad : Nat → Nat} {e1 : Nat} {r1 : Int32} {T1 : AT} (E : cE p c cX3_parseShade s m args (Cond.code yX3_parseShade cX3_parseShade 3 none :: wsA) D RX3 (CT cI cJ cZ cMic cSrc cSt cAI cAJ)) (hA : ∀ q : Nat, s.heap.size ≤ q → A q) (hX : xT A s) (hN : nX s) (hml : c.maxLocals = 3) (hz9 : True) (hst : l.stackTraces = false) (htab : ∀ x ∈ c.exceptionTable.toList, False) (hlocks : meth.locks = false) (kx : ∀ (H : Heap) (locs : List Loc) (t : State), gC cI cJ cZ cMic cSrc cSt cAI cAJ D ad A s.heap H locs T1 → s.vm.Alike t.vm → H.size ≤ t.heap.size → (∀ q, q < H.size → t.heap[q]? = H[q]?) → XC (exn e1) s t) {k30 : AT → Nat → Nat → Int32 → Option (Nat × Int32 × AT)} (hk30 : ∀ (T : AT) (H : Heap) (locs : List Loc) (ls : Array Slot) (l0 : Nat) (l1 : Nat) (l2 : Int32), k30 T l0 l1 l2 = some (e1 + 1, r1, T1) → gC cI cJ cZ cMic cSrc cSt cAI cAJ D ad A s.heap H locs T → lv_has ls 3 [(0, .ref (ad l0)), (1, .ref (ad l1)), (2, .int l2)] → W p l e { frames := 8, cells := 1, slots := 6, locals := 126 } s m args below meth c H locs 0 0 (vx_MQ below Qc XC args s 1 6 A) (F0 m 30 ls [])) : ∀ (T : AT) (H : Heap) (locs : List Loc) (ls : Array Slot) (l0 : Nat) (l1 : Nat) (l2 : Int32), g_X3_parseShade_b56 k30 T l0 l1 l2 = some (e1 + 1, r1, T1) → gC cI cJ cZ cMic cSrc cSt cAI cAJ D ad A s.heap H locs T → lv_has ls 3 [(0, .ref (ad l0)), (1, .ref (ad l1)), (2, .int l2)] → W p l e { frames := 8, cells := 1, slots := 6, locals := 126 } s m args below meth c H locs 0 0 (vx_MQ below Qc XC args s 1 6 A) (F0 m 56 ls []) := by
  have hx := E.1
  have hb := E.2.1
  have hts := E.2.2.1
  have hown := E.2.2.2.1
  have hK := E.2.2.2.2
  intro T H locs ls l0 l1 l2 h G hl
  unfold g_X3_parseShade_b56 at h
  refine lv_aload_n hx hb dX3_parseShade_56 rfl (lv_at hl 1 rfl) ?_
  refine lv_aload_n hx hb dX3_parseShade_57 rfl (lv_at hl 0 rfl) ?_
  refine lv_iconst (v := 0) hx hb dX3_parseShade_58 (by decide) ?_
  refine lv_bipush (v := 9) hx hb dX3_parseShade_59 (by decide) ?_
  obtain ⟨g2, h⟩ := oif_some h
  rcases othr_t h with ⟨r0, eT3⟩ | ⟨r5, T3, eT3, h⟩
  · refine q_xvi (As := [.int 0, .int 9]) (rest := [.ref (ad l1)]) E G hA hX hN hml (x_X3_number l hst D cI cJ cZ cMic cSrc cSt cAI cAJ ad T l0 (0 : Int32) (9 : Int32) eT3) (cwV 2 hts (gaV qA_299 qA_300 qA_301 qA_222 qA_302) rfl rfl rfl (by decide +kernel) ⟨Nat.le_of_ble_eq_true rfl, Nat.le_of_ble_eq_true rfl⟩) (oO_k g2).1 (cc_o3 (oO_k g2).2) rfl rfl hl.1 rfl (lv_room (Nat.le_of_ble_eq_true rfl)) dX3_parseShade_61 ⟨Nat.le_of_ble_eq_true rfl, Nat.le_of_ble_eq_true rfl⟩ (fun E9 ce q9 T9 H locs hp G hce hcv hcl => ?_)
    obtain ⟨hE, hT⟩ := hp
    subst hE
    rw [hT] at G
    exact vx_out (fun x hx => (htab x hx).elim) hlocks hce hcv hcl (fun t ht hvm => kx _ _ _ G hvm (by rw [ht]; exact Nat.le_refl _) (fun q hq => by rw [ht])) G.2.2.2.2 (Nat.le_refl _) (Nat.le_refl _)
  refine q_cvi (As := [.int 0, .int 9]) (rest := [.ref (ad l1)]) E G hA hX hN hml (u_X3_number l hst D cI cJ cZ cMic cSrc cSt cAI cAJ ad T l0 (0 : Int32) (9 : Int32) eT3) (cwV 2 hts (gaV qA_299 qA_300 qA_301 qA_222 qA_302) rfl rfl rfl (by decide +kernel) ⟨Nat.le_of_ble_eq_true rfl, Nat.le_of_ble_eq_true rfl⟩) (oO_k g2).1 (cc_o3 (oO_k g2).2) rfl rfl hl.1 rfl (lv_room (Nat.le_of_ble_eq_true rfl)) dX3_parseShade_61 ⟨Nat.zero_le _, Nat.zero_le _⟩ (fun q6 T4 H locs hq G => ?_)
  obtain ⟨hq1, hq2⟩ := hq
  rw [hq2] at G
  refine lv_to hq1 ?_
  clear hq1 hq2 eT3
  obtain ⟨g7, h⟩ := oif_some h
  obtain ⟨T8, eT8, h⟩ := obind_some h
  refine q_cvv (As := [.int r5]) (rest := []) E G hA hX hN hml (u_X6_addShade l hst D cI cJ cZ cMic cSrc cSt cAI cAJ ad T3 l1 r5 eT8) (cwV 1 hts (gaV qA_396 qA_397 qA_398 qA_207 qA_399) rfl rfl rfl (by decide +kernel) ⟨Nat.le_of_ble_eq_true rfl, Nat.le_of_ble_eq_true rfl⟩) (oO_k g7).1 (cc_o6 (oO_k g7).2) rfl rfl hl.1 rfl (lv_room (Nat.le_of_ble_eq_true rfl)) dX3_parseShade_64 ⟨Nat.zero_le _, Nat.zero_le _⟩ (fun T9 H locs hq G => ?_)
  rw [hq] at G
  clear hq eT8
  obtain ⟨v10, ev10, h⟩ := elet_some h
  refine lv_iinc (v := v10) (lv' := [(2, .int v10), (0, .ref (ad l0)), (1, .ref (ad l1))]) hx hb dX3_parseShade_67 hl (k := 2) rfl ev10.symm (by decide) rfl (fun ls hl => ?_)
  refine lv_goto (tgt := 30) hx hb dX3_parseShade_70 (by decide) ?_
  have hl := lv_sub hl [1, 2, 0] rfl
  exact hk30 _ _ _ _ _ _ _ h G hl
set_option maxHeartbeats 4000000 in
set_option maxRecDepth 100000 in
theorem x_X3_parseShade_b30 {p : Program} {l : Launch} {e : Env} {s : State} {m : MethodId} {args : Array Value} {below : List Frame} {meth : Method} {c : Code} {Qc : Array Value → State → Outcome → State → Prop} {XC : String → State → State → Prop} {D : va_G} {A : Nat → Prop} {cI cJ cZ cMic cSrc cSt cAI cAJ : ClassId} {ad : Nat → Nat} {e1 : Nat} {r1 : Int32} {T1 : AT} (E : cE p c cX3_parseShade s m args (Cond.code yX3_parseShade cX3_parseShade 3 none :: wsA) D RX3 (CT cI cJ cZ cMic cSrc cSt cAI cAJ)) (hA : ∀ q : Nat, s.heap.size ≤ q → A q) (hX : xT A s) (hN : nX s) (hml : c.maxLocals = 3) (hz9 : True) (hst : l.stackTraces = false) (htab : ∀ x ∈ c.exceptionTable.toList, False) (hlocks : meth.locks = false) (kx : ∀ (H : Heap) (locs : List Loc) (t : State), gC cI cJ cZ cMic cSrc cSt cAI cAJ D ad A s.heap H locs T1 → s.vm.Alike t.vm → H.size ≤ t.heap.size → (∀ q, q < H.size → t.heap[q]? = H[q]?) → XC (exn e1) s t) : ∀ n : Nat, ∀ (T : AT) (H : Heap) (locs : List Loc) (ls : Array Slot) (l0 : Nat) (l1 : Nat) (l2 : Int32), g_X3_parseShade_b30 n T l0 l1 l2 = some (e1 + 1, r1, T1) → gC cI cJ cZ cMic cSrc cSt cAI cAJ D ad A s.heap H locs T → lv_has ls 3 [(0, .ref (ad l0)), (1, .ref (ad l1)), (2, .int l2)] → W p l e { frames := 8, cells := 1, slots := 6, locals := 126 } s m args below meth c H locs 0 0 (vx_MQ below Qc XC args s 1 6 A) (F0 m 30 ls []) := by
  have hx := E.1
  have hb := E.2.1
  have hts := E.2.2.1
  have hown := E.2.2.2.1
  have hK := E.2.2.2.2
  intro n
  induction n with
  | zero =>
    intro T H locs ls l0 l1 l2 h
    have h : (none : Option (Nat × Int32 × AT)) = some (e1 + 1, r1, T1) := h
    cases h
  | succ n ih =>
    intro T H locs ls l0 l1 l2 h G hl
    unfold g_X3_parseShade_b30 at h
    refine lv_iload_n hx hb dX3_parseShade_30 rfl (lv_at hl 2 rfl) ?_
    refine lv_bipush (v := 12) hx hb dX3_parseShade_31 (by decide) ?_
    refine lv_icmp_gt (tgt := 73) hx hb dX3_parseShade_33 (by decide) (fun c2 => ?_) (fun c2 => ?_)
    · have h := oif_pos c2 h
      have hl := lv_sub hl [] rfl
      exact x_X3_parseShade_b73 E hA hX hN hml trivial hst htab hlocks kx _ _ _ _ h G hl
    · have h := oif_neg c2 h
      refine lv_aload_n hx hb dX3_parseShade_36 rfl (lv_at hl 0 rfl) ?_
      obtain ⟨g3, h⟩ := oif_some h
      obtain ⟨r6, T4, eT4, h⟩ := obind2_some h
      refine q_cvi (As := []) (rest := []) E G hA hX hN hml (u_X3_kind l hst D cI cJ cZ cMic cSrc cSt cAI cAJ ad T l0 eT4) (cwV 0 hts (gaV qA_239 qA_240 qA_241 qA_222 qA_242) rfl rfl rfl (by decide +kernel) ⟨Nat.le_of_ble_eq_true rfl, Nat.le_of_ble_eq_true rfl⟩) (oO_k g3).1 (cc_o3 (oO_k g3).2) rfl rfl hl.1 rfl (lv_room (Nat.le_of_ble_eq_true rfl)) dX3_parseShade_37 ⟨Nat.zero_le _, Nat.zero_le _⟩ (fun q7 T5 H locs hq G => ?_)
      obtain ⟨hq1, hq2⟩ := hq
      rw [hq2] at G
      refine lv_to hq1 ?_
      clear hq1 hq2 eT4
      refine lv_iconst (v := 2) hx hb dX3_parseShade_40 (by decide) ?_
      refine lv_icmp_ne (tgt := 73) hx hb dX3_parseShade_41 (by decide) (fun c8 => ?_) (fun c8 => ?_)
      · have h := oif_neg c8 h
        have hl := lv_sub hl [] rfl
        exact x_X3_parseShade_b73 E hA hX hN hml trivial hst htab hlocks kx _ _ _ _ h G hl
      · have h := oif_pos c8 h
        refine lv_iload_n hx hb dX3_parseShade_44 rfl (lv_at hl 2 rfl) ?_
        refine lv_bipush (v := 12) hx hb dX3_parseShade_45 (by decide) ?_
        refine lv_icmp_ne (tgt := 56) hx hb dX3_parseShade_47 (by decide) (fun c9 => ?_) (fun c9 => ?_)
        · have h := oif_neg c9 h
          have hl := lv_sub hl [0, 1, 2] rfl
          exact x_X3_parseShade_b56 E hA hX hN hml trivial hst htab hlocks kx ih _ _ _ _ _ _ _ h G hl
        · have h := oif_pos c9 h
          refine lv_aload_n hx hb dX3_parseShade_50 rfl (lv_at hl 0 rfl) ?_
          refine lv_bipush (v := 9) hx hb dX3_parseShade_51 (by decide) ?_
          obtain ⟨g10, h⟩ := oif_some h
          rcases othr_t h with ⟨r0, eT11⟩ | ⟨r13, T11, eT11, h⟩
          · refine q_xvv (As := [.int 9]) (rest := []) E G hA hX hN hml (x_X3_failAsTooMany l hst D cI cJ cZ cMic cSrc cSt cAI cAJ ad T4 l0 (9 : Int32) eT11) (cwV 1 hts (gaV qA_376 qA_377 qA_378 qA_222 qA_379) rfl rfl rfl (by decide +kernel) ⟨Nat.le_of_ble_eq_true rfl, Nat.le_of_ble_eq_true rfl⟩) (oO_k g10).1 (cc_o3 (oO_k g10).2) rfl rfl hl.1 rfl (lv_room (Nat.le_of_ble_eq_true rfl)) dX3_parseShade_53 ⟨Nat.le_of_ble_eq_true rfl, Nat.le_of_ble_eq_true rfl⟩ (fun E9 ce q9 T9 H locs hp G hce hcv hcl => ?_)
            obtain ⟨hE, hT⟩ := hp
            subst hE
            rw [hT] at G
            exact vx_out (fun x hx => (htab x hx).elim) hlocks hce hcv hcl (fun t ht hvm => kx _ _ _ G hvm (by rw [ht]; exact Nat.le_refl _) (fun q hq => by rw [ht])) G.2.2.2.2 (Nat.le_refl _) (Nat.le_refl _)
          refine q_cvv (As := [.int 9]) (rest := []) E G hA hX hN hml (u_X3_failAsTooMany l hst D cI cJ cZ cMic cSrc cSt cAI cAJ ad T4 l0 (9 : Int32) eT11) (cwV 1 hts (gaV qA_376 qA_377 qA_378 qA_222 qA_379) rfl rfl rfl (by decide +kernel) ⟨Nat.le_of_ble_eq_true rfl, Nat.le_of_ble_eq_true rfl⟩) (oO_k g10).1 (cc_o3 (oO_k g10).2) rfl rfl hl.1 rfl (lv_room (Nat.le_of_ble_eq_true rfl)) dX3_parseShade_53 ⟨Nat.zero_le _, Nat.zero_le _⟩ (fun T12 H locs hq G => ?_)
          rw [hq] at G
          clear hq eT11
          have hl := lv_sub hl [0, 1, 2] rfl
          exact x_X3_parseShade_b56 E hA hX hN hml trivial hst htab hlocks kx ih _ _ _ _ _ _ _ h G hl
set_option maxHeartbeats 4000000 in
set_option maxRecDepth 100000 in
theorem x_X3_parseShade_b13 {p : Program} {l : Launch} {e : Env} {s : State} {m : MethodId} {args : Array Value} {below : List Frame} {meth : Method} {c : Code} {Qc : Array Value → State → Outcome → State → Prop} {XC : String → State → State → Prop} {D : va_G} {A : Nat → Prop} {cI cJ cZ cMic cSrc cSt cAI cAJ : ClassId} {ad : Nat → Nat} {e1 : Nat} {r1 : Int32} {T1 : AT} (E : cE p c cX3_parseShade s m args (Cond.code yX3_parseShade cX3_parseShade 3 none :: wsA) D RX3 (CT cI cJ cZ cMic cSrc cSt cAI cAJ)) (hA : ∀ q : Nat, s.heap.size ≤ q → A q) (hX : xT A s) (hN : nX s) (hml : c.maxLocals = 3) (hz9 : True) (hst : l.stackTraces = false) (htab : ∀ x ∈ c.exceptionTable.toList, False) (hlocks : meth.locks = false) (kx : ∀ (H : Heap) (locs : List Loc) (t : State), gC cI cJ cZ cMic cSrc cSt cAI cAJ D ad A s.heap H locs T1 → s.vm.Alike t.vm → H.size ≤ t.heap.size → (∀ q, q < H.size → t.heap[q]? = H[q]?) → XC (exn e1) s t) : ∀ (T : AT) (H : Heap) (locs : List Loc) (ls : Array Slot) (s0 : Int32) (s1 : Nat) (l0 : Nat) (l1 : Nat), g_X3_parseShade_b13 T s0 s1 l0 l1 = some (e1 + 1, r1, T1) → gC cI cJ cZ cMic cSrc cSt cAI cAJ D ad A s.heap H locs T → lv_has ls 3 [(0, .ref (ad l0)), (1, .ref (ad l1))] → W p l e { frames := 8, cells := 1, slots := 6, locals := 126 } s m args below meth c H locs 0 0 (vx_MQ below Qc XC args s 1 6 A) (F0 m 13 ls [.int s0, .ref (ad s1)]) := by
  have hx := E.1
  have hb := E.2.1
  have hts := E.2.2.1
  have hown := E.2.2.2.1
  have hK := E.2.2.2.2
  intro T H locs ls s0 s1 l0 l1 h G hl
  unfold g_X3_parseShade_b13 at h
  refine lv_iconst (v := 3) hx hb dX3_parseShade_13 (by decide) ?_
  obtain ⟨g2, h⟩ := oif_some h
  rcases othr_t h with ⟨r0, eT3⟩ | ⟨r5, T3, eT3, h⟩
  · refine q_xvv (As := [.int s0, .int 3]) (rest := []) E G hA hX hN hml (x_X3_startLine l hst D cI cJ cZ cMic cSrc cSt cAI cAJ ad T s1 s0 (3 : Int32) eT3) (cwV 2 hts (gaV qA_321 qA_322 qA_323 qA_222 qA_324) rfl rfl rfl (by decide +kernel) ⟨Nat.le_of_ble_eq_true rfl, Nat.le_of_ble_eq_true rfl⟩) (oO_k g2).1 (cc_o3 (oO_k g2).2) rfl rfl hl.1 rfl (lv_room (Nat.le_of_ble_eq_true rfl)) dX3_parseShade_14 ⟨Nat.le_of_ble_eq_true rfl, Nat.le_of_ble_eq_true rfl⟩ (fun E9 ce q9 T9 H locs hp G hce hcv hcl => ?_)
    obtain ⟨hE, hT⟩ := hp
    subst hE
    rw [hT] at G
    exact vx_out (fun x hx => (htab x hx).elim) hlocks hce hcv hcl (fun t ht hvm => kx _ _ _ G hvm (by rw [ht]; exact Nat.le_refl _) (fun q hq => by rw [ht])) G.2.2.2.2 (Nat.le_refl _) (Nat.le_refl _)
  refine q_cvv (As := [.int s0, .int 3]) (rest := []) E G hA hX hN hml (u_X3_startLine l hst D cI cJ cZ cMic cSrc cSt cAI cAJ ad T s1 s0 (3 : Int32) eT3) (cwV 2 hts (gaV qA_321 qA_322 qA_323 qA_222 qA_324) rfl rfl rfl (by decide +kernel) ⟨Nat.le_of_ble_eq_true rfl, Nat.le_of_ble_eq_true rfl⟩) (oO_k g2).1 (cc_o3 (oO_k g2).2) rfl rfl hl.1 rfl (lv_room (Nat.le_of_ble_eq_true rfl)) dX3_parseShade_14 ⟨Nat.zero_le _, Nat.zero_le _⟩ (fun T4 H locs hq G => ?_)
  rw [hq] at G
  clear hq eT3
  refine lv_aload_n hx hb dX3_parseShade_17 rfl (lv_at hl 1 rfl) ?_
  refine lv_aload_n hx hb dX3_parseShade_18 rfl (lv_at hl 0 rfl) ?_
  refine lv_iconst (v := 0) hx hb dX3_parseShade_19 (by decide) ?_
  refine lv_bipush (v := 9) hx hb dX3_parseShade_20 (by decide) ?_
  obtain ⟨g7, h⟩ := oif_some h
  rcases othr_t h with ⟨r0, eT8⟩ | ⟨r10, T8, eT8, h⟩
  · refine q_xvi (As := [.int 0, .int 9]) (rest := [.ref (ad l1)]) E G hA hX hN hml (x_X3_number l hst D cI cJ cZ cMic cSrc cSt cAI cAJ ad T3 l0 (0 : Int32) (9 : Int32) eT8) (cwV 2 hts (gaV qA_299 qA_300 qA_301 qA_222 qA_302) rfl rfl rfl (by decide +kernel) ⟨Nat.le_of_ble_eq_true rfl, Nat.le_of_ble_eq_true rfl⟩) (oO_k g7).1 (cc_o3 (oO_k g7).2) rfl rfl hl.1 rfl (lv_room (Nat.le_of_ble_eq_true rfl)) dX3_parseShade_22 ⟨Nat.le_of_ble_eq_true rfl, Nat.le_of_ble_eq_true rfl⟩ (fun E9 ce q9 T9 H locs hp G hce hcv hcl => ?_)
    obtain ⟨hE, hT⟩ := hp
    subst hE
    rw [hT] at G
    exact vx_out (fun x hx => (htab x hx).elim) hlocks hce hcv hcl (fun t ht hvm => kx _ _ _ G hvm (by rw [ht]; exact Nat.le_refl _) (fun q hq => by rw [ht])) G.2.2.2.2 (Nat.le_refl _) (Nat.le_refl _)
  refine q_cvi (As := [.int 0, .int 9]) (rest := [.ref (ad l1)]) E G hA hX hN hml (u_X3_number l hst D cI cJ cZ cMic cSrc cSt cAI cAJ ad T3 l0 (0 : Int32) (9 : Int32) eT8) (cwV 2 hts (gaV qA_299 qA_300 qA_301 qA_222 qA_302) rfl rfl rfl (by decide +kernel) ⟨Nat.le_of_ble_eq_true rfl, Nat.le_of_ble_eq_true rfl⟩) (oO_k g7).1 (cc_o3 (oO_k g7).2) rfl rfl hl.1 rfl (lv_room (Nat.le_of_ble_eq_true rfl)) dX3_parseShade_22 ⟨Nat.zero_le _, Nat.zero_le _⟩ (fun q11 T9 H locs hq G => ?_)
  obtain ⟨hq1, hq2⟩ := hq
  rw [hq2] at G
  refine lv_to hq1 ?_
  clear hq1 hq2 eT8
  obtain ⟨g12, h⟩ := oif_some h
  obtain ⟨T13, eT13, h⟩ := obind_some h
  refine q_cvv (As := [.int r10]) (rest := []) E G hA hX hN hml (u_X6_addShade l hst D cI cJ cZ cMic cSrc cSt cAI cAJ ad T8 l1 r10 eT13) (cwV 1 hts (gaV qA_396 qA_397 qA_398 qA_207 qA_399) rfl rfl rfl (by decide +kernel) ⟨Nat.le_of_ble_eq_true rfl, Nat.le_of_ble_eq_true rfl⟩) (oO_k g12).1 (cc_o6 (oO_k g12).2) rfl rfl hl.1 rfl (lv_room (Nat.le_of_ble_eq_true rfl)) dX3_parseShade_25 ⟨Nat.zero_le _, Nat.zero_le _⟩ (fun T14 H locs hq G => ?_)
  rw [hq] at G
  clear hq eT13
  refine lv_iconst (v := 1) hx hb dX3_parseShade_28 (by decide) ?_
  refine lv_istore_n (lv' := [(2, .int 1), (0, .ref (ad l0)), (1, .ref (ad l1))]) hx hb dX3_parseShade_29 rfl hl (by decide) rfl (fun ls hl => ?_)
  have hl := lv_sub hl [1, 2, 0] rfl
  exact x_X3_parseShade_b30 E hA hX hN hml trivial hst htab hlocks kx _ _ _ _ _ _ _ _ h G hl
set_option maxHeartbeats 4000000 in
set_option maxRecDepth 100000 in
theorem x_X3_parseShade (l : Launch) (hst : l.stackTraces = false) (D : va_G) (cI cJ cZ cMic cSrc cSt cAI cAJ : ClassId) (ad : Nat → Nat) (T : AT) (o : Nat) (a0 : Nat) {e1 : Nat} {r1 : Int32} {T1 : AT} (h : g_X3_parseShade T o a0 = some (e1 + 1, r1, T1)) : kXv l yX3_parseShade (Cond.code yX3_parseShade cX3_parseShade 3 none :: wsA) 8 126 cI cJ cZ cMic cSrc cSt cAI cAJ D ad T [.ref (ad o), .ref (ad a0)] e1 T1 := by
  intro sz
  refine pro_inX (cc := cX3_parseShade) (maxL := 3) (ret := none) (by exact pn_RX3) rfl (by exact Nat.le_of_ble_eq_true rfl) (fun p e s m below meth c ls hx hb hr hts hown hlocks htab hml hv hl => ?_)
  obtain ⟨hsz, hP, hK, hD0, hX, hN⟩ := hv
  subst hsz
  have hD := hD0.self (sz := s.heap.size)
  generalize hAe : va_A (cW ad T.1 (cc cI cJ cZ cMic cSrc cSt cAI cAJ ad T)) s.heap.size = A at hD hX ⊢
  have hA : ∀ q : Nat, s.heap.size ≤ q → A q := fun q h => by rw [← hAe]; exact Or.inr h
  have G : gC cI cJ cZ cMic cSrc cSt cAI cAJ D ad A s.heap s.heap [] T := ⟨hP, hD, va_S.rf⟩
  have E : cE p c cX3_parseShade s m ([.ref (ad o), .ref (ad a0)] : List Value).toArray (Cond.code yX3_parseShade cX3_parseShade 3 none :: wsA) D RX3 (CT cI cJ cZ cMic cSrc cSt cAI cAJ) := ⟨hx, hb, hts, hown, hK⟩
  have htab : ∀ x ∈ c.exceptionTable.toList, False := fun x hx => htab x hx
  have hl : lv_has ls 3 [(0, .ref (ad o)), (1, .ref (ad a0))] := hl
  unfold g_X3_parseShade at h
  refine lv_aload_n hx hb dX3_parseShade_0 rfl (lv_at hl 0 rfl) ?_
  refine lv_aload_n hx hb dX3_parseShade_1 rfl (lv_at hl 1 rfl) ?_
  obtain ⟨g2, h⟩ := oif_some h
  refine c_get E G a0 16 (oO_k g2).1 (cc_o6 (oO_k g2).2) rfl (fun w h => .tail _ (iA_14 h)) (by decide) (.tail _ qA_395) rfl rfl dX3_parseShade_2 ?_
  refine lv_topi (fun v3 ev3 => ?_)
  have h := elet_at ev3 h
  clear ev3
  refine lv_if_le (tgt := 12) hx hb dX3_parseShade_5 (by decide) (fun c4 => ?_) (fun c4 => ?_)
  · have h := oif_pos c4 h
    refine lv_iconst (v := 0) hx hb dX3_parseShade_12 (by decide) ?_
    have hl := lv_sub hl [0, 1] rfl
    exact x_X3_parseShade_b13 E hA hX hN hml trivial hst htab hlocks (fun H locs t G hvm h1 h2 => ⟨T1, trivial, ⟨⟨rfl, rfl⟩, (c_thrown G hK hvm h1 h2).1⟩, (c_thrown G hK hvm h1 h2).2⟩) _ _ _ _ _ _ _ _ h G hl
  · have h := oif_neg c4 h
    refine lv_iconst (v := 1) hx hb dX3_parseShade_8 (by decide) ?_
    refine lv_goto (tgt := 13) hx hb dX3_parseShade_9 (by decide) ?_
    have hl := lv_sub hl [0, 1] rfl
    exact x_X3_parseShade_b13 E hA hX hN hml trivial hst htab hlocks (fun H locs t G hvm h1 h2 => ⟨T1, trivial, ⟨⟨rfl, rfl⟩, (c_thrown G hK hvm h1 h2).1⟩, (c_thrown G hK hvm h1 h2).2⟩) _ _ _ _ _ _ _ _ h G hl
def g_X3_parseZone_b14  (T : AT) (s0 : Int32) (s1 : Nat) (l0 : Nat) (l1 : Nat) : Option (Nat × Int32 × AT) := oif (oO T s1 3 = true) <| othr (g_X3_startLine T s1 s0 (4 : Int32)) 0 fun r5 T3 => oif (oO T3 l1 1 = true) <| obind (T3.2.2.2.2 l1 6) fun n8 => oif (oO T3 l1 1 = true) <| elet (T3.2.2.1 l1 7) fun v10 => oif (aA T3 n8 106 = true) <| oif (inb v10 (T3.2.1 n8).2 = true) <| obind (T3.2.2.2.2 n8 v10.toNatClampNeg) fun n13 => oif (oO T3 l1 1 = true) <| elet (T3.2.2.1 l1 3) fun v15 => elet (v15 - 1) fun v16 => oif (oO T3 l0 3 = true) <| othr (g_X3_number T3 l0 (0 : Int32) v16) 0 fun r20 T18 => oif (aA T18 n13 100 = true) <| oif (inb 0 (T18.2.1 n13).2 = true) <| elet (uI T18 n13 (0 : Int32).toNatClampNeg r20) fun T24 => oif (oO T24 l1 1 = true) <| elet (T24.2.2.1 l1 4) fun v26 => elet (v26 - 1) fun v27 => oif (oO T24 l0 3 = true) <| othr (g_X3_number T24 l0 (0 : Int32) v27) 0 fun r31 T29 => oif (aA T29 n13 100 = true) <| oif (inb 1 (T29.2.1 n13).2 = true) <| elet (uI T29 n13 (1 : Int32).toNatClampNeg r31) fun T35 => oif (aA T35 n13 100 = true) <| oif (inb 0 (T35.2.1 n13).2 = true) <| elet (T35.2.2.1 n13 (0 : Int32).toNatClampNeg) fun v38 => oif (oO T35 l1 1 = true) <| elet (T35.2.2.1 l1 3) fun v40 => elet (v40 - 1) fun v41 => oif (oO T35 l0 3 = true) <| othr (g_X3_number T35 l0 v38 v41) 0 fun r45 T43 => oif (aA T43 n13 100 = true) <| oif (inb 2 (T43.2.1 n13).2 = true) <| elet (uI T43 n13 (2 : Int32).toNatClampNeg r45) fun T49 => oif (aA T49 n13 100 = true) <| oif (inb 1 (T49.2.1 n13).2 = true) <| elet (T49.2.2.1 n13 (1 : Int32).toNatClampNeg) fun v52 => oif (oO T49 l1 1 = true) <| elet (T49.2.2.1 l1 4) fun v54 => elet (v54 - 1) fun v55 => oif (oO T49 l0 3 = true) <| othr (g_X3_number T49 l0 v52 v55) 0 fun r59 T57 => oif (aA T57 n13 100 = true) <| oif (inb 3 (T57.2.1 n13).2 = true) <| elet (uI T57 n13 (3 : Int32).toNatClampNeg r59) fun T63 => oif (oO T63 l1 1 = true) <| elet (T63.2.2.1 l1 7) fun v65 => elet (v65 + 1) fun v66 => oif (oO T63 l1 1 = true) <| elet (uI T63 l1 7 v66) fun T68 => some (0, 0, T68)
set_option maxHeartbeats 4000000 in
set_option maxRecDepth 100000 in
theorem u_X3_parseZone_b14 {p : Program} {l : Launch} {e : Env} {s : State} {m : MethodId} {args : Array Value} {below : List Frame} {meth : Method} {c : Code} {Q : State → Prop} {D : va_G} {A : Nat → Prop} {cI cJ cZ cMic cSrc cSt cAI cAJ : ClassId} {ad : Nat → Nat} {r1 : Int32} {T1 : AT} (E : cE p c cX3_parseZone s m args (Cond.code yX3_parseZone cX3_parseZone 3 none :: wsA) D RX3 (CT cI cJ cZ cMic cSrc cSt cAI cAJ)) (hA : ∀ q : Nat, s.heap.size ≤ q → A q) (hX : xT A s) (hN : nX s) (hml : c.maxLocals = 3) (hst : l.stackTraces = false) (kr98 : ∀ (H : Heap) (locs : List Loc) (ls : Array Slot), gC cI cJ cZ cMic cSrc cSt cAI cAJ D ad A s.heap H locs T1 → W p l e { frames := 8, cells := 0, slots := 0, locals := 126 } s m args below meth c H locs 0 0 Q (F0 m 98 ls [])) : ∀ (T : AT) (H : Heap) (locs : List Loc) (ls : Array Slot) (s0 : Int32) (s1 : Nat) (l0 : Nat) (l1 : Nat), g_X3_parseZone_b14 T s0 s1 l0 l1 = some (0, r1, T1) → gC cI cJ cZ cMic cSrc cSt cAI cAJ D ad A s.heap H locs T → lv_has ls 3 [(0, .ref (ad l0)), (1, .ref (ad l1))] → W p l e { frames := 8, cells := 0, slots := 0, locals := 126 } s m args below meth c H locs 0 0 Q (F0 m 14 ls [.int s0, .ref (ad s1)]) := by
  have hx := E.1
  have hb := E.2.1
  have hts := E.2.2.1
  have hown := E.2.2.2.1
  have hK := E.2.2.2.2
  intro T H locs ls s0 s1 l0 l1 h G hl
  unfold g_X3_parseZone_b14 at h
  refine lv_iconst (v := 4) hx hb dX3_parseZone_14 (by decide) ?_
  obtain ⟨g2, h⟩ := oif_some h
  obtain ⟨r5, T3, eT3, h⟩ := othr_n h
  refine q_cvv (As := [.int s0, .int 4]) (rest := []) E G hA hX hN hml (u_X3_startLine l hst D cI cJ cZ cMic cSrc cSt cAI cAJ ad T s1 s0 (4 : Int32) eT3) (cwV 2 hts (gaV qA_321 qA_322 qA_323 qA_222 qA_324) rfl rfl rfl (by decide +kernel) ⟨Nat.le_of_ble_eq_true rfl, Nat.le_of_ble_eq_true rfl⟩) (oO_k g2).1 (cc_o3 (oO_k g2).2) rfl rfl hl.1 rfl (lv_room (Nat.le_of_ble_eq_true rfl)) dX3_parseZone_15 ⟨Nat.zero_le _, Nat.zero_le _⟩ (fun T4 H locs hq G => ?_)
  rw [hq] at G
  clear hq eT3
  refine lv_aload_n hx hb dX3_parseZone_18 rfl (lv_at hl 1 rfl) ?_
  obtain ⟨g7, h⟩ := oif_some h
  obtain ⟨n8, en8, h⟩ := obind_some h
  refine c_get E G l1 6 (v := .ref (ad n8)) (oO_k g7).1 (cc_o1 (oO_k g7).2) rfl (fun w h => .tail _ (iA_15 h)) (by decide) (.tail _ qA_389) rfl (by rw [en8]; rfl) dX3_parseZone_19 ?_
  clear en8
  refine lv_aload_n hx hb dX3_parseZone_22 rfl (lv_at hl 1 rfl) ?_
  obtain ⟨g9, h⟩ := oif_some h
  refine c_get E G l1 7 (oO_k g9).1 (cc_o1 (oO_k g9).2) rfl (fun w h => .tail _ (iA_15 h)) (by decide) (.tail _ qA_388) rfl rfl dX3_parseZone_23 ?_
  refine lv_topi (fun v10 ev10 => ?_)
  have h := elet_at ev10 h
  clear ev10
  obtain ⟨g11, h⟩ := oif_some h
  obtain ⟨g12, h⟩ := oif_some h
  obtain ⟨n13, en13, h⟩ := obind_some h
  refine c_alda E G n8 6 (k := v10.toNatClampNeg) (v := .ref (ad n13)) (aA_k g11).1 (cc_a106 (aA_k g11).2.1) rfl (inb_k g12).1 (inb_k g12).2 (aA_k g11).2.2 (by show va_rf ((T3.2.2.2.2 n8 v10.toNatClampNeg).map ad) = _; rw [en13]; rfl) dX3_parseZone_26 ?_
  clear en13
  refine lv_astore_n (lv' := [(2, .ref (ad n13)), (0, .ref (ad l0)), (1, .ref (ad l1))]) hx hb dX3_parseZone_27 rfl hl (by decide) rfl (fun ls hl => ?_)
  refine lv_aload_n hx hb dX3_parseZone_28 rfl (lv_at hl 0 rfl) ?_
  refine lv_iconst (v := 0) hx hb dX3_parseZone_29 (by decide) ?_
  refine lv_aload_n hx hb dX3_parseZone_30 rfl (lv_at hl 1 rfl) ?_
  refine lv_iconst (v := 0) hx hb dX3_parseZone_31 (by decide) ?_
  refine lv_aload_n hx hb dX3_parseZone_32 rfl (lv_at hl 2 rfl) ?_
  obtain ⟨g14, h⟩ := oif_some h
  refine c_get E G l1 3 (oO_k g14).1 (cc_o1 (oO_k g14).2) rfl (fun w h => .tail _ (iA_15 h)) (by decide) (.tail _ qA_180) rfl rfl dX3_parseZone_33 ?_
  refine lv_topi (fun v15 ev15 => ?_)
  have h := elet_at ev15 h
  clear ev15
  refine lv_iconst (v := 1) hx hb dX3_parseZone_36 (by decide) ?_
  refine lv_isub hx hb dX3_parseZone_37 ?_
  refine lv_topi (fun v16 ev16 => ?_)
  have h := elet_at ev16 h
  clear ev16
  obtain ⟨g17, h⟩ := oif_some h
  obtain ⟨r20, T18, eT18, h⟩ := othr_n h
  refine q_cvi (As := [.int 0, .int v16]) (rest := [.int 0, .ref (ad n13)]) E G hA hX hN hml (u_X3_number l hst D cI cJ cZ cMic cSrc cSt cAI cAJ ad T3 l0 (0 : Int32) v16 eT18) (cwV 2 hts (gaV qA_299 qA_300 qA_301 qA_222 qA_302) rfl rfl rfl (by decide +kernel) ⟨Nat.le_of_ble_eq_true rfl, Nat.le_of_ble_eq_true rfl⟩) (oO_k g17).1 (cc_o3 (oO_k g17).2) rfl rfl hl.1 rfl (lv_room (Nat.le_of_ble_eq_true rfl)) dX3_parseZone_38 ⟨Nat.zero_le _, Nat.zero_le _⟩ (fun q21 T19 H locs hq G => ?_)
  obtain ⟨hq1, hq2⟩ := hq
  rw [hq2] at G
  refine lv_to hq1 ?_
  clear hq1 hq2 eT18
  obtain ⟨g22, h⟩ := oif_some h
  obtain ⟨g23, h⟩ := oif_some h
  refine c_iast E G n13 0 (k := (0 : Int32).toNatClampNeg) (v := r20) (aA_k g22).1 (cc_a100 (aA_k g22).2.1) rfl (inb_k g23).1 (inb_k g23).2 (aA_k g22).2.2 dX3_parseZone_41 (fun H locs G => ?_)
  have G := gC_up_i (f := upd (T18.2.2.1 n13) (0 : Int32).toNatClampNeg r20) (ccv_100 (aA_k g22).2.1) G
  obtain ⟨T24, eT24, h⟩ := elet_some h
  have G : gC cI cJ cZ cMic cSrc cSt cAI cAJ D ad A s.heap H locs T24 := by rw [eT24]; exact G
  clear eT24
  refine lv_aload_n hx hb dX3_parseZone_42 rfl (lv_at hl 0 rfl) ?_
  refine lv_iconst (v := 1) hx hb dX3_parseZone_43 (by decide) ?_
  refine lv_aload_n hx hb dX3_parseZone_44 rfl (lv_at hl 1 rfl) ?_
  refine lv_iconst (v := 0) hx hb dX3_parseZone_45 (by decide) ?_
  refine lv_aload_n hx hb dX3_parseZone_46 rfl (lv_at hl 2 rfl) ?_
  obtain ⟨g25, h⟩ := oif_some h
  refine c_get E G l1 4 (oO_k g25).1 (cc_o1 (oO_k g25).2) rfl (fun w h => .tail _ (iA_15 h)) (by decide) (.tail _ qA_390) rfl rfl dX3_parseZone_47 ?_
  refine lv_topi (fun v26 ev26 => ?_)
  have h := elet_at ev26 h
  clear ev26
  refine lv_iconst (v := 1) hx hb dX3_parseZone_50 (by decide) ?_
  refine lv_isub hx hb dX3_parseZone_51 ?_
  refine lv_topi (fun v27 ev27 => ?_)
  have h := elet_at ev27 h
  clear ev27
  obtain ⟨g28, h⟩ := oif_some h
  obtain ⟨r31, T29, eT29, h⟩ := othr_n h
  refine q_cvi (As := [.int 0, .int v27]) (rest := [.int 1, .ref (ad n13)]) E G hA hX hN hml (u_X3_number l hst D cI cJ cZ cMic cSrc cSt cAI cAJ ad T24 l0 (0 : Int32) v27 eT29) (cwV 2 hts (gaV qA_299 qA_300 qA_301 qA_222 qA_302) rfl rfl rfl (by decide +kernel) ⟨Nat.le_of_ble_eq_true rfl, Nat.le_of_ble_eq_true rfl⟩) (oO_k g28).1 (cc_o3 (oO_k g28).2) rfl rfl hl.1 rfl (lv_room (Nat.le_of_ble_eq_true rfl)) dX3_parseZone_52 ⟨Nat.zero_le _, Nat.zero_le _⟩ (fun q32 T30 H locs hq G => ?_)
  obtain ⟨hq1, hq2⟩ := hq
  rw [hq2] at G
  refine lv_to hq1 ?_
  clear hq1 hq2 eT29
  obtain ⟨g33, h⟩ := oif_some h
  obtain ⟨g34, h⟩ := oif_some h
  refine c_iast E G n13 0 (k := (1 : Int32).toNatClampNeg) (v := r31) (aA_k g33).1 (cc_a100 (aA_k g33).2.1) rfl (inb_k g34).1 (inb_k g34).2 (aA_k g33).2.2 dX3_parseZone_55 (fun H locs G => ?_)
  have G := gC_up_i (f := upd (T29.2.2.1 n13) (1 : Int32).toNatClampNeg r31) (ccv_100 (aA_k g33).2.1) G
  obtain ⟨T35, eT35, h⟩ := elet_some h
  have G : gC cI cJ cZ cMic cSrc cSt cAI cAJ D ad A s.heap H locs T35 := by rw [eT35]; exact G
  clear eT35
  refine lv_aload_n hx hb dX3_parseZone_56 rfl (lv_at hl 0 rfl) ?_
  refine lv_iconst (v := 2) hx hb dX3_parseZone_57 (by decide) ?_
  refine lv_aload_n hx hb dX3_parseZone_58 rfl (lv_at hl 1 rfl) ?_
  refine lv_aload_n hx hb dX3_parseZone_59 rfl (lv_at hl 0 rfl) ?_
  refine lv_iconst (v := 0) hx hb dX3_parseZone_60 (by decide) ?_
  obtain ⟨g36, h⟩ := oif_some h
  obtain ⟨g37, h⟩ := oif_some h
  refine c_iald E G n13 0 (k := (0 : Int32).toNatClampNeg) (aA_k g36).1 (cc_a100 (aA_k g36).2.1) rfl (inb_k g37).1 (inb_k g37).2 (aA_k g36).2.2 dX3_parseZone_61 ?_
  refine lv_topi (fun v38 ev38 => ?_)
  have h := elet_at ev38 h
  clear ev38
  refine lv_aload_n hx hb dX3_parseZone_62 rfl (lv_at hl 2 rfl) ?_
  obtain ⟨g39, h⟩ := oif_some h
  refine c_get E G l1 3 (oO_k g39).1 (cc_o1 (oO_k g39).2) rfl (fun w h => .tail _ (iA_15 h)) (by decide) (.tail _ qA_180) rfl rfl dX3_parseZone_63 ?_
  refine lv_topi (fun v40 ev40 => ?_)
  have h := elet_at ev40 h
  clear ev40
  refine lv_iconst (v := 1) hx hb dX3_parseZone_66 (by decide) ?_
  refine lv_isub hx hb dX3_parseZone_67 ?_
  refine lv_topi (fun v41 ev41 => ?_)
  have h := elet_at ev41 h
  clear ev41
  obtain ⟨g42, h⟩ := oif_some h
  obtain ⟨r45, T43, eT43, h⟩ := othr_n h
  refine q_cvi (As := [.int v38, .int v41]) (rest := [.int 2, .ref (ad n13)]) E G hA hX hN hml (u_X3_number l hst D cI cJ cZ cMic cSrc cSt cAI cAJ ad T35 l0 v38 v41 eT43) (cwV 2 hts (gaV qA_299 qA_300 qA_301 qA_222 qA_302) rfl rfl rfl (by decide +kernel) ⟨Nat.le_of_ble_eq_true rfl, Nat.le_of_ble_eq_true rfl⟩) (oO_k g42).1 (cc_o3 (oO_k g42).2) rfl rfl hl.1 rfl (lv_room (Nat.le_of_ble_eq_true rfl)) dX3_parseZone_68 ⟨Nat.zero_le _, Nat.zero_le _⟩ (fun q46 T44 H locs hq G => ?_)
  obtain ⟨hq1, hq2⟩ := hq
  rw [hq2] at G
  refine lv_to hq1 ?_
  clear hq1 hq2 eT43
  obtain ⟨g47, h⟩ := oif_some h
  obtain ⟨g48, h⟩ := oif_some h
  refine c_iast E G n13 0 (k := (2 : Int32).toNatClampNeg) (v := r45) (aA_k g47).1 (cc_a100 (aA_k g47).2.1) rfl (inb_k g48).1 (inb_k g48).2 (aA_k g47).2.2 dX3_parseZone_71 (fun H locs G => ?_)
  have G := gC_up_i (f := upd (T43.2.2.1 n13) (2 : Int32).toNatClampNeg r45) (ccv_100 (aA_k g47).2.1) G
  obtain ⟨T49, eT49, h⟩ := elet_some h
  have G : gC cI cJ cZ cMic cSrc cSt cAI cAJ D ad A s.heap H locs T49 := by rw [eT49]; exact G
  clear eT49
  refine lv_aload_n hx hb dX3_parseZone_72 rfl (lv_at hl 0 rfl) ?_
  refine lv_iconst (v := 3) hx hb dX3_parseZone_73 (by decide) ?_
  refine lv_aload_n hx hb dX3_parseZone_74 rfl (lv_at hl 1 rfl) ?_
  refine lv_aload_n hx hb dX3_parseZone_75 rfl (lv_at hl 0 rfl) ?_
  refine lv_iconst (v := 1) hx hb dX3_parseZone_76 (by decide) ?_
  obtain ⟨g50, h⟩ := oif_some h
  obtain ⟨g51, h⟩ := oif_some h
  refine c_iald E G n13 0 (k := (1 : Int32).toNatClampNeg) (aA_k g50).1 (cc_a100 (aA_k g50).2.1) rfl (inb_k g51).1 (inb_k g51).2 (aA_k g50).2.2 dX3_parseZone_77 ?_
  refine lv_topi (fun v52 ev52 => ?_)
  have h := elet_at ev52 h
  clear ev52
  refine lv_aload_n hx hb dX3_parseZone_78 rfl (lv_at hl 2 rfl) ?_
  obtain ⟨g53, h⟩ := oif_some h
  refine c_get E G l1 4 (oO_k g53).1 (cc_o1 (oO_k g53).2) rfl (fun w h => .tail _ (iA_15 h)) (by decide) (.tail _ qA_390) rfl rfl dX3_parseZone_79 ?_
  refine lv_topi (fun v54 ev54 => ?_)
  have h := elet_at ev54 h
  clear ev54
  refine lv_iconst (v := 1) hx hb dX3_parseZone_82 (by decide) ?_
  refine lv_isub hx hb dX3_parseZone_83 ?_
  refine lv_topi (fun v55 ev55 => ?_)
  have h := elet_at ev55 h
  clear ev55
  obtain ⟨g56, h⟩ := oif_some h
  obtain ⟨r59, T57, eT57, h⟩ := othr_n h
  refine q_cvi (As := [.int v52, .int v55]) (rest := [.int 3, .ref (ad n13)]) E G hA hX hN hml (u_X3_number l hst D cI cJ cZ cMic cSrc cSt cAI cAJ ad T49 l0 v52 v55 eT57) (cwV 2 hts (gaV qA_299 qA_300 qA_301 qA_222 qA_302) rfl rfl rfl (by decide +kernel) ⟨Nat.le_of_ble_eq_true rfl, Nat.le_of_ble_eq_true rfl⟩) (oO_k g56).1 (cc_o3 (oO_k g56).2) rfl rfl hl.1 rfl (lv_room (Nat.le_of_ble_eq_true rfl)) dX3_parseZone_84 ⟨Nat.zero_le _, Nat.zero_le _⟩ (fun q60 T58 H locs hq G => ?_)
  obtain ⟨hq1, hq2⟩ := hq
  rw [hq2] at G
  refine lv_to hq1 ?_
  clear hq1 hq2 eT57
  obtain ⟨g61, h⟩ := oif_some h
  obtain ⟨g62, h⟩ := oif_some h
  refine c_iast E G n13 0 (k := (3 : Int32).toNatClampNeg) (v := r59) (aA_k g61).1 (cc_a100 (aA_k g61).2.1) rfl (inb_k g62).1 (inb_k g62).2 (aA_k g61).2.2 dX3_parseZone_87 (fun H locs G => ?_)
  have G := gC_up_i (f := upd (T57.2.2.1 n13) (3 : Int32).toNatClampNeg r59) (ccv_100 (aA_k g61).2.1) G
  obtain ⟨T63, eT63, h⟩ := elet_some h
  have G : gC cI cJ cZ cMic cSrc cSt cAI cAJ D ad A s.heap H locs T63 := by rw [eT63]; exact G
  clear eT63
  refine lv_aload_n hx hb dX3_parseZone_88 rfl (lv_at hl 2 rfl) ?_
  refine lv_dup hx hb dX3_parseZone_89 rfl ?_
  obtain ⟨g64, h⟩ := oif_some h
  refine c_get E G l1 7 (oO_k g64).1 (cc_o1 (oO_k g64).2) rfl (fun w h => .tail _ (iA_15 h)) (by decide) (.tail _ qA_388) rfl rfl dX3_parseZone_90 ?_
  refine lv_topi (fun v65 ev65 => ?_)
  have h := elet_at ev65 h
  clear ev65
  refine lv_iconst (v := 1) hx hb dX3_parseZone_93 (by decide) ?_
  refine lv_iadd hx hb dX3_parseZone_94 ?_
  refine lv_topi (fun v66 ev66 => ?_)
  have h := elet_at ev66 h
  clear ev66
  obtain ⟨g67, h⟩ := oif_some h
  refine c_put E G l1 7 (v := .int v66) (oO_k g67).1 (cc_o1 (oO_k g67).2) rfl (fun w h => .tail _ (iA_15 h)) tyX1 tyX1_ok nmX1 (by decide) (.tail _ qA_388) ⟨rfl, rfl, rfl⟩ rfl rfl (Nat.le_of_ble_eq_true rfl) dX3_parseZone_95 (fun H locs G => ?_)
  have G := gC_up_i (f := upd (T63.2.2.1 l1) 7 v66) (by rw [(oO_k g67).2]; rfl) G
  obtain ⟨T68, eT68, h⟩ := elet_some h
  have G : gC cI cJ cZ cMic cSrc cSt cAI cAJ D ad A s.heap H locs T68 := by rw [eT68]; exact G
  clear eT68
  rw [(osome3 h).2.2] at G
  exact kr98 _ _ _ G
def g_X3_parseZone (T : AT) (o : Nat) (a0 : Nat) : Option (Nat × Int32 × AT) := oif (oO T a0 1 = true) <| elet (T.2.2.1 a0 7) fun v3 => if v3 < 4 then (g_X3_parseZone_b14 T 0 o o a0) else (g_X3_parseZone_b14 T 1 o o a0)
set_option maxHeartbeats 4000000 in
set_option maxRecDepth 100000 in
theorem u_X3_parseZone (l : Launch) (hst : l.stackTraces = false) (D : va_G) (cI cJ cZ cMic cSrc cSt cAI cAJ : ClassId) (ad : Nat → Nat) (T : AT) (o : Nat) (a0 : Nat) {r1 : Int32} {T1 : AT} (h : g_X3_parseZone T o a0 = some (0, r1, T1)) : kCv l yX3_parseZone (Cond.code yX3_parseZone cX3_parseZone 3 none :: wsA) 8 126 cI cJ cZ cMic cSrc cSt cAI cAJ D ad T [.ref (ad o), .ref (ad a0)] (fun T9 => T9 = T1) := by
  intro sz
  refine pro_in (cc := cX3_parseZone) (maxL := 3) (ret := none) (by exact pn_RX3) rfl (by exact Nat.le_of_ble_eq_true rfl) (fun p e s m below meth c ls hx hb hr hts hown hlocks hml hv hl => ?_)
  obtain ⟨hsz, hP, hK, hD0, hX, hN⟩ := hv
  subst hsz
  have hD := hD0.self (sz := s.heap.size)
  generalize hAe : va_A (cW ad T.1 (cc cI cJ cZ cMic cSrc cSt cAI cAJ ad T)) s.heap.size = A at hD hX ⊢
  have hA : ∀ q : Nat, s.heap.size ≤ q → A q := fun q h => by rw [← hAe]; exact Or.inr h
  have G : gC cI cJ cZ cMic cSrc cSt cAI cAJ D ad A s.heap s.heap [] T := ⟨hP, hD, va_S.rf⟩
  have E : cE p c cX3_parseZone s m ([.ref (ad o), .ref (ad a0)] : List Value).toArray (Cond.code yX3_parseZone cX3_parseZone 3 none :: wsA) D RX3 (CT cI cJ cZ cMic cSrc cSt cAI cAJ) := ⟨hx, hb, hts, hown, hK⟩
  have hl : lv_has ls 3 [(0, .ref (ad o)), (1, .ref (ad a0))] := hl
  unfold g_X3_parseZone at h
  refine lv_aload_n hx hb dX3_parseZone_0 rfl (lv_at hl 0 rfl) ?_
  refine lv_aload_n hx hb dX3_parseZone_1 rfl (lv_at hl 1 rfl) ?_
  obtain ⟨g2, h⟩ := oif_some h
  refine c_get E G a0 7 (oO_k g2).1 (cc_o1 (oO_k g2).2) rfl (fun w h => .tail _ (iA_15 h)) (by decide) (.tail _ qA_388) rfl rfl dX3_parseZone_2 ?_
  refine lv_topi (fun v3 ev3 => ?_)
  have h := elet_at ev3 h
  clear ev3
  refine lv_iconst (v := 4) hx hb dX3_parseZone_5 (by decide) ?_
  refine lv_icmp_lt (tgt := 13) hx hb dX3_parseZone_6 (by decide) (fun c4 => ?_) (fun c4 => ?_)
  · have h := oif_pos c4 h
    refine lv_iconst (v := 0) hx hb dX3_parseZone_13 (by decide) ?_
    have hl := lv_sub hl [0, 1] rfl
    exact u_X3_parseZone_b14 E hA hX hN hml hst (fun H locs ls G => W.vret hx hb hr (fun t ht hW => ⟨⟨T1, rfl, rfl, ⟨by rw [ht]; exact G.1, va_K.moved hW.alike hK, G.2.1⟩⟩, G.2.2.F ht⟩) G.2.2.2.2 dX3_parseZone_98) _ _ _ _ _ _ _ _ h G hl
  · have h := oif_neg c4 h
    refine lv_iconst (v := 1) hx hb dX3_parseZone_9 (by decide) ?_
    refine lv_goto (tgt := 14) hx hb dX3_parseZone_10 (by decide) ?_
    have hl := lv_sub hl [0, 1] rfl
    exact u_X3_parseZone_b14 E hA hX hN hml hst (fun H locs ls G => W.vret hx hb hr (fun t ht hW => ⟨⟨T1, rfl, rfl, ⟨by rw [ht]; exact G.1, va_K.moved hW.alike hK, G.2.1⟩⟩, G.2.2.F ht⟩) G.2.2.2.2 dX3_parseZone_98) _ _ _ _ _ _ _ _ h G hl
set_option maxHeartbeats 4000000 in
set_option maxRecDepth 100000 in
theorem s_X3_parseZone_b14 {e1 : Nat} {r1 : Int32} {T1 : AT} : ∀ (T : AT) (s0 : Int32) (s1 : Nat) (l0 : Nat) (l1 : Nat), g_X3_parseZone_b14 T s0 s1 l0 l1 = some (e1, r1, T1) → SP T T1 := by
  intro T s0 s1 l0 l1 h
  have p0 := SP.rf T
  unfold g_X3_parseZone_b14 at h
  obtain ⟨g2, h⟩ := oif_some h
  rcases othr_s h with ⟨k9, r9, e9, -⟩ | ⟨r4, T3, eT3, h⟩
  · exact SP.tr p0 (s_X3_startLine e9)
  have p1 : SP T T3 := SP.tr p0 (s_X3_startLine eT3)
  obtain ⟨g5, h⟩ := oif_some h
  obtain ⟨n6, en6, h⟩ := obind_some h
  obtain ⟨g7, h⟩ := oif_some h
  obtain ⟨v8, -, h⟩ := elet_some h
  obtain ⟨g9, h⟩ := oif_some h
  obtain ⟨g10, h⟩ := oif_some h
  obtain ⟨n11, en11, h⟩ := obind_some h
  obtain ⟨g12, h⟩ := oif_some h
  obtain ⟨v13, -, h⟩ := elet_some h
  obtain ⟨v14, -, h⟩ := elet_some h
  obtain ⟨g15, h⟩ := oif_some h
  rcases othr_s h with ⟨k9, r9, e9, -⟩ | ⟨r17, T16, eT16, h⟩
  · exact SP.tr p1 (s_X3_number e9)
  have p2 : SP T T16 := SP.tr p1 (s_X3_number eT16)
  obtain ⟨g18, h⟩ := oif_some h
  obtain ⟨g19, h⟩ := oif_some h
  obtain ⟨T20, eT20, h⟩ := elet_some h
  have p3 : SP T T20 := SP.tr p2 (by rw [eT20]; exact sp_uI)
  obtain ⟨g21, h⟩ := oif_some h
  obtain ⟨v22, -, h⟩ := elet_some h
  obtain ⟨v23, -, h⟩ := elet_some h
  obtain ⟨g24, h⟩ := oif_some h
  rcases othr_s h with ⟨k9, r9, e9, -⟩ | ⟨r26, T25, eT25, h⟩
  · exact SP.tr p3 (s_X3_number e9)
  have p4 : SP T T25 := SP.tr p3 (s_X3_number eT25)
  obtain ⟨g27, h⟩ := oif_some h
  obtain ⟨g28, h⟩ := oif_some h
  obtain ⟨T29, eT29, h⟩ := elet_some h
  have p5 : SP T T29 := SP.tr p4 (by rw [eT29]; exact sp_uI)
  obtain ⟨g30, h⟩ := oif_some h
  obtain ⟨g31, h⟩ := oif_some h
  obtain ⟨v32, -, h⟩ := elet_some h
  obtain ⟨g33, h⟩ := oif_some h
  obtain ⟨v34, -, h⟩ := elet_some h
  obtain ⟨v35, -, h⟩ := elet_some h
  obtain ⟨g36, h⟩ := oif_some h
  rcases othr_s h with ⟨k9, r9, e9, -⟩ | ⟨r38, T37, eT37, h⟩
  · exact SP.tr p5 (s_X3_number e9)
  have p6 : SP T T37 := SP.tr p5 (s_X3_number eT37)
  obtain ⟨g39, h⟩ := oif_some h
  obtain ⟨g40, h⟩ := oif_some h
  obtain ⟨T41, eT41, h⟩ := elet_some h
  have p7 : SP T T41 := SP.tr p6 (by rw [eT41]; exact sp_uI)
  obtain ⟨g42, h⟩ := oif_some h
  obtain ⟨g43, h⟩ := oif_some h
  obtain ⟨v44, -, h⟩ := elet_some h
  obtain ⟨g45, h⟩ := oif_some h
  obtain ⟨v46, -, h⟩ := elet_some h
  obtain ⟨v47, -, h⟩ := elet_some h
  obtain ⟨g48, h⟩ := oif_some h
  rcases othr_s h with ⟨k9, r9, e9, -⟩ | ⟨r50, T49, eT49, h⟩
  · exact SP.tr p7 (s_X3_number e9)
  have p8 : SP T T49 := SP.tr p7 (s_X3_number eT49)
  obtain ⟨g51, h⟩ := oif_some h
  obtain ⟨g52, h⟩ := oif_some h
  obtain ⟨T53, eT53, h⟩ := elet_some h
  have p9 : SP T T53 := SP.tr p8 (by rw [eT53]; exact sp_uI)
  obtain ⟨g54, h⟩ := oif_some h
  obtain ⟨v55, -, h⟩ := elet_some h
  obtain ⟨v56, -, h⟩ := elet_some h
  obtain ⟨g57, h⟩ := oif_some h
  obtain ⟨T58, eT58, h⟩ := elet_some h
  have p10 : SP T T58 := SP.tr p9 (by rw [eT58]; exact sp_uI)
  rw [← (osome3 h).2.2]
  exact p10
set_option maxHeartbeats 4000000 in
set_option maxRecDepth 100000 in
theorem s_X3_parseZone {T : AT} {o : Nat} {a0 : Nat} {e1 : Nat} {r1 : Int32} {T1 : AT} (h : g_X3_parseZone T o a0 = some (e1, r1, T1)) : SP T T1 := by
  have p0 := SP.rf T
  unfold g_X3_parseZone at h
  obtain ⟨g2, h⟩ := oif_some h
  obtain ⟨v3, -, h⟩ := elet_some h
  rcases oif_or h with ⟨c4, h⟩ | ⟨c4, h⟩
  · have h := h
    exact SP.tr p0 (s_X3_parseZone_b14 _ _ _ _ _ h)
  · have h := h
    exact SP.tr p0 (s_X3_parseZone_b14 _ _ _ _ _ h)
set_option maxHeartbeats 4000000 in
set_option maxRecDepth 100000 in
theorem x_X3_parseZone_b14 {p : Program} {l : Launch} {e : Env} {s : State} {m : MethodId} {args : Array Value} {below : List Frame} {meth : Method} {c : Code} {Qc : Array Value → State → Outcome → State → Prop} {XC : String → State → State → Prop} {D : va_G} {A : Nat → Prop} {cI cJ cZ cMic cSrc cSt cAI cAJ : ClassId} {ad : Nat → Nat} {e1 : Nat} {r1 : Int32} {T1 : AT} (E : cE p c cX3_parseZone s m args (Cond.code yX3_parseZone cX3_parseZone 3 none :: wsA) D RX3 (CT cI cJ cZ cMic cSrc cSt cAI cAJ)) (hA : ∀ q : Nat, s.heap.size ≤ q → A q) (hX : xT A s) (hN : nX s) (hml : c.maxLocals = 3) (hz9 : True) (hst : l.stackTraces = false) (htab : ∀ x ∈ c.exceptionTable.toList, False) (hlocks : meth.locks = false) (kx : ∀ (H : Heap) (locs : List Loc) (t : State), gC cI cJ cZ cMic cSrc cSt cAI cAJ D ad A s.heap H locs T1 → s.vm.Alike t.vm → H.size ≤ t.heap.size → (∀ q, q < H.size → t.heap[q]? = H[q]?) → XC (exn e1) s t) : ∀ (T : AT) (H : Heap) (locs : List Loc) (ls : Array Slot) (s0 : Int32) (s1 : Nat) (l0 : Nat) (l1 : Nat), g_X3_parseZone_b14 T s0 s1 l0 l1 = some (e1 + 1, r1, T1) → gC cI cJ cZ cMic cSrc cSt cAI cAJ D ad A s.heap H locs T → lv_has ls 3 [(0, .ref (ad l0)), (1, .ref (ad l1))] → W p l e { frames := 8, cells := 1, slots := 6, locals := 126 } s m args below meth c H locs 0 0 (vx_MQ below Qc XC args s 1 6 A) (F0 m 14 ls [.int s0, .ref (ad s1)]) := by
  have hx := E.1
  have hb := E.2.1
  have hts := E.2.2.1
  have hown := E.2.2.2.1
  have hK := E.2.2.2.2
  intro T H locs ls s0 s1 l0 l1 h G hl
  unfold g_X3_parseZone_b14 at h
  refine lv_iconst (v := 4) hx hb dX3_parseZone_14 (by decide) ?_
  obtain ⟨g2, h⟩ := oif_some h
  rcases othr_t h with ⟨r0, eT3⟩ | ⟨r5, T3, eT3, h⟩
  · refine q_xvv (As := [.int s0, .int 4]) (rest := []) E G hA hX hN hml (x_X3_startLine l hst D cI cJ cZ cMic cSrc cSt cAI cAJ ad T s1 s0 (4 : Int32) eT3) (cwV 2 hts (gaV qA_321 qA_322 qA_323 qA_222 qA_324) rfl rfl rfl (by decide +kernel) ⟨Nat.le_of_ble_eq_true rfl, Nat.le_of_ble_eq_true rfl⟩) (oO_k g2).1 (cc_o3 (oO_k g2).2) rfl rfl hl.1 rfl (lv_room (Nat.le_of_ble_eq_true rfl)) dX3_parseZone_15 ⟨Nat.le_of_ble_eq_true rfl, Nat.le_of_ble_eq_true rfl⟩ (fun E9 ce q9 T9 H locs hp G hce hcv hcl => ?_)
    obtain ⟨hE, hT⟩ := hp
    subst hE
    rw [hT] at G
    exact vx_out (fun x hx => (htab x hx).elim) hlocks hce hcv hcl (fun t ht hvm => kx _ _ _ G hvm (by rw [ht]; exact Nat.le_refl _) (fun q hq => by rw [ht])) G.2.2.2.2 (Nat.le_refl _) (Nat.le_refl _)
  refine q_cvv (As := [.int s0, .int 4]) (rest := []) E G hA hX hN hml (u_X3_startLine l hst D cI cJ cZ cMic cSrc cSt cAI cAJ ad T s1 s0 (4 : Int32) eT3) (cwV 2 hts (gaV qA_321 qA_322 qA_323 qA_222 qA_324) rfl rfl rfl (by decide +kernel) ⟨Nat.le_of_ble_eq_true rfl, Nat.le_of_ble_eq_true rfl⟩) (oO_k g2).1 (cc_o3 (oO_k g2).2) rfl rfl hl.1 rfl (lv_room (Nat.le_of_ble_eq_true rfl)) dX3_parseZone_15 ⟨Nat.zero_le _, Nat.zero_le _⟩ (fun T4 H locs hq G => ?_)
  rw [hq] at G
  clear hq eT3
  refine lv_aload_n hx hb dX3_parseZone_18 rfl (lv_at hl 1 rfl) ?_
  obtain ⟨g7, h⟩ := oif_some h
  obtain ⟨n8, en8, h⟩ := obind_some h
  refine c_get E G l1 6 (v := .ref (ad n8)) (oO_k g7).1 (cc_o1 (oO_k g7).2) rfl (fun w h => .tail _ (iA_15 h)) (by decide) (.tail _ qA_389) rfl (by rw [en8]; rfl) dX3_parseZone_19 ?_
  clear en8
  refine lv_aload_n hx hb dX3_parseZone_22 rfl (lv_at hl 1 rfl) ?_
  obtain ⟨g9, h⟩ := oif_some h
  refine c_get E G l1 7 (oO_k g9).1 (cc_o1 (oO_k g9).2) rfl (fun w h => .tail _ (iA_15 h)) (by decide) (.tail _ qA_388) rfl rfl dX3_parseZone_23 ?_
  refine lv_topi (fun v10 ev10 => ?_)
  have h := elet_at ev10 h
  clear ev10
  obtain ⟨g11, h⟩ := oif_some h
  obtain ⟨g12, h⟩ := oif_some h
  obtain ⟨n13, en13, h⟩ := obind_some h
  refine c_alda E G n8 6 (k := v10.toNatClampNeg) (v := .ref (ad n13)) (aA_k g11).1 (cc_a106 (aA_k g11).2.1) rfl (inb_k g12).1 (inb_k g12).2 (aA_k g11).2.2 (by show va_rf ((T3.2.2.2.2 n8 v10.toNatClampNeg).map ad) = _; rw [en13]; rfl) dX3_parseZone_26 ?_
  clear en13
  refine lv_astore_n (lv' := [(2, .ref (ad n13)), (0, .ref (ad l0)), (1, .ref (ad l1))]) hx hb dX3_parseZone_27 rfl hl (by decide) rfl (fun ls hl => ?_)
  refine lv_aload_n hx hb dX3_parseZone_28 rfl (lv_at hl 0 rfl) ?_
  refine lv_iconst (v := 0) hx hb dX3_parseZone_29 (by decide) ?_
  refine lv_aload_n hx hb dX3_parseZone_30 rfl (lv_at hl 1 rfl) ?_
  refine lv_iconst (v := 0) hx hb dX3_parseZone_31 (by decide) ?_
  refine lv_aload_n hx hb dX3_parseZone_32 rfl (lv_at hl 2 rfl) ?_
  obtain ⟨g14, h⟩ := oif_some h
  refine c_get E G l1 3 (oO_k g14).1 (cc_o1 (oO_k g14).2) rfl (fun w h => .tail _ (iA_15 h)) (by decide) (.tail _ qA_180) rfl rfl dX3_parseZone_33 ?_
  refine lv_topi (fun v15 ev15 => ?_)
  have h := elet_at ev15 h
  clear ev15
  refine lv_iconst (v := 1) hx hb dX3_parseZone_36 (by decide) ?_
  refine lv_isub hx hb dX3_parseZone_37 ?_
  refine lv_topi (fun v16 ev16 => ?_)
  have h := elet_at ev16 h
  clear ev16
  obtain ⟨g17, h⟩ := oif_some h
  rcases othr_t h with ⟨r0, eT18⟩ | ⟨r20, T18, eT18, h⟩
  · refine q_xvi (As := [.int 0, .int v16]) (rest := [.int 0, .ref (ad n13)]) E G hA hX hN hml (x_X3_number l hst D cI cJ cZ cMic cSrc cSt cAI cAJ ad T3 l0 (0 : Int32) v16 eT18) (cwV 2 hts (gaV qA_299 qA_300 qA_301 qA_222 qA_302) rfl rfl rfl (by decide +kernel) ⟨Nat.le_of_ble_eq_true rfl, Nat.le_of_ble_eq_true rfl⟩) (oO_k g17).1 (cc_o3 (oO_k g17).2) rfl rfl hl.1 rfl (lv_room (Nat.le_of_ble_eq_true rfl)) dX3_parseZone_38 ⟨Nat.le_of_ble_eq_true rfl, Nat.le_of_ble_eq_true rfl⟩ (fun E9 ce q9 T9 H locs hp G hce hcv hcl => ?_)
    obtain ⟨hE, hT⟩ := hp
    subst hE
    rw [hT] at G
    exact vx_out (fun x hx => (htab x hx).elim) hlocks hce hcv hcl (fun t ht hvm => kx _ _ _ G hvm (by rw [ht]; exact Nat.le_refl _) (fun q hq => by rw [ht])) G.2.2.2.2 (Nat.le_refl _) (Nat.le_refl _)
  refine q_cvi (As := [.int 0, .int v16]) (rest := [.int 0, .ref (ad n13)]) E G hA hX hN hml (u_X3_number l hst D cI cJ cZ cMic cSrc cSt cAI cAJ ad T3 l0 (0 : Int32) v16 eT18) (cwV 2 hts (gaV qA_299 qA_300 qA_301 qA_222 qA_302) rfl rfl rfl (by decide +kernel) ⟨Nat.le_of_ble_eq_true rfl, Nat.le_of_ble_eq_true rfl⟩) (oO_k g17).1 (cc_o3 (oO_k g17).2) rfl rfl hl.1 rfl (lv_room (Nat.le_of_ble_eq_true rfl)) dX3_parseZone_38 ⟨Nat.zero_le _, Nat.zero_le _⟩ (fun q21 T19 H locs hq G => ?_)
  obtain ⟨hq1, hq2⟩ := hq
  rw [hq2] at G
  refine lv_to hq1 ?_
  clear hq1 hq2 eT18
  obtain ⟨g22, h⟩ := oif_some h
  obtain ⟨g23, h⟩ := oif_some h
  refine c_iast E G n13 0 (k := (0 : Int32).toNatClampNeg) (v := r20) (aA_k g22).1 (cc_a100 (aA_k g22).2.1) rfl (inb_k g23).1 (inb_k g23).2 (aA_k g22).2.2 dX3_parseZone_41 (fun H locs G => ?_)
  have G := gC_up_i (f := upd (T18.2.2.1 n13) (0 : Int32).toNatClampNeg r20) (ccv_100 (aA_k g22).2.1) G
  obtain ⟨T24, eT24, h⟩ := elet_some h
  have G : gC cI cJ cZ cMic cSrc cSt cAI cAJ D ad A s.heap H locs T24 := by rw [eT24]; exact G
  clear eT24
  refine lv_aload_n hx hb dX3_parseZone_42 rfl (lv_at hl 0 rfl) ?_
  refine lv_iconst (v := 1) hx hb dX3_parseZone_43 (by decide) ?_
  refine lv_aload_n hx hb dX3_parseZone_44 rfl (lv_at hl 1 rfl) ?_
  refine lv_iconst (v := 0) hx hb dX3_parseZone_45 (by decide) ?_
  refine lv_aload_n hx hb dX3_parseZone_46 rfl (lv_at hl 2 rfl) ?_
  obtain ⟨g25, h⟩ := oif_some h
  refine c_get E G l1 4 (oO_k g25).1 (cc_o1 (oO_k g25).2) rfl (fun w h => .tail _ (iA_15 h)) (by decide) (.tail _ qA_390) rfl rfl dX3_parseZone_47 ?_
  refine lv_topi (fun v26 ev26 => ?_)
  have h := elet_at ev26 h
  clear ev26
  refine lv_iconst (v := 1) hx hb dX3_parseZone_50 (by decide) ?_
  refine lv_isub hx hb dX3_parseZone_51 ?_
  refine lv_topi (fun v27 ev27 => ?_)
  have h := elet_at ev27 h
  clear ev27
  obtain ⟨g28, h⟩ := oif_some h
  rcases othr_t h with ⟨r0, eT29⟩ | ⟨r31, T29, eT29, h⟩
  · refine q_xvi (As := [.int 0, .int v27]) (rest := [.int 1, .ref (ad n13)]) E G hA hX hN hml (x_X3_number l hst D cI cJ cZ cMic cSrc cSt cAI cAJ ad T24 l0 (0 : Int32) v27 eT29) (cwV 2 hts (gaV qA_299 qA_300 qA_301 qA_222 qA_302) rfl rfl rfl (by decide +kernel) ⟨Nat.le_of_ble_eq_true rfl, Nat.le_of_ble_eq_true rfl⟩) (oO_k g28).1 (cc_o3 (oO_k g28).2) rfl rfl hl.1 rfl (lv_room (Nat.le_of_ble_eq_true rfl)) dX3_parseZone_52 ⟨Nat.le_of_ble_eq_true rfl, Nat.le_of_ble_eq_true rfl⟩ (fun E9 ce q9 T9 H locs hp G hce hcv hcl => ?_)
    obtain ⟨hE, hT⟩ := hp
    subst hE
    rw [hT] at G
    exact vx_out (fun x hx => (htab x hx).elim) hlocks hce hcv hcl (fun t ht hvm => kx _ _ _ G hvm (by rw [ht]; exact Nat.le_refl _) (fun q hq => by rw [ht])) G.2.2.2.2 (Nat.le_refl _) (Nat.le_refl _)
  refine q_cvi (As := [.int 0, .int v27]) (rest := [.int 1, .ref (ad n13)]) E G hA hX hN hml (u_X3_number l hst D cI cJ cZ cMic cSrc cSt cAI cAJ ad T24 l0 (0 : Int32) v27 eT29) (cwV 2 hts (gaV qA_299 qA_300 qA_301 qA_222 qA_302) rfl rfl rfl (by decide +kernel) ⟨Nat.le_of_ble_eq_true rfl, Nat.le_of_ble_eq_true rfl⟩) (oO_k g28).1 (cc_o3 (oO_k g28).2) rfl rfl hl.1 rfl (lv_room (Nat.le_of_ble_eq_true rfl)) dX3_parseZone_52 ⟨Nat.zero_le _, Nat.zero_le _⟩ (fun q32 T30 H locs hq G => ?_)
  obtain ⟨hq1, hq2⟩ := hq
  rw [hq2] at G
  refine lv_to hq1 ?_
  clear hq1 hq2 eT29
  obtain ⟨g33, h⟩ := oif_some h
  obtain ⟨g34, h⟩ := oif_some h
  refine c_iast E G n13 0 (k := (1 : Int32).toNatClampNeg) (v := r31) (aA_k g33).1 (cc_a100 (aA_k g33).2.1) rfl (inb_k g34).1 (inb_k g34).2 (aA_k g33).2.2 dX3_parseZone_55 (fun H locs G => ?_)
  have G := gC_up_i (f := upd (T29.2.2.1 n13) (1 : Int32).toNatClampNeg r31) (ccv_100 (aA_k g33).2.1) G
  obtain ⟨T35, eT35, h⟩ := elet_some h
  have G : gC cI cJ cZ cMic cSrc cSt cAI cAJ D ad A s.heap H locs T35 := by rw [eT35]; exact G
  clear eT35
  refine lv_aload_n hx hb dX3_parseZone_56 rfl (lv_at hl 0 rfl) ?_
  refine lv_iconst (v := 2) hx hb dX3_parseZone_57 (by decide) ?_
  refine lv_aload_n hx hb dX3_parseZone_58 rfl (lv_at hl 1 rfl) ?_
  refine lv_aload_n hx hb dX3_parseZone_59 rfl (lv_at hl 0 rfl) ?_
  refine lv_iconst (v := 0) hx hb dX3_parseZone_60 (by decide) ?_
  obtain ⟨g36, h⟩ := oif_some h
  obtain ⟨g37, h⟩ := oif_some h
  refine c_iald E G n13 0 (k := (0 : Int32).toNatClampNeg) (aA_k g36).1 (cc_a100 (aA_k g36).2.1) rfl (inb_k g37).1 (inb_k g37).2 (aA_k g36).2.2 dX3_parseZone_61 ?_
  refine lv_topi (fun v38 ev38 => ?_)
  have h := elet_at ev38 h
  clear ev38
  refine lv_aload_n hx hb dX3_parseZone_62 rfl (lv_at hl 2 rfl) ?_
  obtain ⟨g39, h⟩ := oif_some h
  refine c_get E G l1 3 (oO_k g39).1 (cc_o1 (oO_k g39).2) rfl (fun w h => .tail _ (iA_15 h)) (by decide) (.tail _ qA_180) rfl rfl dX3_parseZone_63 ?_
  refine lv_topi (fun v40 ev40 => ?_)
  have h := elet_at ev40 h
  clear ev40
  refine lv_iconst (v := 1) hx hb dX3_parseZone_66 (by decide) ?_
  refine lv_isub hx hb dX3_parseZone_67 ?_
  refine lv_topi (fun v41 ev41 => ?_)
  have h := elet_at ev41 h
  clear ev41
  obtain ⟨g42, h⟩ := oif_some h
  rcases othr_t h with ⟨r0, eT43⟩ | ⟨r45, T43, eT43, h⟩
  · refine q_xvi (As := [.int v38, .int v41]) (rest := [.int 2, .ref (ad n13)]) E G hA hX hN hml (x_X3_number l hst D cI cJ cZ cMic cSrc cSt cAI cAJ ad T35 l0 v38 v41 eT43) (cwV 2 hts (gaV qA_299 qA_300 qA_301 qA_222 qA_302) rfl rfl rfl (by decide +kernel) ⟨Nat.le_of_ble_eq_true rfl, Nat.le_of_ble_eq_true rfl⟩) (oO_k g42).1 (cc_o3 (oO_k g42).2) rfl rfl hl.1 rfl (lv_room (Nat.le_of_ble_eq_true rfl)) dX3_parseZone_68 ⟨Nat.le_of_ble_eq_true rfl, Nat.le_of_ble_eq_true rfl⟩ (fun E9 ce q9 T9 H locs hp G hce hcv hcl => ?_)
    obtain ⟨hE, hT⟩ := hp
    subst hE
    rw [hT] at G
    exact vx_out (fun x hx => (htab x hx).elim) hlocks hce hcv hcl (fun t ht hvm => kx _ _ _ G hvm (by rw [ht]; exact Nat.le_refl _) (fun q hq => by rw [ht])) G.2.2.2.2 (Nat.le_refl _) (Nat.le_refl _)
  refine q_cvi (As := [.int v38, .int v41]) (rest := [.int 2, .ref (ad n13)]) E G hA hX hN hml (u_X3_number l hst D cI cJ cZ cMic cSrc cSt cAI cAJ ad T35 l0 v38 v41 eT43) (cwV 2 hts (gaV qA_299 qA_300 qA_301 qA_222 qA_302) rfl rfl rfl (by decide +kernel) ⟨Nat.le_of_ble_eq_true rfl, Nat.le_of_ble_eq_true rfl⟩) (oO_k g42).1 (cc_o3 (oO_k g42).2) rfl rfl hl.1 rfl (lv_room (Nat.le_of_ble_eq_true rfl)) dX3_parseZone_68 ⟨Nat.zero_le _, Nat.zero_le _⟩ (fun q46 T44 H locs hq G => ?_)
  obtain ⟨hq1, hq2⟩ := hq
  rw [hq2] at G
  refine lv_to hq1 ?_
  clear hq1 hq2 eT43
  obtain ⟨g47, h⟩ := oif_some h
  obtain ⟨g48, h⟩ := oif_some h
  refine c_iast E G n13 0 (k := (2 : Int32).toNatClampNeg) (v := r45) (aA_k g47).1 (cc_a100 (aA_k g47).2.1) rfl (inb_k g48).1 (inb_k g48).2 (aA_k g47).2.2 dX3_parseZone_71 (fun H locs G => ?_)
  have G := gC_up_i (f := upd (T43.2.2.1 n13) (2 : Int32).toNatClampNeg r45) (ccv_100 (aA_k g47).2.1) G
  obtain ⟨T49, eT49, h⟩ := elet_some h
  have G : gC cI cJ cZ cMic cSrc cSt cAI cAJ D ad A s.heap H locs T49 := by rw [eT49]; exact G
  clear eT49
  refine lv_aload_n hx hb dX3_parseZone_72 rfl (lv_at hl 0 rfl) ?_
  refine lv_iconst (v := 3) hx hb dX3_parseZone_73 (by decide) ?_
  refine lv_aload_n hx hb dX3_parseZone_74 rfl (lv_at hl 1 rfl) ?_
  refine lv_aload_n hx hb dX3_parseZone_75 rfl (lv_at hl 0 rfl) ?_
  refine lv_iconst (v := 1) hx hb dX3_parseZone_76 (by decide) ?_
  obtain ⟨g50, h⟩ := oif_some h
  obtain ⟨g51, h⟩ := oif_some h
  refine c_iald E G n13 0 (k := (1 : Int32).toNatClampNeg) (aA_k g50).1 (cc_a100 (aA_k g50).2.1) rfl (inb_k g51).1 (inb_k g51).2 (aA_k g50).2.2 dX3_parseZone_77 ?_
  refine lv_topi (fun v52 ev52 => ?_)
  have h := elet_at ev52 h
  clear ev52
  refine lv_aload_n hx hb dX3_parseZone_78 rfl (lv_at hl 2 rfl) ?_
  obtain ⟨g53, h⟩ := oif_some h
  refine c_get E G l1 4 (oO_k g53).1 (cc_o1 (oO_k g53).2) rfl (fun w h => .tail _ (iA_15 h)) (by decide) (.tail _ qA_390) rfl rfl dX3_parseZone_79 ?_
  refine lv_topi (fun v54 ev54 => ?_)
  have h := elet_at ev54 h
  clear ev54
  refine lv_iconst (v := 1) hx hb dX3_parseZone_82 (by decide) ?_
  refine lv_isub hx hb dX3_parseZone_83 ?_
  refine lv_topi (fun v55 ev55 => ?_)
  have h := elet_at ev55 h
  clear ev55
  obtain ⟨g56, h⟩ := oif_some h
  rcases othr_t h with ⟨r0, eT57⟩ | ⟨r59, T57, eT57, h⟩
  · refine q_xvi (As := [.int v52, .int v55]) (rest := [.int 3, .ref (ad n13)]) E G hA hX hN hml (x_X3_number l hst D cI cJ cZ cMic cSrc cSt cAI cAJ ad T49 l0 v52 v55 eT57) (cwV 2 hts (gaV qA_299 qA_300 qA_301 qA_222 qA_302) rfl rfl rfl (by decide +kernel) ⟨Nat.le_of_ble_eq_true rfl, Nat.le_of_ble_eq_true rfl⟩) (oO_k g56).1 (cc_o3 (oO_k g56).2) rfl rfl hl.1 rfl (lv_room (Nat.le_of_ble_eq_true rfl)) dX3_parseZone_84 ⟨Nat.le_of_ble_eq_true rfl, Nat.le_of_ble_eq_true rfl⟩ (fun E9 ce q9 T9 H locs hp G hce hcv hcl => ?_)
    obtain ⟨hE, hT⟩ := hp
    subst hE
    rw [hT] at G
    exact vx_out (fun x hx => (htab x hx).elim) hlocks hce hcv hcl (fun t ht hvm => kx _ _ _ G hvm (by rw [ht]; exact Nat.le_refl _) (fun q hq => by rw [ht])) G.2.2.2.2 (Nat.le_refl _) (Nat.le_refl _)
  refine q_cvi (As := [.int v52, .int v55]) (rest := [.int 3, .ref (ad n13)]) E G hA hX hN hml (u_X3_number l hst D cI cJ cZ cMic cSrc cSt cAI cAJ ad T49 l0 v52 v55 eT57) (cwV 2 hts (gaV qA_299 qA_300 qA_301 qA_222 qA_302) rfl rfl rfl (by decide +kernel) ⟨Nat.le_of_ble_eq_true rfl, Nat.le_of_ble_eq_true rfl⟩) (oO_k g56).1 (cc_o3 (oO_k g56).2) rfl rfl hl.1 rfl (lv_room (Nat.le_of_ble_eq_true rfl)) dX3_parseZone_84 ⟨Nat.zero_le _, Nat.zero_le _⟩ (fun q60 T58 H locs hq G => ?_)
  obtain ⟨hq1, hq2⟩ := hq
  rw [hq2] at G
  refine lv_to hq1 ?_
  clear hq1 hq2 eT57
  obtain ⟨g61, h⟩ := oif_some h
  obtain ⟨g62, h⟩ := oif_some h
  refine c_iast E G n13 0 (k := (3 : Int32).toNatClampNeg) (v := r59) (aA_k g61).1 (cc_a100 (aA_k g61).2.1) rfl (inb_k g62).1 (inb_k g62).2 (aA_k g61).2.2 dX3_parseZone_87 (fun H locs G => ?_)
  have G := gC_up_i (f := upd (T57.2.2.1 n13) (3 : Int32).toNatClampNeg r59) (ccv_100 (aA_k g61).2.1) G
  obtain ⟨T63, eT63, h⟩ := elet_some h
  have G : gC cI cJ cZ cMic cSrc cSt cAI cAJ D ad A s.heap H locs T63 := by rw [eT63]; exact G
  clear eT63
  refine lv_aload_n hx hb dX3_parseZone_88 rfl (lv_at hl 2 rfl) ?_
  refine lv_dup hx hb dX3_parseZone_89 rfl ?_
  obtain ⟨g64, h⟩ := oif_some h
  refine c_get E G l1 7 (oO_k g64).1 (cc_o1 (oO_k g64).2) rfl (fun w h => .tail _ (iA_15 h)) (by decide) (.tail _ qA_388) rfl rfl dX3_parseZone_90 ?_
  refine lv_topi (fun v65 ev65 => ?_)
  have h := elet_at ev65 h
  clear ev65
  refine lv_iconst (v := 1) hx hb dX3_parseZone_93 (by decide) ?_
  refine lv_iadd hx hb dX3_parseZone_94 ?_
  refine lv_topi (fun v66 ev66 => ?_)
  have h := elet_at ev66 h
  clear ev66
  obtain ⟨g67, h⟩ := oif_some h
  refine c_put E G l1 7 (v := .int v66) (oO_k g67).1 (cc_o1 (oO_k g67).2) rfl (fun w h => .tail _ (iA_15 h)) tyX1 tyX1_ok nmX1 (by decide) (.tail _ qA_388) ⟨rfl, rfl, rfl⟩ rfl rfl (Nat.le_of_ble_eq_true rfl) dX3_parseZone_95 (fun H locs G => ?_)
  have G := gC_up_i (f := upd (T63.2.2.1 l1) 7 v66) (by rw [(oO_k g67).2]; rfl) G
  obtain ⟨T68, eT68, h⟩ := elet_some h
  have G : gC cI cJ cZ cMic cSrc cSt cAI cAJ D ad A s.heap H locs T68 := by rw [eT68]; exact G
  clear eT68
  exact (Nat.succ_ne_zero _ (congrArg Prod.fst (Option.some.inj h)).symm).elim
set_option maxHeartbeats 4000000 in
set_option maxRecDepth 100000 in
theorem x_X3_parseZone (l : Launch) (hst : l.stackTraces = false) (D : va_G) (cI cJ cZ cMic cSrc cSt cAI cAJ : ClassId) (ad : Nat → Nat) (T : AT) (o : Nat) (a0 : Nat) {e1 : Nat} {r1 : Int32} {T1 : AT} (h : g_X3_parseZone T o a0 = some (e1 + 1, r1, T1)) : kXv l yX3_parseZone (Cond.code yX3_parseZone cX3_parseZone 3 none :: wsA) 8 126 cI cJ cZ cMic cSrc cSt cAI cAJ D ad T [.ref (ad o), .ref (ad a0)] e1 T1 := by
  intro sz
  refine pro_inX (cc := cX3_parseZone) (maxL := 3) (ret := none) (by exact pn_RX3) rfl (by exact Nat.le_of_ble_eq_true rfl) (fun p e s m below meth c ls hx hb hr hts hown hlocks htab hml hv hl => ?_)
  obtain ⟨hsz, hP, hK, hD0, hX, hN⟩ := hv
  subst hsz
  have hD := hD0.self (sz := s.heap.size)
  generalize hAe : va_A (cW ad T.1 (cc cI cJ cZ cMic cSrc cSt cAI cAJ ad T)) s.heap.size = A at hD hX ⊢
  have hA : ∀ q : Nat, s.heap.size ≤ q → A q := fun q h => by rw [← hAe]; exact Or.inr h
  have G : gC cI cJ cZ cMic cSrc cSt cAI cAJ D ad A s.heap s.heap [] T := ⟨hP, hD, va_S.rf⟩
  have E : cE p c cX3_parseZone s m ([.ref (ad o), .ref (ad a0)] : List Value).toArray (Cond.code yX3_parseZone cX3_parseZone 3 none :: wsA) D RX3 (CT cI cJ cZ cMic cSrc cSt cAI cAJ) := ⟨hx, hb, hts, hown, hK⟩
  have htab : ∀ x ∈ c.exceptionTable.toList, False := fun x hx => htab x hx
  have hl : lv_has ls 3 [(0, .ref (ad o)), (1, .ref (ad a0))] := hl
  unfold g_X3_parseZone at h
  refine lv_aload_n hx hb dX3_parseZone_0 rfl (lv_at hl 0 rfl) ?_
  refine lv_aload_n hx hb dX3_parseZone_1 rfl (lv_at hl 1 rfl) ?_
  obtain ⟨g2, h⟩ := oif_some h
  refine c_get E G a0 7 (oO_k g2).1 (cc_o1 (oO_k g2).2) rfl (fun w h => .tail _ (iA_15 h)) (by decide) (.tail _ qA_388) rfl rfl dX3_parseZone_2 ?_
  refine lv_topi (fun v3 ev3 => ?_)
  have h := elet_at ev3 h
  clear ev3
  refine lv_iconst (v := 4) hx hb dX3_parseZone_5 (by decide) ?_
  refine lv_icmp_lt (tgt := 13) hx hb dX3_parseZone_6 (by decide) (fun c4 => ?_) (fun c4 => ?_)
  · have h := oif_pos c4 h
    refine lv_iconst (v := 0) hx hb dX3_parseZone_13 (by decide) ?_
    have hl := lv_sub hl [0, 1] rfl
    exact x_X3_parseZone_b14 E hA hX hN hml trivial hst htab hlocks (fun H locs t G hvm h1 h2 => ⟨T1, trivial, ⟨⟨rfl, rfl⟩, (c_thrown G hK hvm h1 h2).1⟩, (c_thrown G hK hvm h1 h2).2⟩) _ _ _ _ _ _ _ _ h G hl
  · have h := oif_neg c4 h
    refine lv_iconst (v := 1) hx hb dX3_parseZone_9 (by decide) ?_
    refine lv_goto (tgt := 14) hx hb dX3_parseZone_10 (by decide) ?_
    have hl := lv_sub hl [0, 1] rfl
    exact x_X3_parseZone_b14 E hA hX hN hml trivial hst htab hlocks (fun H locs t G hvm h1 h2 => ⟨T1, trivial, ⟨⟨rfl, rfl⟩, (c_thrown G hK hvm h1 h2).1⟩, (c_thrown G hK hvm h1 h2).2⟩) _ _ _ _ _ _ _ _ h G hl
end
