section
/-! 11j.dec8.lean.txt -/
def fr_pointPower_b22  (S : MS) (s0 : Int32) (l1 : Int32) (l2 : Int32) (l3 : Int32) : Option (Int64 × MS) := obind2 (fr_mayAsk S s0) fun r5 S2 => if r5 = 0 then (some ((0 : Int64), S2)) else (obind (fr_isPeriod l3) fun r7 => if r7 = 0 then (obind2 (fr_throwsAt S2 3) fun r13 S10 => elet (r13.toInt64) fun v14 => some (v14, S10)) else (obind (fr_copy_12_14 S2 0 0) fun S15 => obind (fr_recordsPoint_14 S15 l1 l3) fun S18 => obind2 (fr_powerOf_14 S18 l2) fun r24 S21 => some (r24, S21)))
set_option maxHeartbeats 4000000 in
set_option maxRecDepth 100000 in
theorem tr_pointPower_b22 {p : Program} {l : Launch} {e : Env} {s : State} {m : MethodId} {args : Array Value} {below : List Frame} {meth : Method} {c : Code} {Q : State → Prop} {D : va_G} {A : Nat → Prop} {H0 : Heap} {cI cJ cZ : ClassId} {ad : Nat → Nat} {r1 : Int64} {S1 : MS} (E : mE p c cX12_pointPower s m args (Cond.code yX12_pointPower cX12_pointPower 4 (some .long) :: wsM) D cI cJ cZ) (hA : ∀ q : Nat, H0.size ≤ q → A q) (hR : sR s) (hml : c.maxLocals = 4) (kr29 : ∀ (H : Heap) (locs : List Loc) (ls : Array Slot), mG D cI cJ cZ ad A H0 H locs S1 → W p l e { frames := 8, cells := 0, slots := 0, locals := 192 } s m args below meth c H locs 0 0 Q (F0 m 29 ls [.long r1])) (kr43 : ∀ (H : Heap) (locs : List Loc) (ls : Array Slot), mG D cI cJ cZ ad A H0 H locs S1 → W p l e { frames := 8, cells := 0, slots := 0, locals := 192 } s m args below meth c H locs 0 0 Q (F0 m 43 ls [.long r1])) (kr76 : ∀ (H : Heap) (locs : List Loc) (ls : Array Slot), mG D cI cJ cZ ad A H0 H locs S1 → W p l e { frames := 8, cells := 0, slots := 0, locals := 192 } s m args below meth c H locs 0 0 Q (F0 m 76 ls [.long r1])) : ∀ (S : MS) (H : Heap) (locs : List Loc) (ls : Array Slot) (s0 : Int32) (l1 : Int32) (l2 : Int32) (l3 : Int32), fr_pointPower_b22 S s0 l1 l2 l3 = some (r1, S1) → mG D cI cJ cZ ad A H0 H locs S → lv_has ls 4 [(0, .ref (ad 0)), (1, .int l1), (2, .int l2), (3, .int l3)] → W p l e { frames := 8, cells := 0, slots := 0, locals := 192 } s m args below meth c H locs 0 0 Q (F0 m 22 ls [.int s0, .ref (ad 0)]) := by
  have hx := E.1
  have hb := E.2.1
  have hts := E.2.2.1
  have hown := E.2.2.2.1
  have hK := E.2.2.2.2.1
  intro S H locs ls s0 l1 l2 l3 h G hl
  unfold fr_pointPower_b22 at h
  obtain ⟨r5, S2, eS2, h⟩ := obind2_some h
  refine m_calli (As := [.int s0]) (rest := []) E G hA hR hml (tr_mayAsk l D cI cJ cZ ad S s0 eS2) (cwV 1 hts (gmV qM_319 qM_320 qM_321 qM_35 qM_304) rfl rfl rfl (by decide +kernel) ⟨Nat.le_of_ble_eq_true rfl, Nat.le_of_ble_eq_true rfl⟩) rfl hl.1 rfl (lv_room (Nat.le_of_ble_eq_true rfl)) dX12_pointPower_22 ⟨Nat.zero_le _, Nat.zero_le _⟩ (fun q3 S4 H locs hq G => ?_)
  obtain ⟨hq1, hq2⟩ := hq
  rw [hq2] at G
  refine lv_to hq1 ?_
  clear hq1 hq2 eS2
  refine lv_if_ne (tgt := 30) hx hb dX12_pointPower_25 (by decide) (fun c6 => ?_) (fun c6 => ?_)
  · have h := oif_neg c6 h
    refine lv_iload_n hx hb dX12_pointPower_30 rfl (lv_at hl 3 rfl) ?_
    obtain ⟨r7, er7, h⟩ := obind_some h
    refine m_stat (As := [.int l3]) (rest := []) ⟨hx, hb, hml, hown, hts⟩ (tr_isPeriod l l3 er7) (cwS 1 hts (gmS qM_386 qM_387 qM_35 qM_310) rfl rfl rfl (by decide +kernel) ⟨Nat.le_of_ble_eq_true rfl, Nat.le_of_ble_eq_true rfl⟩) rfl hl.1 rfl (lv_room (Nat.le_of_ble_eq_true rfl)) dX12_pointPower_31 ⟨Nat.zero_le _, Nat.zero_le _⟩ (fun q8 hq => ?_)
    refine lv_to hq ?_
    clear hq er7
    refine lv_if_ne (tgt := 44) hx hb dX12_pointPower_34 (by decide) (fun c9 => ?_) (fun c9 => ?_)
    · have h := oif_neg c9 h
      refine lv_aload_n hx hb dX12_pointPower_44 rfl (lv_at hl 0 rfl) ?_
      refine m_get E G 12 (v := .ref (ad 12)) (by decide) (.tail _ qM_9) rfl dX12_pointPower_45 rfl ?_
      refine lv_iconst (v := 0) hx hb dX12_pointPower_48 (by decide) ?_
      refine lv_aload_n hx hb dX12_pointPower_49 rfl (lv_at hl 0 rfl) ?_
      refine m_get E G 14 (v := .ref (ad 14)) (by decide) (.tail _ qM_11) rfl dX12_pointPower_50 rfl ?_
      refine lv_iconst (v := 0) hx hb dX12_pointPower_53 (by decide) ?_
      obtain ⟨S15, eS15, h⟩ := obind_some h
      refine m_calls (As := [.ref (ad 12), .int 0, .ref (ad 14), .int 0]) (rest := []) E G hA hR hml (tr_copy_12_14 l D cI cJ cZ ad S2 0 0 eS15) (cwS 4 hts (gmS qM_201 qM_202 qM_35 qM_203) rfl rfl rfl (by decide +kernel) ⟨Nat.le_of_ble_eq_true rfl, Nat.le_of_ble_eq_true rfl⟩) rfl hl.1 rfl (lv_room (Nat.le_of_ble_eq_true rfl)) dX12_pointPower_54 ⟨Nat.zero_le _, Nat.zero_le _⟩ (fun S17 H locs hq G => ?_)
      rw [hq] at G
      clear hq eS15
      refine lv_aload_n hx hb dX12_pointPower_57 rfl (lv_at hl 0 rfl) ?_
      refine lv_aload_n hx hb dX12_pointPower_58 rfl (lv_at hl 0 rfl) ?_
      refine m_get E G 14 (v := .ref (ad 14)) (by decide) (.tail _ qM_11) rfl dX12_pointPower_59 rfl ?_
      refine lv_iload_n hx hb dX12_pointPower_62 rfl (lv_at hl 1 rfl) ?_
      refine lv_iload_n hx hb dX12_pointPower_63 rfl (lv_at hl 3 rfl) ?_
      obtain ⟨S18, eS18, h⟩ := obind_some h
      refine m_callv (As := [.ref (ad 14), .int l1, .int l3]) (rest := []) E G hA hR hml (tr_recordsPoint_14 l D cI cJ cZ ad S15 l1 l3 eS18) (cwV 3 hts (gmV qM_473 qM_474 qM_475 qM_35 qM_269) rfl rfl rfl (by decide +kernel) ⟨Nat.le_of_ble_eq_true rfl, Nat.le_of_ble_eq_true rfl⟩) rfl hl.1 rfl (lv_room (Nat.le_of_ble_eq_true rfl)) dX12_pointPower_64 ⟨Nat.zero_le _, Nat.zero_le _⟩ (fun S20 H locs hq G => ?_)
      rw [hq] at G
      clear hq eS18
      refine lv_aload_n hx hb dX12_pointPower_67 rfl (lv_at hl 0 rfl) ?_
      refine lv_aload_n hx hb dX12_pointPower_68 rfl (lv_at hl 0 rfl) ?_
      refine m_get E G 14 (v := .ref (ad 14)) (by decide) (.tail _ qM_11) rfl dX12_pointPower_69 rfl ?_
      refine lv_iload_n hx hb dX12_pointPower_72 rfl (lv_at hl 2 rfl) ?_
      obtain ⟨r24, S21, eS21, h⟩ := obind2_some h
      refine m_calll (As := [.ref (ad 14), .int l2]) (rest := []) E G hA hR hml (tr_powerOf_14 l D cI cJ cZ ad S18 l2 eS21) (cwV 2 hts (gmV qM_297 qM_298 qM_299 qM_35 qM_289) rfl rfl rfl (by decide +kernel) ⟨Nat.le_of_ble_eq_true rfl, Nat.le_of_ble_eq_true rfl⟩) rfl hl.1 rfl (lv_room (Nat.le_of_ble_eq_true rfl)) dX12_pointPower_73 ⟨Nat.zero_le _, Nat.zero_le _⟩ (fun q22 S23 H locs hq G => ?_)
      obtain ⟨hq1, hq2⟩ := hq
      rw [hq2] at G
      refine lv_tol hq1 ?_
      clear hq1 hq2 eS21
      rw [(osome2 h).2] at G
      refine lv_tol (osome2 h).1 ?_
      exact kr76 _ _ _ G
    · have h := oif_pos c9 h
      refine lv_aload_n hx hb dX12_pointPower_37 rfl (lv_at hl 0 rfl) ?_
      refine lv_iconst (v := 3) hx hb dX12_pointPower_38 (by decide) ?_
      obtain ⟨r13, S10, eS10, h⟩ := obind2_some h
      refine m_calli (As := [.int 3]) (rest := []) E G hA hR hml (tr_throwsAt l D cI cJ cZ ad S2 3 eS10) (cwV 1 hts (gmV qM_195 qM_196 qM_197 qM_35 qM_28) rfl rfl rfl (by decide +kernel) ⟨Nat.le_of_ble_eq_true rfl, Nat.le_of_ble_eq_true rfl⟩) rfl hl.1 rfl (lv_room (Nat.le_of_ble_eq_true rfl)) dX12_pointPower_39 ⟨Nat.zero_le _, Nat.zero_le _⟩ (fun q11 S12 H locs hq G => ?_)
      obtain ⟨hq1, hq2⟩ := hq
      rw [hq2] at G
      refine lv_to hq1 ?_
      clear hq1 hq2 eS10
      refine lv_i2l (v := r13.toInt64) hx hb dX12_pointPower_42 rfl ?_
      refine lv_topl (fun v14 ev14 => ?_)
      have h := elet_at ev14 h
      clear ev14
      rw [(osome2 h).2] at G
      refine lv_tol (osome2 h).1 ?_
      exact kr43 _ _ _ G
  · have h := oif_pos c6 h
    refine lv_lconst (v := 0) hx hb dX12_pointPower_28 (by decide) ?_
    rw [(osome2 h).2] at G
    refine lv_tol (osome2 h).1 ?_
    exact kr29 _ _ _ G
def fr_pointPower_b21  (S : MS) (l1 : Int32) (l2 : Int32) (l3 : Int32) : Option (Int64 × MS) := fr_pointPower_b22 S 0 l1 l2 l3
set_option maxHeartbeats 4000000 in
set_option maxRecDepth 100000 in
theorem tr_pointPower_b21 {p : Program} {l : Launch} {e : Env} {s : State} {m : MethodId} {args : Array Value} {below : List Frame} {meth : Method} {c : Code} {Q : State → Prop} {D : va_G} {A : Nat → Prop} {H0 : Heap} {cI cJ cZ : ClassId} {ad : Nat → Nat} {r1 : Int64} {S1 : MS} (E : mE p c cX12_pointPower s m args (Cond.code yX12_pointPower cX12_pointPower 4 (some .long) :: wsM) D cI cJ cZ) (hA : ∀ q : Nat, H0.size ≤ q → A q) (hR : sR s) (hml : c.maxLocals = 4) (kr29 : ∀ (H : Heap) (locs : List Loc) (ls : Array Slot), mG D cI cJ cZ ad A H0 H locs S1 → W p l e { frames := 8, cells := 0, slots := 0, locals := 192 } s m args below meth c H locs 0 0 Q (F0 m 29 ls [.long r1])) (kr43 : ∀ (H : Heap) (locs : List Loc) (ls : Array Slot), mG D cI cJ cZ ad A H0 H locs S1 → W p l e { frames := 8, cells := 0, slots := 0, locals := 192 } s m args below meth c H locs 0 0 Q (F0 m 43 ls [.long r1])) (kr76 : ∀ (H : Heap) (locs : List Loc) (ls : Array Slot), mG D cI cJ cZ ad A H0 H locs S1 → W p l e { frames := 8, cells := 0, slots := 0, locals := 192 } s m args below meth c H locs 0 0 Q (F0 m 76 ls [.long r1])) : ∀ (S : MS) (H : Heap) (locs : List Loc) (ls : Array Slot) (l1 : Int32) (l2 : Int32) (l3 : Int32), fr_pointPower_b21 S l1 l2 l3 = some (r1, S1) → mG D cI cJ cZ ad A H0 H locs S → lv_has ls 4 [(0, .ref (ad 0)), (1, .int l1), (2, .int l2), (3, .int l3)] → W p l e { frames := 8, cells := 0, slots := 0, locals := 192 } s m args below meth c H locs 0 0 Q (F0 m 21 ls [.ref (ad 0)]) := by
  have hx := E.1
  have hb := E.2.1
  have hts := E.2.2.1
  have hown := E.2.2.2.1
  have hK := E.2.2.2.2.1
  intro S H locs ls l1 l2 l3 h G hl
  unfold fr_pointPower_b21 at h
  refine lv_iconst (v := 0) hx hb dX12_pointPower_21 (by decide) ?_
  have hl := lv_sub hl [0, 1, 2, 3] rfl
  exact tr_pointPower_b22 E hA hR hml kr29 kr43 kr76 _ _ _ _ _ _ _ _ h G hl
def fr_pointPower (S : MS) (a0 : Int32) (a1 : Int32) (a2 : Int32) : Option (Int64 × MS) := obind2 (fr_isCell S a0) fun r5 S2 => if r5 = 0 then (fr_pointPower_b21 S2 a0 a1 a2) else (obind2 (fr_isCell S2 a1) fun r10 S7 => if r10 = 0 then (fr_pointPower_b21 S7 a0 a1 a2) else (fr_pointPower_b22 S7 1 a0 a1 a2))
set_option maxHeartbeats 4000000 in
set_option maxRecDepth 100000 in
theorem tr_pointPower (l : Launch) (D : va_G) (cI cJ cZ : ClassId) (ad : Nat → Nat) (S : MS) (a0 : Int32) (a1 : Int32) (a2 : Int32) {r1 : Int64} {S1 : MS} (h : fr_pointPower S a0 a1 a2 = some (r1, S1)) : mCl l yX12_pointPower (Cond.code yX12_pointPower cX12_pointPower 4 (some .long) :: wsM) 8 192 D cI cJ cZ ad S [.int a0, .int a1, .int a2] (fun r S9 => r = r1 ∧ S9 = S1) := by
  intro sz
  refine Met.ofW (cc := cX12_pointPower) (maxL := 4) (ret := (some .long)) (by decide) rfl ?_
  intro p e s m args below meth c s₁ B hml hv
  obtain ⟨rfl, hsz, hP, hK, hD0, hR⟩ := hv
  have hx := B.exec
  have hb := B.bytes
  have hr := B.returns
  have hts := atoms_spec (ws := (Cond.code yX12_pointPower cX12_pointPower 4 (some .long) :: wsM)) B.pre
  have hown : s.vm.findClass RX12 = some m.cls := findClass_of_methodNamed B.named
  have hlocks := B.notSynchronized
  subst hsz
  have hD := hD0.self (sz := s.heap.size)
  generalize hAe : va_A (MW cI cJ cZ ad S) s.heap.size = A at hD ⊢
  have hA : ∀ q : Nat, s.heap.size ≤ q → A q := fun q h => by rw [← hAe]; exact Or.inr h
  have G : mG D cI cJ cZ ad A s.heap s.heap [] S := ⟨hP, hD, va_S.rf⟩
  have E : mE p c cX12_pointPower s m ([.ref (ad 0), .int a0, .int a1, .int a2] : List Value).toArray (Cond.code yX12_pointPower cX12_pointPower 4 (some .long) :: wsM) D cI cJ cZ := ⟨hx, hb, hts, hown, hK, fun w h => .tail _ (iM_x h)⟩
  have hl := lv_entry ([.ref (ad 0), .int a0, .int a1, .int a2]) (n := 4) (Nat.le_of_ble_eq_true rfl)
  rw [lg_entry_eq]
  generalize (lg_sl ([.ref (ad 0), .int a0, .int a1, .int a2]) ++ List.replicate (4 - (lg_sl ([.ref (ad 0), .int a0, .int a1, .int a2])).length) Slot.unset).toArray = ls at hl ⊢
  have hl : lv_has ls 4 [(0, .ref (ad 0)), (1, .int a0), (2, .int a1), (3, .int a2)] := hl
  unfold fr_pointPower at h
  refine lv_aload_n hx hb dX12_pointPower_0 rfl (lv_at hl 0 rfl) ?_
  refine lv_aload_n hx hb dX12_pointPower_1 rfl (lv_at hl 0 rfl) ?_
  refine lv_iload_n hx hb dX12_pointPower_2 rfl (lv_at hl 1 rfl) ?_
  obtain ⟨r5, S2, eS2, h⟩ := obind2_some h
  refine m_calli (As := [.int a0]) (rest := [.ref (ad 0)]) E G hA hR hml (tr_isCell l D cI cJ cZ ad S a0 eS2) (cwV 1 hts (gmV qM_326 qM_327 qM_328 qM_35 qM_307) rfl rfl rfl (by decide +kernel) ⟨Nat.le_of_ble_eq_true rfl, Nat.le_of_ble_eq_true rfl⟩) rfl hl.1 rfl (lv_room (Nat.le_of_ble_eq_true rfl)) dX12_pointPower_3 ⟨Nat.zero_le _, Nat.zero_le _⟩ (fun q3 S4 H locs hq G => ?_)
  obtain ⟨hq1, hq2⟩ := hq
  rw [hq2] at G
  refine lv_to hq1 ?_
  clear hq1 hq2 eS2
  refine lv_if_eq (tgt := 21) hx hb dX12_pointPower_6 (by decide) (fun c6 => ?_) (fun c6 => ?_)
  · have h := oif_pos c6 h
    have hl := lv_sub hl [0, 1, 2, 3] rfl
    exact tr_pointPower_b21 E hA hR hml (fun H locs ls G => W.lret (v := r1) hx hb hr (fun t ht hW => ⟨⟨r1, S1, rfl, ⟨rfl, rfl⟩, ⟨by rw [ht]; exact G.1, va_K.moved hW.alike hK, G.2.1⟩⟩, G.2.2.F ht⟩) G.2.2.2.2 dX12_pointPower_29) (fun H locs ls G => W.lret (v := r1) hx hb hr (fun t ht hW => ⟨⟨r1, S1, rfl, ⟨rfl, rfl⟩, ⟨by rw [ht]; exact G.1, va_K.moved hW.alike hK, G.2.1⟩⟩, G.2.2.F ht⟩) G.2.2.2.2 dX12_pointPower_43) (fun H locs ls G => W.lret (v := r1) hx hb hr (fun t ht hW => ⟨⟨r1, S1, rfl, ⟨rfl, rfl⟩, ⟨by rw [ht]; exact G.1, va_K.moved hW.alike hK, G.2.1⟩⟩, G.2.2.F ht⟩) G.2.2.2.2 dX12_pointPower_76) _ _ _ _ _ _ _ h G hl
  · have h := oif_neg c6 h
    refine lv_aload_n hx hb dX12_pointPower_9 rfl (lv_at hl 0 rfl) ?_
    refine lv_iload_n hx hb dX12_pointPower_10 rfl (lv_at hl 2 rfl) ?_
    obtain ⟨r10, S7, eS7, h⟩ := obind2_some h
    refine m_calli (As := [.int a1]) (rest := [.ref (ad 0)]) E G hA hR hml (tr_isCell l D cI cJ cZ ad S2 a1 eS7) (cwV 1 hts (gmV qM_326 qM_327 qM_328 qM_35 qM_307) rfl rfl rfl (by decide +kernel) ⟨Nat.le_of_ble_eq_true rfl, Nat.le_of_ble_eq_true rfl⟩) rfl hl.1 rfl (lv_room (Nat.le_of_ble_eq_true rfl)) dX12_pointPower_11 ⟨Nat.zero_le _, Nat.zero_le _⟩ (fun q8 S9 H locs hq G => ?_)
    obtain ⟨hq1, hq2⟩ := hq
    rw [hq2] at G
    refine lv_to hq1 ?_
    clear hq1 hq2 eS7
    refine lv_if_eq (tgt := 21) hx hb dX12_pointPower_14 (by decide) (fun c11 => ?_) (fun c11 => ?_)
    · have h := oif_pos c11 h
      have hl := lv_sub hl [0, 1, 2, 3] rfl
      exact tr_pointPower_b21 E hA hR hml (fun H locs ls G => W.lret (v := r1) hx hb hr (fun t ht hW => ⟨⟨r1, S1, rfl, ⟨rfl, rfl⟩, ⟨by rw [ht]; exact G.1, va_K.moved hW.alike hK, G.2.1⟩⟩, G.2.2.F ht⟩) G.2.2.2.2 dX12_pointPower_29) (fun H locs ls G => W.lret (v := r1) hx hb hr (fun t ht hW => ⟨⟨r1, S1, rfl, ⟨rfl, rfl⟩, ⟨by rw [ht]; exact G.1, va_K.moved hW.alike hK, G.2.1⟩⟩, G.2.2.F ht⟩) G.2.2.2.2 dX12_pointPower_43) (fun H locs ls G => W.lret (v := r1) hx hb hr (fun t ht hW => ⟨⟨r1, S1, rfl, ⟨rfl, rfl⟩, ⟨by rw [ht]; exact G.1, va_K.moved hW.alike hK, G.2.1⟩⟩, G.2.2.F ht⟩) G.2.2.2.2 dX12_pointPower_76) _ _ _ _ _ _ _ h G hl
    · have h := oif_neg c11 h
      refine lv_iconst (v := 1) hx hb dX12_pointPower_17 (by decide) ?_
      refine lv_goto (tgt := 22) hx hb dX12_pointPower_18 (by decide) ?_
      have hl := lv_sub hl [0, 1, 2, 3] rfl
      exact tr_pointPower_b22 E hA hR hml (fun H locs ls G => W.lret (v := r1) hx hb hr (fun t ht hW => ⟨⟨r1, S1, rfl, ⟨rfl, rfl⟩, ⟨by rw [ht]; exact G.1, va_K.moved hW.alike hK, G.2.1⟩⟩, G.2.2.F ht⟩) G.2.2.2.2 dX12_pointPower_29) (fun H locs ls G => W.lret (v := r1) hx hb hr (fun t ht hW => ⟨⟨r1, S1, rfl, ⟨rfl, rfl⟩, ⟨by rw [ht]; exact G.1, va_K.moved hW.alike hK, G.2.1⟩⟩, G.2.2.F ht⟩) G.2.2.2.2 dX12_pointPower_43) (fun H locs ls G => W.lret (v := r1) hx hb hr (fun t ht hW => ⟨⟨r1, S1, rfl, ⟨rfl, rfl⟩, ⟨by rw [ht]; exact G.1, va_K.moved hW.alike hK, G.2.1⟩⟩, G.2.2.F ht⟩) G.2.2.2.2 dX12_pointPower_76) _ _ _ _ _ _ _ _ h G hl
def fr_bestWithout (S : MS) (a0 : Int32) : Option (Int32 × MS) := obind2 (fr_isMic S a0) fun r5 S2 => obind2 (fr_mayAsk S2 r5) fun r9 S6 => if r9 = 0 then (some (0, S6)) else (obind (fr_copy_12_14 S6 0 0) fun S11 => elet (1 + a0) fun v14 => oif (inb v14 2455 = true) <| elet (mf S11 14 (upd (S11.2.1 14) v14.toNatClampNeg 1)) fun S16 => obind2 (fr_bestIn_14 S16) fun r20 S17 => some (r20, S17))
set_option maxHeartbeats 4000000 in
set_option maxRecDepth 100000 in
theorem tr_bestWithout (l : Launch) (D : va_G) (cI cJ cZ : ClassId) (ad : Nat → Nat) (S : MS) (a0 : Int32) {r1 : Int32} {S1 : MS} (h : fr_bestWithout S a0 = some (r1, S1)) : mCi l yX12_bestWithout (Cond.code yX12_bestWithout cX12_bestWithout 2 (some .int) :: wsM) 8 163 D cI cJ cZ ad S [.int a0] (fun r S9 => r = r1 ∧ S9 = S1) := by
  intro sz
  refine Met.ofW (cc := cX12_bestWithout) (maxL := 2) (ret := (some .int)) (by decide) rfl ?_
  intro p e s m args below meth c s₁ B hml hv
  obtain ⟨rfl, hsz, hP, hK, hD0, hR⟩ := hv
  have hx := B.exec
  have hb := B.bytes
  have hr := B.returns
  have hts := atoms_spec (ws := (Cond.code yX12_bestWithout cX12_bestWithout 2 (some .int) :: wsM)) B.pre
  have hown : s.vm.findClass RX12 = some m.cls := findClass_of_methodNamed B.named
  have hlocks := B.notSynchronized
  subst hsz
  have hD := hD0.self (sz := s.heap.size)
  generalize hAe : va_A (MW cI cJ cZ ad S) s.heap.size = A at hD ⊢
  have hA : ∀ q : Nat, s.heap.size ≤ q → A q := fun q h => by rw [← hAe]; exact Or.inr h
  have G : mG D cI cJ cZ ad A s.heap s.heap [] S := ⟨hP, hD, va_S.rf⟩
  have E : mE p c cX12_bestWithout s m ([.ref (ad 0), .int a0] : List Value).toArray (Cond.code yX12_bestWithout cX12_bestWithout 2 (some .int) :: wsM) D cI cJ cZ := ⟨hx, hb, hts, hown, hK, fun w h => .tail _ (iM_x h)⟩
  have hl := lv_entry ([.ref (ad 0), .int a0]) (n := 2) (Nat.le_of_ble_eq_true rfl)
  rw [lg_entry_eq]
  generalize (lg_sl ([.ref (ad 0), .int a0]) ++ List.replicate (2 - (lg_sl ([.ref (ad 0), .int a0])).length) Slot.unset).toArray = ls at hl ⊢
  have hl : lv_has ls 2 [(0, .ref (ad 0)), (1, .int a0)] := hl
  unfold fr_bestWithout at h
  refine lv_aload_n hx hb dX12_bestWithout_0 rfl (lv_at hl 0 rfl) ?_
  refine lv_aload_n hx hb dX12_bestWithout_1 rfl (lv_at hl 0 rfl) ?_
  refine lv_iload_n hx hb dX12_bestWithout_2 rfl (lv_at hl 1 rfl) ?_
  obtain ⟨r5, S2, eS2, h⟩ := obind2_some h
  refine m_calli (As := [.int a0]) (rest := [.ref (ad 0)]) E G hA hR hml (tr_isMic l D cI cJ cZ ad S a0 eS2) (cwV 1 hts (gmV qM_316 qM_317 qM_318 qM_35 qM_306) rfl rfl rfl (by decide +kernel) ⟨Nat.le_of_ble_eq_true rfl, Nat.le_of_ble_eq_true rfl⟩) rfl hl.1 rfl (lv_room (Nat.le_of_ble_eq_true rfl)) dX12_bestWithout_3 ⟨Nat.zero_le _, Nat.zero_le _⟩ (fun q3 S4 H locs hq G => ?_)
  obtain ⟨hq1, hq2⟩ := hq
  rw [hq2] at G
  refine lv_to hq1 ?_
  clear hq1 hq2 eS2
  obtain ⟨r9, S6, eS6, h⟩ := obind2_some h
  refine m_calli (As := [.int r5]) (rest := []) E G hA hR hml (tr_mayAsk l D cI cJ cZ ad S2 r5 eS6) (cwV 1 hts (gmV qM_319 qM_320 qM_321 qM_35 qM_304) rfl rfl rfl (by decide +kernel) ⟨Nat.le_of_ble_eq_true rfl, Nat.le_of_ble_eq_true rfl⟩) rfl hl.1 rfl (lv_room (Nat.le_of_ble_eq_true rfl)) dX12_bestWithout_6 ⟨Nat.zero_le _, Nat.zero_le _⟩ (fun q7 S8 H locs hq G => ?_)
  obtain ⟨hq1, hq2⟩ := hq
  rw [hq2] at G
  refine lv_to hq1 ?_
  clear hq1 hq2 eS6
  refine lv_if_ne (tgt := 14) hx hb dX12_bestWithout_9 (by decide) (fun c10 => ?_) (fun c10 => ?_)
  · have h := oif_neg c10 h
    refine lv_aload_n hx hb dX12_bestWithout_14 rfl (lv_at hl 0 rfl) ?_
    refine m_get E G 12 (v := .ref (ad 12)) (by decide) (.tail _ qM_9) rfl dX12_bestWithout_15 rfl ?_
    refine lv_iconst (v := 0) hx hb dX12_bestWithout_18 (by decide) ?_
    refine lv_aload_n hx hb dX12_bestWithout_19 rfl (lv_at hl 0 rfl) ?_
    refine m_get E G 14 (v := .ref (ad 14)) (by decide) (.tail _ qM_11) rfl dX12_bestWithout_20 rfl ?_
    refine lv_iconst (v := 0) hx hb dX12_bestWithout_23 (by decide) ?_
    obtain ⟨S11, eS11, h⟩ := obind_some h
    refine m_calls (As := [.ref (ad 12), .int 0, .ref (ad 14), .int 0]) (rest := []) E G hA hR hml (tr_copy_12_14 l D cI cJ cZ ad S6 0 0 eS11) (cwS 4 hts (gmS qM_201 qM_202 qM_35 qM_203) rfl rfl rfl (by decide +kernel) ⟨Nat.le_of_ble_eq_true rfl, Nat.le_of_ble_eq_true rfl⟩) rfl hl.1 rfl (lv_room (Nat.le_of_ble_eq_true rfl)) dX12_bestWithout_24 ⟨Nat.zero_le _, Nat.zero_le _⟩ (fun S13 H locs hq G => ?_)
    rw [hq] at G
    clear hq eS11
    refine lv_aload_n hx hb dX12_bestWithout_27 rfl (lv_at hl 0 rfl) ?_
    refine m_get E G 14 (v := .ref (ad 14)) (by decide) (.tail _ qM_11) rfl dX12_bestWithout_28 rfl ?_
    refine lv_iconst (v := 1) hx hb dX12_bestWithout_31 (by decide) ?_
    refine lv_iload_n hx hb dX12_bestWithout_32 rfl (lv_at hl 1 rfl) ?_
    refine lv_iadd hx hb dX12_bestWithout_33 ?_
    refine lv_topi (fun v14 ev14 => ?_)
    have h := elet_at ev14 h
    clear ev14
    refine lv_iconst (v := 1) hx hb dX12_bestWithout_34 (by decide) ?_
    obtain ⟨g15, h⟩ := oif_some h
    refine m_iast E G 14 6 (k := v14.toNatClampNeg) (v := 1) rfl (fun _ => rfl) (inb_k g15).1 (inb_k g15).2 (by decide) dX12_bestWithout_35 (fun H locs G => ?_)
    obtain ⟨S16, eS16, h⟩ := elet_some h
    rw [← eS16] at G
    clear eS16
    refine lv_aload_n hx hb dX12_bestWithout_36 rfl (lv_at hl 0 rfl) ?_
    refine lv_aload_n hx hb dX12_bestWithout_37 rfl (lv_at hl 0 rfl) ?_
    refine m_get E G 14 (v := .ref (ad 14)) (by decide) (.tail _ qM_11) rfl dX12_bestWithout_38 rfl ?_
    obtain ⟨r20, S17, eS17, h⟩ := obind2_some h
    refine m_calli (As := [.ref (ad 14)]) (rest := []) E G hA hR hml (tr_bestIn_14 l D cI cJ cZ ad S16 eS17) (cwV 1 hts (gmV qM_360 qM_361 qM_362 qM_35 qM_300) rfl rfl rfl (by decide +kernel) ⟨Nat.le_of_ble_eq_true rfl, Nat.le_of_ble_eq_true rfl⟩) rfl hl.1 rfl (lv_room (Nat.le_of_ble_eq_true rfl)) dX12_bestWithout_41 ⟨Nat.zero_le _, Nat.zero_le _⟩ (fun q18 S19 H locs hq G => ?_)
    obtain ⟨hq1, hq2⟩ := hq
    rw [hq2] at G
    refine lv_to hq1 ?_
    clear hq1 hq2 eS17
    exact W.iret (v := r20) hx hb hr (fun t ht hW => ⟨⟨r20, S17, rfl, osome2 h, ⟨by rw [ht]; exact G.1, va_K.moved hW.alike hK, G.2.1⟩⟩, G.2.2.F ht⟩) G.2.2.2.2 dX12_bestWithout_44
  · have h := oif_pos c10 h
    refine lv_iconst (v := 0) hx hb dX12_bestWithout_12 (by decide) ?_
    exact W.iret (v := 0) hx hb hr (fun t ht hW => ⟨⟨0, S6, rfl, osome2 h, ⟨by rw [ht]; exact G.1, va_K.moved hW.alike hK, G.2.1⟩⟩, G.2.2.F ht⟩) G.2.2.2.2 dX12_bestWithout_13
def fr_bestIfOff (S : MS) (a0 : Int32) : Option (Int32 × MS) := obind2 (fr_isSource S a0) fun r5 S2 => obind2 (fr_mayAsk S2 r5) fun r9 S6 => if r9 = 0 then (some (0, S6)) else (obind (fr_copy_12_14 S6 0 0) fun S11 => elet (25 + a0) fun v14 => oif (inb v14 2455 = true) <| elet (mf S11 14 (upd (S11.2.1 14) v14.toNatClampNeg 0)) fun S16 => obind (fr_records_14 S16) fun S17 => obind2 (fr_bestIn_14 S17) fun r23 S20 => some (r23, S20))
set_option maxHeartbeats 4000000 in
set_option maxRecDepth 100000 in
theorem tr_bestIfOff (l : Launch) (D : va_G) (cI cJ cZ : ClassId) (ad : Nat → Nat) (S : MS) (a0 : Int32) {r1 : Int32} {S1 : MS} (h : fr_bestIfOff S a0 = some (r1, S1)) : mCi l yX12_bestIfOff (Cond.code yX12_bestIfOff cX12_bestIfOff 2 (some .int) :: wsM) 8 169 D cI cJ cZ ad S [.int a0] (fun r S9 => r = r1 ∧ S9 = S1) := by
  intro sz
  refine Met.ofW (cc := cX12_bestIfOff) (maxL := 2) (ret := (some .int)) (by decide) rfl ?_
  intro p e s m args below meth c s₁ B hml hv
  obtain ⟨rfl, hsz, hP, hK, hD0, hR⟩ := hv
  have hx := B.exec
  have hb := B.bytes
  have hr := B.returns
  have hts := atoms_spec (ws := (Cond.code yX12_bestIfOff cX12_bestIfOff 2 (some .int) :: wsM)) B.pre
  have hown : s.vm.findClass RX12 = some m.cls := findClass_of_methodNamed B.named
  have hlocks := B.notSynchronized
  subst hsz
  have hD := hD0.self (sz := s.heap.size)
  generalize hAe : va_A (MW cI cJ cZ ad S) s.heap.size = A at hD ⊢
  have hA : ∀ q : Nat, s.heap.size ≤ q → A q := fun q h => by rw [← hAe]; exact Or.inr h
  have G : mG D cI cJ cZ ad A s.heap s.heap [] S := ⟨hP, hD, va_S.rf⟩
  have E : mE p c cX12_bestIfOff s m ([.ref (ad 0), .int a0] : List Value).toArray (Cond.code yX12_bestIfOff cX12_bestIfOff 2 (some .int) :: wsM) D cI cJ cZ := ⟨hx, hb, hts, hown, hK, fun w h => .tail _ (iM_x h)⟩
  have hl := lv_entry ([.ref (ad 0), .int a0]) (n := 2) (Nat.le_of_ble_eq_true rfl)
  rw [lg_entry_eq]
  generalize (lg_sl ([.ref (ad 0), .int a0]) ++ List.replicate (2 - (lg_sl ([.ref (ad 0), .int a0])).length) Slot.unset).toArray = ls at hl ⊢
  have hl : lv_has ls 2 [(0, .ref (ad 0)), (1, .int a0)] := hl
  unfold fr_bestIfOff at h
  refine lv_aload_n hx hb dX12_bestIfOff_0 rfl (lv_at hl 0 rfl) ?_
  refine lv_aload_n hx hb dX12_bestIfOff_1 rfl (lv_at hl 0 rfl) ?_
  refine lv_iload_n hx hb dX12_bestIfOff_2 rfl (lv_at hl 1 rfl) ?_
  obtain ⟨r5, S2, eS2, h⟩ := obind2_some h
  refine m_calli (As := [.int a0]) (rest := [.ref (ad 0)]) E G hA hR hml (tr_isSource l D cI cJ cZ ad S a0 eS2) (cwV 1 hts (gmV qM_331 qM_332 qM_333 qM_35 qM_308) rfl rfl rfl (by decide +kernel) ⟨Nat.le_of_ble_eq_true rfl, Nat.le_of_ble_eq_true rfl⟩) rfl hl.1 rfl (lv_room (Nat.le_of_ble_eq_true rfl)) dX12_bestIfOff_3 ⟨Nat.zero_le _, Nat.zero_le _⟩ (fun q3 S4 H locs hq G => ?_)
  obtain ⟨hq1, hq2⟩ := hq
  rw [hq2] at G
  refine lv_to hq1 ?_
  clear hq1 hq2 eS2
  obtain ⟨r9, S6, eS6, h⟩ := obind2_some h
  refine m_calli (As := [.int r5]) (rest := []) E G hA hR hml (tr_mayAsk l D cI cJ cZ ad S2 r5 eS6) (cwV 1 hts (gmV qM_319 qM_320 qM_321 qM_35 qM_304) rfl rfl rfl (by decide +kernel) ⟨Nat.le_of_ble_eq_true rfl, Nat.le_of_ble_eq_true rfl⟩) rfl hl.1 rfl (lv_room (Nat.le_of_ble_eq_true rfl)) dX12_bestIfOff_6 ⟨Nat.zero_le _, Nat.zero_le _⟩ (fun q7 S8 H locs hq G => ?_)
  obtain ⟨hq1, hq2⟩ := hq
  rw [hq2] at G
  refine lv_to hq1 ?_
  clear hq1 hq2 eS6
  refine lv_if_ne (tgt := 14) hx hb dX12_bestIfOff_9 (by decide) (fun c10 => ?_) (fun c10 => ?_)
  · have h := oif_neg c10 h
    refine lv_aload_n hx hb dX12_bestIfOff_14 rfl (lv_at hl 0 rfl) ?_
    refine m_get E G 12 (v := .ref (ad 12)) (by decide) (.tail _ qM_9) rfl dX12_bestIfOff_15 rfl ?_
    refine lv_iconst (v := 0) hx hb dX12_bestIfOff_18 (by decide) ?_
    refine lv_aload_n hx hb dX12_bestIfOff_19 rfl (lv_at hl 0 rfl) ?_
    refine m_get E G 14 (v := .ref (ad 14)) (by decide) (.tail _ qM_11) rfl dX12_bestIfOff_20 rfl ?_
    refine lv_iconst (v := 0) hx hb dX12_bestIfOff_23 (by decide) ?_
    obtain ⟨S11, eS11, h⟩ := obind_some h
    refine m_calls (As := [.ref (ad 12), .int 0, .ref (ad 14), .int 0]) (rest := []) E G hA hR hml (tr_copy_12_14 l D cI cJ cZ ad S6 0 0 eS11) (cwS 4 hts (gmS qM_201 qM_202 qM_35 qM_203) rfl rfl rfl (by decide +kernel) ⟨Nat.le_of_ble_eq_true rfl, Nat.le_of_ble_eq_true rfl⟩) rfl hl.1 rfl (lv_room (Nat.le_of_ble_eq_true rfl)) dX12_bestIfOff_24 ⟨Nat.zero_le _, Nat.zero_le _⟩ (fun S13 H locs hq G => ?_)
    rw [hq] at G
    clear hq eS11
    refine lv_aload_n hx hb dX12_bestIfOff_27 rfl (lv_at hl 0 rfl) ?_
    refine m_get E G 14 (v := .ref (ad 14)) (by decide) (.tail _ qM_11) rfl dX12_bestIfOff_28 rfl ?_
    refine lv_bipush (v := 25) hx hb dX12_bestIfOff_31 (by decide) ?_
    refine lv_iload_n hx hb dX12_bestIfOff_33 rfl (lv_at hl 1 rfl) ?_
    refine lv_iadd hx hb dX12_bestIfOff_34 ?_
    refine lv_topi (fun v14 ev14 => ?_)
    have h := elet_at ev14 h
    clear ev14
    refine lv_iconst (v := 0) hx hb dX12_bestIfOff_35 (by decide) ?_
    obtain ⟨g15, h⟩ := oif_some h
    refine m_iast E G 14 6 (k := v14.toNatClampNeg) (v := 0) rfl (fun _ => rfl) (inb_k g15).1 (inb_k g15).2 (by decide) dX12_bestIfOff_36 (fun H locs G => ?_)
    obtain ⟨S16, eS16, h⟩ := elet_some h
    rw [← eS16] at G
    clear eS16
    refine lv_aload_n hx hb dX12_bestIfOff_37 rfl (lv_at hl 0 rfl) ?_
    refine lv_aload_n hx hb dX12_bestIfOff_38 rfl (lv_at hl 0 rfl) ?_
    refine m_get E G 14 (v := .ref (ad 14)) (by decide) (.tail _ qM_11) rfl dX12_bestIfOff_39 rfl ?_
    obtain ⟨S17, eS17, h⟩ := obind_some h
    refine m_callv (As := [.ref (ad 14)]) (rest := []) E G hA hR hml (tr_records_14 l D cI cJ cZ ad S16 eS17) (cwV 1 hts (gmV qM_220 qM_221 qM_222 qM_35 qM_223) rfl rfl rfl (by decide +kernel) ⟨Nat.le_of_ble_eq_true rfl, Nat.le_of_ble_eq_true rfl⟩) rfl hl.1 rfl (lv_room (Nat.le_of_ble_eq_true rfl)) dX12_bestIfOff_42 ⟨Nat.zero_le _, Nat.zero_le _⟩ (fun S19 H locs hq G => ?_)
    rw [hq] at G
    clear hq eS17
    refine lv_aload_n hx hb dX12_bestIfOff_45 rfl (lv_at hl 0 rfl) ?_
    refine lv_aload_n hx hb dX12_bestIfOff_46 rfl (lv_at hl 0 rfl) ?_
    refine m_get E G 14 (v := .ref (ad 14)) (by decide) (.tail _ qM_11) rfl dX12_bestIfOff_47 rfl ?_
    obtain ⟨r23, S20, eS20, h⟩ := obind2_some h
    refine m_calli (As := [.ref (ad 14)]) (rest := []) E G hA hR hml (tr_bestIn_14 l D cI cJ cZ ad S17 eS20) (cwV 1 hts (gmV qM_360 qM_361 qM_362 qM_35 qM_300) rfl rfl rfl (by decide +kernel) ⟨Nat.le_of_ble_eq_true rfl, Nat.le_of_ble_eq_true rfl⟩) rfl hl.1 rfl (lv_room (Nat.le_of_ble_eq_true rfl)) dX12_bestIfOff_50 ⟨Nat.zero_le _, Nat.zero_le _⟩ (fun q21 S22 H locs hq G => ?_)
    obtain ⟨hq1, hq2⟩ := hq
    rw [hq2] at G
    refine lv_to hq1 ?_
    clear hq1 hq2 eS20
    exact W.iret (v := r23) hx hb hr (fun t ht hW => ⟨⟨r23, S20, rfl, osome2 h, ⟨by rw [ht]; exact G.1, va_K.moved hW.alike hK, G.2.1⟩⟩, G.2.2.F ht⟩) G.2.2.2.2 dX12_bestIfOff_53
  · have h := oif_pos c10 h
    refine lv_iconst (v := 0) hx hb dX12_bestIfOff_12 (by decide) ?_
    exact W.iret (v := 0) hx hb hr (fun t ht hW => ⟨⟨0, S6, rfl, osome2 h, ⟨by rw [ht]; exact G.1, va_K.moved hW.alike hK, G.2.1⟩⟩, G.2.2.F ht⟩) G.2.2.2.2 dX12_bestIfOff_13
def fr_sets (S : MS) (a0 : Int32) (a1 : Int32) : Option (Int32 × MS) := obind (fr_remember S) fun S2 => oif (inb a0 2455 = true) <| elet (S2.2.1 12 a0.toNatClampNeg) fun v6 => oif (inb a0 2455 = true) <| elet (mf S2 12 (upd (S2.2.1 12) a0.toNatClampNeg a1)) fun S8 => some (v6, S8)
set_option maxHeartbeats 4000000 in
set_option maxRecDepth 100000 in
theorem tr_sets (l : Launch) (D : va_G) (cI cJ cZ : ClassId) (ad : Nat → Nat) (S : MS) (a0 : Int32) (a1 : Int32) {r1 : Int32} {S1 : MS} (h : fr_sets S a0 a1 = some (r1, S1)) : mCi l yX12_sets (Cond.code yX12_sets cX12_sets 4 (some .int) :: wsM) 3 45 D cI cJ cZ ad S [.int a0, .int a1] (fun r S9 => r = r1 ∧ S9 = S1) := by
  intro sz
  refine Met.ofW (cc := cX12_sets) (maxL := 4) (ret := (some .int)) (by decide) rfl ?_
  intro p e s m args below meth c s₁ B hml hv
  obtain ⟨rfl, hsz, hP, hK, hD0, hR⟩ := hv
  have hx := B.exec
  have hb := B.bytes
  have hr := B.returns
  have hts := atoms_spec (ws := (Cond.code yX12_sets cX12_sets 4 (some .int) :: wsM)) B.pre
  have hown : s.vm.findClass RX12 = some m.cls := findClass_of_methodNamed B.named
  have hlocks := B.notSynchronized
  subst hsz
  have hD := hD0.self (sz := s.heap.size)
  generalize hAe : va_A (MW cI cJ cZ ad S) s.heap.size = A at hD ⊢
  have hA : ∀ q : Nat, s.heap.size ≤ q → A q := fun q h => by rw [← hAe]; exact Or.inr h
  have G : mG D cI cJ cZ ad A s.heap s.heap [] S := ⟨hP, hD, va_S.rf⟩
  have E : mE p c cX12_sets s m ([.ref (ad 0), .int a0, .int a1] : List Value).toArray (Cond.code yX12_sets cX12_sets 4 (some .int) :: wsM) D cI cJ cZ := ⟨hx, hb, hts, hown, hK, fun w h => .tail _ (iM_x h)⟩
  have hl := lv_entry ([.ref (ad 0), .int a0, .int a1]) (n := 4) (Nat.le_of_ble_eq_true rfl)
  rw [lg_entry_eq]
  generalize (lg_sl ([.ref (ad 0), .int a0, .int a1]) ++ List.replicate (4 - (lg_sl ([.ref (ad 0), .int a0, .int a1])).length) Slot.unset).toArray = ls at hl ⊢
  have hl : lv_has ls 4 [(0, .ref (ad 0)), (1, .int a0), (2, .int a1)] := hl
  unfold fr_sets at h
  refine lv_aload_n hx hb dX12_sets_0 rfl (lv_at hl 0 rfl) ?_
  obtain ⟨S2, eS2, h⟩ := obind_some h
  refine m_callv (As := []) (rest := []) E G hA hR hml (tr_remember l D cI cJ cZ ad S eS2) (cwV 0 hts (gmV qM_480 qM_481 qM_482 qM_35 qM_268) rfl rfl rfl (by decide +kernel) ⟨Nat.le_of_ble_eq_true rfl, Nat.le_of_ble_eq_true rfl⟩) rfl hl.1 rfl (lv_room (Nat.le_of_ble_eq_true rfl)) dX12_sets_1 ⟨Nat.zero_le _, Nat.zero_le _⟩ (fun S4 H locs hq G => ?_)
  rw [hq] at G
  clear hq eS2
  refine lv_aload_n hx hb dX12_sets_4 rfl (lv_at hl 0 rfl) ?_
  refine m_get E G 12 (v := .ref (ad 12)) (by decide) (.tail _ qM_9) rfl dX12_sets_5 rfl ?_
  refine lv_iload_n hx hb dX12_sets_8 rfl (lv_at hl 1 rfl) ?_
  obtain ⟨g5, h⟩ := oif_some h
  refine m_iald E G 12 4 (n := 2455) (k := a0.toNatClampNeg) rfl (inb_k g5).1 (inb_k g5).2 (by decide) dX12_sets_9 ?_
  refine lv_topi (fun v6 ev6 => ?_)
  have h := elet_at ev6 h
  clear ev6
  refine lv_istore_n (lv' := [(3, .int v6), (0, .ref (ad 0)), (1, .int a0), (2, .int a1)]) hx hb dX12_sets_10 rfl hl (by decide) rfl (fun ls hl => ?_)
  refine lv_aload_n hx hb dX12_sets_11 rfl (lv_at hl 1 rfl) ?_
  refine m_get E G 12 (v := .ref (ad 12)) (by decide) (.tail _ qM_9) rfl dX12_sets_12 rfl ?_
  refine lv_iload_n hx hb dX12_sets_15 rfl (lv_at hl 2 rfl) ?_
  refine lv_iload_n hx hb dX12_sets_16 rfl (lv_at hl 3 rfl) ?_
  obtain ⟨g7, h⟩ := oif_some h
  refine m_iast E G 12 4 (k := a0.toNatClampNeg) (v := a1) rfl (fun _ => rfl) (inb_k g7).1 (inb_k g7).2 (by decide) dX12_sets_17 (fun H locs G => ?_)
  obtain ⟨S8, eS8, h⟩ := elet_some h
  rw [← eS8] at G
  clear eS8
  refine lv_iload_n hx hb dX12_sets_18 rfl (lv_at hl 0 rfl) ?_
  exact W.iret (v := v6) hx hb hr (fun t ht hW => ⟨⟨v6, S8, rfl, osome2 h, ⟨by rw [ht]; exact G.1, va_K.moved hW.alike hK, G.2.1⟩⟩, G.2.2.F ht⟩) G.2.2.2.2 dX12_sets_19
def fr_mute_b37  (S : MS) (s0 : Int32) : Option (Int32 × MS) := oif (s0 = 0 ∨ s0 = 1) <| some (s0, S)
set_option maxHeartbeats 4000000 in
set_option maxRecDepth 100000 in
theorem tr_mute_b37 {p : Program} {l : Launch} {e : Env} {s : State} {m : MethodId} {args : Array Value} {below : List Frame} {meth : Method} {c : Code} {Q : State → Prop} {D : va_G} {A : Nat → Prop} {H0 : Heap} {cI cJ cZ : ClassId} {ad : Nat → Nat} {r1 : Int32} {S1 : MS} (E : mE p c cX12_mute s m args (Cond.code yX12_mute cX12_mute 3 (some .boolean) :: wsM) D cI cJ cZ) (hA : ∀ q : Nat, H0.size ≤ q → A q) (hR : sR s) (hml : c.maxLocals = 3) (kr37 : ∀ (H : Heap) (locs : List Loc) (ls : Array Slot), (r1 = 0 ∨ r1 = 1) → mG D cI cJ cZ ad A H0 H locs S1 → W p l e { frames := 4, cells := 0, slots := 0, locals := 68 } s m args below meth c H locs 0 0 Q (F0 m 37 ls [.int r1])) : ∀ (S : MS) (H : Heap) (locs : List Loc) (ls : Array Slot) (s0 : Int32), fr_mute_b37 S s0 = some (r1, S1) → mG D cI cJ cZ ad A H0 H locs S → lv_has ls 3 [] → W p l e { frames := 4, cells := 0, slots := 0, locals := 68 } s m args below meth c H locs 0 0 Q (F0 m 37 ls [.int s0]) := by
  have hx := E.1
  have hb := E.2.1
  have hts := E.2.2.1
  have hown := E.2.2.2.1
  have hK := E.2.2.2.2.1
  intro S H locs ls s0 h G hl
  unfold fr_mute_b37 at h
  obtain ⟨gz, h⟩ := oif_some h
  have gr : r1 = 0 ∨ r1 = 1 := by rw [← (osome2 h).1]; exact gz
  rw [(osome2 h).2] at G
  refine lv_to (osome2 h).1 ?_
  exact kr37 _ _ _ gr G
def fr_mute_b36  (S : MS)  : Option (Int32 × MS) := fr_mute_b37 S 0
set_option maxHeartbeats 4000000 in
set_option maxRecDepth 100000 in
theorem tr_mute_b36 {p : Program} {l : Launch} {e : Env} {s : State} {m : MethodId} {args : Array Value} {below : List Frame} {meth : Method} {c : Code} {Q : State → Prop} {D : va_G} {A : Nat → Prop} {H0 : Heap} {cI cJ cZ : ClassId} {ad : Nat → Nat} {r1 : Int32} {S1 : MS} (E : mE p c cX12_mute s m args (Cond.code yX12_mute cX12_mute 3 (some .boolean) :: wsM) D cI cJ cZ) (hA : ∀ q : Nat, H0.size ≤ q → A q) (hR : sR s) (hml : c.maxLocals = 3) (kr37 : ∀ (H : Heap) (locs : List Loc) (ls : Array Slot), (r1 = 0 ∨ r1 = 1) → mG D cI cJ cZ ad A H0 H locs S1 → W p l e { frames := 4, cells := 0, slots := 0, locals := 68 } s m args below meth c H locs 0 0 Q (F0 m 37 ls [.int r1])) : ∀ (S : MS) (H : Heap) (locs : List Loc) (ls : Array Slot), fr_mute_b36 S = some (r1, S1) → mG D cI cJ cZ ad A H0 H locs S → lv_has ls 3 [] → W p l e { frames := 4, cells := 0, slots := 0, locals := 68 } s m args below meth c H locs 0 0 Q (F0 m 36 ls []) := by
  have hx := E.1
  have hb := E.2.1
  have hts := E.2.2.1
  have hown := E.2.2.2.1
  have hK := E.2.2.2.2.1
  intro S H locs ls h G hl
  unfold fr_mute_b36 at h
  refine lv_iconst (v := 0) hx hb dX12_mute_36 (by decide) ?_
  have hl := lv_sub hl [] rfl
  exact tr_mute_b37 E hA hR hml kr37 _ _ _ _ _ h G hl
def fr_mute_b25  (S : MS) (s0 : Int32) (s1 : Int32) : Option (Int32 × MS) := obind2 (fr_sets S s1 s0) fun r5 S2 => if r5 = 1 then (fr_mute_b37 S2 1) else (fr_mute_b36 S2)
set_option maxHeartbeats 4000000 in
set_option maxRecDepth 100000 in
theorem tr_mute_b25 {p : Program} {l : Launch} {e : Env} {s : State} {m : MethodId} {args : Array Value} {below : List Frame} {meth : Method} {c : Code} {Q : State → Prop} {D : va_G} {A : Nat → Prop} {H0 : Heap} {cI cJ cZ : ClassId} {ad : Nat → Nat} {r1 : Int32} {S1 : MS} (E : mE p c cX12_mute s m args (Cond.code yX12_mute cX12_mute 3 (some .boolean) :: wsM) D cI cJ cZ) (hA : ∀ q : Nat, H0.size ≤ q → A q) (hR : sR s) (hml : c.maxLocals = 3) (kr37 : ∀ (H : Heap) (locs : List Loc) (ls : Array Slot), (r1 = 0 ∨ r1 = 1) → mG D cI cJ cZ ad A H0 H locs S1 → W p l e { frames := 4, cells := 0, slots := 0, locals := 68 } s m args below meth c H locs 0 0 Q (F0 m 37 ls [.int r1])) : ∀ (S : MS) (H : Heap) (locs : List Loc) (ls : Array Slot) (s0 : Int32) (s1 : Int32), fr_mute_b25 S s0 s1 = some (r1, S1) → mG D cI cJ cZ ad A H0 H locs S → lv_has ls 3 [] → W p l e { frames := 4, cells := 0, slots := 0, locals := 68 } s m args below meth c H locs 0 0 Q (F0 m 25 ls [.int s0, .int s1, .ref (ad 0)]) := by
  have hx := E.1
  have hb := E.2.1
  have hts := E.2.2.1
  have hown := E.2.2.2.1
  have hK := E.2.2.2.2.1
  intro S H locs ls s0 s1 h G hl
  unfold fr_mute_b25 at h
  obtain ⟨r5, S2, eS2, h⟩ := obind2_some h
  refine m_calli (As := [.int s1, .int s0]) (rest := []) E G hA hR hml (tr_sets l D cI cJ cZ ad S s1 s0 eS2) (cwV 2 hts (gmV qM_484 qM_485 qM_486 qM_35 qM_479) rfl rfl rfl (by decide +kernel) ⟨Nat.le_of_ble_eq_true rfl, Nat.le_of_ble_eq_true rfl⟩) rfl hl.1 rfl (lv_room (Nat.le_of_ble_eq_true rfl)) dX12_mute_25 ⟨Nat.zero_le _, Nat.zero_le _⟩ (fun q3 S4 H locs hq G => ?_)
  obtain ⟨hq1, hq2⟩ := hq
  rw [hq2] at G
  refine lv_to hq1 ?_
  clear hq1 hq2 eS2
  refine lv_iconst (v := 1) hx hb dX12_mute_28 (by decide) ?_
  refine lv_icmp_ne (tgt := 36) hx hb dX12_mute_29 (by decide) (fun c6 => ?_) (fun c6 => ?_)
  · have h := oif_neg c6 h
    have hl := lv_sub hl [] rfl
    exact tr_mute_b36 E hA hR hml kr37 _ _ _ _ h G hl
  · have h := oif_pos c6 h
    refine lv_iconst (v := 1) hx hb dX12_mute_32 (by decide) ?_
    refine lv_goto (tgt := 37) hx hb dX12_mute_33 (by decide) ?_
    have hl := lv_sub hl [] rfl
    exact tr_mute_b37 E hA hR hml kr37 _ _ _ _ _ h G hl
def fr_mute (S : MS) (a0 : Int32) (a1 : Int32) : Option (Int32 × MS) := obind2 (fr_isMic S a0) fun r5 S2 => obind2 (fr_mayAsk S2 r5) fun r9 S6 => if r9 = 0 then (fr_mute_b36 S6) else (elet (1 + a0) fun v11 => if a1 = 0 then (fr_mute_b25 S6 0 v11) else (fr_mute_b25 S6 1 v11))
set_option maxHeartbeats 4000000 in
set_option maxRecDepth 100000 in
theorem tr_mute (l : Launch) (D : va_G) (cI cJ cZ : ClassId) (ad : Nat → Nat) (S : MS) (a0 : Int32) (a1 : Int32) {r1 : Int32} {S1 : MS} (h : fr_mute S a0 a1 = some (r1, S1)) : mCi l yX12_mute (Cond.code yX12_mute cX12_mute 3 (some .boolean) :: wsM) 4 68 D cI cJ cZ ad S [.int a0, .int a1] (fun r S9 => r = r1 ∧ S9 = S1) := by
  intro sz
  refine Met.ofW (cc := cX12_mute) (maxL := 3) (ret := (some .boolean)) (by decide) rfl ?_
  intro p e s m args below meth c s₁ B hml hv
  obtain ⟨rfl, hsz, hP, hK, hD0, hR⟩ := hv
  have hx := B.exec
  have hb := B.bytes
  have hr := B.returns
  have hts := atoms_spec (ws := (Cond.code yX12_mute cX12_mute 3 (some .boolean) :: wsM)) B.pre
  have hown : s.vm.findClass RX12 = some m.cls := findClass_of_methodNamed B.named
  have hlocks := B.notSynchronized
  subst hsz
  have hD := hD0.self (sz := s.heap.size)
  generalize hAe : va_A (MW cI cJ cZ ad S) s.heap.size = A at hD ⊢
  have hA : ∀ q : Nat, s.heap.size ≤ q → A q := fun q h => by rw [← hAe]; exact Or.inr h
  have G : mG D cI cJ cZ ad A s.heap s.heap [] S := ⟨hP, hD, va_S.rf⟩
  have E : mE p c cX12_mute s m ([.ref (ad 0), .int a0, .int a1] : List Value).toArray (Cond.code yX12_mute cX12_mute 3 (some .boolean) :: wsM) D cI cJ cZ := ⟨hx, hb, hts, hown, hK, fun w h => .tail _ (iM_x h)⟩
  have hl := lv_entry ([.ref (ad 0), .int a0, .int a1]) (n := 3) (Nat.le_of_ble_eq_true rfl)
  rw [lg_entry_eq]
  generalize (lg_sl ([.ref (ad 0), .int a0, .int a1]) ++ List.replicate (3 - (lg_sl ([.ref (ad 0), .int a0, .int a1])).length) Slot.unset).toArray = ls at hl ⊢
  have hl : lv_has ls 3 [(0, .ref (ad 0)), (1, .int a0), (2, .int a1)] := hl
  unfold fr_mute at h
  refine lv_aload_n hx hb dX12_mute_0 rfl (lv_at hl 0 rfl) ?_
  refine lv_aload_n hx hb dX12_mute_1 rfl (lv_at hl 0 rfl) ?_
  refine lv_iload_n hx hb dX12_mute_2 rfl (lv_at hl 1 rfl) ?_
  obtain ⟨r5, S2, eS2, h⟩ := obind2_some h
  refine m_calli (As := [.int a0]) (rest := [.ref (ad 0)]) E G hA hR hml (tr_isMic l D cI cJ cZ ad S a0 eS2) (cwV 1 hts (gmV qM_316 qM_317 qM_318 qM_35 qM_306) rfl rfl rfl (by decide +kernel) ⟨Nat.le_of_ble_eq_true rfl, Nat.le_of_ble_eq_true rfl⟩) rfl hl.1 rfl (lv_room (Nat.le_of_ble_eq_true rfl)) dX12_mute_3 ⟨Nat.zero_le _, Nat.zero_le _⟩ (fun q3 S4 H locs hq G => ?_)
  obtain ⟨hq1, hq2⟩ := hq
  rw [hq2] at G
  refine lv_to hq1 ?_
  clear hq1 hq2 eS2
  obtain ⟨r9, S6, eS6, h⟩ := obind2_some h
  refine m_calli (As := [.int r5]) (rest := []) E G hA hR hml (tr_mayAsk l D cI cJ cZ ad S2 r5 eS6) (cwV 1 hts (gmV qM_319 qM_320 qM_321 qM_35 qM_304) rfl rfl rfl (by decide +kernel) ⟨Nat.le_of_ble_eq_true rfl, Nat.le_of_ble_eq_true rfl⟩) rfl hl.1 rfl (lv_room (Nat.le_of_ble_eq_true rfl)) dX12_mute_6 ⟨Nat.zero_le _, Nat.zero_le _⟩ (fun q7 S8 H locs hq G => ?_)
  obtain ⟨hq1, hq2⟩ := hq
  rw [hq2] at G
  refine lv_to hq1 ?_
  clear hq1 hq2 eS6
  refine lv_if_eq (tgt := 36) hx hb dX12_mute_9 (by decide) (fun c10 => ?_) (fun c10 => ?_)
  · have h := oif_pos c10 h
    have hl := lv_sub hl [] rfl
    exact tr_mute_b36 E hA hR hml (fun H locs ls gz G => W.zret (v := r1) hx hb hr (nar01 gz) (fun t ht hW => ⟨⟨r1, S1, rfl, ⟨rfl, rfl⟩, ⟨by rw [ht]; exact G.1, va_K.moved hW.alike hK, G.2.1⟩⟩, G.2.2.F ht⟩) G.2.2.2.2 dX12_mute_37) _ _ _ _ h G hl
  · have h := oif_neg c10 h
    refine lv_aload_n hx hb dX12_mute_12 rfl (lv_at hl 0 rfl) ?_
    refine lv_iconst (v := 1) hx hb dX12_mute_13 (by decide) ?_
    refine lv_iload_n hx hb dX12_mute_14 rfl (lv_at hl 1 rfl) ?_
    refine lv_iadd hx hb dX12_mute_15 ?_
    refine lv_topi (fun v11 ev11 => ?_)
    have h := elet_at ev11 h
    clear ev11
    refine lv_iload_n hx hb dX12_mute_16 rfl (lv_at hl 2 rfl) ?_
    refine lv_if_eq (tgt := 24) hx hb dX12_mute_17 (by decide) (fun c12 => ?_) (fun c12 => ?_)
    · have h := oif_pos c12 h
      refine lv_iconst (v := 0) hx hb dX12_mute_24 (by decide) ?_
      have hl := lv_sub hl [] rfl
      exact tr_mute_b25 E hA hR hml (fun H locs ls gz G => W.zret (v := r1) hx hb hr (nar01 gz) (fun t ht hW => ⟨⟨r1, S1, rfl, ⟨rfl, rfl⟩, ⟨by rw [ht]; exact G.1, va_K.moved hW.alike hK, G.2.1⟩⟩, G.2.2.F ht⟩) G.2.2.2.2 dX12_mute_37) _ _ _ _ _ _ h G hl
    · have h := oif_neg c12 h
      refine lv_iconst (v := 1) hx hb dX12_mute_20 (by decide) ?_
      refine lv_goto (tgt := 25) hx hb dX12_mute_21 (by decide) ?_
      have hl := lv_sub hl [] rfl
      exact tr_mute_b25 E hA hR hml (fun H locs ls gz G => W.zret (v := r1) hx hb hr (nar01 gz) (fun t ht hW => ⟨⟨r1, S1, rfl, ⟨rfl, rfl⟩, ⟨by rw [ht]; exact G.1, va_K.moved hW.alike hK, G.2.1⟩⟩, G.2.2.F ht⟩) G.2.2.2.2 dX12_mute_37) _ _ _ _ _ _ h G hl
def fr_setWeight_b41  (S : MS) (s0 : Int32) : Option (Int32 × MS) := some (s0, S)
set_option maxHeartbeats 4000000 in
set_option maxRecDepth 100000 in
theorem tr_setWeight_b41 {p : Program} {l : Launch} {e : Env} {s : State} {m : MethodId} {args : Array Value} {below : List Frame} {meth : Method} {c : Code} {Q : State → Prop} {D : va_G} {A : Nat → Prop} {H0 : Heap} {cI cJ cZ : ClassId} {ad : Nat → Nat} {r1 : Int32} {S1 : MS} (E : mE p c cX12_setWeight s m args (Cond.code yX12_setWeight cX12_setWeight 3 (some .int) :: wsM) D cI cJ cZ) (hA : ∀ q : Nat, H0.size ≤ q → A q) (hR : sR s) (hml : c.maxLocals = 3) (kr13 : ∀ (H : Heap) (locs : List Loc) (ls : Array Slot), mG D cI cJ cZ ad A H0 H locs S1 → W p l e { frames := 4, cells := 0, slots := 0, locals := 68 } s m args below meth c H locs 0 0 Q (F0 m 13 ls [.int r1])) (kr41 : ∀ (H : Heap) (locs : List Loc) (ls : Array Slot), mG D cI cJ cZ ad A H0 H locs S1 → W p l e { frames := 4, cells := 0, slots := 0, locals := 68 } s m args below meth c H locs 0 0 Q (F0 m 41 ls [.int r1])) : ∀ (S : MS) (H : Heap) (locs : List Loc) (ls : Array Slot) (s0 : Int32), fr_setWeight_b41 S s0 = some (r1, S1) → mG D cI cJ cZ ad A H0 H locs S → lv_has ls 3 [] → W p l e { frames := 4, cells := 0, slots := 0, locals := 68 } s m args below meth c H locs 0 0 Q (F0 m 41 ls [.int s0]) := by
  have hx := E.1
  have hb := E.2.1
  have hts := E.2.2.1
  have hown := E.2.2.2.1
  have hK := E.2.2.2.2.1
  intro S H locs ls s0 h G hl
  unfold fr_setWeight_b41 at h
  rw [(osome2 h).2] at G
  refine lv_to (osome2 h).1 ?_
  exact kr41 _ _ _ G
def fr_setWeight (S : MS) (a0 : Int32) (a1 : Int32) : Option (Int32 × MS) := obind2 (fr_isMic S a0) fun r5 S2 => obind2 (fr_mayAsk S2 r5) fun r9 S6 => if r9 = 0 then (some (0, S6)) else (obind (fr_in a1 0 9) fun r11 => if r11 = 0 then (obind2 (fr_throwsAt S6 3) fun r17 S14 => fr_setWeight_b41 S14 r17) else (elet (13 + a0) fun v18 => obind2 (fr_sets S6 v18 a1) fun r22 S19 => fr_setWeight_b41 S19 r22))
set_option maxHeartbeats 4000000 in
set_option maxRecDepth 100000 in
theorem tr_setWeight (l : Launch) (D : va_G) (cI cJ cZ : ClassId) (ad : Nat → Nat) (S : MS) (a0 : Int32) (a1 : Int32) {r1 : Int32} {S1 : MS} (h : fr_setWeight S a0 a1 = some (r1, S1)) : mCi l yX12_setWeight (Cond.code yX12_setWeight cX12_setWeight 3 (some .int) :: wsM) 4 68 D cI cJ cZ ad S [.int a0, .int a1] (fun r S9 => r = r1 ∧ S9 = S1) := by
  intro sz
  refine Met.ofW (cc := cX12_setWeight) (maxL := 3) (ret := (some .int)) (by decide) rfl ?_
  intro p e s m args below meth c s₁ B hml hv
  obtain ⟨rfl, hsz, hP, hK, hD0, hR⟩ := hv
  have hx := B.exec
  have hb := B.bytes
  have hr := B.returns
  have hts := atoms_spec (ws := (Cond.code yX12_setWeight cX12_setWeight 3 (some .int) :: wsM)) B.pre
  have hown : s.vm.findClass RX12 = some m.cls := findClass_of_methodNamed B.named
  have hlocks := B.notSynchronized
  subst hsz
  have hD := hD0.self (sz := s.heap.size)
  generalize hAe : va_A (MW cI cJ cZ ad S) s.heap.size = A at hD ⊢
  have hA : ∀ q : Nat, s.heap.size ≤ q → A q := fun q h => by rw [← hAe]; exact Or.inr h
  have G : mG D cI cJ cZ ad A s.heap s.heap [] S := ⟨hP, hD, va_S.rf⟩
  have E : mE p c cX12_setWeight s m ([.ref (ad 0), .int a0, .int a1] : List Value).toArray (Cond.code yX12_setWeight cX12_setWeight 3 (some .int) :: wsM) D cI cJ cZ := ⟨hx, hb, hts, hown, hK, fun w h => .tail _ (iM_x h)⟩
  have hl := lv_entry ([.ref (ad 0), .int a0, .int a1]) (n := 3) (Nat.le_of_ble_eq_true rfl)
  rw [lg_entry_eq]
  generalize (lg_sl ([.ref (ad 0), .int a0, .int a1]) ++ List.replicate (3 - (lg_sl ([.ref (ad 0), .int a0, .int a1])).length) Slot.unset).toArray = ls at hl ⊢
  have hl : lv_has ls 3 [(0, .ref (ad 0)), (1, .int a0), (2, .int a1)] := hl
  unfold fr_setWeight at h
  refine lv_aload_n hx hb dX12_setWeight_0 rfl (lv_at hl 0 rfl) ?_
  refine lv_aload_n hx hb dX12_setWeight_1 rfl (lv_at hl 0 rfl) ?_
  refine lv_iload_n hx hb dX12_setWeight_2 rfl (lv_at hl 1 rfl) ?_
  obtain ⟨r5, S2, eS2, h⟩ := obind2_some h
  refine m_calli (As := [.int a0]) (rest := [.ref (ad 0)]) E G hA hR hml (tr_isMic l D cI cJ cZ ad S a0 eS2) (cwV 1 hts (gmV qM_316 qM_317 qM_318 qM_35 qM_306) rfl rfl rfl (by decide +kernel) ⟨Nat.le_of_ble_eq_true rfl, Nat.le_of_ble_eq_true rfl⟩) rfl hl.1 rfl (lv_room (Nat.le_of_ble_eq_true rfl)) dX12_setWeight_3 ⟨Nat.zero_le _, Nat.zero_le _⟩ (fun q3 S4 H locs hq G => ?_)
  obtain ⟨hq1, hq2⟩ := hq
  rw [hq2] at G
  refine lv_to hq1 ?_
  clear hq1 hq2 eS2
  obtain ⟨r9, S6, eS6, h⟩ := obind2_some h
  refine m_calli (As := [.int r5]) (rest := []) E G hA hR hml (tr_mayAsk l D cI cJ cZ ad S2 r5 eS6) (cwV 1 hts (gmV qM_319 qM_320 qM_321 qM_35 qM_304) rfl rfl rfl (by decide +kernel) ⟨Nat.le_of_ble_eq_true rfl, Nat.le_of_ble_eq_true rfl⟩) rfl hl.1 rfl (lv_room (Nat.le_of_ble_eq_true rfl)) dX12_setWeight_6 ⟨Nat.zero_le _, Nat.zero_le _⟩ (fun q7 S8 H locs hq G => ?_)
  obtain ⟨hq1, hq2⟩ := hq
  rw [hq2] at G
  refine lv_to hq1 ?_
  clear hq1 hq2 eS6
  refine lv_if_ne (tgt := 14) hx hb dX12_setWeight_9 (by decide) (fun c10 => ?_) (fun c10 => ?_)
  · have h := oif_neg c10 h
    refine lv_iload_n hx hb dX12_setWeight_14 rfl (lv_at hl 2 rfl) ?_
    refine lv_iconst (v := 0) hx hb dX12_setWeight_15 (by decide) ?_
    refine lv_bipush (v := 9) hx hb dX12_setWeight_16 (by decide) ?_
    obtain ⟨r11, er11, h⟩ := obind_some h
    refine m_stat (As := [.int a1, .int 0, .int 9]) (rest := []) ⟨hx, hb, hml, hown, hts⟩ (tr_in l a1 0 9 er11) (cwS 3 hts (gmS qM_52 qM_53 qM_35 qM_27) rfl rfl rfl (by decide +kernel) ⟨Nat.le_of_ble_eq_true rfl, Nat.le_of_ble_eq_true rfl⟩) rfl hl.1 rfl (lv_room (Nat.le_of_ble_eq_true rfl)) dX12_setWeight_18 ⟨Nat.zero_le _, Nat.zero_le _⟩ (fun q12 hq => ?_)
    refine lv_to hq ?_
    clear hq er11
    refine lv_if_eq (tgt := 36) hx hb dX12_setWeight_21 (by decide) (fun c13 => ?_) (fun c13 => ?_)
    · have h := oif_pos c13 h
      refine lv_aload_n hx hb dX12_setWeight_36 rfl (lv_at hl 0 rfl) ?_
      refine lv_iconst (v := 3) hx hb dX12_setWeight_37 (by decide) ?_
      obtain ⟨r17, S14, eS14, h⟩ := obind2_some h
      refine m_calli (As := [.int 3]) (rest := []) E G hA hR hml (tr_throwsAt l D cI cJ cZ ad S6 3 eS14) (cwV 1 hts (gmV qM_195 qM_196 qM_197 qM_35 qM_28) rfl rfl rfl (by decide +kernel) ⟨Nat.le_of_ble_eq_true rfl, Nat.le_of_ble_eq_true rfl⟩) rfl hl.1 rfl (lv_room (Nat.le_of_ble_eq_true rfl)) dX12_setWeight_38 ⟨Nat.zero_le _, Nat.zero_le _⟩ (fun q15 S16 H locs hq G => ?_)
      obtain ⟨hq1, hq2⟩ := hq
      rw [hq2] at G
      refine lv_to hq1 ?_
      clear hq1 hq2 eS14
      have hl := lv_sub hl [] rfl
      exact tr_setWeight_b41 E hA hR hml (fun H locs ls G => W.iret (v := r1) hx hb hr (fun t ht hW => ⟨⟨r1, S1, rfl, ⟨rfl, rfl⟩, ⟨by rw [ht]; exact G.1, va_K.moved hW.alike hK, G.2.1⟩⟩, G.2.2.F ht⟩) G.2.2.2.2 dX12_setWeight_13) (fun H locs ls G => W.iret (v := r1) hx hb hr (fun t ht hW => ⟨⟨r1, S1, rfl, ⟨rfl, rfl⟩, ⟨by rw [ht]; exact G.1, va_K.moved hW.alike hK, G.2.1⟩⟩, G.2.2.F ht⟩) G.2.2.2.2 dX12_setWeight_41) _ _ _ _ _ h G hl
    · have h := oif_neg c13 h
      refine lv_aload_n hx hb dX12_setWeight_24 rfl (lv_at hl 0 rfl) ?_
      refine lv_bipush (v := 13) hx hb dX12_setWeight_25 (by decide) ?_
      refine lv_iload_n hx hb dX12_setWeight_27 rfl (lv_at hl 1 rfl) ?_
      refine lv_iadd hx hb dX12_setWeight_28 ?_
      refine lv_topi (fun v18 ev18 => ?_)
      have h := elet_at ev18 h
      clear ev18
      refine lv_iload_n hx hb dX12_setWeight_29 rfl (lv_at hl 2 rfl) ?_
      obtain ⟨r22, S19, eS19, h⟩ := obind2_some h
      refine m_calli (As := [.int v18, .int a1]) (rest := []) E G hA hR hml (tr_sets l D cI cJ cZ ad S6 v18 a1 eS19) (cwV 2 hts (gmV qM_484 qM_485 qM_486 qM_35 qM_479) rfl rfl rfl (by decide +kernel) ⟨Nat.le_of_ble_eq_true rfl, Nat.le_of_ble_eq_true rfl⟩) rfl hl.1 rfl (lv_room (Nat.le_of_ble_eq_true rfl)) dX12_setWeight_30 ⟨Nat.zero_le _, Nat.zero_le _⟩ (fun q20 S21 H locs hq G => ?_)
      obtain ⟨hq1, hq2⟩ := hq
      rw [hq2] at G
      refine lv_to hq1 ?_
      clear hq1 hq2 eS19
      refine lv_goto (tgt := 41) hx hb dX12_setWeight_33 (by decide) ?_
      have hl := lv_sub hl [] rfl
      exact tr_setWeight_b41 E hA hR hml (fun H locs ls G => W.iret (v := r1) hx hb hr (fun t ht hW => ⟨⟨r1, S1, rfl, ⟨rfl, rfl⟩, ⟨by rw [ht]; exact G.1, va_K.moved hW.alike hK, G.2.1⟩⟩, G.2.2.F ht⟩) G.2.2.2.2 dX12_setWeight_13) (fun H locs ls G => W.iret (v := r1) hx hb hr (fun t ht hW => ⟨⟨r1, S1, rfl, ⟨rfl, rfl⟩, ⟨by rw [ht]; exact G.1, va_K.moved hW.alike hK, G.2.1⟩⟩, G.2.2.F ht⟩) G.2.2.2.2 dX12_setWeight_41) _ _ _ _ _ h G hl
  · have h := oif_pos c10 h
    refine lv_iconst (v := 0) hx hb dX12_setWeight_12 (by decide) ?_
    exact W.iret (v := 0) hx hb hr (fun t ht hW => ⟨⟨0, S6, rfl, osome2 h, ⟨by rw [ht]; exact G.1, va_K.moved hW.alike hK, G.2.1⟩⟩, G.2.2.F ht⟩) G.2.2.2.2 dX12_setWeight_13
def fr_setOn_b50  (S : MS) (s0 : Int32) : Option (Int32 × MS) := oif (s0 = 0 ∨ s0 = 1) <| some (s0, S)
set_option maxHeartbeats 4000000 in
set_option maxRecDepth 100000 in
theorem tr_setOn_b50 {p : Program} {l : Launch} {e : Env} {s : State} {m : MethodId} {args : Array Value} {below : List Frame} {meth : Method} {c : Code} {Q : State → Prop} {D : va_G} {A : Nat → Prop} {H0 : Heap} {cI cJ cZ : ClassId} {ad : Nat → Nat} {r1 : Int32} {S1 : MS} (E : mE p c cX12_setOn s m args (Cond.code yX12_setOn cX12_setOn 4 (some .boolean) :: wsM) D cI cJ cZ) (hA : ∀ q : Nat, H0.size ≤ q → A q) (hR : sR s) (hml : c.maxLocals = 4) (kr13 : ∀ (H : Heap) (locs : List Loc) (ls : Array Slot), (r1 = 0 ∨ r1 = 1) → mG D cI cJ cZ ad A H0 H locs S1 → W p l e { frames := 7, cells := 0, slots := 0, locals := 169 } s m args below meth c H locs 0 0 Q (F0 m 13 ls [.int r1])) (kr50 : ∀ (H : Heap) (locs : List Loc) (ls : Array Slot), (r1 = 0 ∨ r1 = 1) → mG D cI cJ cZ ad A H0 H locs S1 → W p l e { frames := 7, cells := 0, slots := 0, locals := 169 } s m args below meth c H locs 0 0 Q (F0 m 50 ls [.int r1])) : ∀ (S : MS) (H : Heap) (locs : List Loc) (ls : Array Slot) (s0 : Int32), fr_setOn_b50 S s0 = some (r1, S1) → mG D cI cJ cZ ad A H0 H locs S → lv_has ls 4 [] → W p l e { frames := 7, cells := 0, slots := 0, locals := 169 } s m args below meth c H locs 0 0 Q (F0 m 50 ls [.int s0]) := by
  have hx := E.1
  have hb := E.2.1
  have hts := E.2.2.1
  have hown := E.2.2.2.1
  have hK := E.2.2.2.2.1
  intro S H locs ls s0 h G hl
  unfold fr_setOn_b50 at h
  obtain ⟨gz, h⟩ := oif_some h
  have gr : r1 = 0 ∨ r1 = 1 := by rw [← (osome2 h).1]; exact gz
  rw [(osome2 h).2] at G
  refine lv_to (osome2 h).1 ?_
  exact kr50 _ _ _ gr G
def fr_setOn_b28  (S : MS) (s0 : Int32) (s1 : Int32) : Option (Int32 × MS) := obind2 (fr_sets S s1 s0) fun r5 S2 => obind (fr_records_12 S2) fun S6 => if r5 = 1 then (fr_setOn_b50 S6 1) else (fr_setOn_b50 S6 0)
set_option maxHeartbeats 4000000 in
set_option maxRecDepth 100000 in
theorem tr_setOn_b28 {p : Program} {l : Launch} {e : Env} {s : State} {m : MethodId} {args : Array Value} {below : List Frame} {meth : Method} {c : Code} {Q : State → Prop} {D : va_G} {A : Nat → Prop} {H0 : Heap} {cI cJ cZ : ClassId} {ad : Nat → Nat} {r1 : Int32} {S1 : MS} (E : mE p c cX12_setOn s m args (Cond.code yX12_setOn cX12_setOn 4 (some .boolean) :: wsM) D cI cJ cZ) (hA : ∀ q : Nat, H0.size ≤ q → A q) (hR : sR s) (hml : c.maxLocals = 4) (kr13 : ∀ (H : Heap) (locs : List Loc) (ls : Array Slot), (r1 = 0 ∨ r1 = 1) → mG D cI cJ cZ ad A H0 H locs S1 → W p l e { frames := 7, cells := 0, slots := 0, locals := 169 } s m args below meth c H locs 0 0 Q (F0 m 13 ls [.int r1])) (kr50 : ∀ (H : Heap) (locs : List Loc) (ls : Array Slot), (r1 = 0 ∨ r1 = 1) → mG D cI cJ cZ ad A H0 H locs S1 → W p l e { frames := 7, cells := 0, slots := 0, locals := 169 } s m args below meth c H locs 0 0 Q (F0 m 50 ls [.int r1])) : ∀ (S : MS) (H : Heap) (locs : List Loc) (ls : Array Slot) (s0 : Int32) (s1 : Int32), fr_setOn_b28 S s0 s1 = some (r1, S1) → mG D cI cJ cZ ad A H0 H locs S → lv_has ls 4 [(0, .ref (ad 0))] → W p l e { frames := 7, cells := 0, slots := 0, locals := 169 } s m args below meth c H locs 0 0 Q (F0 m 28 ls [.int s0, .int s1, .ref (ad 0)]) := by
  have hx := E.1
  have hb := E.2.1
  have hts := E.2.2.1
  have hown := E.2.2.2.1
  have hK := E.2.2.2.2.1
  intro S H locs ls s0 s1 h G hl
  unfold fr_setOn_b28 at h
  obtain ⟨r5, S2, eS2, h⟩ := obind2_some h
  refine m_calli (As := [.int s1, .int s0]) (rest := []) E G hA hR hml (tr_sets l D cI cJ cZ ad S s1 s0 eS2) (cwV 2 hts (gmV qM_484 qM_485 qM_486 qM_35 qM_479) rfl rfl rfl (by decide +kernel) ⟨Nat.le_of_ble_eq_true rfl, Nat.le_of_ble_eq_true rfl⟩) rfl hl.1 rfl (lv_room (Nat.le_of_ble_eq_true rfl)) dX12_setOn_28 ⟨Nat.zero_le _, Nat.zero_le _⟩ (fun q3 S4 H locs hq G => ?_)
  obtain ⟨hq1, hq2⟩ := hq
  rw [hq2] at G
  refine lv_to hq1 ?_
  clear hq1 hq2 eS2
  refine lv_istore_n (lv' := [(3, .int r5), (0, .ref (ad 0))]) hx hb dX12_setOn_31 rfl hl (by decide) rfl (fun ls hl => ?_)
  refine lv_aload_n hx hb dX12_setOn_32 rfl (lv_at hl 1 rfl) ?_
  refine lv_aload_n hx hb dX12_setOn_33 rfl (lv_at hl 1 rfl) ?_
  refine m_get E G 12 (v := .ref (ad 12)) (by decide) (.tail _ qM_9) rfl dX12_setOn_34 rfl ?_
  obtain ⟨S6, eS6, h⟩ := obind_some h
  refine m_callv (As := [.ref (ad 12)]) (rest := []) E G hA hR hml (tr_records_12 l D cI cJ cZ ad S2 eS6) (cwV 1 hts (gmV qM_220 qM_221 qM_222 qM_35 qM_223) rfl rfl rfl (by decide +kernel) ⟨Nat.le_of_ble_eq_true rfl, Nat.le_of_ble_eq_true rfl⟩) rfl hl.1 rfl (lv_room (Nat.le_of_ble_eq_true rfl)) dX12_setOn_37 ⟨Nat.zero_le _, Nat.zero_le _⟩ (fun S8 H locs hq G => ?_)
  rw [hq] at G
  clear hq eS6
  refine lv_iload_n hx hb dX12_setOn_40 rfl (lv_at hl 0 rfl) ?_
  refine lv_iconst (v := 1) hx hb dX12_setOn_41 (by decide) ?_
  refine lv_icmp_ne (tgt := 49) hx hb dX12_setOn_42 (by decide) (fun c9 => ?_) (fun c9 => ?_)
  · have h := oif_neg c9 h
    refine lv_iconst (v := 0) hx hb dX12_setOn_49 (by decide) ?_
    have hl := lv_sub hl [] rfl
    exact tr_setOn_b50 E hA hR hml kr13 kr50 _ _ _ _ _ h G hl
  · have h := oif_pos c9 h
    refine lv_iconst (v := 1) hx hb dX12_setOn_45 (by decide) ?_
    refine lv_goto (tgt := 50) hx hb dX12_setOn_46 (by decide) ?_
    have hl := lv_sub hl [] rfl
    exact tr_setOn_b50 E hA hR hml kr13 kr50 _ _ _ _ _ h G hl
def fr_setOn (S : MS) (a0 : Int32) (a1 : Int32) : Option (Int32 × MS) := obind2 (fr_isSource S a0) fun r5 S2 => obind2 (fr_mayAsk S2 r5) fun r9 S6 => if r9 = 0 then (some (0, S6)) else (elet (25 + a0) fun v11 => if a1 = 0 then (fr_setOn_b28 S6 0 v11) else (fr_setOn_b28 S6 1 v11))
set_option maxHeartbeats 4000000 in
set_option maxRecDepth 100000 in
theorem tr_setOn (l : Launch) (D : va_G) (cI cJ cZ : ClassId) (ad : Nat → Nat) (S : MS) (a0 : Int32) (a1 : Int32) {r1 : Int32} {S1 : MS} (h : fr_setOn S a0 a1 = some (r1, S1)) : mCi l yX12_setOn (Cond.code yX12_setOn cX12_setOn 4 (some .boolean) :: wsM) 7 169 D cI cJ cZ ad S [.int a0, .int a1] (fun r S9 => r = r1 ∧ S9 = S1) := by
  intro sz
  refine Met.ofW (cc := cX12_setOn) (maxL := 4) (ret := (some .boolean)) (by decide) rfl ?_
  intro p e s m args below meth c s₁ B hml hv
  obtain ⟨rfl, hsz, hP, hK, hD0, hR⟩ := hv
  have hx := B.exec
  have hb := B.bytes
  have hr := B.returns
  have hts := atoms_spec (ws := (Cond.code yX12_setOn cX12_setOn 4 (some .boolean) :: wsM)) B.pre
  have hown : s.vm.findClass RX12 = some m.cls := findClass_of_methodNamed B.named
  have hlocks := B.notSynchronized
  subst hsz
  have hD := hD0.self (sz := s.heap.size)
  generalize hAe : va_A (MW cI cJ cZ ad S) s.heap.size = A at hD ⊢
  have hA : ∀ q : Nat, s.heap.size ≤ q → A q := fun q h => by rw [← hAe]; exact Or.inr h
  have G : mG D cI cJ cZ ad A s.heap s.heap [] S := ⟨hP, hD, va_S.rf⟩
  have E : mE p c cX12_setOn s m ([.ref (ad 0), .int a0, .int a1] : List Value).toArray (Cond.code yX12_setOn cX12_setOn 4 (some .boolean) :: wsM) D cI cJ cZ := ⟨hx, hb, hts, hown, hK, fun w h => .tail _ (iM_x h)⟩
  have hl := lv_entry ([.ref (ad 0), .int a0, .int a1]) (n := 4) (Nat.le_of_ble_eq_true rfl)
  rw [lg_entry_eq]
  generalize (lg_sl ([.ref (ad 0), .int a0, .int a1]) ++ List.replicate (4 - (lg_sl ([.ref (ad 0), .int a0, .int a1])).length) Slot.unset).toArray = ls at hl ⊢
  have hl : lv_has ls 4 [(0, .ref (ad 0)), (1, .int a0), (2, .int a1)] := hl
  unfold fr_setOn at h
  refine lv_aload_n hx hb dX12_setOn_0 rfl (lv_at hl 0 rfl) ?_
  refine lv_aload_n hx hb dX12_setOn_1 rfl (lv_at hl 0 rfl) ?_
  refine lv_iload_n hx hb dX12_setOn_2 rfl (lv_at hl 1 rfl) ?_
  obtain ⟨r5, S2, eS2, h⟩ := obind2_some h
  refine m_calli (As := [.int a0]) (rest := [.ref (ad 0)]) E G hA hR hml (tr_isSource l D cI cJ cZ ad S a0 eS2) (cwV 1 hts (gmV qM_331 qM_332 qM_333 qM_35 qM_308) rfl rfl rfl (by decide +kernel) ⟨Nat.le_of_ble_eq_true rfl, Nat.le_of_ble_eq_true rfl⟩) rfl hl.1 rfl (lv_room (Nat.le_of_ble_eq_true rfl)) dX12_setOn_3 ⟨Nat.zero_le _, Nat.zero_le _⟩ (fun q3 S4 H locs hq G => ?_)
  obtain ⟨hq1, hq2⟩ := hq
  rw [hq2] at G
  refine lv_to hq1 ?_
  clear hq1 hq2 eS2
  obtain ⟨r9, S6, eS6, h⟩ := obind2_some h
  refine m_calli (As := [.int r5]) (rest := []) E G hA hR hml (tr_mayAsk l D cI cJ cZ ad S2 r5 eS6) (cwV 1 hts (gmV qM_319 qM_320 qM_321 qM_35 qM_304) rfl rfl rfl (by decide +kernel) ⟨Nat.le_of_ble_eq_true rfl, Nat.le_of_ble_eq_true rfl⟩) rfl hl.1 rfl (lv_room (Nat.le_of_ble_eq_true rfl)) dX12_setOn_6 ⟨Nat.zero_le _, Nat.zero_le _⟩ (fun q7 S8 H locs hq G => ?_)
  obtain ⟨hq1, hq2⟩ := hq
  rw [hq2] at G
  refine lv_to hq1 ?_
  clear hq1 hq2 eS6
  refine lv_if_ne (tgt := 14) hx hb dX12_setOn_9 (by decide) (fun c10 => ?_) (fun c10 => ?_)
  · have h := oif_neg c10 h
    refine lv_aload_n hx hb dX12_setOn_14 rfl (lv_at hl 0 rfl) ?_
    refine lv_bipush (v := 25) hx hb dX12_setOn_15 (by decide) ?_
    refine lv_iload_n hx hb dX12_setOn_17 rfl (lv_at hl 1 rfl) ?_
    refine lv_iadd hx hb dX12_setOn_18 ?_
    refine lv_topi (fun v11 ev11 => ?_)
    have h := elet_at ev11 h
    clear ev11
    refine lv_iload_n hx hb dX12_setOn_19 rfl (lv_at hl 2 rfl) ?_
    refine lv_if_eq (tgt := 27) hx hb dX12_setOn_20 (by decide) (fun c12 => ?_) (fun c12 => ?_)
    · have h := oif_pos c12 h
      refine lv_iconst (v := 0) hx hb dX12_setOn_27 (by decide) ?_
      have hl := lv_sub hl [0] rfl
      exact tr_setOn_b28 E hA hR hml (fun H locs ls gz G => W.zret (v := r1) hx hb hr (nar01 gz) (fun t ht hW => ⟨⟨r1, S1, rfl, ⟨rfl, rfl⟩, ⟨by rw [ht]; exact G.1, va_K.moved hW.alike hK, G.2.1⟩⟩, G.2.2.F ht⟩) G.2.2.2.2 dX12_setOn_13) (fun H locs ls gz G => W.zret (v := r1) hx hb hr (nar01 gz) (fun t ht hW => ⟨⟨r1, S1, rfl, ⟨rfl, rfl⟩, ⟨by rw [ht]; exact G.1, va_K.moved hW.alike hK, G.2.1⟩⟩, G.2.2.F ht⟩) G.2.2.2.2 dX12_setOn_50) _ _ _ _ _ _ h G hl
    · have h := oif_neg c12 h
      refine lv_iconst (v := 1) hx hb dX12_setOn_23 (by decide) ?_
      refine lv_goto (tgt := 28) hx hb dX12_setOn_24 (by decide) ?_
      have hl := lv_sub hl [0] rfl
      exact tr_setOn_b28 E hA hR hml (fun H locs ls gz G => W.zret (v := r1) hx hb hr (nar01 gz) (fun t ht hW => ⟨⟨r1, S1, rfl, ⟨rfl, rfl⟩, ⟨by rw [ht]; exact G.1, va_K.moved hW.alike hK, G.2.1⟩⟩, G.2.2.F ht⟩) G.2.2.2.2 dX12_setOn_13) (fun H locs ls gz G => W.zret (v := r1) hx hb hr (nar01 gz) (fun t ht hW => ⟨⟨r1, S1, rfl, ⟨rfl, rfl⟩, ⟨by rw [ht]; exact G.1, va_K.moved hW.alike hK, G.2.1⟩⟩, G.2.2.F ht⟩) G.2.2.2.2 dX12_setOn_50) _ _ _ _ _ _ h G hl
  · have h := oif_pos c10 h
    refine lv_iconst (v := 0) hx hb dX12_setOn_12 (by decide) ?_
    exact W.zret (v := 0) hx hb hr rfl (fun t ht hW => ⟨⟨0, S6, rfl, osome2 h, ⟨by rw [ht]; exact G.1, va_K.moved hW.alike hK, G.2.1⟩⟩, G.2.2.F ht⟩) G.2.2.2.2 dX12_setOn_13
def fr_setsTwo (S : MS) (a0 : Int32) (a1 : Int32) (a2 : Int32) : Option (Int32 × MS) := obind2 (fr_sets S a0 a1) fun r5 S2 => elet (a0 + 6) fun v6 => oif (inb v6 2455 = true) <| elet (mf S2 12 (upd (S2.2.1 12) v6.toNatClampNeg a2)) fun S8 => obind (fr_records_12 S8) fun S9 => obind2 (fr_bestIn_12 S9) fun r15 S12 => some (r15, S12)
set_option maxHeartbeats 4000000 in
set_option maxRecDepth 100000 in
theorem tr_setsTwo (l : Launch) (D : va_G) (cI cJ cZ : ClassId) (ad : Nat → Nat) (S : MS) (a0 : Int32) (a1 : Int32) (a2 : Int32) {r1 : Int32} {S1 : MS} (h : fr_setsTwo S a0 a1 a2 = some (r1, S1)) : mCi l yX12_setsTwo (Cond.code yX12_setsTwo cX12_setsTwo 5 (some .int) :: wsM) 8 169 D cI cJ cZ ad S [.int a0, .int a1, .int a2] (fun r S9 => r = r1 ∧ S9 = S1) := by
  intro sz
  refine Met.ofW (cc := cX12_setsTwo) (maxL := 5) (ret := (some .int)) (by decide) rfl ?_
  intro p e s m args below meth c s₁ B hml hv
  obtain ⟨rfl, hsz, hP, hK, hD0, hR⟩ := hv
  have hx := B.exec
  have hb := B.bytes
  have hr := B.returns
  have hts := atoms_spec (ws := (Cond.code yX12_setsTwo cX12_setsTwo 5 (some .int) :: wsM)) B.pre
  have hown : s.vm.findClass RX12 = some m.cls := findClass_of_methodNamed B.named
  have hlocks := B.notSynchronized
  subst hsz
  have hD := hD0.self (sz := s.heap.size)
  generalize hAe : va_A (MW cI cJ cZ ad S) s.heap.size = A at hD ⊢
  have hA : ∀ q : Nat, s.heap.size ≤ q → A q := fun q h => by rw [← hAe]; exact Or.inr h
  have G : mG D cI cJ cZ ad A s.heap s.heap [] S := ⟨hP, hD, va_S.rf⟩
  have E : mE p c cX12_setsTwo s m ([.ref (ad 0), .int a0, .int a1, .int a2] : List Value).toArray (Cond.code yX12_setsTwo cX12_setsTwo 5 (some .int) :: wsM) D cI cJ cZ := ⟨hx, hb, hts, hown, hK, fun w h => .tail _ (iM_x h)⟩
  have hl := lv_entry ([.ref (ad 0), .int a0, .int a1, .int a2]) (n := 5) (Nat.le_of_ble_eq_true rfl)
  rw [lg_entry_eq]
  generalize (lg_sl ([.ref (ad 0), .int a0, .int a1, .int a2]) ++ List.replicate (5 - (lg_sl ([.ref (ad 0), .int a0, .int a1, .int a2])).length) Slot.unset).toArray = ls at hl ⊢
  have hl : lv_has ls 5 [(0, .ref (ad 0)), (1, .int a0), (2, .int a1), (3, .int a2)] := hl
  unfold fr_setsTwo at h
  refine lv_aload_n hx hb dX12_setsTwo_0 rfl (lv_at hl 0 rfl) ?_
  refine lv_iload_n hx hb dX12_setsTwo_1 rfl (lv_at hl 1 rfl) ?_
  refine lv_iload_n hx hb dX12_setsTwo_2 rfl (lv_at hl 2 rfl) ?_
  obtain ⟨r5, S2, eS2, h⟩ := obind2_some h
  refine m_calli (As := [.int a0, .int a1]) (rest := []) E G hA hR hml (tr_sets l D cI cJ cZ ad S a0 a1 eS2) (cwV 2 hts (gmV qM_484 qM_485 qM_486 qM_35 qM_479) rfl rfl rfl (by decide +kernel) ⟨Nat.le_of_ble_eq_true rfl, Nat.le_of_ble_eq_true rfl⟩) rfl hl.1 rfl (lv_room (Nat.le_of_ble_eq_true rfl)) dX12_setsTwo_3 ⟨Nat.zero_le _, Nat.zero_le _⟩ (fun q3 S4 H locs hq G => ?_)
  obtain ⟨hq1, hq2⟩ := hq
  rw [hq2] at G
  refine lv_to hq1 ?_
  clear hq1 hq2 eS2
  refine lv_istore (lv' := [(4, .int r5), (0, .ref (ad 0)), (1, .int a0), (2, .int a1), (3, .int a2)]) hx hb dX12_setsTwo_6 hl (by decide) rfl (fun ls hl => ?_)
  refine lv_aload_n hx hb dX12_setsTwo_8 rfl (lv_at hl 1 rfl) ?_
  refine m_get E G 12 (v := .ref (ad 12)) (by decide) (.tail _ qM_9) rfl dX12_setsTwo_9 rfl ?_
  refine lv_iload_n hx hb dX12_setsTwo_12 rfl (lv_at hl 2 rfl) ?_
  refine lv_bipush (v := 6) hx hb dX12_setsTwo_13 (by decide) ?_
  refine lv_iadd hx hb dX12_setsTwo_15 ?_
  refine lv_topi (fun v6 ev6 => ?_)
  have h := elet_at ev6 h
  clear ev6
  refine lv_iload_n hx hb dX12_setsTwo_16 rfl (lv_at hl 4 rfl) ?_
  obtain ⟨g7, h⟩ := oif_some h
  refine m_iast E G 12 4 (k := v6.toNatClampNeg) (v := a2) rfl (fun _ => rfl) (inb_k g7).1 (inb_k g7).2 (by decide) dX12_setsTwo_17 (fun H locs G => ?_)
  obtain ⟨S8, eS8, h⟩ := elet_some h
  rw [← eS8] at G
  clear eS8
  refine lv_aload_n hx hb dX12_setsTwo_18 rfl (lv_at hl 1 rfl) ?_
  refine lv_aload_n hx hb dX12_setsTwo_19 rfl (lv_at hl 1 rfl) ?_
  refine m_get E G 12 (v := .ref (ad 12)) (by decide) (.tail _ qM_9) rfl dX12_setsTwo_20 rfl ?_
  obtain ⟨S9, eS9, h⟩ := obind_some h
  refine m_callv (As := [.ref (ad 12)]) (rest := []) E G hA hR hml (tr_records_12 l D cI cJ cZ ad S8 eS9) (cwV 1 hts (gmV qM_220 qM_221 qM_222 qM_35 qM_223) rfl rfl rfl (by decide +kernel) ⟨Nat.le_of_ble_eq_true rfl, Nat.le_of_ble_eq_true rfl⟩) rfl hl.1 rfl (lv_room (Nat.le_of_ble_eq_true rfl)) dX12_setsTwo_23 ⟨Nat.zero_le _, Nat.zero_le _⟩ (fun S11 H locs hq G => ?_)
  rw [hq] at G
  clear hq eS9
  refine lv_aload_n hx hb dX12_setsTwo_26 rfl (lv_at hl 1 rfl) ?_
  refine lv_aload_n hx hb dX12_setsTwo_27 rfl (lv_at hl 1 rfl) ?_
  refine m_get E G 12 (v := .ref (ad 12)) (by decide) (.tail _ qM_9) rfl dX12_setsTwo_28 rfl ?_
  obtain ⟨r15, S12, eS12, h⟩ := obind2_some h
  refine m_calli (As := [.ref (ad 12)]) (rest := []) E G hA hR hml (tr_bestIn_12 l D cI cJ cZ ad S9 eS12) (cwV 1 hts (gmV qM_360 qM_361 qM_362 qM_35 qM_300) rfl rfl rfl (by decide +kernel) ⟨Nat.le_of_ble_eq_true rfl, Nat.le_of_ble_eq_true rfl⟩) rfl hl.1 rfl (lv_room (Nat.le_of_ble_eq_true rfl)) dX12_setsTwo_31 ⟨Nat.zero_le _, Nat.zero_le _⟩ (fun q13 S14 H locs hq G => ?_)
  obtain ⟨hq1, hq2⟩ := hq
  rw [hq2] at G
  refine lv_to hq1 ?_
  clear hq1 hq2 eS12
  exact W.iret (v := r15) hx hb hr (fun t ht hW => ⟨⟨r15, S12, rfl, osome2 h, ⟨by rw [ht]; exact G.1, va_K.moved hW.alike hK, G.2.1⟩⟩, G.2.2.F ht⟩) G.2.2.2.2 dX12_setsTwo_34
def fr_moveSource_b58  (S : MS) (s0 : Int32) : Option (Int32 × MS) := some (s0, S)
set_option maxHeartbeats 4000000 in
set_option maxRecDepth 100000 in
theorem tr_moveSource_b58 {p : Program} {l : Launch} {e : Env} {s : State} {m : MethodId} {args : Array Value} {below : List Frame} {meth : Method} {c : Code} {Q : State → Prop} {D : va_G} {A : Nat → Prop} {H0 : Heap} {cI cJ cZ : ClassId} {ad : Nat → Nat} {r1 : Int32} {S1 : MS} (E : mE p c cX12_moveSource s m args (Cond.code yX12_moveSource cX12_moveSource 4 (some .int) :: wsM) D cI cJ cZ) (hA : ∀ q : Nat, H0.size ≤ q → A q) (hR : sR s) (hml : c.maxLocals = 4) (kr13 : ∀ (H : Heap) (locs : List Loc) (ls : Array Slot), mG D cI cJ cZ ad A H0 H locs S1 → W p l e { frames := 9, cells := 0, slots := 0, locals := 193 } s m args below meth c H locs 0 0 Q (F0 m 13 ls [.int r1])) (kr58 : ∀ (H : Heap) (locs : List Loc) (ls : Array Slot), mG D cI cJ cZ ad A H0 H locs S1 → W p l e { frames := 9, cells := 0, slots := 0, locals := 193 } s m args below meth c H locs 0 0 Q (F0 m 58 ls [.int r1])) : ∀ (S : MS) (H : Heap) (locs : List Loc) (ls : Array Slot) (s0 : Int32), fr_moveSource_b58 S s0 = some (r1, S1) → mG D cI cJ cZ ad A H0 H locs S → lv_has ls 4 [] → W p l e { frames := 9, cells := 0, slots := 0, locals := 193 } s m args below meth c H locs 0 0 Q (F0 m 58 ls [.int s0]) := by
  have hx := E.1
  have hb := E.2.1
  have hts := E.2.2.1
  have hown := E.2.2.2.1
  have hK := E.2.2.2.2.1
  intro S H locs ls s0 h G hl
  unfold fr_moveSource_b58 at h
  rw [(osome2 h).2] at G
  refine lv_to (osome2 h).1 ?_
  exact kr58 _ _ _ G
def fr_moveSource_b53  (S : MS)  : Option (Int32 × MS) := obind2 (fr_throwsAt S 3) fun r5 S2 => fr_moveSource_b58 S2 r5
set_option maxHeartbeats 4000000 in
set_option maxRecDepth 100000 in
theorem tr_moveSource_b53 {p : Program} {l : Launch} {e : Env} {s : State} {m : MethodId} {args : Array Value} {below : List Frame} {meth : Method} {c : Code} {Q : State → Prop} {D : va_G} {A : Nat → Prop} {H0 : Heap} {cI cJ cZ : ClassId} {ad : Nat → Nat} {r1 : Int32} {S1 : MS} (E : mE p c cX12_moveSource s m args (Cond.code yX12_moveSource cX12_moveSource 4 (some .int) :: wsM) D cI cJ cZ) (hA : ∀ q : Nat, H0.size ≤ q → A q) (hR : sR s) (hml : c.maxLocals = 4) (kr13 : ∀ (H : Heap) (locs : List Loc) (ls : Array Slot), mG D cI cJ cZ ad A H0 H locs S1 → W p l e { frames := 9, cells := 0, slots := 0, locals := 193 } s m args below meth c H locs 0 0 Q (F0 m 13 ls [.int r1])) (kr58 : ∀ (H : Heap) (locs : List Loc) (ls : Array Slot), mG D cI cJ cZ ad A H0 H locs S1 → W p l e { frames := 9, cells := 0, slots := 0, locals := 193 } s m args below meth c H locs 0 0 Q (F0 m 58 ls [.int r1])) : ∀ (S : MS) (H : Heap) (locs : List Loc) (ls : Array Slot), fr_moveSource_b53 S = some (r1, S1) → mG D cI cJ cZ ad A H0 H locs S → lv_has ls 4 [(0, .ref (ad 0))] → W p l e { frames := 9, cells := 0, slots := 0, locals := 193 } s m args below meth c H locs 0 0 Q (F0 m 53 ls []) := by
  have hx := E.1
  have hb := E.2.1
  have hts := E.2.2.1
  have hown := E.2.2.2.1
  have hK := E.2.2.2.2.1
  intro S H locs ls h G hl
  unfold fr_moveSource_b53 at h
  refine lv_aload_n hx hb dX12_moveSource_53 rfl (lv_at hl 0 rfl) ?_
  refine lv_iconst (v := 3) hx hb dX12_moveSource_54 (by decide) ?_
  obtain ⟨r5, S2, eS2, h⟩ := obind2_some h
  refine m_calli (As := [.int 3]) (rest := []) E G hA hR hml (tr_throwsAt l D cI cJ cZ ad S 3 eS2) (cwV 1 hts (gmV qM_195 qM_196 qM_197 qM_35 qM_28) rfl rfl rfl (by decide +kernel) ⟨Nat.le_of_ble_eq_true rfl, Nat.le_of_ble_eq_true rfl⟩) rfl hl.1 rfl (lv_room (Nat.le_of_ble_eq_true rfl)) dX12_moveSource_55 ⟨Nat.zero_le _, Nat.zero_le _⟩ (fun q3 S4 H locs hq G => ?_)
  obtain ⟨hq1, hq2⟩ := hq
  rw [hq2] at G
  refine lv_to hq1 ?_
  clear hq1 hq2 eS2
  have hl := lv_sub hl [] rfl
  exact tr_moveSource_b58 E hA hR hml kr13 kr58 _ _ _ _ _ h G hl
def fr_moveSource (S : MS) (a0 : Int32) (a1 : Int32) (a2 : Int32) : Option (Int32 × MS) := obind2 (fr_isSource S a0) fun r5 S2 => obind2 (fr_mayAsk S2 r5) fun r9 S6 => if r9 = 0 then (some (0, S6)) else (obind (fr_in a1 (-2000) 2000) fun r11 => if r11 = 0 then (fr_moveSource_b53 S6) else (obind (fr_in a2 (-2000) 2000) fun r14 => if r14 = 0 then (fr_moveSource_b53 S6) else (elet (31 + a0) fun v17 => obind2 (fr_setsTwo S6 v17 a1 a2) fun r21 S18 => fr_moveSource_b58 S18 r21)))
set_option maxHeartbeats 4000000 in
set_option maxRecDepth 100000 in
theorem tr_moveSource (l : Launch) (D : va_G) (cI cJ cZ : ClassId) (ad : Nat → Nat) (S : MS) (a0 : Int32) (a1 : Int32) (a2 : Int32) {r1 : Int32} {S1 : MS} (h : fr_moveSource S a0 a1 a2 = some (r1, S1)) : mCi l yX12_moveSource (Cond.code yX12_moveSource cX12_moveSource 4 (some .int) :: wsM) 9 193 D cI cJ cZ ad S [.int a0, .int a1, .int a2] (fun r S9 => r = r1 ∧ S9 = S1) := by
  intro sz
  refine Met.ofW (cc := cX12_moveSource) (maxL := 4) (ret := (some .int)) (by decide) rfl ?_
  intro p e s m args below meth c s₁ B hml hv
  obtain ⟨rfl, hsz, hP, hK, hD0, hR⟩ := hv
  have hx := B.exec
  have hb := B.bytes
  have hr := B.returns
  have hts := atoms_spec (ws := (Cond.code yX12_moveSource cX12_moveSource 4 (some .int) :: wsM)) B.pre
  have hown : s.vm.findClass RX12 = some m.cls := findClass_of_methodNamed B.named
  have hlocks := B.notSynchronized
  subst hsz
  have hD := hD0.self (sz := s.heap.size)
  generalize hAe : va_A (MW cI cJ cZ ad S) s.heap.size = A at hD ⊢
  have hA : ∀ q : Nat, s.heap.size ≤ q → A q := fun q h => by rw [← hAe]; exact Or.inr h
  have G : mG D cI cJ cZ ad A s.heap s.heap [] S := ⟨hP, hD, va_S.rf⟩
  have E : mE p c cX12_moveSource s m ([.ref (ad 0), .int a0, .int a1, .int a2] : List Value).toArray (Cond.code yX12_moveSource cX12_moveSource 4 (some .int) :: wsM) D cI cJ cZ := ⟨hx, hb, hts, hown, hK, fun w h => .tail _ (iM_x h)⟩
  have hl := lv_entry ([.ref (ad 0), .int a0, .int a1, .int a2]) (n := 4) (Nat.le_of_ble_eq_true rfl)
  rw [lg_entry_eq]
  generalize (lg_sl ([.ref (ad 0), .int a0, .int a1, .int a2]) ++ List.replicate (4 - (lg_sl ([.ref (ad 0), .int a0, .int a1, .int a2])).length) Slot.unset).toArray = ls at hl ⊢
  have hl : lv_has ls 4 [(0, .ref (ad 0)), (1, .int a0), (2, .int a1), (3, .int a2)] := hl
  unfold fr_moveSource at h
  refine lv_aload_n hx hb dX12_moveSource_0 rfl (lv_at hl 0 rfl) ?_
  refine lv_aload_n hx hb dX12_moveSource_1 rfl (lv_at hl 0 rfl) ?_
  refine lv_iload_n hx hb dX12_moveSource_2 rfl (lv_at hl 1 rfl) ?_
  obtain ⟨r5, S2, eS2, h⟩ := obind2_some h
  refine m_calli (As := [.int a0]) (rest := [.ref (ad 0)]) E G hA hR hml (tr_isSource l D cI cJ cZ ad S a0 eS2) (cwV 1 hts (gmV qM_331 qM_332 qM_333 qM_35 qM_308) rfl rfl rfl (by decide +kernel) ⟨Nat.le_of_ble_eq_true rfl, Nat.le_of_ble_eq_true rfl⟩) rfl hl.1 rfl (lv_room (Nat.le_of_ble_eq_true rfl)) dX12_moveSource_3 ⟨Nat.zero_le _, Nat.zero_le _⟩ (fun q3 S4 H locs hq G => ?_)
  obtain ⟨hq1, hq2⟩ := hq
  rw [hq2] at G
  refine lv_to hq1 ?_
  clear hq1 hq2 eS2
  obtain ⟨r9, S6, eS6, h⟩ := obind2_some h
  refine m_calli (As := [.int r5]) (rest := []) E G hA hR hml (tr_mayAsk l D cI cJ cZ ad S2 r5 eS6) (cwV 1 hts (gmV qM_319 qM_320 qM_321 qM_35 qM_304) rfl rfl rfl (by decide +kernel) ⟨Nat.le_of_ble_eq_true rfl, Nat.le_of_ble_eq_true rfl⟩) rfl hl.1 rfl (lv_room (Nat.le_of_ble_eq_true rfl)) dX12_moveSource_6 ⟨Nat.zero_le _, Nat.zero_le _⟩ (fun q7 S8 H locs hq G => ?_)
  obtain ⟨hq1, hq2⟩ := hq
  rw [hq2] at G
  refine lv_to hq1 ?_
  clear hq1 hq2 eS6
  refine lv_if_ne (tgt := 14) hx hb dX12_moveSource_9 (by decide) (fun c10 => ?_) (fun c10 => ?_)
  · have h := oif_neg c10 h
    refine lv_iload_n hx hb dX12_moveSource_14 rfl (lv_at hl 2 rfl) ?_
    refine lv_sipush (v := (-2000)) hx hb dX12_moveSource_15 (by decide) ?_
    refine lv_sipush (v := 2000) hx hb dX12_moveSource_18 (by decide) ?_
    obtain ⟨r11, er11, h⟩ := obind_some h
    refine m_stat (As := [.int a1, .int (-2000), .int 2000]) (rest := []) ⟨hx, hb, hml, hown, hts⟩ (tr_in l a1 (-2000) 2000 er11) (cwS 3 hts (gmS qM_52 qM_53 qM_35 qM_27) rfl rfl rfl (by decide +kernel) ⟨Nat.le_of_ble_eq_true rfl, Nat.le_of_ble_eq_true rfl⟩) rfl hl.1 rfl (lv_room (Nat.le_of_ble_eq_true rfl)) dX12_moveSource_21 ⟨Nat.zero_le _, Nat.zero_le _⟩ (fun q12 hq => ?_)
    refine lv_to hq ?_
    clear hq er11
    refine lv_if_eq (tgt := 53) hx hb dX12_moveSource_24 (by decide) (fun c13 => ?_) (fun c13 => ?_)
    · have h := oif_pos c13 h
      have hl := lv_sub hl [0] rfl
      exact tr_moveSource_b53 E hA hR hml (fun H locs ls G => W.iret (v := r1) hx hb hr (fun t ht hW => ⟨⟨r1, S1, rfl, ⟨rfl, rfl⟩, ⟨by rw [ht]; exact G.1, va_K.moved hW.alike hK, G.2.1⟩⟩, G.2.2.F ht⟩) G.2.2.2.2 dX12_moveSource_13) (fun H locs ls G => W.iret (v := r1) hx hb hr (fun t ht hW => ⟨⟨r1, S1, rfl, ⟨rfl, rfl⟩, ⟨by rw [ht]; exact G.1, va_K.moved hW.alike hK, G.2.1⟩⟩, G.2.2.F ht⟩) G.2.2.2.2 dX12_moveSource_58) _ _ _ _ h G hl
    · have h := oif_neg c13 h
      refine lv_iload_n hx hb dX12_moveSource_27 rfl (lv_at hl 3 rfl) ?_
      refine lv_sipush (v := (-2000)) hx hb dX12_moveSource_28 (by decide) ?_
      refine lv_sipush (v := 2000) hx hb dX12_moveSource_31 (by decide) ?_
      obtain ⟨r14, er14, h⟩ := obind_some h
      refine m_stat (As := [.int a2, .int (-2000), .int 2000]) (rest := []) ⟨hx, hb, hml, hown, hts⟩ (tr_in l a2 (-2000) 2000 er14) (cwS 3 hts (gmS qM_52 qM_53 qM_35 qM_27) rfl rfl rfl (by decide +kernel) ⟨Nat.le_of_ble_eq_true rfl, Nat.le_of_ble_eq_true rfl⟩) rfl hl.1 rfl (lv_room (Nat.le_of_ble_eq_true rfl)) dX12_moveSource_34 ⟨Nat.zero_le _, Nat.zero_le _⟩ (fun q15 hq => ?_)
      refine lv_to hq ?_
      clear hq er14
      refine lv_if_eq (tgt := 53) hx hb dX12_moveSource_37 (by decide) (fun c16 => ?_) (fun c16 => ?_)
      · have h := oif_pos c16 h
        have hl := lv_sub hl [0] rfl
        exact tr_moveSource_b53 E hA hR hml (fun H locs ls G => W.iret (v := r1) hx hb hr (fun t ht hW => ⟨⟨r1, S1, rfl, ⟨rfl, rfl⟩, ⟨by rw [ht]; exact G.1, va_K.moved hW.alike hK, G.2.1⟩⟩, G.2.2.F ht⟩) G.2.2.2.2 dX12_moveSource_13) (fun H locs ls G => W.iret (v := r1) hx hb hr (fun t ht hW => ⟨⟨r1, S1, rfl, ⟨rfl, rfl⟩, ⟨by rw [ht]; exact G.1, va_K.moved hW.alike hK, G.2.1⟩⟩, G.2.2.F ht⟩) G.2.2.2.2 dX12_moveSource_58) _ _ _ _ h G hl
      · have h := oif_neg c16 h
        refine lv_aload_n hx hb dX12_moveSource_40 rfl (lv_at hl 0 rfl) ?_
        refine lv_bipush (v := 31) hx hb dX12_moveSource_41 (by decide) ?_
        refine lv_iload_n hx hb dX12_moveSource_43 rfl (lv_at hl 1 rfl) ?_
        refine lv_iadd hx hb dX12_moveSource_44 ?_
        refine lv_topi (fun v17 ev17 => ?_)
        have h := elet_at ev17 h
        clear ev17
        refine lv_iload_n hx hb dX12_moveSource_45 rfl (lv_at hl 2 rfl) ?_
        refine lv_iload_n hx hb dX12_moveSource_46 rfl (lv_at hl 3 rfl) ?_
        obtain ⟨r21, S18, eS18, h⟩ := obind2_some h
        refine m_calli (As := [.int v17, .int a1, .int a2]) (rest := []) E G hA hR hml (tr_setsTwo l D cI cJ cZ ad S6 v17 a1 a2 eS18) (cwV 3 hts (gmV qM_491 qM_492 qM_493 qM_35 qM_489) rfl rfl rfl (by decide +kernel) ⟨Nat.le_of_ble_eq_true rfl, Nat.le_of_ble_eq_true rfl⟩) rfl hl.1 rfl (lv_room (Nat.le_of_ble_eq_true rfl)) dX12_moveSource_47 ⟨Nat.zero_le _, Nat.zero_le _⟩ (fun q19 S20 H locs hq G => ?_)
        obtain ⟨hq1, hq2⟩ := hq
        rw [hq2] at G
        refine lv_to hq1 ?_
        clear hq1 hq2 eS18
        refine lv_goto (tgt := 58) hx hb dX12_moveSource_50 (by decide) ?_
        have hl := lv_sub hl [] rfl
        exact tr_moveSource_b58 E hA hR hml (fun H locs ls G => W.iret (v := r1) hx hb hr (fun t ht hW => ⟨⟨r1, S1, rfl, ⟨rfl, rfl⟩, ⟨by rw [ht]; exact G.1, va_K.moved hW.alike hK, G.2.1⟩⟩, G.2.2.F ht⟩) G.2.2.2.2 dX12_moveSource_13) (fun H locs ls G => W.iret (v := r1) hx hb hr (fun t ht hW => ⟨⟨r1, S1, rfl, ⟨rfl, rfl⟩, ⟨by rw [ht]; exact G.1, va_K.moved hW.alike hK, G.2.1⟩⟩, G.2.2.F ht⟩) G.2.2.2.2 dX12_moveSource_58) _ _ _ _ _ h G hl
  · have h := oif_pos c10 h
    refine lv_iconst (v := 0) hx hb dX12_moveSource_12 (by decide) ?_
    exact W.iret (v := 0) hx hb hr (fun t ht hW => ⟨⟨0, S6, rfl, osome2 h, ⟨by rw [ht]; exact G.1, va_K.moved hW.alike hK, G.2.1⟩⟩, G.2.2.F ht⟩) G.2.2.2.2 dX12_moveSource_13
def fr_setVelocity_b40  (S : MS) (s0 : Int32) : Option (Int32 × MS) := some (s0, S)
set_option maxHeartbeats 4000000 in
set_option maxRecDepth 100000 in
theorem tr_setVelocity_b40 {p : Program} {l : Launch} {e : Env} {s : State} {m : MethodId} {args : Array Value} {below : List Frame} {meth : Method} {c : Code} {Q : State → Prop} {D : va_G} {A : Nat → Prop} {H0 : Heap} {cI cJ cZ : ClassId} {ad : Nat → Nat} {r1 : Int32} {S1 : MS} (E : mE p c cX12_setVelocity s m args (Cond.code yX12_setVelocity cX12_setVelocity 4 (some .int) :: wsM) D cI cJ cZ) (hA : ∀ q : Nat, H0.size ≤ q → A q) (hR : sR s) (hml : c.maxLocals = 4) (kr13 : ∀ (H : Heap) (locs : List Loc) (ls : Array Slot), mG D cI cJ cZ ad A H0 H locs S1 → W p l e { frames := 9, cells := 0, slots := 0, locals := 193 } s m args below meth c H locs 0 0 Q (F0 m 13 ls [.int r1])) (kr40 : ∀ (H : Heap) (locs : List Loc) (ls : Array Slot), mG D cI cJ cZ ad A H0 H locs S1 → W p l e { frames := 9, cells := 0, slots := 0, locals := 193 } s m args below meth c H locs 0 0 Q (F0 m 40 ls [.int r1])) : ∀ (S : MS) (H : Heap) (locs : List Loc) (ls : Array Slot) (s0 : Int32), fr_setVelocity_b40 S s0 = some (r1, S1) → mG D cI cJ cZ ad A H0 H locs S → lv_has ls 4 [] → W p l e { frames := 9, cells := 0, slots := 0, locals := 193 } s m args below meth c H locs 0 0 Q (F0 m 40 ls [.int s0]) := by
  have hx := E.1
  have hb := E.2.1
  have hts := E.2.2.1
  have hown := E.2.2.2.1
  have hK := E.2.2.2.2.1
  intro S H locs ls s0 h G hl
  unfold fr_setVelocity_b40 at h
  rw [(osome2 h).2] at G
  refine lv_to (osome2 h).1 ?_
  exact kr40 _ _ _ G
def fr_setVelocity (S : MS) (a0 : Int32) (a1 : Int32) (a2 : Int32) : Option (Int32 × MS) := obind2 (fr_isSource S a0) fun r5 S2 => obind2 (fr_mayAsk S2 r5) fun r9 S6 => if r9 = 0 then (some (0, S6)) else (obind (fr_isVelocity a1 a2) fun r11 => if r11 = 0 then (obind2 (fr_throwsAt S6 3) fun r17 S14 => fr_setVelocity_b40 S14 r17) else (elet (43 + a0) fun v18 => obind2 (fr_setsTwo S6 v18 a1 a2) fun r22 S19 => fr_setVelocity_b40 S19 r22))
set_option maxHeartbeats 4000000 in
set_option maxRecDepth 100000 in
theorem tr_setVelocity (l : Launch) (D : va_G) (cI cJ cZ : ClassId) (ad : Nat → Nat) (S : MS) (a0 : Int32) (a1 : Int32) (a2 : Int32) {r1 : Int32} {S1 : MS} (h : fr_setVelocity S a0 a1 a2 = some (r1, S1)) : mCi l yX12_setVelocity (Cond.code yX12_setVelocity cX12_setVelocity 4 (some .int) :: wsM) 9 193 D cI cJ cZ ad S [.int a0, .int a1, .int a2] (fun r S9 => r = r1 ∧ S9 = S1) := by
  intro sz
  refine Met.ofW (cc := cX12_setVelocity) (maxL := 4) (ret := (some .int)) (by decide) rfl ?_
  intro p e s m args below meth c s₁ B hml hv
  obtain ⟨rfl, hsz, hP, hK, hD0, hR⟩ := hv
  have hx := B.exec
  have hb := B.bytes
  have hr := B.returns
  have hts := atoms_spec (ws := (Cond.code yX12_setVelocity cX12_setVelocity 4 (some .int) :: wsM)) B.pre
  have hown : s.vm.findClass RX12 = some m.cls := findClass_of_methodNamed B.named
  have hlocks := B.notSynchronized
  subst hsz
  have hD := hD0.self (sz := s.heap.size)
  generalize hAe : va_A (MW cI cJ cZ ad S) s.heap.size = A at hD ⊢
  have hA : ∀ q : Nat, s.heap.size ≤ q → A q := fun q h => by rw [← hAe]; exact Or.inr h
  have G : mG D cI cJ cZ ad A s.heap s.heap [] S := ⟨hP, hD, va_S.rf⟩
  have E : mE p c cX12_setVelocity s m ([.ref (ad 0), .int a0, .int a1, .int a2] : List Value).toArray (Cond.code yX12_setVelocity cX12_setVelocity 4 (some .int) :: wsM) D cI cJ cZ := ⟨hx, hb, hts, hown, hK, fun w h => .tail _ (iM_x h)⟩
  have hl := lv_entry ([.ref (ad 0), .int a0, .int a1, .int a2]) (n := 4) (Nat.le_of_ble_eq_true rfl)
  rw [lg_entry_eq]
  generalize (lg_sl ([.ref (ad 0), .int a0, .int a1, .int a2]) ++ List.replicate (4 - (lg_sl ([.ref (ad 0), .int a0, .int a1, .int a2])).length) Slot.unset).toArray = ls at hl ⊢
  have hl : lv_has ls 4 [(0, .ref (ad 0)), (1, .int a0), (2, .int a1), (3, .int a2)] := hl
  unfold fr_setVelocity at h
  refine lv_aload_n hx hb dX12_setVelocity_0 rfl (lv_at hl 0 rfl) ?_
  refine lv_aload_n hx hb dX12_setVelocity_1 rfl (lv_at hl 0 rfl) ?_
  refine lv_iload_n hx hb dX12_setVelocity_2 rfl (lv_at hl 1 rfl) ?_
  obtain ⟨r5, S2, eS2, h⟩ := obind2_some h
  refine m_calli (As := [.int a0]) (rest := [.ref (ad 0)]) E G hA hR hml (tr_isSource l D cI cJ cZ ad S a0 eS2) (cwV 1 hts (gmV qM_331 qM_332 qM_333 qM_35 qM_308) rfl rfl rfl (by decide +kernel) ⟨Nat.le_of_ble_eq_true rfl, Nat.le_of_ble_eq_true rfl⟩) rfl hl.1 rfl (lv_room (Nat.le_of_ble_eq_true rfl)) dX12_setVelocity_3 ⟨Nat.zero_le _, Nat.zero_le _⟩ (fun q3 S4 H locs hq G => ?_)
  obtain ⟨hq1, hq2⟩ := hq
  rw [hq2] at G
  refine lv_to hq1 ?_
  clear hq1 hq2 eS2
  obtain ⟨r9, S6, eS6, h⟩ := obind2_some h
  refine m_calli (As := [.int r5]) (rest := []) E G hA hR hml (tr_mayAsk l D cI cJ cZ ad S2 r5 eS6) (cwV 1 hts (gmV qM_319 qM_320 qM_321 qM_35 qM_304) rfl rfl rfl (by decide +kernel) ⟨Nat.le_of_ble_eq_true rfl, Nat.le_of_ble_eq_true rfl⟩) rfl hl.1 rfl (lv_room (Nat.le_of_ble_eq_true rfl)) dX12_setVelocity_6 ⟨Nat.zero_le _, Nat.zero_le _⟩ (fun q7 S8 H locs hq G => ?_)
  obtain ⟨hq1, hq2⟩ := hq
  rw [hq2] at G
  refine lv_to hq1 ?_
  clear hq1 hq2 eS6
  refine lv_if_ne (tgt := 14) hx hb dX12_setVelocity_9 (by decide) (fun c10 => ?_) (fun c10 => ?_)
  · have h := oif_neg c10 h
    refine lv_iload_n hx hb dX12_setVelocity_14 rfl (lv_at hl 2 rfl) ?_
    refine lv_iload_n hx hb dX12_setVelocity_15 rfl (lv_at hl 3 rfl) ?_
    obtain ⟨r11, er11, h⟩ := obind_some h
    refine m_stat (As := [.int a1, .int a2]) (rest := []) ⟨hx, hb, hml, hown, hts⟩ (tr_isVelocity l a1 a2 er11) (cwS 2 hts (gmS qM_450 qM_451 qM_35 qM_448) rfl rfl rfl (by decide +kernel) ⟨Nat.le_of_ble_eq_true rfl, Nat.le_of_ble_eq_true rfl⟩) rfl hl.1 rfl (lv_room (Nat.le_of_ble_eq_true rfl)) dX12_setVelocity_16 ⟨Nat.zero_le _, Nat.zero_le _⟩ (fun q12 hq => ?_)
    refine lv_to hq ?_
    clear hq er11
    refine lv_if_eq (tgt := 35) hx hb dX12_setVelocity_19 (by decide) (fun c13 => ?_) (fun c13 => ?_)
    · have h := oif_pos c13 h
      refine lv_aload_n hx hb dX12_setVelocity_35 rfl (lv_at hl 0 rfl) ?_
      refine lv_iconst (v := 3) hx hb dX12_setVelocity_36 (by decide) ?_
      obtain ⟨r17, S14, eS14, h⟩ := obind2_some h
      refine m_calli (As := [.int 3]) (rest := []) E G hA hR hml (tr_throwsAt l D cI cJ cZ ad S6 3 eS14) (cwV 1 hts (gmV qM_195 qM_196 qM_197 qM_35 qM_28) rfl rfl rfl (by decide +kernel) ⟨Nat.le_of_ble_eq_true rfl, Nat.le_of_ble_eq_true rfl⟩) rfl hl.1 rfl (lv_room (Nat.le_of_ble_eq_true rfl)) dX12_setVelocity_37 ⟨Nat.zero_le _, Nat.zero_le _⟩ (fun q15 S16 H locs hq G => ?_)
      obtain ⟨hq1, hq2⟩ := hq
      rw [hq2] at G
      refine lv_to hq1 ?_
      clear hq1 hq2 eS14
      have hl := lv_sub hl [] rfl
      exact tr_setVelocity_b40 E hA hR hml (fun H locs ls G => W.iret (v := r1) hx hb hr (fun t ht hW => ⟨⟨r1, S1, rfl, ⟨rfl, rfl⟩, ⟨by rw [ht]; exact G.1, va_K.moved hW.alike hK, G.2.1⟩⟩, G.2.2.F ht⟩) G.2.2.2.2 dX12_setVelocity_13) (fun H locs ls G => W.iret (v := r1) hx hb hr (fun t ht hW => ⟨⟨r1, S1, rfl, ⟨rfl, rfl⟩, ⟨by rw [ht]; exact G.1, va_K.moved hW.alike hK, G.2.1⟩⟩, G.2.2.F ht⟩) G.2.2.2.2 dX12_setVelocity_40) _ _ _ _ _ h G hl
    · have h := oif_neg c13 h
      refine lv_aload_n hx hb dX12_setVelocity_22 rfl (lv_at hl 0 rfl) ?_
      refine lv_bipush (v := 43) hx hb dX12_setVelocity_23 (by decide) ?_
      refine lv_iload_n hx hb dX12_setVelocity_25 rfl (lv_at hl 1 rfl) ?_
      refine lv_iadd hx hb dX12_setVelocity_26 ?_
      refine lv_topi (fun v18 ev18 => ?_)
      have h := elet_at ev18 h
      clear ev18
      refine lv_iload_n hx hb dX12_setVelocity_27 rfl (lv_at hl 2 rfl) ?_
      refine lv_iload_n hx hb dX12_setVelocity_28 rfl (lv_at hl 3 rfl) ?_
      obtain ⟨r22, S19, eS19, h⟩ := obind2_some h
      refine m_calli (As := [.int v18, .int a1, .int a2]) (rest := []) E G hA hR hml (tr_setsTwo l D cI cJ cZ ad S6 v18 a1 a2 eS19) (cwV 3 hts (gmV qM_491 qM_492 qM_493 qM_35 qM_489) rfl rfl rfl (by decide +kernel) ⟨Nat.le_of_ble_eq_true rfl, Nat.le_of_ble_eq_true rfl⟩) rfl hl.1 rfl (lv_room (Nat.le_of_ble_eq_true rfl)) dX12_setVelocity_29 ⟨Nat.zero_le _, Nat.zero_le _⟩ (fun q20 S21 H locs hq G => ?_)
      obtain ⟨hq1, hq2⟩ := hq
      rw [hq2] at G
      refine lv_to hq1 ?_
      clear hq1 hq2 eS19
      refine lv_goto (tgt := 40) hx hb dX12_setVelocity_32 (by decide) ?_
      have hl := lv_sub hl [] rfl
      exact tr_setVelocity_b40 E hA hR hml (fun H locs ls G => W.iret (v := r1) hx hb hr (fun t ht hW => ⟨⟨r1, S1, rfl, ⟨rfl, rfl⟩, ⟨by rw [ht]; exact G.1, va_K.moved hW.alike hK, G.2.1⟩⟩, G.2.2.F ht⟩) G.2.2.2.2 dX12_setVelocity_13) (fun H locs ls G => W.iret (v := r1) hx hb hr (fun t ht hW => ⟨⟨r1, S1, rfl, ⟨rfl, rfl⟩, ⟨by rw [ht]; exact G.1, va_K.moved hW.alike hK, G.2.1⟩⟩, G.2.2.F ht⟩) G.2.2.2.2 dX12_setVelocity_40) _ _ _ _ _ h G hl
  · have h := oif_pos c10 h
    refine lv_iconst (v := 0) hx hb dX12_setVelocity_12 (by decide) ?_
    exact W.iret (v := 0) hx hb hr (fun t ht hW => ⟨⟨0, S6, rfl, osome2 h, ⟨by rw [ht]; exact G.1, va_K.moved hW.alike hK, G.2.1⟩⟩, G.2.2.F ht⟩) G.2.2.2.2 dX12_setVelocity_13
def fr_weightOf_b40 (k4 : MS → Int32 → Int32 → Option (Int32 × MS)) (S : MS) (s0 : Int32) (s1 : Int32) (l2 : Int32) : Option (Int32 × MS) := elet (s1 + s0) fun v2 => elet (l2 + Int32.ofInt (1)) fun v3 => k4 S v2 v3
set_option maxHeartbeats 4000000 in
set_option maxRecDepth 100000 in
theorem tr_weightOf_b40 {p : Program} {l : Launch} {e : Env} {s : State} {m : MethodId} {args : Array Value} {below : List Frame} {meth : Method} {c : Code} {Q : State → Prop} {D : va_G} {A : Nat → Prop} {H0 : Heap} {cI cJ cZ : ClassId} {ad : Nat → Nat} {r1 : Int32} {S1 : MS} (E : mE p c cX12_weightOf s m args (Cond.code yX12_weightOf cX12_weightOf 3 (some .int) :: wsM) D cI cJ cZ) (hA : ∀ q : Nat, H0.size ≤ q → A q) (hR : sR s) (hml : c.maxLocals = 3) (kr49 : ∀ (H : Heap) (locs : List Loc) (ls : Array Slot), mG D cI cJ cZ ad A H0 H locs S1 → W p l e { frames := 2, cells := 0, slots := 0, locals := 22 } s m args below meth c H locs 0 0 Q (F0 m 49 ls [.int r1])) {k4 : MS → Int32 → Int32 → Option (Int32 × MS)} (hk4 : ∀ (S : MS) (H : Heap) (locs : List Loc) (ls : Array Slot) (l1 : Int32) (l2 : Int32), k4 S l1 l2 = some (r1, S1) → mG D cI cJ cZ ad A H0 H locs S → lv_has ls 3 [(0, .ref (ad 0)), (1, .int l1), (2, .int l2)] → W p l e { frames := 2, cells := 0, slots := 0, locals := 22 } s m args below meth c H locs 0 0 Q (F0 m 4 ls [])) : ∀ (S : MS) (H : Heap) (locs : List Loc) (ls : Array Slot) (s0 : Int32) (s1 : Int32) (l2 : Int32), fr_weightOf_b40 k4 S s0 s1 l2 = some (r1, S1) → mG D cI cJ cZ ad A H0 H locs S → lv_has ls 3 [(0, .ref (ad 0)), (2, .int l2)] → W p l e { frames := 2, cells := 0, slots := 0, locals := 22 } s m args below meth c H locs 0 0 Q (F0 m 40 ls [.int s0, .int s1]) := by
  have hx := E.1
  have hb := E.2.1
  have hts := E.2.2.1
  have hown := E.2.2.2.1
  have hK := E.2.2.2.2.1
  intro S H locs ls s0 s1 l2 h G hl
  unfold fr_weightOf_b40 at h
  refine lv_iadd hx hb dX12_weightOf_40 ?_
  refine lv_topi (fun v2 ev2 => ?_)
  have h := elet_at ev2 h
  clear ev2
  refine lv_istore_n (lv' := [(1, .int v2), (0, .ref (ad 0)), (2, .int l2)]) hx hb dX12_weightOf_41 rfl hl (by decide) rfl (fun ls hl => ?_)
  obtain ⟨v3, ev3, h⟩ := elet_some h
  refine lv_iinc (v := v3) (lv' := [(2, .int v3), (1, .int v2), (0, .ref (ad 0))]) hx hb dX12_weightOf_42 hl (k := 2) rfl ev3.symm (by decide) rfl (fun ls hl => ?_)
  refine lv_goto (tgt := 4) hx hb dX12_weightOf_45 (by decide) ?_
  have hl := lv_sub hl [2, 1, 0] rfl
  exact hk4 _ _ _ _ _ _ h G hl
def fr_weightOf_b4  : Nat → MS → Int32 → Int32 → Option (Int32 × MS)
  | 0, _, _, _ => none
  | n + 1, S, l1, l2 => elet (S.2.1 10 4) fun v2 => if v2 ≤ l2 then (some (l1, S)) else (obind2 (fr_hears_12 S l2) fun r7 S4 => if r7 = 0 then (fr_weightOf_b40 (fr_weightOf_b4 n) S4 0 l1 l2) else (elet (13 + l2) fun v9 => oif (inb v9 2455 = true) <| elet (S4.2.1 12 v9.toNatClampNeg) fun v11 => fr_weightOf_b40 (fr_weightOf_b4 n) S4 v11 l1 l2))
set_option maxHeartbeats 4000000 in
set_option maxRecDepth 100000 in
theorem tr_weightOf_b4 {p : Program} {l : Launch} {e : Env} {s : State} {m : MethodId} {args : Array Value} {below : List Frame} {meth : Method} {c : Code} {Q : State → Prop} {D : va_G} {A : Nat → Prop} {H0 : Heap} {cI cJ cZ : ClassId} {ad : Nat → Nat} {r1 : Int32} {S1 : MS} (E : mE p c cX12_weightOf s m args (Cond.code yX12_weightOf cX12_weightOf 3 (some .int) :: wsM) D cI cJ cZ) (hA : ∀ q : Nat, H0.size ≤ q → A q) (hR : sR s) (hml : c.maxLocals = 3) (kr49 : ∀ (H : Heap) (locs : List Loc) (ls : Array Slot), mG D cI cJ cZ ad A H0 H locs S1 → W p l e { frames := 2, cells := 0, slots := 0, locals := 22 } s m args below meth c H locs 0 0 Q (F0 m 49 ls [.int r1])) : ∀ n : Nat, ∀ (S : MS) (H : Heap) (locs : List Loc) (ls : Array Slot) (l1 : Int32) (l2 : Int32), fr_weightOf_b4 n S l1 l2 = some (r1, S1) → mG D cI cJ cZ ad A H0 H locs S → lv_has ls 3 [(0, .ref (ad 0)), (1, .int l1), (2, .int l2)] → W p l e { frames := 2, cells := 0, slots := 0, locals := 22 } s m args below meth c H locs 0 0 Q (F0 m 4 ls []) := by
  have hx := E.1
  have hb := E.2.1
  have hts := E.2.2.1
  have hown := E.2.2.2.1
  have hK := E.2.2.2.2.1
  intro n
  induction n with
  | zero =>
    intro S H locs ls l1 l2 h
    have h : (none : Option (Int32 × MS)) = some (r1, S1) := h
    cases h
  | succ n ih =>
    intro S H locs ls l1 l2 h G hl
    unfold fr_weightOf_b4 at h
    refine lv_iload_n hx hb dX12_weightOf_4 rfl (lv_at hl 2 rfl) ?_
    refine lv_aload_n hx hb dX12_weightOf_5 rfl (lv_at hl 0 rfl) ?_
    refine m_get E G 10 (v := .ref (ad 10)) (by decide) (.tail _ qM_7) rfl dX12_weightOf_6 rfl ?_
    refine lv_iconst (v := 4) hx hb dX12_weightOf_9 (by decide) ?_
    refine m_iald E G 10 2 (n := 131) (k := 4) rfl rfl (by decide) (by decide) dX12_weightOf_10 ?_
    refine lv_topi (fun v2 ev2 => ?_)
    have h := elet_at ev2 h
    clear ev2
    refine lv_icmp_ge (tgt := 48) hx hb dX12_weightOf_11 (by decide) (fun c3 => ?_) (fun c3 => ?_)
    · have h := oif_pos c3 h
      refine lv_iload_n hx hb dX12_weightOf_48 rfl (lv_at hl 1 rfl) ?_
      rw [(osome2 h).2] at G
      refine lv_to (osome2 h).1 ?_
      exact kr49 _ _ _ G
    · have h := oif_neg c3 h
      refine lv_iload_n hx hb dX12_weightOf_14 rfl (lv_at hl 1 rfl) ?_
      refine lv_aload_n hx hb dX12_weightOf_15 rfl (lv_at hl 0 rfl) ?_
      refine lv_aload_n hx hb dX12_weightOf_16 rfl (lv_at hl 0 rfl) ?_
      refine m_get E G 12 (v := .ref (ad 12)) (by decide) (.tail _ qM_9) rfl dX12_weightOf_17 rfl ?_
      refine lv_iload_n hx hb dX12_weightOf_20 rfl (lv_at hl 2 rfl) ?_
      obtain ⟨r7, S4, eS4, h⟩ := obind2_some h
      refine m_calli (As := [.ref (ad 12), .int l2]) (rest := [.int l1]) E G hA hR hml (tr_hears_12 l D cI cJ cZ ad S l2 eS4) (cwV 2 hts (gmV qM_274 qM_275 qM_276 qM_35 qM_272) rfl rfl rfl (by decide +kernel) ⟨Nat.le_of_ble_eq_true rfl, Nat.le_of_ble_eq_true rfl⟩) rfl hl.1 rfl (lv_room (Nat.le_of_ble_eq_true rfl)) dX12_weightOf_21 ⟨Nat.zero_le _, Nat.zero_le _⟩ (fun q5 S6 H locs hq G => ?_)
      obtain ⟨hq1, hq2⟩ := hq
      rw [hq2] at G
      refine lv_to hq1 ?_
      clear hq1 hq2 eS4
      refine lv_if_eq (tgt := 39) hx hb dX12_weightOf_24 (by decide) (fun c8 => ?_) (fun c8 => ?_)
      · have h := oif_pos c8 h
        refine lv_iconst (v := 0) hx hb dX12_weightOf_39 (by decide) ?_
        have hl := lv_sub hl [0, 2] rfl
        exact tr_weightOf_b40 E hA hR hml kr49 ih _ _ _ _ _ _ _ h G hl
      · have h := oif_neg c8 h
        refine lv_aload_n hx hb dX12_weightOf_27 rfl (lv_at hl 0 rfl) ?_
        refine m_get E G 12 (v := .ref (ad 12)) (by decide) (.tail _ qM_9) rfl dX12_weightOf_28 rfl ?_
        refine lv_bipush (v := 13) hx hb dX12_weightOf_31 (by decide) ?_
        refine lv_iload_n hx hb dX12_weightOf_33 rfl (lv_at hl 2 rfl) ?_
        refine lv_iadd hx hb dX12_weightOf_34 ?_
        refine lv_topi (fun v9 ev9 => ?_)
        have h := elet_at ev9 h
        clear ev9
        obtain ⟨g10, h⟩ := oif_some h
        refine m_iald E G 12 4 (n := 2455) (k := v9.toNatClampNeg) rfl (inb_k g10).1 (inb_k g10).2 (by decide) dX12_weightOf_35 ?_
        refine lv_topi (fun v11 ev11 => ?_)
        have h := elet_at ev11 h
        clear ev11
        refine lv_goto (tgt := 40) hx hb dX12_weightOf_36 (by decide) ?_
        have hl := lv_sub hl [0, 2] rfl
        exact tr_weightOf_b40 E hA hR hml kr49 ih _ _ _ _ _ _ _ h G hl
def fr_weightOf (S : MS)  : Option (Int32 × MS) := fr_weightOf_b4 16384 S 0 0
set_option maxHeartbeats 4000000 in
set_option maxRecDepth 100000 in
theorem tr_weightOf (l : Launch) (D : va_G) (cI cJ cZ : ClassId) (ad : Nat → Nat) (S : MS)  {r1 : Int32} {S1 : MS} (h : fr_weightOf S = some (r1, S1)) : mCi l yX12_weightOf (Cond.code yX12_weightOf cX12_weightOf 3 (some .int) :: wsM) 2 22 D cI cJ cZ ad S [] (fun r S9 => r = r1 ∧ S9 = S1) := by
  intro sz
  refine Met.ofW (cc := cX12_weightOf) (maxL := 3) (ret := (some .int)) (by decide) rfl ?_
  intro p e s m args below meth c s₁ B hml hv
  obtain ⟨rfl, hsz, hP, hK, hD0, hR⟩ := hv
  have hx := B.exec
  have hb := B.bytes
  have hr := B.returns
  have hts := atoms_spec (ws := (Cond.code yX12_weightOf cX12_weightOf 3 (some .int) :: wsM)) B.pre
  have hown : s.vm.findClass RX12 = some m.cls := findClass_of_methodNamed B.named
  have hlocks := B.notSynchronized
  subst hsz
  have hD := hD0.self (sz := s.heap.size)
  generalize hAe : va_A (MW cI cJ cZ ad S) s.heap.size = A at hD ⊢
  have hA : ∀ q : Nat, s.heap.size ≤ q → A q := fun q h => by rw [← hAe]; exact Or.inr h
  have G : mG D cI cJ cZ ad A s.heap s.heap [] S := ⟨hP, hD, va_S.rf⟩
  have E : mE p c cX12_weightOf s m ([.ref (ad 0)] : List Value).toArray (Cond.code yX12_weightOf cX12_weightOf 3 (some .int) :: wsM) D cI cJ cZ := ⟨hx, hb, hts, hown, hK, fun w h => .tail _ (iM_x h)⟩
  have hl := lv_entry ([.ref (ad 0)]) (n := 3) (Nat.le_of_ble_eq_true rfl)
  rw [lg_entry_eq]
  generalize (lg_sl ([.ref (ad 0)]) ++ List.replicate (3 - (lg_sl ([.ref (ad 0)])).length) Slot.unset).toArray = ls at hl ⊢
  have hl : lv_has ls 3 [(0, .ref (ad 0))] := hl
  unfold fr_weightOf at h
  refine lv_iconst (v := 0) hx hb dX12_weightOf_0 (by decide) ?_
  refine lv_istore_n (lv' := [(1, .int 0), (0, .ref (ad 0))]) hx hb dX12_weightOf_1 rfl hl (by decide) rfl (fun ls hl => ?_)
  refine lv_iconst (v := 0) hx hb dX12_weightOf_2 (by decide) ?_
  refine lv_istore_n (lv' := [(2, .int 0), (1, .int 0), (0, .ref (ad 0))]) hx hb dX12_weightOf_3 rfl hl (by decide) rfl (fun ls hl => ?_)
  have hl := lv_sub hl [2, 1, 0] rfl
  exact tr_weightOf_b4 E hA hR hml (fun H locs ls G => W.iret (v := r1) hx hb hr (fun t ht hW => ⟨⟨r1, S1, rfl, ⟨rfl, rfl⟩, ⟨by rw [ht]; exact G.1, va_K.moved hW.alike hK, G.2.1⟩⟩, G.2.2.F ht⟩) G.2.2.2.2 dX12_weightOf_49) _ _ _ _ _ _ _ h G hl
def fr_clean_b196 (k108 : MS → Int32 → Int32 → Int32 → Int32 → Option (Int32 × MS)) (S : MS) (l1 : Int32) (l2 : Int32) (l3 : Int32) (l4 : Int32) : Option (Int32 × MS) := elet (l4 + Int32.ofInt (1)) fun v2 => k108 S l1 l2 l3 v2
set_option maxHeartbeats 4000000 in
set_option maxRecDepth 100000 in
theorem tr_clean_b196 {p : Program} {l : Launch} {e : Env} {s : State} {m : MethodId} {args : Array Value} {below : List Frame} {meth : Method} {c : Code} {Q : State → Prop} {D : va_G} {A : Nat → Prop} {H0 : Heap} {cI cJ cZ : ClassId} {ad : Nat → Nat} {r1 : Int32} {S1 : MS} (E : mE p c cX12_clean s m args (Cond.code yX12_clean cX12_clean 6 (some .int) :: wsM) D cI cJ cZ) (hA : ∀ q : Nat, H0.size ≤ q → A q) (hR : sR s) (hml : c.maxLocals = 6) (kr45 : ∀ (H : Heap) (locs : List Loc) (ls : Array Slot), mG D cI cJ cZ ad A H0 H locs S1 → W p l e { frames := 8, cells := 0, slots := 0, locals := 163 } s m args below meth c H locs 0 0 Q (F0 m 45 ls [.int r1])) (kr213 : ∀ (H : Heap) (locs : List Loc) (ls : Array Slot), mG D cI cJ cZ ad A H0 H locs S1 → W p l e { frames := 8, cells := 0, slots := 0, locals := 163 } s m args below meth c H locs 0 0 Q (F0 m 213 ls [.int r1])) {k108 : MS → Int32 → Int32 → Int32 → Int32 → Option (Int32 × MS)} (hk108 : ∀ (S : MS) (H : Heap) (locs : List Loc) (ls : Array Slot) (l1 : Int32) (l2 : Int32) (l3 : Int32) (l4 : Int32), k108 S l1 l2 l3 l4 = some (r1, S1) → mG D cI cJ cZ ad A H0 H locs S → lv_has ls 6 [(0, .ref (ad 0)), (1, .int l1), (2, .int l2), (3, .int l3), (4, .int l4)] → W p l e { frames := 8, cells := 0, slots := 0, locals := 163 } s m args below meth c H locs 0 0 Q (F0 m 108 ls [])) : ∀ (S : MS) (H : Heap) (locs : List Loc) (ls : Array Slot) (l1 : Int32) (l2 : Int32) (l3 : Int32) (l4 : Int32), fr_clean_b196 k108 S l1 l2 l3 l4 = some (r1, S1) → mG D cI cJ cZ ad A H0 H locs S → lv_has ls 6 [(0, .ref (ad 0)), (1, .int l1), (2, .int l2), (3, .int l3), (4, .int l4)] → W p l e { frames := 8, cells := 0, slots := 0, locals := 163 } s m args below meth c H locs 0 0 Q (F0 m 196 ls []) := by
  have hx := E.1
  have hb := E.2.1
  have hts := E.2.2.1
  have hown := E.2.2.2.1
  have hK := E.2.2.2.2.1
  intro S H locs ls l1 l2 l3 l4 h G hl
  unfold fr_clean_b196 at h
  obtain ⟨v2, ev2, h⟩ := elet_some h
  refine lv_iinc (v := v2) (lv' := [(4, .int v2), (0, .ref (ad 0)), (1, .int l1), (2, .int l2), (3, .int l3)]) hx hb dX12_clean_196 hl (k := 4) rfl ev2.symm (by decide) rfl (fun ls hl => ?_)
  refine lv_goto (tgt := 108) hx hb dX12_clean_199 (by decide) ?_
  have hl := lv_sub hl [1, 2, 3, 4, 0] rfl
  exact hk108 _ _ _ _ _ _ _ _ h G hl
def fr_clean_b122 (k108 : MS → Int32 → Int32 → Int32 → Int32 → Option (Int32 × MS)) : Nat → MS → Int32 → Int32 → Int32 → Int32 → Int32 → Option (Int32 × MS)
  | 0, _, _, _, _, _, _ => none
  | n + 1, S, l1, l2, l3, l4, l5 => if l3 ≤ l5 then (fr_clean_b196 k108 S l1 l2 l3 l4) else (obind2 (fr_hears_12 S l4) fun r6 S3 => if r6 = 0 then (fr_clean_b196 k108 S3 l1 l2 l3 l4) else (elet (200 * l4) fun v8 => elet (55 + v8) fun v9 => elet (v9 + l5) fun v10 => oif (inb l4 12 = true) <| elet (S3.2.1 24 l4.toNatClampNeg) fun v12 => elet (v10 + v12) fun v13 => oif (inb v13 2455 = true) <| elet (S3.2.1 12 v13.toNatClampNeg) fun v15 => oif (inb l5 200 = true) <| elet (S3.2.1 29 l5.toNatClampNeg) fun v17 => elet (v17.toInt64) fun v18 => elet (l1.toInt64) fun v19 => elet (v18 * v19) fun v20 => obind2 (fr_weightOf S3) fun r24 S21 => elet (100 * r24) fun v25 => elet (v25.toInt64) fun v26 => oif (¬ v26 = 0) <| elet (v20 / v26) fun v28 => elet (v28.toInt32) fun v29 => elet (v15 - v29) fun v30 => oif (inb v13 2455 = true) <| elet (mf S21 12 (upd (S21.2.1 12) v13.toNatClampNeg v30)) fun S32 => elet (l5 + Int32.ofInt (1)) fun v33 => fr_clean_b122 k108 n S32 l1 l2 l3 l4 v33))
set_option maxHeartbeats 4000000 in
set_option maxRecDepth 100000 in
theorem tr_clean_b122 {p : Program} {l : Launch} {e : Env} {s : State} {m : MethodId} {args : Array Value} {below : List Frame} {meth : Method} {c : Code} {Q : State → Prop} {D : va_G} {A : Nat → Prop} {H0 : Heap} {cI cJ cZ : ClassId} {ad : Nat → Nat} {r1 : Int32} {S1 : MS} (E : mE p c cX12_clean s m args (Cond.code yX12_clean cX12_clean 6 (some .int) :: wsM) D cI cJ cZ) (hA : ∀ q : Nat, H0.size ≤ q → A q) (hR : sR s) (hml : c.maxLocals = 6) (kr45 : ∀ (H : Heap) (locs : List Loc) (ls : Array Slot), mG D cI cJ cZ ad A H0 H locs S1 → W p l e { frames := 8, cells := 0, slots := 0, locals := 163 } s m args below meth c H locs 0 0 Q (F0 m 45 ls [.int r1])) (kr213 : ∀ (H : Heap) (locs : List Loc) (ls : Array Slot), mG D cI cJ cZ ad A H0 H locs S1 → W p l e { frames := 8, cells := 0, slots := 0, locals := 163 } s m args below meth c H locs 0 0 Q (F0 m 213 ls [.int r1])) {k108 : MS → Int32 → Int32 → Int32 → Int32 → Option (Int32 × MS)} (hk108 : ∀ (S : MS) (H : Heap) (locs : List Loc) (ls : Array Slot) (l1 : Int32) (l2 : Int32) (l3 : Int32) (l4 : Int32), k108 S l1 l2 l3 l4 = some (r1, S1) → mG D cI cJ cZ ad A H0 H locs S → lv_has ls 6 [(0, .ref (ad 0)), (1, .int l1), (2, .int l2), (3, .int l3), (4, .int l4)] → W p l e { frames := 8, cells := 0, slots := 0, locals := 163 } s m args below meth c H locs 0 0 Q (F0 m 108 ls [])) : ∀ n : Nat, ∀ (S : MS) (H : Heap) (locs : List Loc) (ls : Array Slot) (l1 : Int32) (l2 : Int32) (l3 : Int32) (l4 : Int32) (l5 : Int32), fr_clean_b122 k108 n S l1 l2 l3 l4 l5 = some (r1, S1) → mG D cI cJ cZ ad A H0 H locs S → lv_has ls 6 [(0, .ref (ad 0)), (1, .int l1), (2, .int l2), (3, .int l3), (4, .int l4), (5, .int l5)] → W p l e { frames := 8, cells := 0, slots := 0, locals := 163 } s m args below meth c H locs 0 0 Q (F0 m 122 ls []) := by
  have hx := E.1
  have hb := E.2.1
  have hts := E.2.2.1
  have hown := E.2.2.2.1
  have hK := E.2.2.2.2.1
  intro n
  induction n with
  | zero =>
    intro S H locs ls l1 l2 l3 l4 l5 h
    have h : (none : Option (Int32 × MS)) = some (r1, S1) := h
    cases h
  | succ n ih =>
    intro S H locs ls l1 l2 l3 l4 l5 h G hl
    unfold fr_clean_b122 at h
    refine lv_iload hx hb dX12_clean_122 (lv_at hl 5 rfl) ?_
    refine lv_iload_n hx hb dX12_clean_124 rfl (lv_at hl 3 rfl) ?_
    refine lv_icmp_ge (tgt := 196) hx hb dX12_clean_125 (by decide) (fun c2 => ?_) (fun c2 => ?_)
    · have h := oif_pos c2 h
      have hl := lv_sub hl [0, 1, 2, 3, 4] rfl
      exact tr_clean_b196 E hA hR hml kr45 kr213 hk108 _ _ _ _ _ _ _ _ h G hl
    · have h := oif_neg c2 h
      refine lv_aload_n hx hb dX12_clean_128 rfl (lv_at hl 0 rfl) ?_
      refine lv_aload_n hx hb dX12_clean_129 rfl (lv_at hl 0 rfl) ?_
      refine m_get E G 12 (v := .ref (ad 12)) (by decide) (.tail _ qM_9) rfl dX12_clean_130 rfl ?_
      refine lv_iload hx hb dX12_clean_133 (lv_at hl 4 rfl) ?_
      obtain ⟨r6, S3, eS3, h⟩ := obind2_some h
      refine m_calli (As := [.ref (ad 12), .int l4]) (rest := []) E G hA hR hml (tr_hears_12 l D cI cJ cZ ad S l4 eS3) (cwV 2 hts (gmV qM_274 qM_275 qM_276 qM_35 qM_272) rfl rfl rfl (by decide +kernel) ⟨Nat.le_of_ble_eq_true rfl, Nat.le_of_ble_eq_true rfl⟩) rfl hl.1 rfl (lv_room (Nat.le_of_ble_eq_true rfl)) dX12_clean_135 ⟨Nat.zero_le _, Nat.zero_le _⟩ (fun q4 S5 H locs hq G => ?_)
      obtain ⟨hq1, hq2⟩ := hq
      rw [hq2] at G
      refine lv_to hq1 ?_
      clear hq1 hq2 eS3
      refine lv_if_eq (tgt := 196) hx hb dX12_clean_138 (by decide) (fun c7 => ?_) (fun c7 => ?_)
      · have h := oif_pos c7 h
        have hl := lv_sub hl [0, 1, 2, 3, 4] rfl
        exact tr_clean_b196 E hA hR hml kr45 kr213 hk108 _ _ _ _ _ _ _ _ h G hl
      · have h := oif_neg c7 h
        refine lv_aload_n hx hb dX12_clean_141 rfl (lv_at hl 0 rfl) ?_
        refine m_get E G 12 (v := .ref (ad 12)) (by decide) (.tail _ qM_9) rfl dX12_clean_142 rfl ?_
        refine lv_bipush (v := 55) hx hb dX12_clean_145 (by decide) ?_
        refine lv_sipush (v := 200) hx hb dX12_clean_147 (by decide) ?_
        refine lv_iload hx hb dX12_clean_150 (lv_at hl 4 rfl) ?_
        refine lv_imul hx hb dX12_clean_152 ?_
        refine lv_topi (fun v8 ev8 => ?_)
        have h := elet_at ev8 h
        clear ev8
        refine lv_iadd hx hb dX12_clean_153 ?_
        refine lv_topi (fun v9 ev9 => ?_)
        have h := elet_at ev9 h
        clear ev9
        refine lv_iload hx hb dX12_clean_154 (lv_at hl 5 rfl) ?_
        refine lv_iadd hx hb dX12_clean_156 ?_
        refine lv_topi (fun v10 ev10 => ?_)
        have h := elet_at ev10 h
        clear ev10
        refine lv_aload_n hx hb dX12_clean_157 rfl (lv_at hl 0 rfl) ?_
        refine m_get E G 24 (v := .ref (ad 24)) (by decide) (.tail _ qM_19) rfl dX12_clean_158 rfl ?_
        refine lv_iload hx hb dX12_clean_161 (lv_at hl 4 rfl) ?_
        obtain ⟨g11, h⟩ := oif_some h
        refine m_iald E G 24 12 (n := 12) (k := l4.toNatClampNeg) rfl (inb_k g11).1 (inb_k g11).2 (by decide) dX12_clean_163 ?_
        refine lv_topi (fun v12 ev12 => ?_)
        have h := elet_at ev12 h
        clear ev12
        refine lv_iadd hx hb dX12_clean_164 ?_
        refine lv_topi (fun v13 ev13 => ?_)
        have h := elet_at ev13 h
        clear ev13
        refine lv_dup2_11 hx hb dX12_clean_165 rfl rfl ?_
        obtain ⟨g14, h⟩ := oif_some h
        refine m_iald E G 12 4 (n := 2455) (k := v13.toNatClampNeg) rfl (inb_k g14).1 (inb_k g14).2 (by decide) dX12_clean_166 ?_
        refine lv_topi (fun v15 ev15 => ?_)
        have h := elet_at ev15 h
        clear ev15
        refine lv_aload_n hx hb dX12_clean_167 rfl (lv_at hl 0 rfl) ?_
        refine m_get E G 29 (v := .ref (ad 29)) (by decide) (.tail _ qM_24) rfl dX12_clean_168 rfl ?_
        refine lv_iload hx hb dX12_clean_171 (lv_at hl 5 rfl) ?_
        obtain ⟨g16, h⟩ := oif_some h
        refine m_iald E G 29 16 (n := 200) (k := l5.toNatClampNeg) rfl (inb_k g16).1 (inb_k g16).2 (by decide) dX12_clean_173 ?_
        refine lv_topi (fun v17 ev17 => ?_)
        have h := elet_at ev17 h
        clear ev17
        refine lv_i2l (v := v17.toInt64) hx hb dX12_clean_174 rfl ?_
        refine lv_topl (fun v18 ev18 => ?_)
        have h := elet_at ev18 h
        clear ev18
        refine lv_iload_n hx hb dX12_clean_175 rfl (lv_at hl 1 rfl) ?_
        refine lv_i2l (v := l1.toInt64) hx hb dX12_clean_176 rfl ?_
        refine lv_topl (fun v19 ev19 => ?_)
        have h := elet_at ev19 h
        clear ev19
        refine lv_lmul hx hb dX12_clean_177 ?_
        refine lv_topl (fun v20 ev20 => ?_)
        have h := elet_at ev20 h
        clear ev20
        refine lv_bipush (v := 100) hx hb dX12_clean_178 (by decide) ?_
        refine lv_aload_n hx hb dX12_clean_180 rfl (lv_at hl 0 rfl) ?_
        obtain ⟨r24, S21, eS21, h⟩ := obind2_some h
        refine m_calli (As := []) (rest := [.int 100, .long v20, .int v15, .int v13, .ref (ad 12)]) E G hA hR hml (tr_weightOf l D cI cJ cZ ad S3 eS21) (cwV 0 hts (gmV qM_497 qM_498 qM_499 qM_35 qM_495) rfl rfl rfl (by decide +kernel) ⟨Nat.le_of_ble_eq_true rfl, Nat.le_of_ble_eq_true rfl⟩) rfl hl.1 rfl (lv_room (Nat.le_of_ble_eq_true rfl)) dX12_clean_181 ⟨Nat.zero_le _, Nat.zero_le _⟩ (fun q22 S23 H locs hq G => ?_)
        obtain ⟨hq1, hq2⟩ := hq
        rw [hq2] at G
        refine lv_to hq1 ?_
        clear hq1 hq2 eS21
        refine lv_imul hx hb dX12_clean_184 ?_
        refine lv_topi (fun v25 ev25 => ?_)
        have h := elet_at ev25 h
        clear ev25
        refine lv_i2l (v := v25.toInt64) hx hb dX12_clean_185 rfl ?_
        refine lv_topl (fun v26 ev26 => ?_)
        have h := elet_at ev26 h
        clear ev26
        obtain ⟨g27, h⟩ := oif_some h
        refine lv_ldiv hx hb dX12_clean_186 g27 ?_
        refine lv_topl (fun v28 ev28 => ?_)
        have h := elet_at ev28 h
        clear ev28
        refine lv_l2i (v := v28.toInt32) hx hb dX12_clean_187 rfl ?_
        refine lv_topi (fun v29 ev29 => ?_)
        have h := elet_at ev29 h
        clear ev29
        refine lv_isub hx hb dX12_clean_188 ?_
        refine lv_topi (fun v30 ev30 => ?_)
        have h := elet_at ev30 h
        clear ev30
        obtain ⟨g31, h⟩ := oif_some h
        refine m_iast E G 12 4 (k := v13.toNatClampNeg) (v := v30) rfl (fun _ => rfl) (inb_k g31).1 (inb_k g31).2 (by decide) dX12_clean_189 (fun H locs G => ?_)
        obtain ⟨S32, eS32, h⟩ := elet_some h
        rw [← eS32] at G
        clear eS32
        obtain ⟨v33, ev33, h⟩ := elet_some h
        refine lv_iinc (v := v33) (lv' := [(5, .int v33), (0, .ref (ad 0)), (1, .int l1), (2, .int l2), (3, .int l3), (4, .int l4)]) hx hb dX12_clean_190 hl (k := 5) rfl ev33.symm (by decide) rfl (fun ls hl => ?_)
        refine lv_goto (tgt := 122) hx hb dX12_clean_193 (by decide) ?_
        have hl := lv_sub hl [1, 2, 3, 4, 5, 0] rfl
        exact ih _ _ _ _ _ _ _ _ _ h G hl
def fr_clean_b108  : Nat → MS → Int32 → Int32 → Int32 → Int32 → Option (Int32 × MS)
  | 0, _, _, _, _, _ => none
  | n + 1, S, l1, l2, l3, l4 => elet (S.2.1 10 4) fun v2 => if v2 ≤ l4 then (elet (S.2.1 12 0) fun v4 => elet (v4 + 1) fun v5 => elet (mf S 12 (upd (S.2.1 12) 0 v5)) fun S6 => some (l2, S6)) else (fr_clean_b122 (fr_clean_b108 n) 16384 S l1 l2 l3 l4 0)
set_option maxHeartbeats 4000000 in
set_option maxRecDepth 100000 in
theorem tr_clean_b108 {p : Program} {l : Launch} {e : Env} {s : State} {m : MethodId} {args : Array Value} {below : List Frame} {meth : Method} {c : Code} {Q : State → Prop} {D : va_G} {A : Nat → Prop} {H0 : Heap} {cI cJ cZ : ClassId} {ad : Nat → Nat} {r1 : Int32} {S1 : MS} (E : mE p c cX12_clean s m args (Cond.code yX12_clean cX12_clean 6 (some .int) :: wsM) D cI cJ cZ) (hA : ∀ q : Nat, H0.size ≤ q → A q) (hR : sR s) (hml : c.maxLocals = 6) (kr45 : ∀ (H : Heap) (locs : List Loc) (ls : Array Slot), mG D cI cJ cZ ad A H0 H locs S1 → W p l e { frames := 8, cells := 0, slots := 0, locals := 163 } s m args below meth c H locs 0 0 Q (F0 m 45 ls [.int r1])) (kr213 : ∀ (H : Heap) (locs : List Loc) (ls : Array Slot), mG D cI cJ cZ ad A H0 H locs S1 → W p l e { frames := 8, cells := 0, slots := 0, locals := 163 } s m args below meth c H locs 0 0 Q (F0 m 213 ls [.int r1])) : ∀ n : Nat, ∀ (S : MS) (H : Heap) (locs : List Loc) (ls : Array Slot) (l1 : Int32) (l2 : Int32) (l3 : Int32) (l4 : Int32), fr_clean_b108 n S l1 l2 l3 l4 = some (r1, S1) → mG D cI cJ cZ ad A H0 H locs S → lv_has ls 6 [(0, .ref (ad 0)), (1, .int l1), (2, .int l2), (3, .int l3), (4, .int l4)] → W p l e { frames := 8, cells := 0, slots := 0, locals := 163 } s m args below meth c H locs 0 0 Q (F0 m 108 ls []) := by
  have hx := E.1
  have hb := E.2.1
  have hts := E.2.2.1
  have hown := E.2.2.2.1
  have hK := E.2.2.2.2.1
  intro n
  induction n with
  | zero =>
    intro S H locs ls l1 l2 l3 l4 h
    have h : (none : Option (Int32 × MS)) = some (r1, S1) := h
    cases h
  | succ n ih =>
    intro S H locs ls l1 l2 l3 l4 h G hl
    unfold fr_clean_b108 at h
    refine lv_iload hx hb dX12_clean_108 (lv_at hl 4 rfl) ?_
    refine lv_aload_n hx hb dX12_clean_110 rfl (lv_at hl 0 rfl) ?_
    refine m_get E G 10 (v := .ref (ad 10)) (by decide) (.tail _ qM_7) rfl dX12_clean_111 rfl ?_
    refine lv_iconst (v := 4) hx hb dX12_clean_114 (by decide) ?_
    refine m_iald E G 10 2 (n := 131) (k := 4) rfl rfl (by decide) (by decide) dX12_clean_115 ?_
    refine lv_topi (fun v2 ev2 => ?_)
    have h := elet_at ev2 h
    clear ev2
    refine lv_icmp_ge (tgt := 202) hx hb dX12_clean_116 (by decide) (fun c3 => ?_) (fun c3 => ?_)
    · have h := oif_pos c3 h
      refine lv_aload_n hx hb dX12_clean_202 rfl (lv_at hl 0 rfl) ?_
      refine m_get E G 12 (v := .ref (ad 12)) (by decide) (.tail _ qM_9) rfl dX12_clean_203 rfl ?_
      refine lv_iconst (v := 0) hx hb dX12_clean_206 (by decide) ?_
      refine lv_dup2_11 hx hb dX12_clean_207 rfl rfl ?_
      refine m_iald E G 12 4 (n := 2455) (k := 0) rfl rfl (by decide) (by decide) dX12_clean_208 ?_
      refine lv_topi (fun v4 ev4 => ?_)
      have h := elet_at ev4 h
      clear ev4
      refine lv_iconst (v := 1) hx hb dX12_clean_209 (by decide) ?_
      refine lv_iadd hx hb dX12_clean_210 ?_
      refine lv_topi (fun v5 ev5 => ?_)
      have h := elet_at ev5 h
      clear ev5
      refine m_iast E G 12 4 (k := 0) (v := v5) rfl (fun _ => rfl) rfl (by decide) (by decide) dX12_clean_211 (fun H locs G => ?_)
      obtain ⟨S6, eS6, h⟩ := elet_some h
      rw [← eS6] at G
      clear eS6
      refine lv_iload_n hx hb dX12_clean_212 rfl (lv_at hl 2 rfl) ?_
      rw [(osome2 h).2] at G
      refine lv_to (osome2 h).1 ?_
      exact kr213 _ _ _ G
    · have h := oif_neg c3 h
      refine lv_iconst (v := 0) hx hb dX12_clean_119 (by decide) ?_
      refine lv_istore (lv' := [(5, .int 0), (0, .ref (ad 0)), (1, .int l1), (2, .int l2), (3, .int l3), (4, .int l4)]) hx hb dX12_clean_120 hl (by decide) rfl (fun ls hl => ?_)
      have hl := lv_sub hl [1, 2, 3, 4, 5, 0] rfl
      exact tr_clean_b122 E hA hR hml kr45 kr213 ih _ _ _ _ _ _ _ _ _ _ h G hl
def fr_clean_b76  : Nat → MS → Int32 → Int32 → Int32 → Int32 → Option (Int32 × MS)
  | 0, _, _, _, _, _ => none
  | n + 1, S, l1, l2, l3, l4 => if l3 ≤ l4 then (fr_clean_b108 16384 S l1 l2 l3 0) else (obind2 (fr_beamAt_12 S l4) fun r6 S3 => oif (inb l4 200 = true) <| elet (mf S3 29 (upd (S3.2.1 29) l4.toNatClampNeg r6)) fun S8 => elet (l4 + Int32.ofInt (1)) fun v9 => fr_clean_b76 n S8 l1 l2 l3 v9)
set_option maxHeartbeats 4000000 in
set_option maxRecDepth 100000 in
theorem tr_clean_b76 {p : Program} {l : Launch} {e : Env} {s : State} {m : MethodId} {args : Array Value} {below : List Frame} {meth : Method} {c : Code} {Q : State → Prop} {D : va_G} {A : Nat → Prop} {H0 : Heap} {cI cJ cZ : ClassId} {ad : Nat → Nat} {r1 : Int32} {S1 : MS} (E : mE p c cX12_clean s m args (Cond.code yX12_clean cX12_clean 6 (some .int) :: wsM) D cI cJ cZ) (hA : ∀ q : Nat, H0.size ≤ q → A q) (hR : sR s) (hml : c.maxLocals = 6) (kr45 : ∀ (H : Heap) (locs : List Loc) (ls : Array Slot), mG D cI cJ cZ ad A H0 H locs S1 → W p l e { frames := 8, cells := 0, slots := 0, locals := 163 } s m args below meth c H locs 0 0 Q (F0 m 45 ls [.int r1])) (kr213 : ∀ (H : Heap) (locs : List Loc) (ls : Array Slot), mG D cI cJ cZ ad A H0 H locs S1 → W p l e { frames := 8, cells := 0, slots := 0, locals := 163 } s m args below meth c H locs 0 0 Q (F0 m 213 ls [.int r1])) : ∀ n : Nat, ∀ (S : MS) (H : Heap) (locs : List Loc) (ls : Array Slot) (l1 : Int32) (l2 : Int32) (l3 : Int32) (l4 : Int32), fr_clean_b76 n S l1 l2 l3 l4 = some (r1, S1) → mG D cI cJ cZ ad A H0 H locs S → lv_has ls 6 [(0, .ref (ad 0)), (1, .int l1), (2, .int l2), (3, .int l3), (4, .int l4)] → W p l e { frames := 8, cells := 0, slots := 0, locals := 163 } s m args below meth c H locs 0 0 Q (F0 m 76 ls []) := by
  have hx := E.1
  have hb := E.2.1
  have hts := E.2.2.1
  have hown := E.2.2.2.1
  have hK := E.2.2.2.2.1
  intro n
  induction n with
  | zero =>
    intro S H locs ls l1 l2 l3 l4 h
    have h : (none : Option (Int32 × MS)) = some (r1, S1) := h
    cases h
  | succ n ih =>
    intro S H locs ls l1 l2 l3 l4 h G hl
    unfold fr_clean_b76 at h
    refine lv_iload hx hb dX12_clean_76 (lv_at hl 4 rfl) ?_
    refine lv_iload_n hx hb dX12_clean_78 rfl (lv_at hl 3 rfl) ?_
    refine lv_icmp_ge (tgt := 105) hx hb dX12_clean_79 (by decide) (fun c2 => ?_) (fun c2 => ?_)
    · have h := oif_pos c2 h
      refine lv_iconst (v := 0) hx hb dX12_clean_105 (by decide) ?_
      refine lv_istore (lv' := [(4, .int 0), (0, .ref (ad 0)), (1, .int l1), (2, .int l2), (3, .int l3)]) hx hb dX12_clean_106 hl (by decide) rfl (fun ls hl => ?_)
      have hl := lv_sub hl [1, 2, 3, 4, 0] rfl
      exact tr_clean_b108 E hA hR hml kr45 kr213 _ _ _ _ _ _ _ _ _ h G hl
    · have h := oif_neg c2 h
      refine lv_aload_n hx hb dX12_clean_82 rfl (lv_at hl 0 rfl) ?_
      refine m_get E G 29 (v := .ref (ad 29)) (by decide) (.tail _ qM_24) rfl dX12_clean_83 rfl ?_
      refine lv_iload hx hb dX12_clean_86 (lv_at hl 4 rfl) ?_
      refine lv_aload_n hx hb dX12_clean_88 rfl (lv_at hl 0 rfl) ?_
      refine lv_aload_n hx hb dX12_clean_89 rfl (lv_at hl 0 rfl) ?_
      refine m_get E G 12 (v := .ref (ad 12)) (by decide) (.tail _ qM_9) rfl dX12_clean_90 rfl ?_
      refine lv_iload hx hb dX12_clean_93 (lv_at hl 4 rfl) ?_
      obtain ⟨r6, S3, eS3, h⟩ := obind2_some h
      refine m_calli (As := [.ref (ad 12), .int l4]) (rest := [.int l4, .ref (ad 29)]) E G hA hR hml (tr_beamAt_12 l D cI cJ cZ ad S l4 eS3) (cwV 2 hts (gmV qM_279 qM_280 qM_281 qM_35 qM_277) rfl rfl rfl (by decide +kernel) ⟨Nat.le_of_ble_eq_true rfl, Nat.le_of_ble_eq_true rfl⟩) rfl hl.1 rfl (lv_room (Nat.le_of_ble_eq_true rfl)) dX12_clean_95 ⟨Nat.zero_le _, Nat.zero_le _⟩ (fun q4 S5 H locs hq G => ?_)
      obtain ⟨hq1, hq2⟩ := hq
      rw [hq2] at G
      refine lv_to hq1 ?_
      clear hq1 hq2 eS3
      obtain ⟨g7, h⟩ := oif_some h
      refine m_iast E G 29 16 (k := l4.toNatClampNeg) (v := r6) rfl (fun _ => rfl) (inb_k g7).1 (inb_k g7).2 (by decide) dX12_clean_98 (fun H locs G => ?_)
      obtain ⟨S8, eS8, h⟩ := elet_some h
      rw [← eS8] at G
      clear eS8
      obtain ⟨v9, ev9, h⟩ := elet_some h
      refine lv_iinc (v := v9) (lv' := [(4, .int v9), (0, .ref (ad 0)), (1, .int l1), (2, .int l2), (3, .int l3)]) hx hb dX12_clean_99 hl (k := 4) rfl ev9.symm (by decide) rfl (fun ls hl => ?_)
      refine lv_goto (tgt := 76) hx hb dX12_clean_102 (by decide) ?_
      have hl := lv_sub hl [1, 2, 3, 4, 0] rfl
      exact ih _ _ _ _ _ _ _ _ h G hl
def fr_clean_b34  (S : MS) (s0 : Int32) (l1 : Int32) : Option (Int32 × MS) := elet (mi S 0 s0) fun S2 => elet (S2.1 0) fun v3 => if v3 ≤ 0 then (obind (fr_remember S2) fun S5 => obind2 (fr_bestIn_12 S5) fun r11 S8 => obind (fr_laysCell S8 r11) fun S12 => obind2 (fr_windowOf_12 S12) fun r18 S15 => fr_clean_b76 16384 S15 l1 r11 r18 0) else (some (0, S2))
set_option maxHeartbeats 4000000 in
set_option maxRecDepth 100000 in
theorem tr_clean_b34 {p : Program} {l : Launch} {e : Env} {s : State} {m : MethodId} {args : Array Value} {below : List Frame} {meth : Method} {c : Code} {Q : State → Prop} {D : va_G} {A : Nat → Prop} {H0 : Heap} {cI cJ cZ : ClassId} {ad : Nat → Nat} {r1 : Int32} {S1 : MS} (E : mE p c cX12_clean s m args (Cond.code yX12_clean cX12_clean 6 (some .int) :: wsM) D cI cJ cZ) (hA : ∀ q : Nat, H0.size ≤ q → A q) (hR : sR s) (hml : c.maxLocals = 6) (kr45 : ∀ (H : Heap) (locs : List Loc) (ls : Array Slot), mG D cI cJ cZ ad A H0 H locs S1 → W p l e { frames := 8, cells := 0, slots := 0, locals := 163 } s m args below meth c H locs 0 0 Q (F0 m 45 ls [.int r1])) (kr213 : ∀ (H : Heap) (locs : List Loc) (ls : Array Slot), mG D cI cJ cZ ad A H0 H locs S1 → W p l e { frames := 8, cells := 0, slots := 0, locals := 163 } s m args below meth c H locs 0 0 Q (F0 m 213 ls [.int r1])) : ∀ (S : MS) (H : Heap) (locs : List Loc) (ls : Array Slot) (s0 : Int32) (l1 : Int32), fr_clean_b34 S s0 l1 = some (r1, S1) → mG D cI cJ cZ ad A H0 H locs S → lv_has ls 6 [(0, .ref (ad 0)), (1, .int l1)] → W p l e { frames := 8, cells := 0, slots := 0, locals := 163 } s m args below meth c H locs 0 0 Q (F0 m 34 ls [.int s0, .ref (ad 0)]) := by
  have hx := E.1
  have hb := E.2.1
  have hts := E.2.2.1
  have hown := E.2.2.2.1
  have hK := E.2.2.2.2.1
  intro S H locs ls s0 l1 h G hl
  unfold fr_clean_b34 at h
  refine m_put E G 0 (by decide) (.tail _ qM_26) (mw_i0 _ _ _ _ _ s0) dX12_clean_34 ⟨rfl, rfl, rfl⟩ rfl rfl (fun H locs G => ?_)
  obtain ⟨S2, eS2, h⟩ := elet_some h
  rw [← eS2] at G
  clear eS2
  refine lv_aload_n hx hb dX12_clean_37 rfl (lv_at hl 0 rfl) ?_
  refine m_get E G 0 (v := .int (S2.1 0)) (by decide) (.tail _ qM_26) rfl dX12_clean_38 rfl ?_
  refine lv_topi (fun v3 ev3 => ?_)
  have h := elet_at ev3 h
  clear ev3
  refine lv_if_le (tgt := 46) hx hb dX12_clean_41 (by decide) (fun c4 => ?_) (fun c4 => ?_)
  · have h := oif_pos c4 h
    refine lv_aload_n hx hb dX12_clean_46 rfl (lv_at hl 0 rfl) ?_
    obtain ⟨S5, eS5, h⟩ := obind_some h
    refine m_callv (As := []) (rest := []) E G hA hR hml (tr_remember l D cI cJ cZ ad S2 eS5) (cwV 0 hts (gmV qM_480 qM_481 qM_482 qM_35 qM_268) rfl rfl rfl (by decide +kernel) ⟨Nat.le_of_ble_eq_true rfl, Nat.le_of_ble_eq_true rfl⟩) rfl hl.1 rfl (lv_room (Nat.le_of_ble_eq_true rfl)) dX12_clean_47 ⟨Nat.zero_le _, Nat.zero_le _⟩ (fun S7 H locs hq G => ?_)
    rw [hq] at G
    clear hq eS5
    refine lv_aload_n hx hb dX12_clean_50 rfl (lv_at hl 0 rfl) ?_
    refine lv_aload_n hx hb dX12_clean_51 rfl (lv_at hl 0 rfl) ?_
    refine m_get E G 12 (v := .ref (ad 12)) (by decide) (.tail _ qM_9) rfl dX12_clean_52 rfl ?_
    obtain ⟨r11, S8, eS8, h⟩ := obind2_some h
    refine m_calli (As := [.ref (ad 12)]) (rest := []) E G hA hR hml (tr_bestIn_12 l D cI cJ cZ ad S5 eS8) (cwV 1 hts (gmV qM_360 qM_361 qM_362 qM_35 qM_300) rfl rfl rfl (by decide +kernel) ⟨Nat.le_of_ble_eq_true rfl, Nat.le_of_ble_eq_true rfl⟩) rfl hl.1 rfl (lv_room (Nat.le_of_ble_eq_true rfl)) dX12_clean_55 ⟨Nat.zero_le _, Nat.zero_le _⟩ (fun q9 S10 H locs hq G => ?_)
    obtain ⟨hq1, hq2⟩ := hq
    rw [hq2] at G
    refine lv_to hq1 ?_
    clear hq1 hq2 eS8
    refine lv_istore_n (lv' := [(2, .int r11), (0, .ref (ad 0)), (1, .int l1)]) hx hb dX12_clean_58 rfl hl (by decide) rfl (fun ls hl => ?_)
    refine lv_aload_n hx hb dX12_clean_59 rfl (lv_at hl 1 rfl) ?_
    refine lv_iload_n hx hb dX12_clean_60 rfl (lv_at hl 0 rfl) ?_
    obtain ⟨S12, eS12, h⟩ := obind_some h
    refine m_callv (As := [.int r11]) (rest := []) E G hA hR hml (tr_laysCell l D cI cJ cZ ad S8 r11 eS12) (cwV 1 hts (gmV qM_290 qM_291 qM_292 qM_35 qM_270) rfl rfl rfl (by decide +kernel) ⟨Nat.le_of_ble_eq_true rfl, Nat.le_of_ble_eq_true rfl⟩) rfl hl.1 rfl (lv_room (Nat.le_of_ble_eq_true rfl)) dX12_clean_61 ⟨Nat.zero_le _, Nat.zero_le _⟩ (fun S14 H locs hq G => ?_)
    rw [hq] at G
    clear hq eS12
    refine lv_aload_n hx hb dX12_clean_64 rfl (lv_at hl 1 rfl) ?_
    refine lv_aload_n hx hb dX12_clean_65 rfl (lv_at hl 1 rfl) ?_
    refine m_get E G 12 (v := .ref (ad 12)) (by decide) (.tail _ qM_9) rfl dX12_clean_66 rfl ?_
    obtain ⟨r18, S15, eS15, h⟩ := obind2_some h
    refine m_calli (As := [.ref (ad 12)]) (rest := []) E G hA hR hml (tr_windowOf_12 l D cI cJ cZ ad S12 eS15) (cwV 1 hts (gmV qM_283 qM_284 qM_285 qM_35 qM_273) rfl rfl rfl (by decide +kernel) ⟨Nat.le_of_ble_eq_true rfl, Nat.le_of_ble_eq_true rfl⟩) rfl hl.1 rfl (lv_room (Nat.le_of_ble_eq_true rfl)) dX12_clean_69 ⟨Nat.zero_le _, Nat.zero_le _⟩ (fun q16 S17 H locs hq G => ?_)
    obtain ⟨hq1, hq2⟩ := hq
    rw [hq2] at G
    refine lv_to hq1 ?_
    clear hq1 hq2 eS15
    refine lv_istore_n (lv' := [(3, .int r18), (2, .int r11), (0, .ref (ad 0)), (1, .int l1)]) hx hb dX12_clean_72 rfl hl (by decide) rfl (fun ls hl => ?_)
    refine lv_iconst (v := 0) hx hb dX12_clean_73 (by decide) ?_
    refine lv_istore (lv' := [(4, .int 0), (3, .int r18), (2, .int r11), (0, .ref (ad 0)), (1, .int l1)]) hx hb dX12_clean_74 hl (by decide) rfl (fun ls hl => ?_)
    have hl := lv_sub hl [3, 4, 2, 1, 0] rfl
    exact tr_clean_b76 E hA hR hml kr45 kr213 _ _ _ _ _ _ _ _ _ h G hl
  · have h := oif_neg c4 h
    refine lv_iconst (v := 0) hx hb dX12_clean_44 (by decide) ?_
    rw [(osome2 h).2] at G
    refine lv_to (osome2 h).1 ?_
    exact kr45 _ _ _ G
def fr_clean_b15  (S : MS) (l1 : Int32) : Option (Int32 × MS) := fr_clean_b34 S 1 l1
set_option maxHeartbeats 4000000 in
set_option maxRecDepth 100000 in
theorem tr_clean_b15 {p : Program} {l : Launch} {e : Env} {s : State} {m : MethodId} {args : Array Value} {below : List Frame} {meth : Method} {c : Code} {Q : State → Prop} {D : va_G} {A : Nat → Prop} {H0 : Heap} {cI cJ cZ : ClassId} {ad : Nat → Nat} {r1 : Int32} {S1 : MS} (E : mE p c cX12_clean s m args (Cond.code yX12_clean cX12_clean 6 (some .int) :: wsM) D cI cJ cZ) (hA : ∀ q : Nat, H0.size ≤ q → A q) (hR : sR s) (hml : c.maxLocals = 6) (kr45 : ∀ (H : Heap) (locs : List Loc) (ls : Array Slot), mG D cI cJ cZ ad A H0 H locs S1 → W p l e { frames := 8, cells := 0, slots := 0, locals := 163 } s m args below meth c H locs 0 0 Q (F0 m 45 ls [.int r1])) (kr213 : ∀ (H : Heap) (locs : List Loc) (ls : Array Slot), mG D cI cJ cZ ad A H0 H locs S1 → W p l e { frames := 8, cells := 0, slots := 0, locals := 163 } s m args below meth c H locs 0 0 Q (F0 m 213 ls [.int r1])) : ∀ (S : MS) (H : Heap) (locs : List Loc) (ls : Array Slot) (l1 : Int32), fr_clean_b15 S l1 = some (r1, S1) → mG D cI cJ cZ ad A H0 H locs S → lv_has ls 6 [(0, .ref (ad 0)), (1, .int l1)] → W p l e { frames := 8, cells := 0, slots := 0, locals := 163 } s m args below meth c H locs 0 0 Q (F0 m 15 ls [.ref (ad 0)]) := by
  have hx := E.1
  have hb := E.2.1
  have hts := E.2.2.1
  have hown := E.2.2.2.1
  have hK := E.2.2.2.2.1
  intro S H locs ls l1 h G hl
  unfold fr_clean_b15 at h
  refine lv_iconst (v := 1) hx hb dX12_clean_15 (by decide) ?_
  refine lv_goto (tgt := 34) hx hb dX12_clean_16 (by decide) ?_
  have hl := lv_sub hl [0, 1] rfl
  exact tr_clean_b34 E hA hR hml kr45 kr213 _ _ _ _ _ _ h G hl
def fr_clean (S : MS) (a0 : Int32) : Option (Int32 × MS) := elet (S.1 20) fun v2 => if v2 = 0 then (fr_clean_b15 S a0) else (obind2 (fr_weightOf S) fun r7 S4 => if r7 = 0 then (fr_clean_b15 S4 a0) else (obind (fr_in a0 1 100) fun r9 => if r9 = 0 then (fr_clean_b34 S4 2 a0) else (fr_clean_b34 S4 0 a0)))
set_option maxHeartbeats 4000000 in
set_option maxRecDepth 100000 in
theorem tr_clean (l : Launch) (D : va_G) (cI cJ cZ : ClassId) (ad : Nat → Nat) (S : MS) (a0 : Int32) {r1 : Int32} {S1 : MS} (h : fr_clean S a0 = some (r1, S1)) : mCi l yX12_clean (Cond.code yX12_clean cX12_clean 6 (some .int) :: wsM) 8 163 D cI cJ cZ ad S [.int a0] (fun r S9 => r = r1 ∧ S9 = S1) := by
  intro sz
  refine Met.ofW (cc := cX12_clean) (maxL := 6) (ret := (some .int)) (by decide) rfl ?_
  intro p e s m args below meth c s₁ B hml hv
  obtain ⟨rfl, hsz, hP, hK, hD0, hR⟩ := hv
  have hx := B.exec
  have hb := B.bytes
  have hr := B.returns
  have hts := atoms_spec (ws := (Cond.code yX12_clean cX12_clean 6 (some .int) :: wsM)) B.pre
  have hown : s.vm.findClass RX12 = some m.cls := findClass_of_methodNamed B.named
  have hlocks := B.notSynchronized
  subst hsz
  have hD := hD0.self (sz := s.heap.size)
  generalize hAe : va_A (MW cI cJ cZ ad S) s.heap.size = A at hD ⊢
  have hA : ∀ q : Nat, s.heap.size ≤ q → A q := fun q h => by rw [← hAe]; exact Or.inr h
  have G : mG D cI cJ cZ ad A s.heap s.heap [] S := ⟨hP, hD, va_S.rf⟩
  have E : mE p c cX12_clean s m ([.ref (ad 0), .int a0] : List Value).toArray (Cond.code yX12_clean cX12_clean 6 (some .int) :: wsM) D cI cJ cZ := ⟨hx, hb, hts, hown, hK, fun w h => .tail _ (iM_x h)⟩
  have hl := lv_entry ([.ref (ad 0), .int a0]) (n := 6) (Nat.le_of_ble_eq_true rfl)
  rw [lg_entry_eq]
  generalize (lg_sl ([.ref (ad 0), .int a0]) ++ List.replicate (6 - (lg_sl ([.ref (ad 0), .int a0])).length) Slot.unset).toArray = ls at hl ⊢
  have hl : lv_has ls 6 [(0, .ref (ad 0)), (1, .int a0)] := hl
  unfold fr_clean at h
  refine lv_aload_n hx hb dX12_clean_0 rfl (lv_at hl 0 rfl) ?_
  refine lv_aload_n hx hb dX12_clean_1 rfl (lv_at hl 0 rfl) ?_
  refine m_get E G 20 (v := .int (S.1 20)) (by decide) (.tail _ qM_193) rfl dX12_clean_2 rfl ?_
  refine lv_topi (fun v2 ev2 => ?_)
  have h := elet_at ev2 h
  clear ev2
  refine lv_if_eq (tgt := 15) hx hb dX12_clean_5 (by decide) (fun c3 => ?_) (fun c3 => ?_)
  · have h := oif_pos c3 h
    have hl := lv_sub hl [0, 1] rfl
    exact tr_clean_b15 E hA hR hml (fun H locs ls G => W.iret (v := r1) hx hb hr (fun t ht hW => ⟨⟨r1, S1, rfl, ⟨rfl, rfl⟩, ⟨by rw [ht]; exact G.1, va_K.moved hW.alike hK, G.2.1⟩⟩, G.2.2.F ht⟩) G.2.2.2.2 dX12_clean_45) (fun H locs ls G => W.iret (v := r1) hx hb hr (fun t ht hW => ⟨⟨r1, S1, rfl, ⟨rfl, rfl⟩, ⟨by rw [ht]; exact G.1, va_K.moved hW.alike hK, G.2.1⟩⟩, G.2.2.F ht⟩) G.2.2.2.2 dX12_clean_213) _ _ _ _ _ h G hl
  · have h := oif_neg c3 h
    refine lv_aload_n hx hb dX12_clean_8 rfl (lv_at hl 0 rfl) ?_
    obtain ⟨r7, S4, eS4, h⟩ := obind2_some h
    refine m_calli (As := []) (rest := [.ref (ad 0)]) E G hA hR hml (tr_weightOf l D cI cJ cZ ad S eS4) (cwV 0 hts (gmV qM_497 qM_498 qM_499 qM_35 qM_495) rfl rfl rfl (by decide +kernel) ⟨Nat.le_of_ble_eq_true rfl, Nat.le_of_ble_eq_true rfl⟩) rfl hl.1 rfl (lv_room (Nat.le_of_ble_eq_true rfl)) dX12_clean_9 ⟨Nat.zero_le _, Nat.zero_le _⟩ (fun q5 S6 H locs hq G => ?_)
    obtain ⟨hq1, hq2⟩ := hq
    rw [hq2] at G
    refine lv_to hq1 ?_
    clear hq1 hq2 eS4
    refine lv_if_ne (tgt := 19) hx hb dX12_clean_12 (by decide) (fun c8 => ?_) (fun c8 => ?_)
    · have h := oif_neg c8 h
      refine lv_iload_n hx hb dX12_clean_19 rfl (lv_at hl 1 rfl) ?_
      refine lv_iconst (v := 1) hx hb dX12_clean_20 (by decide) ?_
      refine lv_bipush (v := 100) hx hb dX12_clean_21 (by decide) ?_
      obtain ⟨r9, er9, h⟩ := obind_some h
      refine m_stat (As := [.int a0, .int 1, .int 100]) (rest := [.ref (ad 0)]) ⟨hx, hb, hml, hown, hts⟩ (tr_in l a0 1 100 er9) (cwS 3 hts (gmS qM_52 qM_53 qM_35 qM_27) rfl rfl rfl (by decide +kernel) ⟨Nat.le_of_ble_eq_true rfl, Nat.le_of_ble_eq_true rfl⟩) rfl hl.1 rfl (lv_room (Nat.le_of_ble_eq_true rfl)) dX12_clean_23 ⟨Nat.zero_le _, Nat.zero_le _⟩ (fun q10 hq => ?_)
      refine lv_to hq ?_
      clear hq er9
      refine lv_if_eq (tgt := 33) hx hb dX12_clean_26 (by decide) (fun c11 => ?_) (fun c11 => ?_)
      · have h := oif_pos c11 h
        refine lv_iconst (v := 2) hx hb dX12_clean_33 (by decide) ?_
        have hl := lv_sub hl [0, 1] rfl
        exact tr_clean_b34 E hA hR hml (fun H locs ls G => W.iret (v := r1) hx hb hr (fun t ht hW => ⟨⟨r1, S1, rfl, ⟨rfl, rfl⟩, ⟨by rw [ht]; exact G.1, va_K.moved hW.alike hK, G.2.1⟩⟩, G.2.2.F ht⟩) G.2.2.2.2 dX12_clean_45) (fun H locs ls G => W.iret (v := r1) hx hb hr (fun t ht hW => ⟨⟨r1, S1, rfl, ⟨rfl, rfl⟩, ⟨by rw [ht]; exact G.1, va_K.moved hW.alike hK, G.2.1⟩⟩, G.2.2.F ht⟩) G.2.2.2.2 dX12_clean_213) _ _ _ _ _ _ h G hl
      · have h := oif_neg c11 h
        refine lv_iconst (v := 0) hx hb dX12_clean_29 (by decide) ?_
        refine lv_goto (tgt := 34) hx hb dX12_clean_30 (by decide) ?_
        have hl := lv_sub hl [0, 1] rfl
        exact tr_clean_b34 E hA hR hml (fun H locs ls G => W.iret (v := r1) hx hb hr (fun t ht hW => ⟨⟨r1, S1, rfl, ⟨rfl, rfl⟩, ⟨by rw [ht]; exact G.1, va_K.moved hW.alike hK, G.2.1⟩⟩, G.2.2.F ht⟩) G.2.2.2.2 dX12_clean_45) (fun H locs ls G => W.iret (v := r1) hx hb hr (fun t ht hW => ⟨⟨r1, S1, rfl, ⟨rfl, rfl⟩, ⟨by rw [ht]; exact G.1, va_K.moved hW.alike hK, G.2.1⟩⟩, G.2.2.F ht⟩) G.2.2.2.2 dX12_clean_213) _ _ _ _ _ _ h G hl
    · have h := oif_pos c8 h
      have hl := lv_sub hl [0, 1] rfl
      exact tr_clean_b15 E hA hR hml (fun H locs ls G => W.iret (v := r1) hx hb hr (fun t ht hW => ⟨⟨r1, S1, rfl, ⟨rfl, rfl⟩, ⟨by rw [ht]; exact G.1, va_K.moved hW.alike hK, G.2.1⟩⟩, G.2.2.F ht⟩) G.2.2.2.2 dX12_clean_45) (fun H locs ls G => W.iret (v := r1) hx hb hr (fun t ht hW => ⟨⟨r1, S1, rfl, ⟨rfl, rfl⟩, ⟨by rw [ht]; exact G.1, va_K.moved hW.alike hK, G.2.1⟩⟩, G.2.2.F ht⟩) G.2.2.2.2 dX12_clean_213) _ _ _ _ _ h G hl
def fr_cleaned_b18  (S : MS) (s0 : Int32) : Option (Int32 × MS) := some (s0, S)
set_option maxHeartbeats 4000000 in
set_option maxRecDepth 100000 in
theorem tr_cleaned_b18 {p : Program} {l : Launch} {e : Env} {s : State} {m : MethodId} {args : Array Value} {below : List Frame} {meth : Method} {c : Code} {Q : State → Prop} {D : va_G} {A : Nat → Prop} {H0 : Heap} {cI cJ cZ : ClassId} {ad : Nat → Nat} {r1 : Int32} {S1 : MS} (E : mE p c cX12_cleaned s m args (Cond.code yX12_cleaned cX12_cleaned 1 (some .int) :: wsM) D cI cJ cZ) (hA : ∀ q : Nat, H0.size ≤ q → A q) (hR : sR s) (hml : c.maxLocals = 1) (kr18 : ∀ (H : Heap) (locs : List Loc) (ls : Array Slot), mG D cI cJ cZ ad A H0 H locs S1 → W p l e { frames := 2, cells := 0, slots := 0, locals := 21 } s m args below meth c H locs 0 0 Q (F0 m 18 ls [.int r1])) : ∀ (S : MS) (H : Heap) (locs : List Loc) (ls : Array Slot) (s0 : Int32), fr_cleaned_b18 S s0 = some (r1, S1) → mG D cI cJ cZ ad A H0 H locs S → lv_has ls 1 [] → W p l e { frames := 2, cells := 0, slots := 0, locals := 21 } s m args below meth c H locs 0 0 Q (F0 m 18 ls [.int s0]) := by
  have hx := E.1
  have hb := E.2.1
  have hts := E.2.2.1
  have hown := E.2.2.2.1
  have hK := E.2.2.2.2.1
  intro S H locs ls s0 h G hl
  unfold fr_cleaned_b18 at h
  rw [(osome2 h).2] at G
  refine lv_to (osome2 h).1 ?_
  exact kr18 _ _ _ G
def fr_cleaned (S : MS)  : Option (Int32 × MS) := obind2 (fr_mayAsk S 1) fun r5 S2 => if r5 = 0 then (fr_cleaned_b18 S2 0) else (elet (S2.2.1 12 0) fun v7 => fr_cleaned_b18 S2 v7)
set_option maxHeartbeats 4000000 in
set_option maxRecDepth 100000 in
theorem tr_cleaned (l : Launch) (D : va_G) (cI cJ cZ : ClassId) (ad : Nat → Nat) (S : MS)  {r1 : Int32} {S1 : MS} (h : fr_cleaned S = some (r1, S1)) : mCi l yX12_cleaned (Cond.code yX12_cleaned cX12_cleaned 1 (some .int) :: wsM) 2 21 D cI cJ cZ ad S [] (fun r S9 => r = r1 ∧ S9 = S1) := by
  intro sz
  refine Met.ofW (cc := cX12_cleaned) (maxL := 1) (ret := (some .int)) (by decide) rfl ?_
  intro p e s m args below meth c s₁ B hml hv
  obtain ⟨rfl, hsz, hP, hK, hD0, hR⟩ := hv
  have hx := B.exec
  have hb := B.bytes
  have hr := B.returns
  have hts := atoms_spec (ws := (Cond.code yX12_cleaned cX12_cleaned 1 (some .int) :: wsM)) B.pre
  have hown : s.vm.findClass RX12 = some m.cls := findClass_of_methodNamed B.named
  have hlocks := B.notSynchronized
  subst hsz
  have hD := hD0.self (sz := s.heap.size)
  generalize hAe : va_A (MW cI cJ cZ ad S) s.heap.size = A at hD ⊢
  have hA : ∀ q : Nat, s.heap.size ≤ q → A q := fun q h => by rw [← hAe]; exact Or.inr h
  have G : mG D cI cJ cZ ad A s.heap s.heap [] S := ⟨hP, hD, va_S.rf⟩
  have E : mE p c cX12_cleaned s m ([.ref (ad 0)] : List Value).toArray (Cond.code yX12_cleaned cX12_cleaned 1 (some .int) :: wsM) D cI cJ cZ := ⟨hx, hb, hts, hown, hK, fun w h => .tail _ (iM_x h)⟩
  have hl := lv_entry ([.ref (ad 0)]) (n := 1) (Nat.le_of_ble_eq_true rfl)
  rw [lg_entry_eq]
  generalize (lg_sl ([.ref (ad 0)]) ++ List.replicate (1 - (lg_sl ([.ref (ad 0)])).length) Slot.unset).toArray = ls at hl ⊢
  have hl : lv_has ls 1 [(0, .ref (ad 0))] := hl
  unfold fr_cleaned at h
  refine lv_aload_n hx hb dX12_cleaned_0 rfl (lv_at hl 0 rfl) ?_
  refine lv_iconst (v := 1) hx hb dX12_cleaned_1 (by decide) ?_
  obtain ⟨r5, S2, eS2, h⟩ := obind2_some h
  refine m_calli (As := [.int 1]) (rest := []) E G hA hR hml (tr_mayAsk l D cI cJ cZ ad S 1 eS2) (cwV 1 hts (gmV qM_319 qM_320 qM_321 qM_35 qM_304) rfl rfl rfl (by decide +kernel) ⟨Nat.le_of_ble_eq_true rfl, Nat.le_of_ble_eq_true rfl⟩) rfl hl.1 rfl (lv_room (Nat.le_of_ble_eq_true rfl)) dX12_cleaned_2 ⟨Nat.zero_le _, Nat.zero_le _⟩ (fun q3 S4 H locs hq G => ?_)
  obtain ⟨hq1, hq2⟩ := hq
  rw [hq2] at G
  refine lv_to hq1 ?_
  clear hq1 hq2 eS2
  refine lv_if_eq (tgt := 17) hx hb dX12_cleaned_5 (by decide) (fun c6 => ?_) (fun c6 => ?_)
  · have h := oif_pos c6 h
    refine lv_iconst (v := 0) hx hb dX12_cleaned_17 (by decide) ?_
    have hl := lv_sub hl [] rfl
    exact tr_cleaned_b18 E hA hR hml (fun H locs ls G => W.iret (v := r1) hx hb hr (fun t ht hW => ⟨⟨r1, S1, rfl, ⟨rfl, rfl⟩, ⟨by rw [ht]; exact G.1, va_K.moved hW.alike hK, G.2.1⟩⟩, G.2.2.F ht⟩) G.2.2.2.2 dX12_cleaned_18) _ _ _ _ _ h G hl
  · have h := oif_neg c6 h
    refine lv_aload_n hx hb dX12_cleaned_8 rfl (lv_at hl 0 rfl) ?_
    refine m_get E G 12 (v := .ref (ad 12)) (by decide) (.tail _ qM_9) rfl dX12_cleaned_9 rfl ?_
    refine lv_iconst (v := 0) hx hb dX12_cleaned_12 (by decide) ?_
    refine m_iald E G 12 4 (n := 2455) (k := 0) rfl rfl (by decide) (by decide) dX12_cleaned_13 ?_
    refine lv_topi (fun v7 ev7 => ?_)
    have h := elet_at ev7 h
    clear ev7
    refine lv_goto (tgt := 18) hx hb dX12_cleaned_14 (by decide) ?_
    have hl := lv_sub hl [] rfl
    exact tr_cleaned_b18 E hA hR hml (fun H locs ls G => W.iret (v := r1) hx hb hr (fun t ht hW => ⟨⟨r1, S1, rfl, ⟨rfl, rfl⟩, ⟨by rw [ht]; exact G.1, va_K.moved hW.alike hK, G.2.1⟩⟩, G.2.2.F ht⟩) G.2.2.2.2 dX12_cleaned_18) _ _ _ _ _ h G hl
def fr_copy_15_12_b3  : Nat → MS → Int32 → Int32 → Int32 → Option (MS)
  | 0, _, _, _, _ => none
  | n + 1, S, l1, l3, l4 => if 2455 ≤ l4 then (some S) else (elet (l3 + l4) fun v3 => elet (l1 + l4) fun v4 => oif (inb v4 14730 = true) <| elet (S.2.1 15 v4.toNatClampNeg) fun v6 => oif (inb v3 2455 = true) <| elet (mf S 12 (upd (S.2.1 12) v3.toNatClampNeg v6)) fun S8 => elet (l4 + Int32.ofInt (1)) fun v9 => fr_copy_15_12_b3 n S8 l1 l3 v9)
set_option maxHeartbeats 4000000 in
set_option maxRecDepth 100000 in
theorem tr_copy_15_12_b3 {p : Program} {l : Launch} {e : Env} {s : State} {m : MethodId} {args : Array Value} {below : List Frame} {meth : Method} {c : Code} {Q : State → Prop} {D : va_G} {A : Nat → Prop} {H0 : Heap} {cI cJ cZ : ClassId} {ad : Nat → Nat} {S1 : MS} (E : mE p c cX12_copy s m args (Cond.code yX12_copy cX12_copy 5 none :: wsM) D cI cJ cZ) (hA : ∀ q : Nat, H0.size ≤ q → A q) (hR : sR s) (hml : c.maxLocals = 5) (kr29 : ∀ (H : Heap) (locs : List Loc) (ls : Array Slot), mG D cI cJ cZ ad A H0 H locs S1 → W p l e { frames := 1, cells := 0, slots := 0, locals := 0 } s m args below meth c H locs 0 0 Q (F0 m 29 ls [])) : ∀ n : Nat, ∀ (S : MS) (H : Heap) (locs : List Loc) (ls : Array Slot) (l1 : Int32) (l3 : Int32) (l4 : Int32), fr_copy_15_12_b3 n S l1 l3 l4 = some S1 → mG D cI cJ cZ ad A H0 H locs S → lv_has ls 5 [(0, .ref (ad 15)), (1, .int l1), (2, .ref (ad 12)), (3, .int l3), (4, .int l4)] → W p l e { frames := 1, cells := 0, slots := 0, locals := 0 } s m args below meth c H locs 0 0 Q (F0 m 3 ls []) := by
  have hx := E.1
  have hb := E.2.1
  have hts := E.2.2.1
  have hown := E.2.2.2.1
  have hK := E.2.2.2.2.1
  intro n
  induction n with
  | zero =>
    intro S H locs ls l1 l3 l4 h
    have h : (none : Option (MS)) = some S1 := h
    cases h
  | succ n ih =>
    intro S H locs ls l1 l3 l4 h G hl
    unfold fr_copy_15_12_b3 at h
    refine lv_iload hx hb dX12_copy_3 (lv_at hl 4 rfl) ?_
    refine lv_sipush (v := 2455) hx hb dX12_copy_5 (by decide) ?_
    refine lv_icmp_ge (tgt := 29) hx hb dX12_copy_8 (by decide) (fun c2 => ?_) (fun c2 => ?_)
    · have h := oif_pos c2 h
      rw [osome1 h] at G
      exact kr29 _ _ _ G
    · have h := oif_neg c2 h
      refine lv_aload_n hx hb dX12_copy_11 rfl (lv_at hl 2 rfl) ?_
      refine lv_iload_n hx hb dX12_copy_12 rfl (lv_at hl 3 rfl) ?_
      refine lv_iload hx hb dX12_copy_13 (lv_at hl 4 rfl) ?_
      refine lv_iadd hx hb dX12_copy_15 ?_
      refine lv_topi (fun v3 ev3 => ?_)
      have h := elet_at ev3 h
      clear ev3
      refine lv_aload_n hx hb dX12_copy_16 rfl (lv_at hl 0 rfl) ?_
      refine lv_iload_n hx hb dX12_copy_17 rfl (lv_at hl 1 rfl) ?_
      refine lv_iload hx hb dX12_copy_18 (lv_at hl 4 rfl) ?_
      refine lv_iadd hx hb dX12_copy_20 ?_
      refine lv_topi (fun v4 ev4 => ?_)
      have h := elet_at ev4 h
      clear ev4
      obtain ⟨g5, h⟩ := oif_some h
      refine m_iald E G 15 7 (n := 14730) (k := v4.toNatClampNeg) rfl (inb_k g5).1 (inb_k g5).2 (by decide) dX12_copy_21 ?_
      refine lv_topi (fun v6 ev6 => ?_)
      have h := elet_at ev6 h
      clear ev6
      obtain ⟨g7, h⟩ := oif_some h
      refine m_iast E G 12 4 (k := v3.toNatClampNeg) (v := v6) rfl (fun _ => rfl) (inb_k g7).1 (inb_k g7).2 (by decide) dX12_copy_22 (fun H locs G => ?_)
      obtain ⟨S8, eS8, h⟩ := elet_some h
      rw [← eS8] at G
      clear eS8
      obtain ⟨v9, ev9, h⟩ := elet_some h
      refine lv_iinc (v := v9) (lv' := [(4, .int v9), (0, .ref (ad 15)), (1, .int l1), (2, .ref (ad 12)), (3, .int l3)]) hx hb dX12_copy_23 hl (k := 4) rfl ev9.symm (by decide) rfl (fun ls hl => ?_)
      refine lv_goto (tgt := 3) hx hb dX12_copy_26 (by decide) ?_
      have hl := lv_sub hl [1, 2, 3, 4, 0] rfl
      exact ih _ _ _ _ _ _ _ h G hl
def fr_copy_15_12 (S : MS) (a1 : Int32) (a3 : Int32) : Option (MS) := fr_copy_15_12_b3 16384 S a1 a3 0
set_option maxHeartbeats 4000000 in
set_option maxRecDepth 100000 in
theorem tr_copy_15_12 (l : Launch) (D : va_G) (cI cJ cZ : ClassId) (ad : Nat → Nat) (S : MS) (a1 : Int32) (a3 : Int32) {S1 : MS} (h : fr_copy_15_12 S a1 a3 = some S1) : mCs l yX12_copy (Cond.code yX12_copy cX12_copy 5 none :: wsM) 1 0 D cI cJ cZ ad S [.ref (ad 15), .int a1, .ref (ad 12), .int a3] (fun S9 => S9 = S1) := by
  intro sz
  refine Met.ofW (cc := cX12_copy) (maxL := 5) (ret := none) (by decide) rfl ?_
  intro p e s m args below meth c s₁ B hml hv
  obtain ⟨rfl, hsz, hP, hK, hD0, hR⟩ := hv
  have hx := B.exec
  have hb := B.bytes
  have hr := B.returns
  have hts := atoms_spec (ws := (Cond.code yX12_copy cX12_copy 5 none :: wsM)) B.pre
  have hown : s.vm.findClass RX12 = some m.cls := findClass_of_methodNamed B.named
  have hlocks := B.notSynchronized
  subst hsz
  have hD := hD0.self (sz := s.heap.size)
  generalize hAe : va_A (MW cI cJ cZ ad S) s.heap.size = A at hD ⊢
  have hA : ∀ q : Nat, s.heap.size ≤ q → A q := fun q h => by rw [← hAe]; exact Or.inr h
  have G : mG D cI cJ cZ ad A s.heap s.heap [] S := ⟨hP, hD, va_S.rf⟩
  have E : mE p c cX12_copy s m ([.ref (ad 15), .int a1, .ref (ad 12), .int a3] : List Value).toArray (Cond.code yX12_copy cX12_copy 5 none :: wsM) D cI cJ cZ := ⟨hx, hb, hts, hown, hK, fun w h => .tail _ (iM_x h)⟩
  have hl := lv_entry ([.ref (ad 15), .int a1, .ref (ad 12), .int a3]) (n := 5) (Nat.le_of_ble_eq_true rfl)
  rw [lg_entry_eq]
  generalize (lg_sl ([.ref (ad 15), .int a1, .ref (ad 12), .int a3]) ++ List.replicate (5 - (lg_sl ([.ref (ad 15), .int a1, .ref (ad 12), .int a3])).length) Slot.unset).toArray = ls at hl ⊢
  have hl : lv_has ls 5 [(0, .ref (ad 15)), (1, .int a1), (2, .ref (ad 12)), (3, .int a3)] := hl
  unfold fr_copy_15_12 at h
  refine lv_iconst (v := 0) hx hb dX12_copy_0 (by decide) ?_
  refine lv_istore (lv' := [(4, .int 0), (0, .ref (ad 15)), (1, .int a1), (2, .ref (ad 12)), (3, .int a3)]) hx hb dX12_copy_1 hl (by decide) rfl (fun ls hl => ?_)
  have hl := lv_sub hl [1, 2, 3, 4, 0] rfl
  exact tr_copy_15_12_b3 E hA hR hml (fun H locs ls G => W.vret hx hb hr (fun t ht hW => ⟨⟨S1, rfl, rfl, ⟨by rw [ht]; exact G.1, va_K.moved hW.alike hK, G.2.1⟩⟩, G.2.2.F ht⟩) G.2.2.2.2 dX12_copy_29) _ _ _ _ _ _ _ _ h G hl
def fr_undo_b13  (S : MS) (s0 : Int32) : Option (Int32 × MS) := elet (mi S 0 s0) fun S2 => elet (S2.1 0) fun v3 => if v3 ≤ 0 then (elet (S2.1 19) fun v5 => elet (v5 - 1) fun v6 => elet (mi S2 19 v6) fun S7 => elet (S7.1 19) fun v8 => elet (2455 * v8) fun v9 => obind (fr_copy_15_12 S7 v9 0) fun S10 => elet (S10.1 19) fun v13 => some (v13, S10)) else (some (0, S2))
set_option maxHeartbeats 4000000 in
set_option maxRecDepth 100000 in
theorem tr_undo_b13 {p : Program} {l : Launch} {e : Env} {s : State} {m : MethodId} {args : Array Value} {below : List Frame} {meth : Method} {c : Code} {Q : State → Prop} {D : va_G} {A : Nat → Prop} {H0 : Heap} {cI cJ cZ : ClassId} {ad : Nat → Nat} {r1 : Int32} {S1 : MS} (E : mE p c cX12_undo s m args (Cond.code yX12_undo cX12_undo 1 (some .int) :: wsM) D cI cJ cZ) (hA : ∀ q : Nat, H0.size ≤ q → A q) (hR : sR s) (hml : c.maxLocals = 1) (kr24 : ∀ (H : Heap) (locs : List Loc) (ls : Array Slot), mG D cI cJ cZ ad A H0 H locs S1 → W p l e { frames := 2, cells := 0, slots := 0, locals := 24 } s m args below meth c H locs 0 0 Q (F0 m 24 ls [.int r1])) (kr59 : ∀ (H : Heap) (locs : List Loc) (ls : Array Slot), mG D cI cJ cZ ad A H0 H locs S1 → W p l e { frames := 2, cells := 0, slots := 0, locals := 24 } s m args below meth c H locs 0 0 Q (F0 m 59 ls [.int r1])) : ∀ (S : MS) (H : Heap) (locs : List Loc) (ls : Array Slot) (s0 : Int32), fr_undo_b13 S s0 = some (r1, S1) → mG D cI cJ cZ ad A H0 H locs S → lv_has ls 1 [(0, .ref (ad 0))] → W p l e { frames := 2, cells := 0, slots := 0, locals := 24 } s m args below meth c H locs 0 0 Q (F0 m 13 ls [.int s0, .ref (ad 0)]) := by
  have hx := E.1
  have hb := E.2.1
  have hts := E.2.2.1
  have hown := E.2.2.2.1
  have hK := E.2.2.2.2.1
  intro S H locs ls s0 h G hl
  unfold fr_undo_b13 at h
  refine m_put E G 0 (by decide) (.tail _ qM_26) (mw_i0 _ _ _ _ _ s0) dX12_undo_13 ⟨rfl, rfl, rfl⟩ rfl rfl (fun H locs G => ?_)
  obtain ⟨S2, eS2, h⟩ := elet_some h
  rw [← eS2] at G
  clear eS2
  refine lv_aload_n hx hb dX12_undo_16 rfl (lv_at hl 0 rfl) ?_
  refine m_get E G 0 (v := .int (S2.1 0)) (by decide) (.tail _ qM_26) rfl dX12_undo_17 rfl ?_
  refine lv_topi (fun v3 ev3 => ?_)
  have h := elet_at ev3 h
  clear ev3
  refine lv_if_le (tgt := 25) hx hb dX12_undo_20 (by decide) (fun c4 => ?_) (fun c4 => ?_)
  · have h := oif_pos c4 h
    refine lv_aload_n hx hb dX12_undo_25 rfl (lv_at hl 0 rfl) ?_
    refine lv_dup hx hb dX12_undo_26 rfl ?_
    refine m_get E G 19 (v := .int (S2.1 19)) (by decide) (.tail _ qM_194) rfl dX12_undo_27 rfl ?_
    refine lv_topi (fun v5 ev5 => ?_)
    have h := elet_at ev5 h
    clear ev5
    refine lv_iconst (v := 1) hx hb dX12_undo_30 (by decide) ?_
    refine lv_isub hx hb dX12_undo_31 ?_
    refine lv_topi (fun v6 ev6 => ?_)
    have h := elet_at ev6 h
    clear ev6
    refine m_put E G 19 (by decide) (.tail _ qM_194) (mw_i19 _ _ _ _ _ v6) dX12_undo_32 ⟨rfl, rfl, rfl⟩ rfl rfl (fun H locs G => ?_)
    obtain ⟨S7, eS7, h⟩ := elet_some h
    rw [← eS7] at G
    clear eS7
    refine lv_aload_n hx hb dX12_undo_35 rfl (lv_at hl 0 rfl) ?_
    refine m_get E G 15 (v := .ref (ad 15)) (by decide) (.tail _ qM_12) rfl dX12_undo_36 rfl ?_
    refine lv_sipush (v := 2455) hx hb dX12_undo_39 (by decide) ?_
    refine lv_aload_n hx hb dX12_undo_42 rfl (lv_at hl 0 rfl) ?_
    refine m_get E G 19 (v := .int (S7.1 19)) (by decide) (.tail _ qM_194) rfl dX12_undo_43 rfl ?_
    refine lv_topi (fun v8 ev8 => ?_)
    have h := elet_at ev8 h
    clear ev8
    refine lv_imul hx hb dX12_undo_46 ?_
    refine lv_topi (fun v9 ev9 => ?_)
    have h := elet_at ev9 h
    clear ev9
    refine lv_aload_n hx hb dX12_undo_47 rfl (lv_at hl 0 rfl) ?_
    refine m_get E G 12 (v := .ref (ad 12)) (by decide) (.tail _ qM_9) rfl dX12_undo_48 rfl ?_
    refine lv_iconst (v := 0) hx hb dX12_undo_51 (by decide) ?_
    obtain ⟨S10, eS10, h⟩ := obind_some h
    refine m_calls (As := [.ref (ad 15), .int v9, .ref (ad 12), .int 0]) (rest := []) E G hA hR hml (tr_copy_15_12 l D cI cJ cZ ad S7 v9 0 eS10) (cwS 4 hts (gmS qM_201 qM_202 qM_35 qM_203) rfl rfl rfl (by decide +kernel) ⟨Nat.le_of_ble_eq_true rfl, Nat.le_of_ble_eq_true rfl⟩) rfl hl.1 rfl (lv_room (Nat.le_of_ble_eq_true rfl)) dX12_undo_52 ⟨Nat.zero_le _, Nat.zero_le _⟩ (fun S12 H locs hq G => ?_)
    rw [hq] at G
    clear hq eS10
    refine lv_aload_n hx hb dX12_undo_55 rfl (lv_at hl 0 rfl) ?_
    refine m_get E G 19 (v := .int (S10.1 19)) (by decide) (.tail _ qM_194) rfl dX12_undo_56 rfl ?_
    refine lv_topi (fun v13 ev13 => ?_)
    have h := elet_at ev13 h
    clear ev13
    rw [(osome2 h).2] at G
    refine lv_to (osome2 h).1 ?_
    exact kr59 _ _ _ G
  · have h := oif_neg c4 h
    refine lv_iconst (v := 0) hx hb dX12_undo_23 (by decide) ?_
    rw [(osome2 h).2] at G
    refine lv_to (osome2 h).1 ?_
    exact kr24 _ _ _ G
def fr_undo (S : MS)  : Option (Int32 × MS) := elet (S.1 19) fun v2 => if v2 = 0 then (fr_undo_b13 S 1) else (fr_undo_b13 S 0)
set_option maxHeartbeats 4000000 in
set_option maxRecDepth 100000 in
theorem tr_undo (l : Launch) (D : va_G) (cI cJ cZ : ClassId) (ad : Nat → Nat) (S : MS)  {r1 : Int32} {S1 : MS} (h : fr_undo S = some (r1, S1)) : mCi l yX12_undo (Cond.code yX12_undo cX12_undo 1 (some .int) :: wsM) 2 24 D cI cJ cZ ad S [] (fun r S9 => r = r1 ∧ S9 = S1) := by
  intro sz
  refine Met.ofW (cc := cX12_undo) (maxL := 1) (ret := (some .int)) (by decide) rfl ?_
  intro p e s m args below meth c s₁ B hml hv
  obtain ⟨rfl, hsz, hP, hK, hD0, hR⟩ := hv
  have hx := B.exec
  have hb := B.bytes
  have hr := B.returns
  have hts := atoms_spec (ws := (Cond.code yX12_undo cX12_undo 1 (some .int) :: wsM)) B.pre
  have hown : s.vm.findClass RX12 = some m.cls := findClass_of_methodNamed B.named
  have hlocks := B.notSynchronized
  subst hsz
  have hD := hD0.self (sz := s.heap.size)
  generalize hAe : va_A (MW cI cJ cZ ad S) s.heap.size = A at hD ⊢
  have hA : ∀ q : Nat, s.heap.size ≤ q → A q := fun q h => by rw [← hAe]; exact Or.inr h
  have G : mG D cI cJ cZ ad A s.heap s.heap [] S := ⟨hP, hD, va_S.rf⟩
  have E : mE p c cX12_undo s m ([.ref (ad 0)] : List Value).toArray (Cond.code yX12_undo cX12_undo 1 (some .int) :: wsM) D cI cJ cZ := ⟨hx, hb, hts, hown, hK, fun w h => .tail _ (iM_x h)⟩
  have hl := lv_entry ([.ref (ad 0)]) (n := 1) (Nat.le_of_ble_eq_true rfl)
  rw [lg_entry_eq]
  generalize (lg_sl ([.ref (ad 0)]) ++ List.replicate (1 - (lg_sl ([.ref (ad 0)])).length) Slot.unset).toArray = ls at hl ⊢
  have hl : lv_has ls 1 [(0, .ref (ad 0))] := hl
  unfold fr_undo at h
  refine lv_aload_n hx hb dX12_undo_0 rfl (lv_at hl 0 rfl) ?_
  refine lv_aload_n hx hb dX12_undo_1 rfl (lv_at hl 0 rfl) ?_
  refine m_get E G 19 (v := .int (S.1 19)) (by decide) (.tail _ qM_194) rfl dX12_undo_2 rfl ?_
  refine lv_topi (fun v2 ev2 => ?_)
  have h := elet_at ev2 h
  clear ev2
  refine lv_if_ne (tgt := 12) hx hb dX12_undo_5 (by decide) (fun c3 => ?_) (fun c3 => ?_)
  · have h := oif_neg c3 h
    refine lv_iconst (v := 0) hx hb dX12_undo_12 (by decide) ?_
    have hl := lv_sub hl [0] rfl
    exact tr_undo_b13 E hA hR hml (fun H locs ls G => W.iret (v := r1) hx hb hr (fun t ht hW => ⟨⟨r1, S1, rfl, ⟨rfl, rfl⟩, ⟨by rw [ht]; exact G.1, va_K.moved hW.alike hK, G.2.1⟩⟩, G.2.2.F ht⟩) G.2.2.2.2 dX12_undo_24) (fun H locs ls G => W.iret (v := r1) hx hb hr (fun t ht hW => ⟨⟨r1, S1, rfl, ⟨rfl, rfl⟩, ⟨by rw [ht]; exact G.1, va_K.moved hW.alike hK, G.2.1⟩⟩, G.2.2.F ht⟩) G.2.2.2.2 dX12_undo_59) _ _ _ _ _ h G hl
  · have h := oif_pos c3 h
    refine lv_iconst (v := 1) hx hb dX12_undo_8 (by decide) ?_
    refine lv_goto (tgt := 13) hx hb dX12_undo_9 (by decide) ?_
    have hl := lv_sub hl [0] rfl
    exact tr_undo_b13 E hA hR hml (fun H locs ls G => W.iret (v := r1) hx hb hr (fun t ht hW => ⟨⟨r1, S1, rfl, ⟨rfl, rfl⟩, ⟨by rw [ht]; exact G.1, va_K.moved hW.alike hK, G.2.1⟩⟩, G.2.2.F ht⟩) G.2.2.2.2 dX12_undo_24) (fun H locs ls G => W.iret (v := r1) hx hb hr (fun t ht hW => ⟨⟨r1, S1, rfl, ⟨rfl, rfl⟩, ⟨by rw [ht]; exact G.1, va_K.moved hW.alike hK, G.2.1⟩⟩, G.2.2.F ht⟩) G.2.2.2.2 dX12_undo_59) _ _ _ _ _ h G hl
def fr_undoable (S : MS)  : Option (Int32 × MS) := elet (mi S 0 0) fun S2 => elet (S2.1 19) fun v3 => some (v3, S2)
set_option maxHeartbeats 4000000 in
set_option maxRecDepth 100000 in
theorem tr_undoable (l : Launch) (D : va_G) (cI cJ cZ : ClassId) (ad : Nat → Nat) (S : MS)  {r1 : Int32} {S1 : MS} (h : fr_undoable S = some (r1, S1)) : mCi l yX12_undoable (Cond.code yX12_undoable cX12_undoable 1 (some .int) :: wsM) 1 0 D cI cJ cZ ad S [] (fun r S9 => r = r1 ∧ S9 = S1) := by
  intro sz
  refine Met.ofW (cc := cX12_undoable) (maxL := 1) (ret := (some .int)) (by decide) rfl ?_
  intro p e s m args below meth c s₁ B hml hv
  obtain ⟨rfl, hsz, hP, hK, hD0, hR⟩ := hv
  have hx := B.exec
  have hb := B.bytes
  have hr := B.returns
  have hts := atoms_spec (ws := (Cond.code yX12_undoable cX12_undoable 1 (some .int) :: wsM)) B.pre
  have hown : s.vm.findClass RX12 = some m.cls := findClass_of_methodNamed B.named
  have hlocks := B.notSynchronized
  subst hsz
  have hD := hD0.self (sz := s.heap.size)
  generalize hAe : va_A (MW cI cJ cZ ad S) s.heap.size = A at hD ⊢
  have hA : ∀ q : Nat, s.heap.size ≤ q → A q := fun q h => by rw [← hAe]; exact Or.inr h
  have G : mG D cI cJ cZ ad A s.heap s.heap [] S := ⟨hP, hD, va_S.rf⟩
  have E : mE p c cX12_undoable s m ([.ref (ad 0)] : List Value).toArray (Cond.code yX12_undoable cX12_undoable 1 (some .int) :: wsM) D cI cJ cZ := ⟨hx, hb, hts, hown, hK, fun w h => .tail _ (iM_x h)⟩
  have hl := lv_entry ([.ref (ad 0)]) (n := 1) (Nat.le_of_ble_eq_true rfl)
  rw [lg_entry_eq]
  generalize (lg_sl ([.ref (ad 0)]) ++ List.replicate (1 - (lg_sl ([.ref (ad 0)])).length) Slot.unset).toArray = ls at hl ⊢
  have hl : lv_has ls 1 [(0, .ref (ad 0))] := hl
  unfold fr_undoable at h
  refine lv_aload_n hx hb dX12_undoable_0 rfl (lv_at hl 0 rfl) ?_
  refine lv_iconst (v := 0) hx hb dX12_undoable_1 (by decide) ?_
  refine m_put E G 0 (by decide) (.tail _ qM_26) (mw_i0 _ _ _ _ _ 0) dX12_undoable_2 ⟨rfl, rfl, rfl⟩ rfl rfl (fun H locs G => ?_)
  obtain ⟨S2, eS2, h⟩ := elet_some h
  rw [← eS2] at G
  clear eS2
  refine lv_aload_n hx hb dX12_undoable_5 rfl (lv_at hl 0 rfl) ?_
  refine m_get E G 19 (v := .int (S2.1 19)) (by decide) (.tail _ qM_194) rfl dX12_undoable_6 rfl ?_
  refine lv_topi (fun v3 ev3 => ?_)
  have h := elet_at ev3 h
  clear ev3
  exact W.iret (v := v3) hx hb hr (fun t ht hW => ⟨⟨v3, S2, rfl, osome2 h, ⟨by rw [ht]; exact G.1, va_K.moved hW.alike hK, G.2.1⟩⟩, G.2.2.F ht⟩) G.2.2.2.2 dX12_undoable_9
def fr_copy_12_16_b3  : Nat → MS → Int32 → Int32 → Int32 → Option (MS)
  | 0, _, _, _, _ => none
  | n + 1, S, l1, l3, l4 => if 2455 ≤ l4 then (some S) else (elet (l3 + l4) fun v3 => elet (l1 + l4) fun v4 => oif (inb v4 2455 = true) <| elet (S.2.1 12 v4.toNatClampNeg) fun v6 => oif (inb v3 4910 = true) <| elet (mf S 16 (upd (S.2.1 16) v3.toNatClampNeg v6)) fun S8 => elet (l4 + Int32.ofInt (1)) fun v9 => fr_copy_12_16_b3 n S8 l1 l3 v9)
set_option maxHeartbeats 4000000 in
set_option maxRecDepth 100000 in
theorem tr_copy_12_16_b3 {p : Program} {l : Launch} {e : Env} {s : State} {m : MethodId} {args : Array Value} {below : List Frame} {meth : Method} {c : Code} {Q : State → Prop} {D : va_G} {A : Nat → Prop} {H0 : Heap} {cI cJ cZ : ClassId} {ad : Nat → Nat} {S1 : MS} (E : mE p c cX12_copy s m args (Cond.code yX12_copy cX12_copy 5 none :: wsM) D cI cJ cZ) (hA : ∀ q : Nat, H0.size ≤ q → A q) (hR : sR s) (hml : c.maxLocals = 5) (kr29 : ∀ (H : Heap) (locs : List Loc) (ls : Array Slot), mG D cI cJ cZ ad A H0 H locs S1 → W p l e { frames := 1, cells := 0, slots := 0, locals := 0 } s m args below meth c H locs 0 0 Q (F0 m 29 ls [])) : ∀ n : Nat, ∀ (S : MS) (H : Heap) (locs : List Loc) (ls : Array Slot) (l1 : Int32) (l3 : Int32) (l4 : Int32), fr_copy_12_16_b3 n S l1 l3 l4 = some S1 → mG D cI cJ cZ ad A H0 H locs S → lv_has ls 5 [(0, .ref (ad 12)), (1, .int l1), (2, .ref (ad 16)), (3, .int l3), (4, .int l4)] → W p l e { frames := 1, cells := 0, slots := 0, locals := 0 } s m args below meth c H locs 0 0 Q (F0 m 3 ls []) := by
  have hx := E.1
  have hb := E.2.1
  have hts := E.2.2.1
  have hown := E.2.2.2.1
  have hK := E.2.2.2.2.1
  intro n
  induction n with
  | zero =>
    intro S H locs ls l1 l3 l4 h
    have h : (none : Option (MS)) = some S1 := h
    cases h
  | succ n ih =>
    intro S H locs ls l1 l3 l4 h G hl
    unfold fr_copy_12_16_b3 at h
    refine lv_iload hx hb dX12_copy_3 (lv_at hl 4 rfl) ?_
    refine lv_sipush (v := 2455) hx hb dX12_copy_5 (by decide) ?_
    refine lv_icmp_ge (tgt := 29) hx hb dX12_copy_8 (by decide) (fun c2 => ?_) (fun c2 => ?_)
    · have h := oif_pos c2 h
      rw [osome1 h] at G
      exact kr29 _ _ _ G
    · have h := oif_neg c2 h
      refine lv_aload_n hx hb dX12_copy_11 rfl (lv_at hl 2 rfl) ?_
      refine lv_iload_n hx hb dX12_copy_12 rfl (lv_at hl 3 rfl) ?_
      refine lv_iload hx hb dX12_copy_13 (lv_at hl 4 rfl) ?_
      refine lv_iadd hx hb dX12_copy_15 ?_
      refine lv_topi (fun v3 ev3 => ?_)
      have h := elet_at ev3 h
      clear ev3
      refine lv_aload_n hx hb dX12_copy_16 rfl (lv_at hl 0 rfl) ?_
      refine lv_iload_n hx hb dX12_copy_17 rfl (lv_at hl 1 rfl) ?_
      refine lv_iload hx hb dX12_copy_18 (lv_at hl 4 rfl) ?_
      refine lv_iadd hx hb dX12_copy_20 ?_
      refine lv_topi (fun v4 ev4 => ?_)
      have h := elet_at ev4 h
      clear ev4
      obtain ⟨g5, h⟩ := oif_some h
      refine m_iald E G 12 4 (n := 2455) (k := v4.toNatClampNeg) rfl (inb_k g5).1 (inb_k g5).2 (by decide) dX12_copy_21 ?_
      refine lv_topi (fun v6 ev6 => ?_)
      have h := elet_at ev6 h
      clear ev6
      obtain ⟨g7, h⟩ := oif_some h
      refine m_iast E G 16 8 (k := v3.toNatClampNeg) (v := v6) rfl (fun _ => rfl) (inb_k g7).1 (inb_k g7).2 (by decide) dX12_copy_22 (fun H locs G => ?_)
      obtain ⟨S8, eS8, h⟩ := elet_some h
      rw [← eS8] at G
      clear eS8
      obtain ⟨v9, ev9, h⟩ := elet_some h
      refine lv_iinc (v := v9) (lv' := [(4, .int v9), (0, .ref (ad 12)), (1, .int l1), (2, .ref (ad 16)), (3, .int l3)]) hx hb dX12_copy_23 hl (k := 4) rfl ev9.symm (by decide) rfl (fun ls hl => ?_)
      refine lv_goto (tgt := 3) hx hb dX12_copy_26 (by decide) ?_
      have hl := lv_sub hl [1, 2, 3, 4, 0] rfl
      exact ih _ _ _ _ _ _ _ h G hl
def fr_copy_12_16 (S : MS) (a1 : Int32) (a3 : Int32) : Option (MS) := fr_copy_12_16_b3 16384 S a1 a3 0
set_option maxHeartbeats 4000000 in
set_option maxRecDepth 100000 in
theorem tr_copy_12_16 (l : Launch) (D : va_G) (cI cJ cZ : ClassId) (ad : Nat → Nat) (S : MS) (a1 : Int32) (a3 : Int32) {S1 : MS} (h : fr_copy_12_16 S a1 a3 = some S1) : mCs l yX12_copy (Cond.code yX12_copy cX12_copy 5 none :: wsM) 1 0 D cI cJ cZ ad S [.ref (ad 12), .int a1, .ref (ad 16), .int a3] (fun S9 => S9 = S1) := by
  intro sz
  refine Met.ofW (cc := cX12_copy) (maxL := 5) (ret := none) (by decide) rfl ?_
  intro p e s m args below meth c s₁ B hml hv
  obtain ⟨rfl, hsz, hP, hK, hD0, hR⟩ := hv
  have hx := B.exec
  have hb := B.bytes
  have hr := B.returns
  have hts := atoms_spec (ws := (Cond.code yX12_copy cX12_copy 5 none :: wsM)) B.pre
  have hown : s.vm.findClass RX12 = some m.cls := findClass_of_methodNamed B.named
  have hlocks := B.notSynchronized
  subst hsz
  have hD := hD0.self (sz := s.heap.size)
  generalize hAe : va_A (MW cI cJ cZ ad S) s.heap.size = A at hD ⊢
  have hA : ∀ q : Nat, s.heap.size ≤ q → A q := fun q h => by rw [← hAe]; exact Or.inr h
  have G : mG D cI cJ cZ ad A s.heap s.heap [] S := ⟨hP, hD, va_S.rf⟩
  have E : mE p c cX12_copy s m ([.ref (ad 12), .int a1, .ref (ad 16), .int a3] : List Value).toArray (Cond.code yX12_copy cX12_copy 5 none :: wsM) D cI cJ cZ := ⟨hx, hb, hts, hown, hK, fun w h => .tail _ (iM_x h)⟩
  have hl := lv_entry ([.ref (ad 12), .int a1, .ref (ad 16), .int a3]) (n := 5) (Nat.le_of_ble_eq_true rfl)
  rw [lg_entry_eq]
  generalize (lg_sl ([.ref (ad 12), .int a1, .ref (ad 16), .int a3]) ++ List.replicate (5 - (lg_sl ([.ref (ad 12), .int a1, .ref (ad 16), .int a3])).length) Slot.unset).toArray = ls at hl ⊢
  have hl : lv_has ls 5 [(0, .ref (ad 12)), (1, .int a1), (2, .ref (ad 16)), (3, .int a3)] := hl
  unfold fr_copy_12_16 at h
  refine lv_iconst (v := 0) hx hb dX12_copy_0 (by decide) ?_
  refine lv_istore (lv' := [(4, .int 0), (0, .ref (ad 12)), (1, .int a1), (2, .ref (ad 16)), (3, .int a3)]) hx hb dX12_copy_1 hl (by decide) rfl (fun ls hl => ?_)
  have hl := lv_sub hl [1, 2, 3, 4, 0] rfl
  exact tr_copy_12_16_b3 E hA hR hml (fun H locs ls G => W.vret hx hb hr (fun t ht hW => ⟨⟨S1, rfl, rfl, ⟨by rw [ht]; exact G.1, va_K.moved hW.alike hK, G.2.1⟩⟩, G.2.2.F ht⟩) G.2.2.2.2 dX12_copy_29) _ _ _ _ _ _ _ _ h G hl
def fr_save (S : MS) (a0 : Int32) : Option (Int32 × MS) := obind (fr_in a0 0 1) fun r2 => obind2 (fr_mayAsk S r2) fun r7 S4 => if r7 = 0 then (some (0, S4)) else (elet (2455 * a0) fun v9 => obind (fr_copy_12_16 S4 0 v9) fun S10 => oif (inb a0 2 = true) <| elet (mf S10 18 (upd (S10.2.1 18) a0.toNatClampNeg 1)) fun S14 => obind2 (fr_bestIn_12 S14) fun r18 S15 => some (r18, S15))
set_option maxHeartbeats 4000000 in
set_option maxRecDepth 100000 in
theorem tr_save (l : Launch) (D : va_G) (cI cJ cZ : ClassId) (ad : Nat → Nat) (S : MS) (a0 : Int32) {r1 : Int32} {S1 : MS} (h : fr_save S a0 = some (r1, S1)) : mCi l yX12_save (Cond.code yX12_save cX12_save 2 (some .int) :: wsM) 8 163 D cI cJ cZ ad S [.int a0] (fun r S9 => r = r1 ∧ S9 = S1) := by
  intro sz
  refine Met.ofW (cc := cX12_save) (maxL := 2) (ret := (some .int)) (by decide) rfl ?_
  intro p e s m args below meth c s₁ B hml hv
  obtain ⟨rfl, hsz, hP, hK, hD0, hR⟩ := hv
  have hx := B.exec
  have hb := B.bytes
  have hr := B.returns
  have hts := atoms_spec (ws := (Cond.code yX12_save cX12_save 2 (some .int) :: wsM)) B.pre
  have hown : s.vm.findClass RX12 = some m.cls := findClass_of_methodNamed B.named
  have hlocks := B.notSynchronized
  subst hsz
  have hD := hD0.self (sz := s.heap.size)
  generalize hAe : va_A (MW cI cJ cZ ad S) s.heap.size = A at hD ⊢
  have hA : ∀ q : Nat, s.heap.size ≤ q → A q := fun q h => by rw [← hAe]; exact Or.inr h
  have G : mG D cI cJ cZ ad A s.heap s.heap [] S := ⟨hP, hD, va_S.rf⟩
  have E : mE p c cX12_save s m ([.ref (ad 0), .int a0] : List Value).toArray (Cond.code yX12_save cX12_save 2 (some .int) :: wsM) D cI cJ cZ := ⟨hx, hb, hts, hown, hK, fun w h => .tail _ (iM_x h)⟩
  have hl := lv_entry ([.ref (ad 0), .int a0]) (n := 2) (Nat.le_of_ble_eq_true rfl)
  rw [lg_entry_eq]
  generalize (lg_sl ([.ref (ad 0), .int a0]) ++ List.replicate (2 - (lg_sl ([.ref (ad 0), .int a0])).length) Slot.unset).toArray = ls at hl ⊢
  have hl : lv_has ls 2 [(0, .ref (ad 0)), (1, .int a0)] := hl
  unfold fr_save at h
  refine lv_aload_n hx hb dX12_save_0 rfl (lv_at hl 0 rfl) ?_
  refine lv_iload_n hx hb dX12_save_1 rfl (lv_at hl 1 rfl) ?_
  refine lv_iconst (v := 0) hx hb dX12_save_2 (by decide) ?_
  refine lv_iconst (v := 1) hx hb dX12_save_3 (by decide) ?_
  obtain ⟨r2, er2, h⟩ := obind_some h
  refine m_stat (As := [.int a0, .int 0, .int 1]) (rest := [.ref (ad 0)]) ⟨hx, hb, hml, hown, hts⟩ (tr_in l a0 0 1 er2) (cwS 3 hts (gmS qM_52 qM_53 qM_35 qM_27) rfl rfl rfl (by decide +kernel) ⟨Nat.le_of_ble_eq_true rfl, Nat.le_of_ble_eq_true rfl⟩) rfl hl.1 rfl (lv_room (Nat.le_of_ble_eq_true rfl)) dX12_save_4 ⟨Nat.zero_le _, Nat.zero_le _⟩ (fun q3 hq => ?_)
  refine lv_to hq ?_
  clear hq er2
  obtain ⟨r7, S4, eS4, h⟩ := obind2_some h
  refine m_calli (As := [.int r2]) (rest := []) E G hA hR hml (tr_mayAsk l D cI cJ cZ ad S r2 eS4) (cwV 1 hts (gmV qM_319 qM_320 qM_321 qM_35 qM_304) rfl rfl rfl (by decide +kernel) ⟨Nat.le_of_ble_eq_true rfl, Nat.le_of_ble_eq_true rfl⟩) rfl hl.1 rfl (lv_room (Nat.le_of_ble_eq_true rfl)) dX12_save_7 ⟨Nat.zero_le _, Nat.zero_le _⟩ (fun q5 S6 H locs hq G => ?_)
  obtain ⟨hq1, hq2⟩ := hq
  rw [hq2] at G
  refine lv_to hq1 ?_
  clear hq1 hq2 eS4
  refine lv_if_ne (tgt := 15) hx hb dX12_save_10 (by decide) (fun c8 => ?_) (fun c8 => ?_)
  · have h := oif_neg c8 h
    refine lv_aload_n hx hb dX12_save_15 rfl (lv_at hl 0 rfl) ?_
    refine m_get E G 12 (v := .ref (ad 12)) (by decide) (.tail _ qM_9) rfl dX12_save_16 rfl ?_
    refine lv_iconst (v := 0) hx hb dX12_save_19 (by decide) ?_
    refine lv_aload_n hx hb dX12_save_20 rfl (lv_at hl 0 rfl) ?_
    refine m_get E G 16 (v := .ref (ad 16)) (by decide) (.tail _ qM_13) rfl dX12_save_21 rfl ?_
    refine lv_sipush (v := 2455) hx hb dX12_save_24 (by decide) ?_
    refine lv_iload_n hx hb dX12_save_27 rfl (lv_at hl 1 rfl) ?_
    refine lv_imul hx hb dX12_save_28 ?_
    refine lv_topi (fun v9 ev9 => ?_)
    have h := elet_at ev9 h
    clear ev9
    obtain ⟨S10, eS10, h⟩ := obind_some h
    refine m_calls (As := [.ref (ad 12), .int 0, .ref (ad 16), .int v9]) (rest := []) E G hA hR hml (tr_copy_12_16 l D cI cJ cZ ad S4 0 v9 eS10) (cwS 4 hts (gmS qM_201 qM_202 qM_35 qM_203) rfl rfl rfl (by decide +kernel) ⟨Nat.le_of_ble_eq_true rfl, Nat.le_of_ble_eq_true rfl⟩) rfl hl.1 rfl (lv_room (Nat.le_of_ble_eq_true rfl)) dX12_save_29 ⟨Nat.zero_le _, Nat.zero_le _⟩ (fun S12 H locs hq G => ?_)
    rw [hq] at G
    clear hq eS10
    refine lv_aload_n hx hb dX12_save_32 rfl (lv_at hl 0 rfl) ?_
    refine m_get E G 18 (v := .ref (ad 18)) (by decide) (.tail _ qM_16) rfl dX12_save_33 rfl ?_
    refine lv_iload_n hx hb dX12_save_36 rfl (lv_at hl 1 rfl) ?_
    refine lv_iconst (v := 1) hx hb dX12_save_37 (by decide) ?_
    obtain ⟨g13, h⟩ := oif_some h
    refine m_zast E G 18 10 (k := a0.toNatClampNeg) (v := 1) rfl (fun _ => rfl) (inb_k g13).1 (inb_k g13).2 (by decide) rfl dX12_save_38 (fun H locs G => ?_)
    obtain ⟨S14, eS14, h⟩ := elet_some h
    rw [← eS14] at G
    clear eS14
    refine lv_aload_n hx hb dX12_save_39 rfl (lv_at hl 0 rfl) ?_
    refine lv_aload_n hx hb dX12_save_40 rfl (lv_at hl 0 rfl) ?_
    refine m_get E G 12 (v := .ref (ad 12)) (by decide) (.tail _ qM_9) rfl dX12_save_41 rfl ?_
    obtain ⟨r18, S15, eS15, h⟩ := obind2_some h
    refine m_calli (As := [.ref (ad 12)]) (rest := []) E G hA hR hml (tr_bestIn_12 l D cI cJ cZ ad S14 eS15) (cwV 1 hts (gmV qM_360 qM_361 qM_362 qM_35 qM_300) rfl rfl rfl (by decide +kernel) ⟨Nat.le_of_ble_eq_true rfl, Nat.le_of_ble_eq_true rfl⟩) rfl hl.1 rfl (lv_room (Nat.le_of_ble_eq_true rfl)) dX12_save_44 ⟨Nat.zero_le _, Nat.zero_le _⟩ (fun q16 S17 H locs hq G => ?_)
    obtain ⟨hq1, hq2⟩ := hq
    rw [hq2] at G
    refine lv_to hq1 ?_
    clear hq1 hq2 eS15
    exact W.iret (v := r18) hx hb hr (fun t ht hW => ⟨⟨r18, S15, rfl, osome2 h, ⟨by rw [ht]; exact G.1, va_K.moved hW.alike hK, G.2.1⟩⟩, G.2.2.F ht⟩) G.2.2.2.2 dX12_save_47
  · have h := oif_pos c8 h
    refine lv_iconst (v := 0) hx hb dX12_save_13 (by decide) ?_
    exact W.iret (v := 0) hx hb hr (fun t ht hW => ⟨⟨0, S4, rfl, osome2 h, ⟨by rw [ht]; exact G.1, va_K.moved hW.alike hK, G.2.1⟩⟩, G.2.2.F ht⟩) G.2.2.2.2 dX12_save_14
def fr_copy_16_12_b3  : Nat → MS → Int32 → Int32 → Int32 → Option (MS)
  | 0, _, _, _, _ => none
  | n + 1, S, l1, l3, l4 => if 2455 ≤ l4 then (some S) else (elet (l3 + l4) fun v3 => elet (l1 + l4) fun v4 => oif (inb v4 4910 = true) <| elet (S.2.1 16 v4.toNatClampNeg) fun v6 => oif (inb v3 2455 = true) <| elet (mf S 12 (upd (S.2.1 12) v3.toNatClampNeg v6)) fun S8 => elet (l4 + Int32.ofInt (1)) fun v9 => fr_copy_16_12_b3 n S8 l1 l3 v9)
set_option maxHeartbeats 4000000 in
set_option maxRecDepth 100000 in
theorem tr_copy_16_12_b3 {p : Program} {l : Launch} {e : Env} {s : State} {m : MethodId} {args : Array Value} {below : List Frame} {meth : Method} {c : Code} {Q : State → Prop} {D : va_G} {A : Nat → Prop} {H0 : Heap} {cI cJ cZ : ClassId} {ad : Nat → Nat} {S1 : MS} (E : mE p c cX12_copy s m args (Cond.code yX12_copy cX12_copy 5 none :: wsM) D cI cJ cZ) (hA : ∀ q : Nat, H0.size ≤ q → A q) (hR : sR s) (hml : c.maxLocals = 5) (kr29 : ∀ (H : Heap) (locs : List Loc) (ls : Array Slot), mG D cI cJ cZ ad A H0 H locs S1 → W p l e { frames := 1, cells := 0, slots := 0, locals := 0 } s m args below meth c H locs 0 0 Q (F0 m 29 ls [])) : ∀ n : Nat, ∀ (S : MS) (H : Heap) (locs : List Loc) (ls : Array Slot) (l1 : Int32) (l3 : Int32) (l4 : Int32), fr_copy_16_12_b3 n S l1 l3 l4 = some S1 → mG D cI cJ cZ ad A H0 H locs S → lv_has ls 5 [(0, .ref (ad 16)), (1, .int l1), (2, .ref (ad 12)), (3, .int l3), (4, .int l4)] → W p l e { frames := 1, cells := 0, slots := 0, locals := 0 } s m args below meth c H locs 0 0 Q (F0 m 3 ls []) := by
  have hx := E.1
  have hb := E.2.1
  have hts := E.2.2.1
  have hown := E.2.2.2.1
  have hK := E.2.2.2.2.1
  intro n
  induction n with
  | zero =>
    intro S H locs ls l1 l3 l4 h
    have h : (none : Option (MS)) = some S1 := h
    cases h
  | succ n ih =>
    intro S H locs ls l1 l3 l4 h G hl
    unfold fr_copy_16_12_b3 at h
    refine lv_iload hx hb dX12_copy_3 (lv_at hl 4 rfl) ?_
    refine lv_sipush (v := 2455) hx hb dX12_copy_5 (by decide) ?_
    refine lv_icmp_ge (tgt := 29) hx hb dX12_copy_8 (by decide) (fun c2 => ?_) (fun c2 => ?_)
    · have h := oif_pos c2 h
      rw [osome1 h] at G
      exact kr29 _ _ _ G
    · have h := oif_neg c2 h
      refine lv_aload_n hx hb dX12_copy_11 rfl (lv_at hl 2 rfl) ?_
      refine lv_iload_n hx hb dX12_copy_12 rfl (lv_at hl 3 rfl) ?_
      refine lv_iload hx hb dX12_copy_13 (lv_at hl 4 rfl) ?_
      refine lv_iadd hx hb dX12_copy_15 ?_
      refine lv_topi (fun v3 ev3 => ?_)
      have h := elet_at ev3 h
      clear ev3
      refine lv_aload_n hx hb dX12_copy_16 rfl (lv_at hl 0 rfl) ?_
      refine lv_iload_n hx hb dX12_copy_17 rfl (lv_at hl 1 rfl) ?_
      refine lv_iload hx hb dX12_copy_18 (lv_at hl 4 rfl) ?_
      refine lv_iadd hx hb dX12_copy_20 ?_
      refine lv_topi (fun v4 ev4 => ?_)
      have h := elet_at ev4 h
      clear ev4
      obtain ⟨g5, h⟩ := oif_some h
      refine m_iald E G 16 8 (n := 4910) (k := v4.toNatClampNeg) rfl (inb_k g5).1 (inb_k g5).2 (by decide) dX12_copy_21 ?_
      refine lv_topi (fun v6 ev6 => ?_)
      have h := elet_at ev6 h
      clear ev6
      obtain ⟨g7, h⟩ := oif_some h
      refine m_iast E G 12 4 (k := v3.toNatClampNeg) (v := v6) rfl (fun _ => rfl) (inb_k g7).1 (inb_k g7).2 (by decide) dX12_copy_22 (fun H locs G => ?_)
      obtain ⟨S8, eS8, h⟩ := elet_some h
      rw [← eS8] at G
      clear eS8
      obtain ⟨v9, ev9, h⟩ := elet_some h
      refine lv_iinc (v := v9) (lv' := [(4, .int v9), (0, .ref (ad 16)), (1, .int l1), (2, .ref (ad 12)), (3, .int l3)]) hx hb dX12_copy_23 hl (k := 4) rfl ev9.symm (by decide) rfl (fun ls hl => ?_)
      refine lv_goto (tgt := 3) hx hb dX12_copy_26 (by decide) ?_
      have hl := lv_sub hl [1, 2, 3, 4, 0] rfl
      exact ih _ _ _ _ _ _ _ h G hl
def fr_copy_16_12 (S : MS) (a1 : Int32) (a3 : Int32) : Option (MS) := fr_copy_16_12_b3 16384 S a1 a3 0
set_option maxHeartbeats 4000000 in
set_option maxRecDepth 100000 in
theorem tr_copy_16_12 (l : Launch) (D : va_G) (cI cJ cZ : ClassId) (ad : Nat → Nat) (S : MS) (a1 : Int32) (a3 : Int32) {S1 : MS} (h : fr_copy_16_12 S a1 a3 = some S1) : mCs l yX12_copy (Cond.code yX12_copy cX12_copy 5 none :: wsM) 1 0 D cI cJ cZ ad S [.ref (ad 16), .int a1, .ref (ad 12), .int a3] (fun S9 => S9 = S1) := by
  intro sz
  refine Met.ofW (cc := cX12_copy) (maxL := 5) (ret := none) (by decide) rfl ?_
  intro p e s m args below meth c s₁ B hml hv
  obtain ⟨rfl, hsz, hP, hK, hD0, hR⟩ := hv
  have hx := B.exec
  have hb := B.bytes
  have hr := B.returns
  have hts := atoms_spec (ws := (Cond.code yX12_copy cX12_copy 5 none :: wsM)) B.pre
  have hown : s.vm.findClass RX12 = some m.cls := findClass_of_methodNamed B.named
  have hlocks := B.notSynchronized
  subst hsz
  have hD := hD0.self (sz := s.heap.size)
  generalize hAe : va_A (MW cI cJ cZ ad S) s.heap.size = A at hD ⊢
  have hA : ∀ q : Nat, s.heap.size ≤ q → A q := fun q h => by rw [← hAe]; exact Or.inr h
  have G : mG D cI cJ cZ ad A s.heap s.heap [] S := ⟨hP, hD, va_S.rf⟩
  have E : mE p c cX12_copy s m ([.ref (ad 16), .int a1, .ref (ad 12), .int a3] : List Value).toArray (Cond.code yX12_copy cX12_copy 5 none :: wsM) D cI cJ cZ := ⟨hx, hb, hts, hown, hK, fun w h => .tail _ (iM_x h)⟩
  have hl := lv_entry ([.ref (ad 16), .int a1, .ref (ad 12), .int a3]) (n := 5) (Nat.le_of_ble_eq_true rfl)
  rw [lg_entry_eq]
  generalize (lg_sl ([.ref (ad 16), .int a1, .ref (ad 12), .int a3]) ++ List.replicate (5 - (lg_sl ([.ref (ad 16), .int a1, .ref (ad 12), .int a3])).length) Slot.unset).toArray = ls at hl ⊢
  have hl : lv_has ls 5 [(0, .ref (ad 16)), (1, .int a1), (2, .ref (ad 12)), (3, .int a3)] := hl
  unfold fr_copy_16_12 at h
  refine lv_iconst (v := 0) hx hb dX12_copy_0 (by decide) ?_
  refine lv_istore (lv' := [(4, .int 0), (0, .ref (ad 16)), (1, .int a1), (2, .ref (ad 12)), (3, .int a3)]) hx hb dX12_copy_1 hl (by decide) rfl (fun ls hl => ?_)
  have hl := lv_sub hl [1, 2, 3, 4, 0] rfl
  exact tr_copy_16_12_b3 E hA hR hml (fun H locs ls G => W.vret hx hb hr (fun t ht hW => ⟨⟨S1, rfl, rfl, ⟨by rw [ht]; exact G.1, va_K.moved hW.alike hK, G.2.1⟩⟩, G.2.2.F ht⟩) G.2.2.2.2 dX12_copy_29) _ _ _ _ _ _ _ _ h G hl
def fr_restore_b28  (S : MS) (s0 : Int32) (l1 : Int32) : Option (Int32 × MS) := elet (mi S 0 s0) fun S2 => elet (S2.1 0) fun v3 => if v3 ≤ 0 then (elet (2455 * l1) fun v5 => obind (fr_copy_16_12 S2 v5 0) fun S6 => elet (mi S6 19 0) fun S9 => obind2 (fr_bestIn_12 S9) fun r13 S10 => some (r13, S10)) else (some (0, S2))
set_option maxHeartbeats 4000000 in
set_option maxRecDepth 100000 in
theorem tr_restore_b28 {p : Program} {l : Launch} {e : Env} {s : State} {m : MethodId} {args : Array Value} {below : List Frame} {meth : Method} {c : Code} {Q : State → Prop} {D : va_G} {A : Nat → Prop} {H0 : Heap} {cI cJ cZ : ClassId} {ad : Nat → Nat} {r1 : Int32} {S1 : MS} (E : mE p c cX12_restore s m args (Cond.code yX12_restore cX12_restore 2 (some .int) :: wsM) D cI cJ cZ) (hA : ∀ q : Nat, H0.size ≤ q → A q) (hR : sR s) (hml : c.maxLocals = 2) (kr39 : ∀ (H : Heap) (locs : List Loc) (ls : Array Slot), mG D cI cJ cZ ad A H0 H locs S1 → W p l e { frames := 8, cells := 0, slots := 0, locals := 163 } s m args below meth c H locs 0 0 Q (F0 m 39 ls [.int r1])) (kr70 : ∀ (H : Heap) (locs : List Loc) (ls : Array Slot), mG D cI cJ cZ ad A H0 H locs S1 → W p l e { frames := 8, cells := 0, slots := 0, locals := 163 } s m args below meth c H locs 0 0 Q (F0 m 70 ls [.int r1])) : ∀ (S : MS) (H : Heap) (locs : List Loc) (ls : Array Slot) (s0 : Int32) (l1 : Int32), fr_restore_b28 S s0 l1 = some (r1, S1) → mG D cI cJ cZ ad A H0 H locs S → lv_has ls 2 [(0, .ref (ad 0)), (1, .int l1)] → W p l e { frames := 8, cells := 0, slots := 0, locals := 163 } s m args below meth c H locs 0 0 Q (F0 m 28 ls [.int s0, .ref (ad 0)]) := by
  have hx := E.1
  have hb := E.2.1
  have hts := E.2.2.1
  have hown := E.2.2.2.1
  have hK := E.2.2.2.2.1
  intro S H locs ls s0 l1 h G hl
  unfold fr_restore_b28 at h
  refine m_put E G 0 (by decide) (.tail _ qM_26) (mw_i0 _ _ _ _ _ s0) dX12_restore_28 ⟨rfl, rfl, rfl⟩ rfl rfl (fun H locs G => ?_)
  obtain ⟨S2, eS2, h⟩ := elet_some h
  rw [← eS2] at G
  clear eS2
  refine lv_aload_n hx hb dX12_restore_31 rfl (lv_at hl 0 rfl) ?_
  refine m_get E G 0 (v := .int (S2.1 0)) (by decide) (.tail _ qM_26) rfl dX12_restore_32 rfl ?_
  refine lv_topi (fun v3 ev3 => ?_)
  have h := elet_at ev3 h
  clear ev3
  refine lv_if_le (tgt := 40) hx hb dX12_restore_35 (by decide) (fun c4 => ?_) (fun c4 => ?_)
  · have h := oif_pos c4 h
    refine lv_aload_n hx hb dX12_restore_40 rfl (lv_at hl 0 rfl) ?_
    refine m_get E G 16 (v := .ref (ad 16)) (by decide) (.tail _ qM_13) rfl dX12_restore_41 rfl ?_
    refine lv_sipush (v := 2455) hx hb dX12_restore_44 (by decide) ?_
    refine lv_iload_n hx hb dX12_restore_47 rfl (lv_at hl 1 rfl) ?_
    refine lv_imul hx hb dX12_restore_48 ?_
    refine lv_topi (fun v5 ev5 => ?_)
    have h := elet_at ev5 h
    clear ev5
    refine lv_aload_n hx hb dX12_restore_49 rfl (lv_at hl 0 rfl) ?_
    refine m_get E G 12 (v := .ref (ad 12)) (by decide) (.tail _ qM_9) rfl dX12_restore_50 rfl ?_
    refine lv_iconst (v := 0) hx hb dX12_restore_53 (by decide) ?_
    obtain ⟨S6, eS6, h⟩ := obind_some h
    refine m_calls (As := [.ref (ad 16), .int v5, .ref (ad 12), .int 0]) (rest := []) E G hA hR hml (tr_copy_16_12 l D cI cJ cZ ad S2 v5 0 eS6) (cwS 4 hts (gmS qM_201 qM_202 qM_35 qM_203) rfl rfl rfl (by decide +kernel) ⟨Nat.le_of_ble_eq_true rfl, Nat.le_of_ble_eq_true rfl⟩) rfl hl.1 rfl (lv_room (Nat.le_of_ble_eq_true rfl)) dX12_restore_54 ⟨Nat.zero_le _, Nat.zero_le _⟩ (fun S8 H locs hq G => ?_)
    rw [hq] at G
    clear hq eS6
    refine lv_aload_n hx hb dX12_restore_57 rfl (lv_at hl 0 rfl) ?_
    refine lv_iconst (v := 0) hx hb dX12_restore_58 (by decide) ?_
    refine m_put E G 19 (by decide) (.tail _ qM_194) (mw_i19 _ _ _ _ _ 0) dX12_restore_59 ⟨rfl, rfl, rfl⟩ rfl rfl (fun H locs G => ?_)
    obtain ⟨S9, eS9, h⟩ := elet_some h
    rw [← eS9] at G
    clear eS9
    refine lv_aload_n hx hb dX12_restore_62 rfl (lv_at hl 0 rfl) ?_
    refine lv_aload_n hx hb dX12_restore_63 rfl (lv_at hl 0 rfl) ?_
    refine m_get E G 12 (v := .ref (ad 12)) (by decide) (.tail _ qM_9) rfl dX12_restore_64 rfl ?_
    obtain ⟨r13, S10, eS10, h⟩ := obind2_some h
    refine m_calli (As := [.ref (ad 12)]) (rest := []) E G hA hR hml (tr_bestIn_12 l D cI cJ cZ ad S9 eS10) (cwV 1 hts (gmV qM_360 qM_361 qM_362 qM_35 qM_300) rfl rfl rfl (by decide +kernel) ⟨Nat.le_of_ble_eq_true rfl, Nat.le_of_ble_eq_true rfl⟩) rfl hl.1 rfl (lv_room (Nat.le_of_ble_eq_true rfl)) dX12_restore_67 ⟨Nat.zero_le _, Nat.zero_le _⟩ (fun q11 S12 H locs hq G => ?_)
    obtain ⟨hq1, hq2⟩ := hq
    rw [hq2] at G
    refine lv_to hq1 ?_
    clear hq1 hq2 eS10
    rw [(osome2 h).2] at G
    refine lv_to (osome2 h).1 ?_
    exact kr70 _ _ _ G
  · have h := oif_neg c4 h
    refine lv_iconst (v := 0) hx hb dX12_restore_38 (by decide) ?_
    rw [(osome2 h).2] at G
    refine lv_to (osome2 h).1 ?_
    exact kr39 _ _ _ G
def fr_restore (S : MS) (a0 : Int32) : Option (Int32 × MS) := obind (fr_in a0 0 1) fun r2 => if r2 = 0 then (fr_restore_b28 S 1 a0) else (oif (inb a0 2 = true) <| elet (S.2.1 18 a0.toNatClampNeg) fun v6 => if v6 = 0 then (fr_restore_b28 S 2 a0) else (fr_restore_b28 S 0 a0))
set_option maxHeartbeats 4000000 in
set_option maxRecDepth 100000 in
theorem tr_restore (l : Launch) (D : va_G) (cI cJ cZ : ClassId) (ad : Nat → Nat) (S : MS) (a0 : Int32) {r1 : Int32} {S1 : MS} (h : fr_restore S a0 = some (r1, S1)) : mCi l yX12_restore (Cond.code yX12_restore cX12_restore 2 (some .int) :: wsM) 8 163 D cI cJ cZ ad S [.int a0] (fun r S9 => r = r1 ∧ S9 = S1) := by
  intro sz
  refine Met.ofW (cc := cX12_restore) (maxL := 2) (ret := (some .int)) (by decide) rfl ?_
  intro p e s m args below meth c s₁ B hml hv
  obtain ⟨rfl, hsz, hP, hK, hD0, hR⟩ := hv
  have hx := B.exec
  have hb := B.bytes
  have hr := B.returns
  have hts := atoms_spec (ws := (Cond.code yX12_restore cX12_restore 2 (some .int) :: wsM)) B.pre
  have hown : s.vm.findClass RX12 = some m.cls := findClass_of_methodNamed B.named
  have hlocks := B.notSynchronized
  subst hsz
  have hD := hD0.self (sz := s.heap.size)
  generalize hAe : va_A (MW cI cJ cZ ad S) s.heap.size = A at hD ⊢
  have hA : ∀ q : Nat, s.heap.size ≤ q → A q := fun q h => by rw [← hAe]; exact Or.inr h
  have G : mG D cI cJ cZ ad A s.heap s.heap [] S := ⟨hP, hD, va_S.rf⟩
  have E : mE p c cX12_restore s m ([.ref (ad 0), .int a0] : List Value).toArray (Cond.code yX12_restore cX12_restore 2 (some .int) :: wsM) D cI cJ cZ := ⟨hx, hb, hts, hown, hK, fun w h => .tail _ (iM_x h)⟩
  have hl := lv_entry ([.ref (ad 0), .int a0]) (n := 2) (Nat.le_of_ble_eq_true rfl)
  rw [lg_entry_eq]
  generalize (lg_sl ([.ref (ad 0), .int a0]) ++ List.replicate (2 - (lg_sl ([.ref (ad 0), .int a0])).length) Slot.unset).toArray = ls at hl ⊢
  have hl : lv_has ls 2 [(0, .ref (ad 0)), (1, .int a0)] := hl
  unfold fr_restore at h
  refine lv_aload_n hx hb dX12_restore_0 rfl (lv_at hl 0 rfl) ?_
  refine lv_iload_n hx hb dX12_restore_1 rfl (lv_at hl 1 rfl) ?_
  refine lv_iconst (v := 0) hx hb dX12_restore_2 (by decide) ?_
  refine lv_iconst (v := 1) hx hb dX12_restore_3 (by decide) ?_
  obtain ⟨r2, er2, h⟩ := obind_some h
  refine m_stat (As := [.int a0, .int 0, .int 1]) (rest := [.ref (ad 0)]) ⟨hx, hb, hml, hown, hts⟩ (tr_in l a0 0 1 er2) (cwS 3 hts (gmS qM_52 qM_53 qM_35 qM_27) rfl rfl rfl (by decide +kernel) ⟨Nat.le_of_ble_eq_true rfl, Nat.le_of_ble_eq_true rfl⟩) rfl hl.1 rfl (lv_room (Nat.le_of_ble_eq_true rfl)) dX12_restore_4 ⟨Nat.zero_le _, Nat.zero_le _⟩ (fun q3 hq => ?_)
  refine lv_to hq ?_
  clear hq er2
  refine lv_if_ne (tgt := 14) hx hb dX12_restore_7 (by decide) (fun c4 => ?_) (fun c4 => ?_)
  · have h := oif_neg c4 h
    refine lv_aload_n hx hb dX12_restore_14 rfl (lv_at hl 0 rfl) ?_
    refine m_get E G 18 (v := .ref (ad 18)) (by decide) (.tail _ qM_16) rfl dX12_restore_15 rfl ?_
    refine lv_iload_n hx hb dX12_restore_18 rfl (lv_at hl 1 rfl) ?_
    obtain ⟨g5, h⟩ := oif_some h
    refine m_zald E G 18 10 (n := 2) (k := a0.toNatClampNeg) rfl (inb_k g5).1 (inb_k g5).2 (by decide) dX12_restore_19 ?_
    refine lv_topi (fun v6 ev6 => ?_)
    have h := elet_at ev6 h
    clear ev6
    refine lv_if_eq (tgt := 27) hx hb dX12_restore_20 (by decide) (fun c7 => ?_) (fun c7 => ?_)
    · have h := oif_pos c7 h
      refine lv_iconst (v := 2) hx hb dX12_restore_27 (by decide) ?_
      have hl := lv_sub hl [0, 1] rfl
      exact tr_restore_b28 E hA hR hml (fun H locs ls G => W.iret (v := r1) hx hb hr (fun t ht hW => ⟨⟨r1, S1, rfl, ⟨rfl, rfl⟩, ⟨by rw [ht]; exact G.1, va_K.moved hW.alike hK, G.2.1⟩⟩, G.2.2.F ht⟩) G.2.2.2.2 dX12_restore_39) (fun H locs ls G => W.iret (v := r1) hx hb hr (fun t ht hW => ⟨⟨r1, S1, rfl, ⟨rfl, rfl⟩, ⟨by rw [ht]; exact G.1, va_K.moved hW.alike hK, G.2.1⟩⟩, G.2.2.F ht⟩) G.2.2.2.2 dX12_restore_70) _ _ _ _ _ _ h G hl
    · have h := oif_neg c7 h
      refine lv_iconst (v := 0) hx hb dX12_restore_23 (by decide) ?_
      refine lv_goto (tgt := 28) hx hb dX12_restore_24 (by decide) ?_
      have hl := lv_sub hl [0, 1] rfl
      exact tr_restore_b28 E hA hR hml (fun H locs ls G => W.iret (v := r1) hx hb hr (fun t ht hW => ⟨⟨r1, S1, rfl, ⟨rfl, rfl⟩, ⟨by rw [ht]; exact G.1, va_K.moved hW.alike hK, G.2.1⟩⟩, G.2.2.F ht⟩) G.2.2.2.2 dX12_restore_39) (fun H locs ls G => W.iret (v := r1) hx hb hr (fun t ht hW => ⟨⟨r1, S1, rfl, ⟨rfl, rfl⟩, ⟨by rw [ht]; exact G.1, va_K.moved hW.alike hK, G.2.1⟩⟩, G.2.2.F ht⟩) G.2.2.2.2 dX12_restore_70) _ _ _ _ _ _ h G hl
  · have h := oif_pos c4 h
    refine lv_iconst (v := 1) hx hb dX12_restore_10 (by decide) ?_
    refine lv_goto (tgt := 28) hx hb dX12_restore_11 (by decide) ?_
    have hl := lv_sub hl [0, 1] rfl
    exact tr_restore_b28 E hA hR hml (fun H locs ls G => W.iret (v := r1) hx hb hr (fun t ht hW => ⟨⟨r1, S1, rfl, ⟨rfl, rfl⟩, ⟨by rw [ht]; exact G.1, va_K.moved hW.alike hK, G.2.1⟩⟩, G.2.2.F ht⟩) G.2.2.2.2 dX12_restore_39) (fun H locs ls G => W.iret (v := r1) hx hb hr (fun t ht hW => ⟨⟨r1, S1, rfl, ⟨rfl, rfl⟩, ⟨by rw [ht]; exact G.1, va_K.moved hW.alike hK, G.2.1⟩⟩, G.2.2.F ht⟩) G.2.2.2.2 dX12_restore_70) _ _ _ _ _ _ h G hl
end
section
/-! 11kb.cd1.lean.txt -/
def g_X10_narrow (T : AT) (o : Nat) : Option (AT) := oif (oO T o 10 = true) <| elet (uI T o 2 1) fun T3 => some T3
set_option maxHeartbeats 4000000 in
set_option maxRecDepth 100000 in
theorem u_X10_narrow (l : Launch) (hst : l.stackTraces = false) (D : va_G) (cI cJ cZ cMic cSrc cSt cAI cAJ : ClassId) (ad : Nat → Nat) (T : AT) (o : Nat) {T1 : AT} (h : g_X10_narrow T o = some T1) : kCv l yX10_narrow (Cond.code yX10_narrow cX10_narrow 1 none :: wsA) 1 0 cI cJ cZ cMic cSrc cSt cAI cAJ D ad T [.ref (ad o)] (fun T9 => T9 = T1) := by
  intro sz
  refine Met.ofW (cc := cX10_narrow) (maxL := 1) (ret := none) (by decide) rfl ?_
  intro p e s m args below meth c s₁ B hml hv
  obtain ⟨rfl, hsz, hP, hK, hD0, hX, hN⟩ := hv
  have hx := B.exec
  have hb := B.bytes
  have hr := B.returns
  have hts := atoms_spec (ws := (Cond.code yX10_narrow cX10_narrow 1 none :: wsA)) B.pre
  have hown : s.vm.findClass RX10 = some m.cls := findClass_of_methodNamed B.named
  have hlocks := B.notSynchronized
  subst hsz
  have hD := hD0.self (sz := s.heap.size)
  generalize hAe : va_A (cW ad T.1 (cc cI cJ cZ cMic cSrc cSt cAI cAJ ad T)) s.heap.size = A at hD hX ⊢
  have hA : ∀ q : Nat, s.heap.size ≤ q → A q := fun q h => by rw [← hAe]; exact Or.inr h
  have G : gC cI cJ cZ cMic cSrc cSt cAI cAJ D ad A s.heap s.heap [] T := ⟨hP, hD, va_S.rf⟩
  have E : cE p c cX10_narrow s m ([.ref (ad o)] : List Value).toArray (Cond.code yX10_narrow cX10_narrow 1 none :: wsA) D RX10 (CT cI cJ cZ cMic cSrc cSt cAI cAJ) := ⟨hx, hb, hts, hown, hK⟩
  have hl := lv_entry ([.ref (ad o)]) (n := 1) (Nat.le_of_ble_eq_true rfl)
  rw [lg_entry_eq]
  generalize (lg_sl ([.ref (ad o)]) ++ List.replicate (1 - (lg_sl ([.ref (ad o)])).length) Slot.unset).toArray = ls at hl ⊢
  have hl : lv_has ls 1 [(0, .ref (ad o))] := hl
  unfold g_X10_narrow at h
  refine lv_aload_n hx hb dX10_narrow_0 rfl (lv_at hl 0 rfl) ?_
  refine lv_iconst (v := 1) hx hb dX10_narrow_1 (by decide) ?_
  obtain ⟨g2, h⟩ := oif_some h
  refine c_put E G o 2 (v := .int 1) (oO_k g2).1 (cc_o10 (oO_k g2).2) rfl (fun w h => .tail _ (iA_12 h)) tyX10 tyX10_ok nmX10 (by decide) (.tail _ qA_15) ⟨rfl, rfl, rfl⟩ rfl rfl (Nat.le_of_ble_eq_true rfl) dX10_narrow_2 (fun H locs G => ?_)
  have G := gC_up_i (f := upd (T.2.2.1 o) 2 1) (by rw [(oO_k g2).2]; rfl) G
  obtain ⟨T3, eT3, h⟩ := elet_some h
  have G : gC cI cJ cZ cMic cSrc cSt cAI cAJ D ad A s.heap H locs T3 := by rw [eT3]; exact G
  clear eT3
  exact W.vret hx hb hr (fun t ht hW => ⟨⟨T3, rfl, osome1 h, ⟨by rw [ht]; exact G.1, va_K.moved hW.alike hK, G.2.1⟩⟩, G.2.2.F ht⟩) G.2.2.2.2 dX10_narrow_5
set_option maxHeartbeats 4000000 in
set_option maxRecDepth 100000 in
theorem s_X10_narrow {T : AT} {o : Nat} {T1 : AT} (h : g_X10_narrow T o = some T1) : SP T T1 := by
  have p0 := SP.rf T
  unfold g_X10_narrow at h
  obtain ⟨g2, h⟩ := oif_some h
  obtain ⟨T3, eT3, h⟩ := elet_some h
  have p1 : SP T T3 := SP.tr p0 (by rw [eT3]; exact sp_uI)
  rw [← osome1 h]
  exact p1
def g_X1_cells (T : AT) (o : Nat) : Option (Int32 × AT) := oif (oO T o 1 = true) <| elet (T.2.2.1 o 3) fun v3 => oif (oO T o 1 = true) <| elet (T.2.2.1 o 4) fun v5 => elet (v3 * v5) fun v6 => some (v6, T)
set_option maxHeartbeats 4000000 in
set_option maxRecDepth 100000 in
theorem u_X1_cells (l : Launch) (hst : l.stackTraces = false) (D : va_G) (cI cJ cZ cMic cSrc cSt cAI cAJ : ClassId) (ad : Nat → Nat) (T : AT) (o : Nat) {r1 : Int32} {T1 : AT} (h : g_X1_cells T o = some (r1, T1)) : kCi l yX1_cells (Cond.code yX1_cells cX1_cells 1 (some .int) :: wsA) 1 0 cI cJ cZ cMic cSrc cSt cAI cAJ D ad T [.ref (ad o)] (fun r T9 => r = r1 ∧ T9 = T1) := by
  intro sz
  refine Met.ofW (cc := cX1_cells) (maxL := 1) (ret := (some .int)) (by decide) rfl ?_
  intro p e s m args below meth c s₁ B hml hv
  obtain ⟨rfl, hsz, hP, hK, hD0, hX, hN⟩ := hv
  have hx := B.exec
  have hb := B.bytes
  have hr := B.returns
  have hts := atoms_spec (ws := (Cond.code yX1_cells cX1_cells 1 (some .int) :: wsA)) B.pre
  have hown : s.vm.findClass RX1 = some m.cls := findClass_of_methodNamed B.named
  have hlocks := B.notSynchronized
  subst hsz
  have hD := hD0.self (sz := s.heap.size)
  generalize hAe : va_A (cW ad T.1 (cc cI cJ cZ cMic cSrc cSt cAI cAJ ad T)) s.heap.size = A at hD hX ⊢
  have hA : ∀ q : Nat, s.heap.size ≤ q → A q := fun q h => by rw [← hAe]; exact Or.inr h
  have G : gC cI cJ cZ cMic cSrc cSt cAI cAJ D ad A s.heap s.heap [] T := ⟨hP, hD, va_S.rf⟩
  have E : cE p c cX1_cells s m ([.ref (ad o)] : List Value).toArray (Cond.code yX1_cells cX1_cells 1 (some .int) :: wsA) D RX1 (CT cI cJ cZ cMic cSrc cSt cAI cAJ) := ⟨hx, hb, hts, hown, hK⟩
  have hl := lv_entry ([.ref (ad o)]) (n := 1) (Nat.le_of_ble_eq_true rfl)
  rw [lg_entry_eq]
  generalize (lg_sl ([.ref (ad o)]) ++ List.replicate (1 - (lg_sl ([.ref (ad o)])).length) Slot.unset).toArray = ls at hl ⊢
  have hl : lv_has ls 1 [(0, .ref (ad o))] := hl
  unfold g_X1_cells at h
  refine lv_aload_n hx hb dX1_cells_0 rfl (lv_at hl 0 rfl) ?_
  obtain ⟨g2, h⟩ := oif_some h
  refine c_get E G o 3 (oO_k g2).1 (cc_o1 (oO_k g2).2) rfl (fun w h => .tail _ (iA_15 h)) (by decide) (.tail _ qA_39) rfl rfl dX1_cells_1 ?_
  refine lv_topi (fun v3 ev3 => ?_)
  have h := elet_at ev3 h
  clear ev3
  refine lv_aload_n hx hb dX1_cells_4 rfl (lv_at hl 0 rfl) ?_
  obtain ⟨g4, h⟩ := oif_some h
  refine c_get E G o 4 (oO_k g4).1 (cc_o1 (oO_k g4).2) rfl (fun w h => .tail _ (iA_15 h)) (by decide) (.tail _ qA_40) rfl rfl dX1_cells_5 ?_
  refine lv_topi (fun v5 ev5 => ?_)
  have h := elet_at ev5 h
  clear ev5
  refine lv_imul hx hb dX1_cells_8 ?_
  refine lv_topi (fun v6 ev6 => ?_)
  have h := elet_at ev6 h
  clear ev6
  exact W.iret (v := v6) hx hb hr (fun t ht hW => ⟨⟨v6, T, rfl, osome2 h, ⟨by rw [ht]; exact G.1, va_K.moved hW.alike hK, G.2.1⟩⟩, G.2.2.F ht⟩) G.2.2.2.2 dX1_cells_9
set_option maxHeartbeats 4000000 in
set_option maxRecDepth 100000 in
theorem s_X1_cells {T : AT} {o : Nat} {r1 : Int32} {T1 : AT} (h : g_X1_cells T o = some (r1, T1)) : SP T T1 := by
  have p0 := SP.rf T
  unfold g_X1_cells at h
  obtain ⟨g2, h⟩ := oif_some h
  obtain ⟨v3, -, h⟩ := elet_some h
  obtain ⟨g4, h⟩ := oif_some h
  obtain ⟨v5, -, h⟩ := elet_some h
  obtain ⟨v6, -, h⟩ := elet_some h
  rw [← (osome2 h).2]
  exact p0
def g_X0_rowStart  (a0 : Int32) : Option (Int32) := elet (a0 * 144) fun v2 => some v2
set_option maxHeartbeats 4000000 in
set_option maxRecDepth 100000 in
theorem u_X0_rowStart (l : Launch) (a0 : Int32) {r1 : Int32} (h : g_X0_rowStart a0 = some r1) : Met l yX0_rowStart (Cond.code yX0_rowStart cX0_rowStart 1 (some .int) :: wsA) { frames := 1, cells := 0, slots := 0, locals := 0 } (va_Pc [.int a0] nX) (vp_Si (fun r => r = r1)) 0 0 (fun _ => False) := by
  refine Met.ofW (cc := cX0_rowStart) (maxL := 1) (ret := (some .int)) (by decide) rfl ?_
  intro p e s m args below meth c s₁ B hml hv
  obtain ⟨rfl, hN⟩ := hv
  have hx := B.exec
  have hb := B.bytes
  have hr := B.returns
  have hts := atoms_spec (ws := (Cond.code yX0_rowStart cX0_rowStart 1 (some .int) :: wsA)) B.pre
  have hown : s.vm.findClass RX0 = some m.cls := findClass_of_methodNamed B.named
  have hlocks := B.notSynchronized
  have E : p.tables.exec = Jvm.exec ∧ c.code = cX0_rowStart ∧ (∀ w ∈ (Cond.code yX0_rowStart cX0_rowStart 1 (some .int) :: wsA), w.before ([.int a0] : List Value).toArray s = true) ∧ s.vm.findClass RX0 = some m.cls := ⟨hx, hb, hts, hown⟩
  have hl := lv_entry ([.int a0]) (n := 1) (Nat.le_of_ble_eq_true rfl)
  rw [lg_entry_eq]
  generalize (lg_sl ([.int a0]) ++ List.replicate (1 - (lg_sl ([.int a0])).length) Slot.unset).toArray = ls at hl ⊢
  have hl : lv_has ls 1 [(0, .int a0)] := hl
  unfold g_X0_rowStart at h
  refine lv_iload_n hx hb dX0_rowStart_0 rfl (lv_at hl 0 rfl) ?_
  refine lv_sipush (v := 144) hx hb dX0_rowStart_1 (by decide) ?_
  refine lv_imul hx hb dX0_rowStart_4 ?_
  refine lv_topi (fun v2 ev2 => ?_)
  have h := elet_at ev2 h
  clear ev2
  exact W.iret (v := v2) hx hb hr (fun t ht hW => ⟨v2, rfl, osome1 h, ht⟩) (fun _ h => absurd h List.not_mem_nil) dX0_rowStart_5
def g_X8_greatestDelay_b29 (k4 : AT → Nat → Nat → Int32 → Int32 → Option (Int32 × AT)) (T : AT) (l0 : Nat) (l1 : Nat) (l2 : Int32) (l3 : Int32) : Option (Int32 × AT) := elet (l3 + Int32.ofInt (1)) fun v2 => k4 T l0 l1 l2 v2
set_option maxHeartbeats 4000000 in
set_option maxRecDepth 100000 in
theorem u_X8_greatestDelay_b29 {p : Program} {l : Launch} {e : Env} {s : State} {m : MethodId} {args : Array Value} {below : List Frame} {meth : Method} {c : Code} {Q : State → Prop} {D : va_G} {A : Nat → Prop} {cI cJ cZ cMic cSrc cSt cAI cAJ : ClassId} {ad : Nat → Nat} {r1 : Int32} {T1 : AT} (E : cE p c cX8_greatestDelay s m args (Cond.code yX8_greatestDelay cX8_greatestDelay 4 (some .int) :: wsA) D RX8 (CT cI cJ cZ cMic cSrc cSt cAI cAJ)) (hA : ∀ q : Nat, s.heap.size ≤ q → A q) (hX : xT A s) (hN : nX s) (hml : c.maxLocals = 4) (hst : l.stackTraces = false) (kr36 : ∀ (H : Heap) (locs : List Loc) (ls : Array Slot), gC cI cJ cZ cMic cSrc cSt cAI cAJ D ad A s.heap H locs T1 → W p l e { frames := 1, cells := 0, slots := 0, locals := 15 } s m args below meth c H locs 0 0 Q (F0 m 36 ls [.int r1])) {k4 : AT → Nat → Nat → Int32 → Int32 → Option (Int32 × AT)} (hk4 : ∀ (T : AT) (H : Heap) (locs : List Loc) (ls : Array Slot) (l0 : Nat) (l1 : Nat) (l2 : Int32) (l3 : Int32), k4 T l0 l1 l2 l3 = some (r1, T1) → gC cI cJ cZ cMic cSrc cSt cAI cAJ D ad A s.heap H locs T → lv_has ls 4 [(0, .ref (ad l0)), (1, .ref (ad l1)), (2, .int l2), (3, .int l3)] → W p l e { frames := 1, cells := 0, slots := 0, locals := 15 } s m args below meth c H locs 0 0 Q (F0 m 4 ls [])) : ∀ (T : AT) (H : Heap) (locs : List Loc) (ls : Array Slot) (l0 : Nat) (l1 : Nat) (l2 : Int32) (l3 : Int32), g_X8_greatestDelay_b29 k4 T l0 l1 l2 l3 = some (r1, T1) → gC cI cJ cZ cMic cSrc cSt cAI cAJ D ad A s.heap H locs T → lv_has ls 4 [(0, .ref (ad l0)), (1, .ref (ad l1)), (2, .int l2), (3, .int l3)] → W p l e { frames := 1, cells := 0, slots := 0, locals := 15 } s m args below meth c H locs 0 0 Q (F0 m 29 ls []) := by
  have hx := E.1
  have hb := E.2.1
  have hts := E.2.2.1
  have hown := E.2.2.2.1
  have hK := E.2.2.2.2
  intro T H locs ls l0 l1 l2 l3 h G hl
  unfold g_X8_greatestDelay_b29 at h
  obtain ⟨v2, ev2, h⟩ := elet_some h
  refine lv_iinc (v := v2) (lv' := [(3, .int v2), (0, .ref (ad l0)), (1, .ref (ad l1)), (2, .int l2)]) hx hb dX8_greatestDelay_29 hl (k := 3) rfl ev2.symm (by decide) rfl (fun ls hl => ?_)
  refine lv_goto (tgt := 4) hx hb dX8_greatestDelay_32 (by decide) ?_
  have hl := lv_sub hl [1, 2, 3, 0] rfl
  exact hk4 _ _ _ _ _ _ _ _ h G hl
def g_X8_greatestDelay_b4  : Nat → AT → Nat → Nat → Int32 → Int32 → Option (Int32 × AT)
  | 0, _, _, _, _, _ => none
  | n + 1, T, l0, l1, l2, l3 => oif (oO T l0 8 = true) <| elet (T.2.2.1 l0 0) fun v3 => if v3 ≤ l3 then (some (l2, T)) else (oif (oO T l0 8 = true) <| obind (T.2.2.2.2 l0 3) fun n6 => oif (aA T n6 102 = true) <| oif (inb l3 (T.2.1 n6).2 = true) <| elet (T.2.2.1 n6 l3.toNatClampNeg) fun v9 => if v9 = 0 then (oif (aA T l1 100 = true) <| oif (inb l3 (T.2.1 l1).2 = true) <| elet (T.2.2.1 l1 l3.toNatClampNeg) fun v13 => elet (if l2 < v13 then v13 else l2) fun v14 => g_X8_greatestDelay_b29 (g_X8_greatestDelay_b4 n) T l0 l1 v14 l3) else (g_X8_greatestDelay_b29 (g_X8_greatestDelay_b4 n) T l0 l1 l2 l3))
set_option maxHeartbeats 4000000 in
set_option maxRecDepth 100000 in
theorem u_X8_greatestDelay_b4 {p : Program} {l : Launch} {e : Env} {s : State} {m : MethodId} {args : Array Value} {below : List Frame} {meth : Method} {c : Code} {Q : State → Prop} {D : va_G} {A : Nat → Prop} {cI cJ cZ cMic cSrc cSt cAI cAJ : ClassId} {ad : Nat → Nat} {r1 : Int32} {T1 : AT} (E : cE p c cX8_greatestDelay s m args (Cond.code yX8_greatestDelay cX8_greatestDelay 4 (some .int) :: wsA) D RX8 (CT cI cJ cZ cMic cSrc cSt cAI cAJ)) (hA : ∀ q : Nat, s.heap.size ≤ q → A q) (hX : xT A s) (hN : nX s) (hml : c.maxLocals = 4) (hst : l.stackTraces = false) (kr36 : ∀ (H : Heap) (locs : List Loc) (ls : Array Slot), gC cI cJ cZ cMic cSrc cSt cAI cAJ D ad A s.heap H locs T1 → W p l e { frames := 1, cells := 0, slots := 0, locals := 15 } s m args below meth c H locs 0 0 Q (F0 m 36 ls [.int r1])) : ∀ n : Nat, ∀ (T : AT) (H : Heap) (locs : List Loc) (ls : Array Slot) (l0 : Nat) (l1 : Nat) (l2 : Int32) (l3 : Int32), g_X8_greatestDelay_b4 n T l0 l1 l2 l3 = some (r1, T1) → gC cI cJ cZ cMic cSrc cSt cAI cAJ D ad A s.heap H locs T → lv_has ls 4 [(0, .ref (ad l0)), (1, .ref (ad l1)), (2, .int l2), (3, .int l3)] → W p l e { frames := 1, cells := 0, slots := 0, locals := 15 } s m args below meth c H locs 0 0 Q (F0 m 4 ls []) := by
  have hx := E.1
  have hb := E.2.1
  have hts := E.2.2.1
  have hown := E.2.2.2.1
  have hK := E.2.2.2.2
  intro n
  induction n with
  | zero =>
    intro T H locs ls l0 l1 l2 l3 h
    have h : (none : Option (Int32 × AT)) = some (r1, T1) := h
    cases h
  | succ n ih =>
    intro T H locs ls l0 l1 l2 l3 h G hl
    unfold g_X8_greatestDelay_b4 at h
    refine lv_iload_n hx hb dX8_greatestDelay_4 rfl (lv_at hl 3 rfl) ?_
    refine lv_aload_n hx hb dX8_greatestDelay_5 rfl (lv_at hl 0 rfl) ?_
    obtain ⟨g2, h⟩ := oif_some h
    refine c_get E G l0 0 (oO_k g2).1 (cc_o8 (oO_k g2).2) rfl (fun w h => .tail _ (iA_16 h)) (by decide) (.tail _ qA_63) rfl rfl dX8_greatestDelay_6 ?_
    refine lv_topi (fun v3 ev3 => ?_)
    have h := elet_at ev3 h
    clear ev3
    refine lv_icmp_ge (tgt := 35) hx hb dX8_greatestDelay_9 (by decide) (fun c4 => ?_) (fun c4 => ?_)
    · have h := oif_pos c4 h
      refine lv_iload_n hx hb dX8_greatestDelay_35 rfl (lv_at hl 2 rfl) ?_
      rw [(osome2 h).2] at G
      refine lv_to (osome2 h).1 ?_
      exact kr36 _ _ _ G
    · have h := oif_neg c4 h
      refine lv_aload_n hx hb dX8_greatestDelay_12 rfl (lv_at hl 0 rfl) ?_
      obtain ⟨g5, h⟩ := oif_some h
      obtain ⟨n6, en6, h⟩ := obind_some h
      refine c_get E G l0 3 (v := .ref (ad n6)) (oO_k g5).1 (cc_o8 (oO_k g5).2) rfl (fun w h => .tail _ (iA_16 h)) (by decide) (.tail _ qA_64) rfl (by rw [en6]; rfl) dX8_greatestDelay_13 ?_
      clear en6
      refine lv_iload_n hx hb dX8_greatestDelay_16 rfl (lv_at hl 3 rfl) ?_
      obtain ⟨g7, h⟩ := oif_some h
      obtain ⟨g8, h⟩ := oif_some h
      refine c_zald E G n6 2 (k := l3.toNatClampNeg) (aA_k g7).1 (cc_a102 (aA_k g7).2.1) rfl (inb_k g8).1 (inb_k g8).2 (aA_k g7).2.2 dX8_greatestDelay_17 ?_
      refine lv_topi (fun v9 ev9 => ?_)
      have h := elet_at ev9 h
      clear ev9
      refine lv_if_ne (tgt := 29) hx hb dX8_greatestDelay_18 (by decide) (fun c10 => ?_) (fun c10 => ?_)
      · have h := oif_neg c10 h
        have hl := lv_sub hl [0, 1, 2, 3] rfl
        exact u_X8_greatestDelay_b29 E hA hX hN hml hst kr36 ih _ _ _ _ _ _ _ _ h G hl
      · have h := oif_pos c10 h
        refine lv_iload_n hx hb dX8_greatestDelay_21 rfl (lv_at hl 2 rfl) ?_
        refine lv_aload_n hx hb dX8_greatestDelay_22 rfl (lv_at hl 1 rfl) ?_
        refine lv_iload_n hx hb dX8_greatestDelay_23 rfl (lv_at hl 3 rfl) ?_
        obtain ⟨g11, h⟩ := oif_some h
        obtain ⟨g12, h⟩ := oif_some h
        refine c_iald E G l1 0 (k := l3.toNatClampNeg) (aA_k g11).1 (cc_a100 (aA_k g11).2.1) rfl (inb_k g12).1 (inb_k g12).2 (aA_k g11).2.2 dX8_greatestDelay_24 ?_
        refine lv_topi (fun v13 ev13 => ?_)
        have h := elet_at ev13 h
        clear ev13
        refine va_mmax hx hb (hml.trans hl.1.symm) hown (hts _ (.tail _ qA_58)) (hts _ (.tail _ qA_17)) (hts _ (.tail _ qA_18)) (hts _ (.tail _ qA_19)) (Nat.le_of_ble_eq_true rfl) (Nat.le_of_ble_eq_true rfl) (Nat.zero_le _) (Nat.zero_le _) dX8_greatestDelay_25 ?_
        refine lv_topi (fun v14 ev14 => ?_)
        have h := elet_at ev14 h
        clear ev14
        refine lv_istore_n (lv' := [(2, .int v14), (0, .ref (ad l0)), (1, .ref (ad l1)), (3, .int l3)]) hx hb dX8_greatestDelay_28 rfl hl (by decide) rfl (fun ls hl => ?_)
        have hl := lv_sub hl [1, 2, 0, 3] rfl
        exact u_X8_greatestDelay_b29 E hA hX hN hml hst kr36 ih _ _ _ _ _ _ _ _ h G hl
def g_X8_greatestDelay (T : AT) (o : Nat) (a0 : Nat) : Option (Int32 × AT) := g_X8_greatestDelay_b4 16384 T o a0 0 0
set_option maxHeartbeats 4000000 in
set_option maxRecDepth 100000 in
theorem u_X8_greatestDelay (l : Launch) (hst : l.stackTraces = false) (D : va_G) (cI cJ cZ cMic cSrc cSt cAI cAJ : ClassId) (ad : Nat → Nat) (T : AT) (o : Nat) (a0 : Nat) {r1 : Int32} {T1 : AT} (h : g_X8_greatestDelay T o a0 = some (r1, T1)) : kCi l yX8_greatestDelay (Cond.code yX8_greatestDelay cX8_greatestDelay 4 (some .int) :: wsA) 1 15 cI cJ cZ cMic cSrc cSt cAI cAJ D ad T [.ref (ad o), .ref (ad a0)] (fun r T9 => r = r1 ∧ T9 = T1) := by
  intro sz
  refine Met.ofW (cc := cX8_greatestDelay) (maxL := 4) (ret := (some .int)) (by decide) rfl ?_
  intro p e s m args below meth c s₁ B hml hv
  obtain ⟨rfl, hsz, hP, hK, hD0, hX, hN⟩ := hv
  have hx := B.exec
  have hb := B.bytes
  have hr := B.returns
  have hts := atoms_spec (ws := (Cond.code yX8_greatestDelay cX8_greatestDelay 4 (some .int) :: wsA)) B.pre
  have hown : s.vm.findClass RX8 = some m.cls := findClass_of_methodNamed B.named
  have hlocks := B.notSynchronized
  subst hsz
  have hD := hD0.self (sz := s.heap.size)
  generalize hAe : va_A (cW ad T.1 (cc cI cJ cZ cMic cSrc cSt cAI cAJ ad T)) s.heap.size = A at hD hX ⊢
  have hA : ∀ q : Nat, s.heap.size ≤ q → A q := fun q h => by rw [← hAe]; exact Or.inr h
  have G : gC cI cJ cZ cMic cSrc cSt cAI cAJ D ad A s.heap s.heap [] T := ⟨hP, hD, va_S.rf⟩
  have E : cE p c cX8_greatestDelay s m ([.ref (ad o), .ref (ad a0)] : List Value).toArray (Cond.code yX8_greatestDelay cX8_greatestDelay 4 (some .int) :: wsA) D RX8 (CT cI cJ cZ cMic cSrc cSt cAI cAJ) := ⟨hx, hb, hts, hown, hK⟩
  have hl := lv_entry ([.ref (ad o), .ref (ad a0)]) (n := 4) (Nat.le_of_ble_eq_true rfl)
  rw [lg_entry_eq]
  generalize (lg_sl ([.ref (ad o), .ref (ad a0)]) ++ List.replicate (4 - (lg_sl ([.ref (ad o), .ref (ad a0)])).length) Slot.unset).toArray = ls at hl ⊢
  have hl : lv_has ls 4 [(0, .ref (ad o)), (1, .ref (ad a0))] := hl
  unfold g_X8_greatestDelay at h
  refine lv_iconst (v := 0) hx hb dX8_greatestDelay_0 (by decide) ?_
  refine lv_istore_n (lv' := [(2, .int 0), (0, .ref (ad o)), (1, .ref (ad a0))]) hx hb dX8_greatestDelay_1 rfl hl (by decide) rfl (fun ls hl => ?_)
  refine lv_iconst (v := 0) hx hb dX8_greatestDelay_2 (by decide) ?_
  refine lv_istore_n (lv' := [(3, .int 0), (2, .int 0), (0, .ref (ad o)), (1, .ref (ad a0))]) hx hb dX8_greatestDelay_3 rfl hl (by decide) rfl (fun ls hl => ?_)
  have hl := lv_sub hl [2, 3, 1, 0] rfl
  exact u_X8_greatestDelay_b4 E hA hX hN hml hst (fun H locs ls G => W.iret (v := r1) hx hb hr (fun t ht hW => ⟨⟨r1, T1, rfl, ⟨rfl, rfl⟩, ⟨by rw [ht]; exact G.1, va_K.moved hW.alike hK, G.2.1⟩⟩, G.2.2.F ht⟩) G.2.2.2.2 dX8_greatestDelay_36) _ _ _ _ _ _ _ _ _ h G hl
set_option maxHeartbeats 4000000 in
set_option maxRecDepth 100000 in
theorem s_X8_greatestDelay_b29 {r1 : Int32} {T1 : AT} {k4 : AT → Nat → Nat → Int32 → Int32 → Option (Int32 × AT)} (hk4 : ∀ (T : AT) (l0 : Nat) (l1 : Nat) (l2 : Int32) (l3 : Int32), k4 T l0 l1 l2 l3 = some (r1, T1) → SP T T1) : ∀ (T : AT) (l0 : Nat) (l1 : Nat) (l2 : Int32) (l3 : Int32), g_X8_greatestDelay_b29 k4 T l0 l1 l2 l3 = some (r1, T1) → SP T T1 := by
  intro T l0 l1 l2 l3 h
  have p0 := SP.rf T
  unfold g_X8_greatestDelay_b29 at h
  obtain ⟨v2, ev2, h⟩ := elet_some h
  exact SP.tr p0 (hk4 _ _ _ _ _ h)
set_option maxHeartbeats 4000000 in
set_option maxRecDepth 100000 in
theorem s_X8_greatestDelay_b4 {r1 : Int32} {T1 : AT} : ∀ n : Nat, ∀ (T : AT) (l0 : Nat) (l1 : Nat) (l2 : Int32) (l3 : Int32), g_X8_greatestDelay_b4 n T l0 l1 l2 l3 = some (r1, T1) → SP T T1 := by
  intro n
  induction n with
  | zero =>
    intro T l0 l1 l2 l3 h
    have h : (none : Option (Int32 × AT)) = some (r1, T1) := h
    cases h
  | succ n ih =>
    intro T l0 l1 l2 l3 h
    have p0 := SP.rf T
    unfold g_X8_greatestDelay_b4 at h
    obtain ⟨g2, h⟩ := oif_some h
    obtain ⟨v3, -, h⟩ := elet_some h
    rcases oif_or h with ⟨c4, h⟩ | ⟨c4, h⟩
    · have h := h
      rw [← (osome2 h).2]
      exact p0
    · have h := h
      obtain ⟨g5, h⟩ := oif_some h
      obtain ⟨n6, en6, h⟩ := obind_some h
      obtain ⟨g7, h⟩ := oif_some h
      obtain ⟨g8, h⟩ := oif_some h
      obtain ⟨v9, -, h⟩ := elet_some h
      rcases oif_or h with ⟨c10, h⟩ | ⟨c10, h⟩
      · have h := h
        obtain ⟨g11, h⟩ := oif_some h
        obtain ⟨g12, h⟩ := oif_some h
        obtain ⟨v13, -, h⟩ := elet_some h
        obtain ⟨v14, -, h⟩ := elet_some h
        exact SP.tr p0 (s_X8_greatestDelay_b29 ih _ _ _ _ _ h)
      · have h := h
        exact SP.tr p0 (s_X8_greatestDelay_b29 ih _ _ _ _ _ h)
set_option maxHeartbeats 4000000 in
set_option maxRecDepth 100000 in
theorem s_X8_greatestDelay {T : AT} {o : Nat} {a0 : Nat} {r1 : Int32} {T1 : AT} (h : g_X8_greatestDelay T o a0 = some (r1, T1)) : SP T T1 := by
  have p0 := SP.rf T
  unfold g_X8_greatestDelay at h
  exact SP.tr p0 (s_X8_greatestDelay_b4 _ _ _ _ _ _ h)
def g_X8_windowOf (T : AT) (o : Nat) (a0 : Nat) : Option (Int32 × AT) := oif (oO T o 8 = true) <| elet (T.2.2.1 o 1) fun v3 => oif (oO T o 8 = true) <| obind2 (g_X8_greatestDelay T o a0) fun r7 T5 => elet (v3 - r7) fun v9 => elet (if v9 < 0 then 0 else v9) fun v10 => some (v10, T5)
set_option maxHeartbeats 4000000 in
set_option maxRecDepth 100000 in
theorem u_X8_windowOf (l : Launch) (hst : l.stackTraces = false) (D : va_G) (cI cJ cZ cMic cSrc cSt cAI cAJ : ClassId) (ad : Nat → Nat) (T : AT) (o : Nat) (a0 : Nat) {r1 : Int32} {T1 : AT} (h : g_X8_windowOf T o a0 = some (r1, T1)) : kCi l yX8_windowOf (Cond.code yX8_windowOf cX8_windowOf 2 (some .int) :: wsA) 2 38 cI cJ cZ cMic cSrc cSt cAI cAJ D ad T [.ref (ad o), .ref (ad a0)] (fun r T9 => r = r1 ∧ T9 = T1) := by
  intro sz
  refine Met.ofW (cc := cX8_windowOf) (maxL := 2) (ret := (some .int)) (by decide) rfl ?_
  intro p e s m args below meth c s₁ B hml hv
  obtain ⟨rfl, hsz, hP, hK, hD0, hX, hN⟩ := hv
  have hx := B.exec
  have hb := B.bytes
  have hr := B.returns
  have hts := atoms_spec (ws := (Cond.code yX8_windowOf cX8_windowOf 2 (some .int) :: wsA)) B.pre
  have hown : s.vm.findClass RX8 = some m.cls := findClass_of_methodNamed B.named
  have hlocks := B.notSynchronized
  subst hsz
  have hD := hD0.self (sz := s.heap.size)
  generalize hAe : va_A (cW ad T.1 (cc cI cJ cZ cMic cSrc cSt cAI cAJ ad T)) s.heap.size = A at hD hX ⊢
  have hA : ∀ q : Nat, s.heap.size ≤ q → A q := fun q h => by rw [← hAe]; exact Or.inr h
  have G : gC cI cJ cZ cMic cSrc cSt cAI cAJ D ad A s.heap s.heap [] T := ⟨hP, hD, va_S.rf⟩
  have E : cE p c cX8_windowOf s m ([.ref (ad o), .ref (ad a0)] : List Value).toArray (Cond.code yX8_windowOf cX8_windowOf 2 (some .int) :: wsA) D RX8 (CT cI cJ cZ cMic cSrc cSt cAI cAJ) := ⟨hx, hb, hts, hown, hK⟩
  have hl := lv_entry ([.ref (ad o), .ref (ad a0)]) (n := 2) (Nat.le_of_ble_eq_true rfl)
  rw [lg_entry_eq]
  generalize (lg_sl ([.ref (ad o), .ref (ad a0)]) ++ List.replicate (2 - (lg_sl ([.ref (ad o), .ref (ad a0)])).length) Slot.unset).toArray = ls at hl ⊢
  have hl : lv_has ls 2 [(0, .ref (ad o)), (1, .ref (ad a0))] := hl
  unfold g_X8_windowOf at h
  refine lv_aload_n hx hb dX8_windowOf_0 rfl (lv_at hl 0 rfl) ?_
  obtain ⟨g2, h⟩ := oif_some h
  refine c_get E G o 1 (oO_k g2).1 (cc_o8 (oO_k g2).2) rfl (fun w h => .tail _ (iA_16 h)) (by decide) (.tail _ qA_57) rfl rfl dX8_windowOf_1 ?_
  refine lv_topi (fun v3 ev3 => ?_)
  have h := elet_at ev3 h
  clear ev3
  refine lv_aload_n hx hb dX8_windowOf_4 rfl (lv_at hl 0 rfl) ?_
  refine lv_aload_n hx hb dX8_windowOf_5 rfl (lv_at hl 1 rfl) ?_
  obtain ⟨g4, h⟩ := oif_some h
  obtain ⟨r7, T5, eT5, h⟩ := obind2_some h
  refine q_cvi (As := [.ref (ad a0)]) (rest := [.int v3]) E G hA hX hN hml (u_X8_greatestDelay l hst D cI cJ cZ cMic cSrc cSt cAI cAJ ad T o a0 eT5) (cwV 1 hts (gaV qA_59 qA_60 qA_61 qA_47 qA_62) rfl rfl rfl (by decide +kernel) ⟨Nat.le_of_ble_eq_true rfl, Nat.le_of_ble_eq_true rfl⟩) (oO_k g4).1 (cc_o8 (oO_k g4).2) rfl rfl hl.1 rfl (lv_room (Nat.le_of_ble_eq_true rfl)) dX8_windowOf_6 ⟨Nat.zero_le _, Nat.zero_le _⟩ (fun q8 T6 H locs hq G => ?_)
  obtain ⟨hq1, hq2⟩ := hq
  rw [hq2] at G
  refine lv_to hq1 ?_
  clear hq1 hq2 eT5
  refine lv_isub hx hb dX8_windowOf_9 ?_
  refine lv_topi (fun v9 ev9 => ?_)
  have h := elet_at ev9 h
  clear ev9
  refine lv_iconst (v := 0) hx hb dX8_windowOf_10 (by decide) ?_
  refine va_mmax hx hb (hml.trans hl.1.symm) hown (hts _ (.tail _ qA_58)) (hts _ (.tail _ qA_17)) (hts _ (.tail _ qA_18)) (hts _ (.tail _ qA_19)) (Nat.le_of_ble_eq_true rfl) (Nat.le_of_ble_eq_true rfl) (Nat.zero_le _) (Nat.zero_le _) dX8_windowOf_11 ?_
  refine lv_topi (fun v10 ev10 => ?_)
  have h := elet_at ev10 h
  clear ev10
  exact W.iret (v := v10) hx hb hr (fun t ht hW => ⟨⟨v10, T5, rfl, osome2 h, ⟨by rw [ht]; exact G.1, va_K.moved hW.alike hK, G.2.1⟩⟩, G.2.2.F ht⟩) G.2.2.2.2 dX8_windowOf_14
set_option maxHeartbeats 4000000 in
set_option maxRecDepth 100000 in
theorem s_X8_windowOf {T : AT} {o : Nat} {a0 : Nat} {r1 : Int32} {T1 : AT} (h : g_X8_windowOf T o a0 = some (r1, T1)) : SP T T1 := by
  have p0 := SP.rf T
  unfold g_X8_windowOf at h
  obtain ⟨g2, h⟩ := oif_some h
  obtain ⟨v3, -, h⟩ := elet_some h
  obtain ⟨g4, h⟩ := oif_some h
  obtain ⟨r6, T5, eT5, h⟩ := obind2_some h
  have p1 : SP T T5 := SP.tr p0 (s_X8_greatestDelay eT5)
  obtain ⟨v7, -, h⟩ := elet_some h
  obtain ⟨v8, -, h⟩ := elet_some h
  rw [← (osome2 h).2]
  exact p1
def g_X10_clear_b2  : Nat → AT → Nat → Int32 → Int32 → Option (AT)
  | 0, _, _, _, _ => none
  | n + 1, T, l0, l1, l2 => oif (oO T l0 10 = true) <| elet (T.2.2.1 l0 2) fun v3 => if v3 ≤ l2 then (some T) else (oif (oO T l0 10 = true) <| obind (T.2.2.2.2 l0 1) fun n6 => oif (aA T n6 107 = true) <| oif (inb l2 (T.2.1 n6).2 = true) <| obind (T.2.2.2.2 n6 l2.toNatClampNeg) fun n9 => oif (aA T n9 101 = true) <| oif (inb l1 (T.2.1 n9).2 = true) <| elet (uJ T n9 l1.toNatClampNeg (0 : Int64)) fun T12 => elet (l2 + Int32.ofInt (1)) fun v13 => g_X10_clear_b2 n T12 l0 l1 v13)
set_option maxHeartbeats 4000000 in
set_option maxRecDepth 100000 in
theorem u_X10_clear_b2 {p : Program} {l : Launch} {e : Env} {s : State} {m : MethodId} {args : Array Value} {below : List Frame} {meth : Method} {c : Code} {Q : State → Prop} {D : va_G} {A : Nat → Prop} {cI cJ cZ cMic cSrc cSt cAI cAJ : ClassId} {ad : Nat → Nat} {T1 : AT} (E : cE p c cX10_clear s m args (Cond.code yX10_clear cX10_clear 3 none :: wsA) D RX10 (CT cI cJ cZ cMic cSrc cSt cAI cAJ)) (hA : ∀ q : Nat, s.heap.size ≤ q → A q) (hX : xT A s) (hN : nX s) (hml : c.maxLocals = 3) (hst : l.stackTraces = false) (kr25 : ∀ (H : Heap) (locs : List Loc) (ls : Array Slot), gC cI cJ cZ cMic cSrc cSt cAI cAJ D ad A s.heap H locs T1 → W p l e { frames := 1, cells := 0, slots := 0, locals := 0 } s m args below meth c H locs 0 0 Q (F0 m 25 ls [])) : ∀ n : Nat, ∀ (T : AT) (H : Heap) (locs : List Loc) (ls : Array Slot) (l0 : Nat) (l1 : Int32) (l2 : Int32), g_X10_clear_b2 n T l0 l1 l2 = some T1 → gC cI cJ cZ cMic cSrc cSt cAI cAJ D ad A s.heap H locs T → lv_has ls 3 [(0, .ref (ad l0)), (1, .int l1), (2, .int l2)] → W p l e { frames := 1, cells := 0, slots := 0, locals := 0 } s m args below meth c H locs 0 0 Q (F0 m 2 ls []) := by
  have hx := E.1
  have hb := E.2.1
  have hts := E.2.2.1
  have hown := E.2.2.2.1
  have hK := E.2.2.2.2
  intro n
  induction n with
  | zero =>
    intro T H locs ls l0 l1 l2 h
    have h : (none : Option (AT)) = some T1 := h
    cases h
  | succ n ih =>
    intro T H locs ls l0 l1 l2 h G hl
    unfold g_X10_clear_b2 at h
    refine lv_iload_n hx hb dX10_clear_2 rfl (lv_at hl 2 rfl) ?_
    refine lv_aload_n hx hb dX10_clear_3 rfl (lv_at hl 0 rfl) ?_
    obtain ⟨g2, h⟩ := oif_some h
    refine c_get E G l0 2 (oO_k g2).1 (cc_o10 (oO_k g2).2) rfl (fun w h => .tail _ (iA_12 h)) (by decide) (.tail _ qA_15) rfl rfl dX10_clear_4 ?_
    refine lv_topi (fun v3 ev3 => ?_)
    have h := elet_at ev3 h
    clear ev3
    refine lv_icmp_ge (tgt := 25) hx hb dX10_clear_7 (by decide) (fun c4 => ?_) (fun c4 => ?_)
    · have h := oif_pos c4 h
      rw [osome1 h] at G
      exact kr25 _ _ _ G
    · have h := oif_neg c4 h
      refine lv_aload_n hx hb dX10_clear_10 rfl (lv_at hl 0 rfl) ?_
      obtain ⟨g5, h⟩ := oif_some h
      obtain ⟨n6, en6, h⟩ := obind_some h
      refine c_get E G l0 1 (v := .ref (ad n6)) (oO_k g5).1 (cc_o10 (oO_k g5).2) rfl (fun w h => .tail _ (iA_12 h)) (by decide) (.tail _ qA_14) rfl (by rw [en6]; rfl) dX10_clear_11 ?_
      clear en6
      refine lv_iload_n hx hb dX10_clear_14 rfl (lv_at hl 2 rfl) ?_
      obtain ⟨g7, h⟩ := oif_some h
      obtain ⟨g8, h⟩ := oif_some h
      obtain ⟨n9, en9, h⟩ := obind_some h
      refine c_alda E G n6 7 (k := l2.toNatClampNeg) (v := .ref (ad n9)) (aA_k g7).1 (cc_a107 (aA_k g7).2.1) rfl (inb_k g8).1 (inb_k g8).2 (aA_k g7).2.2 (by show va_rf ((T.2.2.2.2 n6 l2.toNatClampNeg).map ad) = _; rw [en9]; rfl) dX10_clear_15 ?_
      clear en9
      refine lv_iload_n hx hb dX10_clear_16 rfl (lv_at hl 1 rfl) ?_
      refine lv_lconst (v := 0) hx hb dX10_clear_17 (by decide) ?_
      obtain ⟨g10, h⟩ := oif_some h
      obtain ⟨g11, h⟩ := oif_some h
      refine c_last E G n9 1 (k := l1.toNatClampNeg) (v := (0 : Int64)) (aA_k g10).1 (cc_a101 (aA_k g10).2.1) rfl (inb_k g11).1 (inb_k g11).2 (aA_k g10).2.2 dX10_clear_18 (fun H locs G => ?_)
      have G := gC_up_j (f := vp_updL (T.2.2.2.1 n9) l1.toNatClampNeg (0 : Int64)) (ccv_101 (aA_k g10).2.1) G
      obtain ⟨T12, eT12, h⟩ := elet_some h
      have G : gC cI cJ cZ cMic cSrc cSt cAI cAJ D ad A s.heap H locs T12 := by rw [eT12]; exact G
      clear eT12
      obtain ⟨v13, ev13, h⟩ := elet_some h
      refine lv_iinc (v := v13) (lv' := [(2, .int v13), (0, .ref (ad l0)), (1, .int l1)]) hx hb dX10_clear_19 hl (k := 2) rfl ev13.symm (by decide) rfl (fun ls hl => ?_)
      refine lv_goto (tgt := 2) hx hb dX10_clear_22 (by decide) ?_
      have hl := lv_sub hl [1, 2, 0] rfl
      exact ih _ _ _ _ _ _ _ h G hl
def g_X10_clear (T : AT) (o : Nat) (a0 : Int32) : Option (AT) := g_X10_clear_b2 16384 T o a0 0
set_option maxHeartbeats 4000000 in
set_option maxRecDepth 100000 in
theorem u_X10_clear (l : Launch) (hst : l.stackTraces = false) (D : va_G) (cI cJ cZ cMic cSrc cSt cAI cAJ : ClassId) (ad : Nat → Nat) (T : AT) (o : Nat) (a0 : Int32) {T1 : AT} (h : g_X10_clear T o a0 = some T1) : kCv l yX10_clear (Cond.code yX10_clear cX10_clear 3 none :: wsA) 1 0 cI cJ cZ cMic cSrc cSt cAI cAJ D ad T [.ref (ad o), .int a0] (fun T9 => T9 = T1) := by
  intro sz
  refine Met.ofW (cc := cX10_clear) (maxL := 3) (ret := none) (by decide) rfl ?_
  intro p e s m args below meth c s₁ B hml hv
  obtain ⟨rfl, hsz, hP, hK, hD0, hX, hN⟩ := hv
  have hx := B.exec
  have hb := B.bytes
  have hr := B.returns
  have hts := atoms_spec (ws := (Cond.code yX10_clear cX10_clear 3 none :: wsA)) B.pre
  have hown : s.vm.findClass RX10 = some m.cls := findClass_of_methodNamed B.named
  have hlocks := B.notSynchronized
  subst hsz
  have hD := hD0.self (sz := s.heap.size)
  generalize hAe : va_A (cW ad T.1 (cc cI cJ cZ cMic cSrc cSt cAI cAJ ad T)) s.heap.size = A at hD hX ⊢
  have hA : ∀ q : Nat, s.heap.size ≤ q → A q := fun q h => by rw [← hAe]; exact Or.inr h
  have G : gC cI cJ cZ cMic cSrc cSt cAI cAJ D ad A s.heap s.heap [] T := ⟨hP, hD, va_S.rf⟩
  have E : cE p c cX10_clear s m ([.ref (ad o), .int a0] : List Value).toArray (Cond.code yX10_clear cX10_clear 3 none :: wsA) D RX10 (CT cI cJ cZ cMic cSrc cSt cAI cAJ) := ⟨hx, hb, hts, hown, hK⟩
  have hl := lv_entry ([.ref (ad o), .int a0]) (n := 3) (Nat.le_of_ble_eq_true rfl)
  rw [lg_entry_eq]
  generalize (lg_sl ([.ref (ad o), .int a0]) ++ List.replicate (3 - (lg_sl ([.ref (ad o), .int a0])).length) Slot.unset).toArray = ls at hl ⊢
  have hl : lv_has ls 3 [(0, .ref (ad o)), (1, .int a0)] := hl
  unfold g_X10_clear at h
  refine lv_iconst (v := 0) hx hb dX10_clear_0 (by decide) ?_
  refine lv_istore_n (lv' := [(2, .int 0), (0, .ref (ad o)), (1, .int a0)]) hx hb dX10_clear_1 rfl hl (by decide) rfl (fun ls hl => ?_)
  have hl := lv_sub hl [1, 2, 0] rfl
  exact u_X10_clear_b2 E hA hX hN hml hst (fun H locs ls G => W.vret hx hb hr (fun t ht hW => ⟨⟨T1, rfl, rfl, ⟨by rw [ht]; exact G.1, va_K.moved hW.alike hK, G.2.1⟩⟩, G.2.2.F ht⟩) G.2.2.2.2 dX10_clear_25) _ _ _ _ _ _ _ _ h G hl
set_option maxHeartbeats 4000000 in
set_option maxRecDepth 100000 in
theorem s_X10_clear_b2 {T1 : AT} : ∀ n : Nat, ∀ (T : AT) (l0 : Nat) (l1 : Int32) (l2 : Int32), g_X10_clear_b2 n T l0 l1 l2 = some T1 → SP T T1 := by
  intro n
  induction n with
  | zero =>
    intro T l0 l1 l2 h
    have h : (none : Option (AT)) = some T1 := h
    cases h
  | succ n ih =>
    intro T l0 l1 l2 h
    have p0 := SP.rf T
    unfold g_X10_clear_b2 at h
    obtain ⟨g2, h⟩ := oif_some h
    obtain ⟨v3, -, h⟩ := elet_some h
    rcases oif_or h with ⟨c4, h⟩ | ⟨c4, h⟩
    · have h := h
      rw [← osome1 h]
      exact p0
    · have h := h
      obtain ⟨g5, h⟩ := oif_some h
      obtain ⟨n6, en6, h⟩ := obind_some h
      obtain ⟨g7, h⟩ := oif_some h
      obtain ⟨g8, h⟩ := oif_some h
      obtain ⟨n9, en9, h⟩ := obind_some h
      obtain ⟨g10, h⟩ := oif_some h
      obtain ⟨g11, h⟩ := oif_some h
      obtain ⟨T12, eT12, h⟩ := elet_some h
      have p1 : SP T T12 := SP.tr p0 (by rw [eT12]; exact sp_uJ)
      obtain ⟨v13, ev13, h⟩ := elet_some h
      exact SP.tr p1 (ih _ _ _ _ h)
set_option maxHeartbeats 4000000 in
set_option maxRecDepth 100000 in
theorem s_X10_clear {T : AT} {o : Nat} {a0 : Int32} {T1 : AT} (h : g_X10_clear T o a0 = some T1) : SP T T1 := by
  have p0 := SP.rf T
  unfold g_X10_clear at h
  exact SP.tr p0 (s_X10_clear_b2 _ _ _ _ _ h)
def g_X10_isBeyondPart_b24   (s0 : Int32) : Option (Int32) := oif (s0 = 0 ∨ s0 = 1) <| some s0
set_option maxHeartbeats 4000000 in
set_option maxRecDepth 100000 in
theorem u_X10_isBeyondPart_b24 {p : Program} {l : Launch} {e : Env} {s : State} {m : MethodId} {args : Array Value} {below : List Frame} {meth : Method} {c : Code} {Q : State → Prop} {r1 : Int32}  (E : p.tables.exec = Jvm.exec ∧ c.code = cX10_isBeyondPart ∧ (∀ w ∈ (Cond.code yX10_isBeyondPart cX10_isBeyondPart 4 (some .boolean) :: wsA), w.before args s = true) ∧ s.vm.findClass RX10 = some m.cls) (hN : nX s) (hml : c.maxLocals = 4) (kr24 : ∀ (ls : Array Slot), (r1 = 0 ∨ r1 = 1) → W p l e { frames := 1, cells := 0, slots := 0, locals := 0 } s m args below meth c s.heap [] 0 0 Q (F0 m 24 ls [.int r1])) : ∀ (ls : Array Slot) (s0 : Int32), g_X10_isBeyondPart_b24 s0 = some r1 → lv_has ls 4 [] → W p l e { frames := 1, cells := 0, slots := 0, locals := 0 } s m args below meth c s.heap [] 0 0 Q (F0 m 24 ls [.int s0]) := by
  have hx := E.1
  have hb := E.2.1
  have hts := E.2.2.1
  have hown := E.2.2.2
  intro ls s0 h hl
  unfold g_X10_isBeyondPart_b24 at h
  obtain ⟨gz, h⟩ := oif_some h
  have gr : r1 = 0 ∨ r1 = 1 := by rw [← osome1 h]; exact gz
  refine lv_to (osome1 h) ?_
  exact kr24 _ gr
def g_X10_isBeyondPart_b23    : Option (Int32) := g_X10_isBeyondPart_b24 0
set_option maxHeartbeats 4000000 in
set_option maxRecDepth 100000 in
theorem u_X10_isBeyondPart_b23 {p : Program} {l : Launch} {e : Env} {s : State} {m : MethodId} {args : Array Value} {below : List Frame} {meth : Method} {c : Code} {Q : State → Prop} {r1 : Int32}  (E : p.tables.exec = Jvm.exec ∧ c.code = cX10_isBeyondPart ∧ (∀ w ∈ (Cond.code yX10_isBeyondPart cX10_isBeyondPart 4 (some .boolean) :: wsA), w.before args s = true) ∧ s.vm.findClass RX10 = some m.cls) (hN : nX s) (hml : c.maxLocals = 4) (kr24 : ∀ (ls : Array Slot), (r1 = 0 ∨ r1 = 1) → W p l e { frames := 1, cells := 0, slots := 0, locals := 0 } s m args below meth c s.heap [] 0 0 Q (F0 m 24 ls [.int r1])) : ∀ (ls : Array Slot), g_X10_isBeyondPart_b23 = some r1 → lv_has ls 4 [] → W p l e { frames := 1, cells := 0, slots := 0, locals := 0 } s m args below meth c s.heap [] 0 0 Q (F0 m 23 ls []) := by
  have hx := E.1
  have hb := E.2.1
  have hts := E.2.2.1
  have hown := E.2.2.2
  intro ls h hl
  unfold g_X10_isBeyondPart_b23 at h
  refine lv_iconst (v := 0) hx hb dX10_isBeyondPart_23 (by decide) ?_
  have hl := lv_sub hl [] rfl
  exact u_X10_isBeyondPart_b24 E hN hml kr24 _ _ h hl
def g_X10_isBeyondPart  (a0 : Int64) : Option (Int32) := elet (a0 >>> ((28 : Int32).toInt64 &&& 63)) fun v2 => elet (lg_cmp v2 (0 : Int64)) fun v3 => if v3 = 0 then (g_X10_isBeyondPart_b23) else (elet (lg_cmp v2 (-1 : Int64)) fun v5 => if v5 = 0 then (g_X10_isBeyondPart_b23) else (g_X10_isBeyondPart_b24 1))
set_option maxHeartbeats 4000000 in
set_option maxRecDepth 100000 in
theorem u_X10_isBeyondPart (l : Launch) (a0 : Int64) {r1 : Int32} (h : g_X10_isBeyondPart a0 = some r1) : Met l yX10_isBeyondPart (Cond.code yX10_isBeyondPart cX10_isBeyondPart 4 (some .boolean) :: wsA) { frames := 1, cells := 0, slots := 0, locals := 0 } (va_Pc [.long a0] nX) (vp_Si (fun r => r = r1)) 0 0 (fun _ => False) := by
  refine Met.ofW (cc := cX10_isBeyondPart) (maxL := 4) (ret := (some .boolean)) (by decide) rfl ?_
  intro p e s m args below meth c s₁ B hml hv
  obtain ⟨rfl, hN⟩ := hv
  have hx := B.exec
  have hb := B.bytes
  have hr := B.returns
  have hts := atoms_spec (ws := (Cond.code yX10_isBeyondPart cX10_isBeyondPart 4 (some .boolean) :: wsA)) B.pre
  have hown : s.vm.findClass RX10 = some m.cls := findClass_of_methodNamed B.named
  have hlocks := B.notSynchronized
  have E : p.tables.exec = Jvm.exec ∧ c.code = cX10_isBeyondPart ∧ (∀ w ∈ (Cond.code yX10_isBeyondPart cX10_isBeyondPart 4 (some .boolean) :: wsA), w.before ([.long a0] : List Value).toArray s = true) ∧ s.vm.findClass RX10 = some m.cls := ⟨hx, hb, hts, hown⟩
  have hl := lv_entry ([.long a0]) (n := 4) (Nat.le_of_ble_eq_true rfl)
  rw [lg_entry_eq]
  generalize (lg_sl ([.long a0]) ++ List.replicate (4 - (lg_sl ([.long a0])).length) Slot.unset).toArray = ls at hl ⊢
  have hl : lv_has ls 4 [(0, .long a0)] := hl
  unfold g_X10_isBeyondPart at h
  refine lv_lload_n hx hb dX10_isBeyondPart_0 rfl (lv_at hl 0 rfl) ?_
  refine lv_bipush (v := 28) hx hb dX10_isBeyondPart_1 (by decide) ?_
  refine lv_lshr (v := a0 >>> ((28 : Int32).toInt64 &&& 63)) hx hb dX10_isBeyondPart_3 rfl ?_
  refine lv_topl (fun v2 ev2 => ?_)
  have h := elet_at ev2 h
  clear ev2
  refine lv_lstore_n (lv' := [(2, .long v2), (0, .long a0)]) hx hb dX10_isBeyondPart_4 rfl hl (by decide) rfl (fun ls hl => ?_)
  refine lv_lload_n hx hb dX10_isBeyondPart_5 rfl (lv_at hl 0 rfl) ?_
  refine lv_lconst (v := 0) hx hb dX10_isBeyondPart_6 (by decide) ?_
  refine W.lcmp hx hb dX10_isBeyondPart_7 ?_
  refine lv_topi (fun v3 ev3 => ?_)
  have h := elet_at ev3 h
  clear ev3
  refine lv_if_eq (tgt := 23) hx hb dX10_isBeyondPart_8 (by decide) (fun c4 => ?_) (fun c4 => ?_)
  · have h := oif_pos c4 h
    have hl := lv_sub hl [] rfl
    exact u_X10_isBeyondPart_b23 E hN hml (fun ls gz => W.zret (v := r1) hx hb hr (nar01 gz) (fun t ht hW => ⟨r1, rfl, rfl, ht⟩) (fun _ h => absurd h List.not_mem_nil) dX10_isBeyondPart_24) _ h hl
  · have h := oif_neg c4 h
    refine lv_lload_n hx hb dX10_isBeyondPart_11 rfl (lv_at hl 0 rfl) ?_
    refine lv_ldc2 (v := -1) hx hb hown (hts (.constantLong RX10 65 (-1)) (.tail _ qA_97)) dX10_isBeyondPart_12 ?_
    refine W.lcmp hx hb dX10_isBeyondPart_15 ?_
    refine lv_topi (fun v5 ev5 => ?_)
    have h := elet_at ev5 h
    clear ev5
    refine lv_if_eq (tgt := 23) hx hb dX10_isBeyondPart_16 (by decide) (fun c6 => ?_) (fun c6 => ?_)
    · have h := oif_pos c6 h
      have hl := lv_sub hl [] rfl
      exact u_X10_isBeyondPart_b23 E hN hml (fun ls gz => W.zret (v := r1) hx hb hr (nar01 gz) (fun t ht hW => ⟨r1, rfl, rfl, ht⟩) (fun _ h => absurd h List.not_mem_nil) dX10_isBeyondPart_24) _ h hl
    · have h := oif_neg c6 h
      refine lv_iconst (v := 1) hx hb dX10_isBeyondPart_19 (by decide) ?_
      refine lv_goto (tgt := 24) hx hb dX10_isBeyondPart_20 (by decide) ?_
      have hl := lv_sub hl [] rfl
      exact u_X10_isBeyondPart_b24 E hN hml (fun ls gz => W.zret (v := r1) hx hb hr (nar01 gz) (fun t ht hW => ⟨r1, rfl, rfl, ht⟩) (fun _ h => absurd h List.not_mem_nil) dX10_isBeyondPart_24) _ _ h hl
def g_X10_widenTo_b108  (T : AT)  : Option (AT) := some T
def g_X10_widenTo_b40 (k5 : AT → Nat → Int32 → Int32 → Option (AT)) : Nat → AT → Nat → Int32 → Int32 → Int32 → Option (AT)
  | 0, _, _, _, _, _ => none
  | n + 1, T, l0, l1, l2, l3 => oif (oO T l0 10 = true) <| elet (T.2.2.1 l0 0) fun v3 => if v3 ≤ l3 then (elet (l2 + 1) fun v5 => oif (oO T l0 10 = true) <| elet (uI T l0 2 v5) fun T7 => elet (l2 + Int32.ofInt (1)) fun v8 => k5 T7 l0 l1 v8) else (oif (oO T l0 10 = true) <| obind (T.2.2.2.2 l0 1) fun n10 => elet (l2 - 1) fun v11 => oif (aA T n10 107 = true) <| oif (inb v11 (T.2.1 n10).2 = true) <| obind (T.2.2.2.2 n10 v11.toNatClampNeg) fun n14 => oif (aA T n14 101 = true) <| oif (inb l3 (T.2.1 n14).2 = true) <| elet (T.2.2.2.1 n14 l3.toNatClampNeg) fun v17 => oif (oO T l0 10 = true) <| obind (T.2.2.2.2 l0 1) fun n19 => elet (l2 - 1) fun v20 => oif (aA T n19 107 = true) <| oif (inb v20 (T.2.1 n19).2 = true) <| obind (T.2.2.2.2 n19 v20.toNatClampNeg) fun n23 => elet (v17 &&& (268435455 : Int64)) fun v24 => oif (aA T n23 101 = true) <| oif (inb l3 (T.2.1 n23).2 = true) <| elet (uJ T n23 l3.toNatClampNeg v24) fun T27 => oif (oO T27 l0 10 = true) <| obind (T27.2.2.2.2 l0 1) fun n29 => oif (aA T27 n29 107 = true) <| oif (inb l2 (T27.2.1 n29).2 = true) <| obind (T27.2.2.2.2 n29 l2.toNatClampNeg) fun n32 => elet (v17 >>> ((28 : Int32).toInt64 &&& 63)) fun v33 => oif (aA T27 n32 101 = true) <| oif (inb l3 (T27.2.1 n32).2 = true) <| elet (uJ T27 n32 l3.toNatClampNeg v33) fun T36 => elet (l3 + Int32.ofInt (1)) fun v37 => g_X10_widenTo_b40 k5 n T36 l0 l1 l2 v37)
def g_X10_widenTo_b38 (k5 : AT → Nat → Int32 → Int32 → Option (AT)) (T : AT) (l0 : Nat) (l1 : Int32) (l2 : Int32) : Option (AT) := g_X10_widenTo_b40 k5 16384 T l0 l1 l2 0
def g_X10_widenTo_b37 (k5 : AT → Nat → Int32 → Int32 → Option (AT)) (T : AT) (s0 : Nat) (s1 : Int32) (s2 : Nat) (l0 : Nat) (l1 : Int32) (l2 : Int32) : Option (AT) := oif (aA T s2 107 = true) <| oif (inb s1 (T.2.1 s2).2 = true) <| oif (aA T s0 101 = true) <| elet (uR T s2 s1.toNatClampNeg s0) fun T5 => g_X10_widenTo_b38 k5 T5 l0 l1 l2
def g_X10_widenTo_b5  : Nat → AT → Nat → Int32 → Int32 → Option (AT)
  | 0, _, _, _, _ => none
  | n + 1, T, l0, l1, l2 => if l1 ≤ l2 then (g_X10_widenTo_b108 T) else (if 40 ≤ l2 then (g_X10_widenTo_b108 T) else (oif (oO T l0 10 = true) <| obind (T.2.2.2.2 l0 1) fun n5 => oif (aA T n5 107 = true) <| oif (inb l2 (T.2.1 n5).2 = true) <| obind (T.2.2.2.2 n5 l2.toNatClampNeg) fun n8 => oif (aA T n8 101 = true) <| elet (nI (T.2.1 n8).2) fun v10 => if v10 = 0 then (oif (oO T l0 10 = true) <| obind (T.2.2.2.2 l0 1) fun n13 => oif (oO T l0 10 = true) <| elet (T.2.2.1 l0 0) fun v15 => oif (inb v15 100001 = true) <| elet (newJ T (v15.toNatClampNeg)) fun T17 => g_X10_widenTo_b37 (g_X10_widenTo_b5 n) T17 T.1 l2 n13 l0 l1 l2) else (g_X10_widenTo_b38 (g_X10_widenTo_b5 n) T l0 l1 l2)))
def g_X10_widenTo (T : AT) (o : Nat) (a0 : Int32) : Option (AT) := oif (oO T o 10 = true) <| elet (T.2.2.1 o 2) fun v3 => g_X10_widenTo_b5 16384 T o a0 v3
set_option maxHeartbeats 4000000 in
set_option maxRecDepth 100000 in
theorem s_X10_widenTo_b108 {T1 : AT} : ∀ (T : AT), g_X10_widenTo_b108 T = some T1 → GL T T1 := by
  intro T h
  have p0 := GL.rf T
  unfold g_X10_widenTo_b108 at h
  rw [← osome1 h]
  exact p0
set_option maxHeartbeats 4000000 in
set_option maxRecDepth 100000 in
theorem s_X10_widenTo_b40 {T1 : AT} {k5 : AT → Nat → Int32 → Int32 → Option (AT)} (hk5 : ∀ (T : AT) (l0 : Nat) (l1 : Int32) (l2 : Int32), k5 T l0 l1 l2 = some T1 → GL T T1) : ∀ n : Nat, ∀ (T : AT) (l0 : Nat) (l1 : Int32) (l2 : Int32) (l3 : Int32), g_X10_widenTo_b40 k5 n T l0 l1 l2 l3 = some T1 → GL T T1 := by
  intro n
  induction n with
  | zero =>
    intro T l0 l1 l2 l3 h
    have h : (none : Option (AT)) = some T1 := h
    cases h
  | succ n ih =>
    intro T l0 l1 l2 l3 h
    have p0 := GL.rf T
    unfold g_X10_widenTo_b40 at h
    obtain ⟨g2, h⟩ := oif_some h
    obtain ⟨v3, -, h⟩ := elet_some h
    rcases oif_or h with ⟨c4, h⟩ | ⟨c4, h⟩
    · have h := h
      obtain ⟨v5, -, h⟩ := elet_some h
      obtain ⟨g6, h⟩ := oif_some h
      obtain ⟨T7, eT7, h⟩ := elet_some h
      have p1 : GL T T7 := GL.tr p0 (by rw [eT7]; exact gl_sp sp_uI)
      obtain ⟨v8, ev8, h⟩ := elet_some h
      exact GL.tr p1 (hk5 _ _ _ _ h)
    · have h := h
      obtain ⟨g9, h⟩ := oif_some h
      obtain ⟨n10, en10, h⟩ := obind_some h
      obtain ⟨v11, -, h⟩ := elet_some h
      obtain ⟨g12, h⟩ := oif_some h
      obtain ⟨g13, h⟩ := oif_some h
      obtain ⟨n14, en14, h⟩ := obind_some h
      obtain ⟨g15, h⟩ := oif_some h
      obtain ⟨g16, h⟩ := oif_some h
      obtain ⟨v17, -, h⟩ := elet_some h
      obtain ⟨g18, h⟩ := oif_some h
      obtain ⟨n19, en19, h⟩ := obind_some h
      obtain ⟨v20, -, h⟩ := elet_some h
      obtain ⟨g21, h⟩ := oif_some h
      obtain ⟨g22, h⟩ := oif_some h
      obtain ⟨n23, en23, h⟩ := obind_some h
      obtain ⟨v24, -, h⟩ := elet_some h
      obtain ⟨g25, h⟩ := oif_some h
      obtain ⟨g26, h⟩ := oif_some h
      obtain ⟨T27, eT27, h⟩ := elet_some h
      have p1 : GL T T27 := GL.tr p0 (by rw [eT27]; exact gl_sp sp_uJ)
      obtain ⟨g28, h⟩ := oif_some h
      obtain ⟨n29, en29, h⟩ := obind_some h
      obtain ⟨g30, h⟩ := oif_some h
      obtain ⟨g31, h⟩ := oif_some h
      obtain ⟨n32, en32, h⟩ := obind_some h
      obtain ⟨v33, -, h⟩ := elet_some h
      obtain ⟨g34, h⟩ := oif_some h
      obtain ⟨g35, h⟩ := oif_some h
      obtain ⟨T36, eT36, h⟩ := elet_some h
      have p2 : GL T T36 := GL.tr p1 (by rw [eT36]; exact gl_sp sp_uJ)
      obtain ⟨v37, ev37, h⟩ := elet_some h
      exact GL.tr p2 (ih _ _ _ _ _ h)
set_option maxHeartbeats 4000000 in
set_option maxRecDepth 100000 in
theorem s_X10_widenTo_b38 {T1 : AT} {k5 : AT → Nat → Int32 → Int32 → Option (AT)} (hk5 : ∀ (T : AT) (l0 : Nat) (l1 : Int32) (l2 : Int32), k5 T l0 l1 l2 = some T1 → GL T T1) : ∀ (T : AT) (l0 : Nat) (l1 : Int32) (l2 : Int32), g_X10_widenTo_b38 k5 T l0 l1 l2 = some T1 → GL T T1 := by
  intro T l0 l1 l2 h
  have p0 := GL.rf T
  unfold g_X10_widenTo_b38 at h
  exact GL.tr p0 (s_X10_widenTo_b40 hk5 _ _ _ _ _ _ h)
set_option maxHeartbeats 4000000 in
set_option maxRecDepth 100000 in
theorem s_X10_widenTo_b37 {T1 : AT} {k5 : AT → Nat → Int32 → Int32 → Option (AT)} (hk5 : ∀ (T : AT) (l0 : Nat) (l1 : Int32) (l2 : Int32), k5 T l0 l1 l2 = some T1 → GL T T1) : ∀ (T : AT) (s0 : Nat) (s1 : Int32) (s2 : Nat) (l0 : Nat) (l1 : Int32) (l2 : Int32), g_X10_widenTo_b37 k5 T s0 s1 s2 l0 l1 l2 = some T1 → GL T T1 := by
  intro T s0 s1 s2 l0 l1 l2 h
  have p0 := GL.rf T
  unfold g_X10_widenTo_b37 at h
  obtain ⟨g2, h⟩ := oif_some h
  obtain ⟨g3, h⟩ := oif_some h
  obtain ⟨g4, h⟩ := oif_some h
  obtain ⟨T5, eT5, h⟩ := elet_some h
  have p1 : GL T T5 := GL.tr p0 (by rw [eT5]; exact gl_uR (aA_k g4).1)
  exact GL.tr p1 (s_X10_widenTo_b38 hk5 _ _ _ _ h)
set_option maxHeartbeats 4000000 in
set_option maxRecDepth 100000 in
theorem s_X10_widenTo_b5 {T1 : AT} : ∀ n : Nat, ∀ (T : AT) (l0 : Nat) (l1 : Int32) (l2 : Int32), g_X10_widenTo_b5 n T l0 l1 l2 = some T1 → GL T T1 := by
  intro n
  induction n with
  | zero =>
    intro T l0 l1 l2 h
    have h : (none : Option (AT)) = some T1 := h
    cases h
  | succ n ih =>
    intro T l0 l1 l2 h
    have p0 := GL.rf T
    unfold g_X10_widenTo_b5 at h
    rcases oif_or h with ⟨c2, h⟩ | ⟨c2, h⟩
    · have h := h
      exact GL.tr p0 (s_X10_widenTo_b108 _ h)
    · have h := h
      rcases oif_or h with ⟨c3, h⟩ | ⟨c3, h⟩
      · have h := h
        exact GL.tr p0 (s_X10_widenTo_b108 _ h)
      · have h := h
        obtain ⟨g4, h⟩ := oif_some h
        obtain ⟨n5, en5, h⟩ := obind_some h
        obtain ⟨g6, h⟩ := oif_some h
        obtain ⟨g7, h⟩ := oif_some h
        obtain ⟨n8, en8, h⟩ := obind_some h
        obtain ⟨g9, h⟩ := oif_some h
        obtain ⟨v10, -, h⟩ := elet_some h
        rcases oif_or h with ⟨c11, h⟩ | ⟨c11, h⟩
        · have h := h
          obtain ⟨g12, h⟩ := oif_some h
          obtain ⟨n13, en13, h⟩ := obind_some h
          obtain ⟨g14, h⟩ := oif_some h
          obtain ⟨v15, -, h⟩ := elet_some h
          obtain ⟨g16, h⟩ := oif_some h
          obtain ⟨T17, eT17, h⟩ := elet_some h
          have p1 : GL T T17 := GL.tr p0 (by rw [eT17]; exact gl_newJ)
          exact GL.tr p1 (s_X10_widenTo_b37 ih _ _ _ _ _ _ _ h)
        · have h := h
          exact GL.tr p0 (s_X10_widenTo_b38 ih _ _ _ _ h)
set_option maxHeartbeats 4000000 in
set_option maxRecDepth 100000 in
theorem s_X10_widenTo {T : AT} {o : Nat} {a0 : Int32} {T1 : AT} (h : g_X10_widenTo T o a0 = some T1) : GL T T1 := by
  have p0 := GL.rf T
  unfold g_X10_widenTo at h
  obtain ⟨g2, h⟩ := oif_some h
  obtain ⟨v3, -, h⟩ := elet_some h
  exact GL.tr p0 (s_X10_widenTo_b5 _ _ _ _ _ h)
set_option maxHeartbeats 4000000 in
set_option maxRecDepth 100000 in
theorem a_X10_widenTo_b108 {p : Program} {l : Launch} {e : Env} {s : State} {m : MethodId} {args : Array Value} {below : List Frame} {meth : Method} {c : Code} {Q : State → Prop} {D : va_G} {A : Nat → Prop} {cI cJ cZ cMic cSrc cSt cAI cAJ : ClassId} {ad0 : Nat → Nat} {T0 : AT} {T1 : AT} (E : cE p c cX10_widenTo s m args (Cond.code yX10_widenTo cX10_widenTo 6 none :: wsA) D RX10 (CT cI cJ cZ cMic cSrc cSt cAI cAJ)) (hA : ∀ q : Nat, s.heap.size ≤ q → A q) (hX : xT A s) (hN : nX s) (hml : c.maxLocals = 6) (hst : l.stackTraces = false) (kr108 : ∀ (ad : Nat → Nat) (H : Heap) (locs : List Loc) (ls : Array Slot), (∀ n, n < T0.1 → ad n = ad0 n) → gC cI cJ cZ cMic cSrc cSt cAI cAJ D ad A s.heap H locs T1 → W p l e { frames := 1, cells := T1.1 - T0.1, slots := sg T1 - sg T0, locals := 0 } s m args below meth c H locs (T1.1 - T0.1) (sg T1 - sg T0) Q (F0 m 108 ls [])) : ∀ (T : AT) (ad : Nat → Nat) (H : Heap) (locs : List Loc) (ls : Array Slot), g_X10_widenTo_b108 T = some T1 → GL T0 T → RC T → (∀ n, n < T0.1 → ad n = ad0 n) → gC cI cJ cZ cMic cSrc cSt cAI cAJ D ad A s.heap H locs T → lv_has ls 6 [] → W p l e { frames := 1, cells := T1.1 - T0.1, slots := sg T1 - sg T0, locals := 0 } s m args below meth c H locs (T.1 - T0.1) (sg T - sg T0) Q (F0 m 108 ls []) := by
  have hx := E.1
  have hb := E.2.1
  have hts := E.2.2.1
  have hown := E.2.2.2.1
  have hK := E.2.2.2.2
  intro T ad H locs ls h hgl hrc had G hl
  have hT1 := s_X10_widenTo_b108 _ h
  have hcs := cs_ok hgl hT1
  have cp0 := cpr0 hrc
  unfold g_X10_widenTo_b108 at h
  rw [osome1 h] at G
  refine w_cast (c2 := T1.1 - T0.1) (s2 := sg T1 - sg T0) (by rw [← osome1 h, cp0.1] <;> rfl) (by rw [← osome1 h, sg_cpr cp0] <;> rfl) ?_
  exact kr108 ad _ _ _ had G
set_option maxHeartbeats 4000000 in
set_option maxRecDepth 100000 in
theorem a_X10_widenTo_b40 {p : Program} {l : Launch} {e : Env} {s : State} {m : MethodId} {args : Array Value} {below : List Frame} {meth : Method} {c : Code} {Q : State → Prop} {D : va_G} {A : Nat → Prop} {cI cJ cZ cMic cSrc cSt cAI cAJ : ClassId} {ad0 : Nat → Nat} {T0 : AT} {T1 : AT} (E : cE p c cX10_widenTo s m args (Cond.code yX10_widenTo cX10_widenTo 6 none :: wsA) D RX10 (CT cI cJ cZ cMic cSrc cSt cAI cAJ)) (hA : ∀ q : Nat, s.heap.size ≤ q → A q) (hX : xT A s) (hN : nX s) (hml : c.maxLocals = 6) (hst : l.stackTraces = false) (kr108 : ∀ (ad : Nat → Nat) (H : Heap) (locs : List Loc) (ls : Array Slot), (∀ n, n < T0.1 → ad n = ad0 n) → gC cI cJ cZ cMic cSrc cSt cAI cAJ D ad A s.heap H locs T1 → W p l e { frames := 1, cells := T1.1 - T0.1, slots := sg T1 - sg T0, locals := 0 } s m args below meth c H locs (T1.1 - T0.1) (sg T1 - sg T0) Q (F0 m 108 ls [])) {k5 : AT → Nat → Int32 → Int32 → Option (AT)} (hs5 : ∀ (T : AT) (l0 : Nat) (l1 : Int32) (l2 : Int32), k5 T l0 l1 l2 = some T1 → GL T T1) (hk5 : ∀ (T : AT) (ad : Nat → Nat) (H : Heap) (locs : List Loc) (ls : Array Slot) (l0 : Nat) (l1 : Int32) (l2 : Int32), k5 T l0 l1 l2 = some T1 → GL T0 T → RC T → (∀ n, n < T0.1 → ad n = ad0 n) → l0 < T.1 → gC cI cJ cZ cMic cSrc cSt cAI cAJ D ad A s.heap H locs T → lv_has ls 6 [(0, .ref (ad l0)), (1, .int l1), (2, .int l2)] → W p l e { frames := 1, cells := T1.1 - T0.1, slots := sg T1 - sg T0, locals := 0 } s m args below meth c H locs (T.1 - T0.1) (sg T - sg T0) Q (F0 m 5 ls [])) : ∀ n : Nat, ∀ (T : AT) (ad : Nat → Nat) (H : Heap) (locs : List Loc) (ls : Array Slot) (l0 : Nat) (l1 : Int32) (l2 : Int32) (l3 : Int32), g_X10_widenTo_b40 k5 n T l0 l1 l2 l3 = some T1 → GL T0 T → RC T → (∀ n, n < T0.1 → ad n = ad0 n) → l0 < T.1 → gC cI cJ cZ cMic cSrc cSt cAI cAJ D ad A s.heap H locs T → lv_has ls 6 [(0, .ref (ad l0)), (1, .int l1), (2, .int l2), (3, .int l3)] → W p l e { frames := 1, cells := T1.1 - T0.1, slots := sg T1 - sg T0, locals := 0 } s m args below meth c H locs (T.1 - T0.1) (sg T - sg T0) Q (F0 m 40 ls []) := by
  have hx := E.1
  have hb := E.2.1
  have hts := E.2.2.1
  have hown := E.2.2.2.1
  have hK := E.2.2.2.2
  intro n
  induction n with
  | zero =>
    intro T ad H locs ls l0 l1 l2 l3 h
    have h : (none : Option (AT)) = some T1 := h
    cases h
  | succ n ih =>
    intro T ad H locs ls l0 l1 l2 l3 h hgl hrc had h_l0 G hl
    have hT1 := s_X10_widenTo_b40 hs5 _ _ _ _ _ _ h
    have hcs := cs_ok hgl hT1
    have cp0 := cpr0 hrc
    unfold g_X10_widenTo_b40 at h
    refine lv_iload_n hx hb dX10_widenTo_40 rfl (lv_at hl 3 rfl) ?_
    refine lv_aload_n hx hb dX10_widenTo_41 rfl (lv_at hl 0 rfl) ?_
    obtain ⟨g2, h⟩ := oif_some h
    refine c_get E G l0 0 (oO_k g2).1 (cc_o10 (oO_k g2).2) rfl (fun w h => .tail _ (iA_12 h)) (by decide) (.tail _ qA_20) rfl rfl dX10_widenTo_42 ?_
    refine lv_topi (fun v3 ev3 => ?_)
    have h := elet_at ev3 h
    clear ev3
    refine lv_icmp_ge (tgt := 95) hx hb dX10_widenTo_45 (by decide) (fun c4 => ?_) (fun c4 => ?_)
    · have h := oif_pos c4 h
      refine lv_aload_n hx hb dX10_widenTo_95 rfl (lv_at hl 0 rfl) ?_
      refine lv_iload_n hx hb dX10_widenTo_96 rfl (lv_at hl 2 rfl) ?_
      refine lv_iconst (v := 1) hx hb dX10_widenTo_97 (by decide) ?_
      refine lv_iadd hx hb dX10_widenTo_98 ?_
      refine lv_topi (fun v5 ev5 => ?_)
      have h := elet_at ev5 h
      clear ev5
      obtain ⟨g6, h⟩ := oif_some h
      refine c_put E G l0 2 (v := .int v5) (oO_k g6).1 (cc_o10 (oO_k g6).2) rfl (fun w h => .tail _ (iA_12 h)) tyX10 tyX10_ok nmX10 (by decide) (.tail _ qA_15) ⟨rfl, rfl, rfl⟩ rfl rfl (Nat.le_of_ble_eq_true rfl) dX10_widenTo_99 (fun H locs G => ?_)
      have G := gC_up_i (f := upd (T.2.2.1 l0) 2 v5) (by rw [(oO_k g6).2]; rfl) G
      obtain ⟨T7, eT7, h⟩ := elet_some h
      have G : gC cI cJ cZ cMic cSrc cSt cAI cAJ D ad A s.heap H locs T7 := by rw [eT7]; exact G
      have cp1 := show CPR T T7 from by rw [eT7]; exact cpr_sp cp0 sp_uI
      clear eT7
      obtain ⟨v8, ev8, h⟩ := elet_some h
      refine lv_iinc (v := v8) (lv' := [(2, .int v8), (0, .ref (ad l0)), (1, .int l1), (3, .int l3)]) hx hb dX10_widenTo_102 hl (k := 2) rfl ev8.symm (by decide) rfl (fun ls hl => ?_)
      refine lv_goto (tgt := 5) hx hb dX10_widenTo_105 (by decide) ?_
      have hl := lv_sub hl [1, 2, 0] rfl
      refine w_cast (c2 := T7.1 - T0.1) (s2 := sg T7 - sg T0) (by rw [cp1.1] <;> rfl) (by rw [sg_cpr cp1] <;> rfl) ?_
      exact hk5 _ _ _ _ _ _ _ _ h (gl_cpr hgl cp1) cp1.2.2 had (by rw [cp1.1]; exact h_l0) G hl
    · have h := oif_neg c4 h
      refine lv_aload_n hx hb dX10_widenTo_48 rfl (lv_at hl 0 rfl) ?_
      obtain ⟨g9, h⟩ := oif_some h
      obtain ⟨n10, en10, h⟩ := obind_some h
      have h_n10 : n10 < T.1 := by rw [← cp0.1]; exact cp0.2.2 _ _ _ en10
      refine c_get E G l0 1 (v := .ref (ad n10)) (oO_k g9).1 (cc_o10 (oO_k g9).2) rfl (fun w h => .tail _ (iA_12 h)) (by decide) (.tail _ qA_14) rfl (by rw [en10]; rfl) dX10_widenTo_49 ?_
      clear en10
      refine lv_iload_n hx hb dX10_widenTo_52 rfl (lv_at hl 2 rfl) ?_
      refine lv_iconst (v := 1) hx hb dX10_widenTo_53 (by decide) ?_
      refine lv_isub hx hb dX10_widenTo_54 ?_
      refine lv_topi (fun v11 ev11 => ?_)
      have h := elet_at ev11 h
      clear ev11
      obtain ⟨g12, h⟩ := oif_some h
      obtain ⟨g13, h⟩ := oif_some h
      obtain ⟨n14, en14, h⟩ := obind_some h
      have h_n14 : n14 < T.1 := by rw [← cp0.1]; exact cp0.2.2 _ _ _ en14
      refine c_alda E G n10 7 (k := v11.toNatClampNeg) (v := .ref (ad n14)) (aA_k g12).1 (cc_a107 (aA_k g12).2.1) rfl (inb_k g13).1 (inb_k g13).2 (aA_k g12).2.2 (by show va_rf ((T.2.2.2.2 n10 v11.toNatClampNeg).map ad) = _; rw [en14]; rfl) dX10_widenTo_55 ?_
      clear en14
      refine lv_iload_n hx hb dX10_widenTo_56 rfl (lv_at hl 3 rfl) ?_
      obtain ⟨g15, h⟩ := oif_some h
      obtain ⟨g16, h⟩ := oif_some h
      refine c_lald E G n14 1 (k := l3.toNatClampNeg) (aA_k g15).1 (cc_a101 (aA_k g15).2.1) rfl (inb_k g16).1 (inb_k g16).2 (aA_k g15).2.2 dX10_widenTo_57 ?_
      refine lv_topl (fun v17 ev17 => ?_)
      have h := elet_at ev17 h
      clear ev17
      refine lv_lstore (lv' := [(4, .long v17), (0, .ref (ad l0)), (1, .int l1), (2, .int l2), (3, .int l3)]) hx hb dX10_widenTo_58 hl (by decide) rfl (fun ls hl => ?_)
      refine lv_aload_n hx hb dX10_widenTo_60 rfl (lv_at hl 1 rfl) ?_
      obtain ⟨g18, h⟩ := oif_some h
      obtain ⟨n19, en19, h⟩ := obind_some h
      have h_n19 : n19 < T.1 := by rw [← cp0.1]; exact cp0.2.2 _ _ _ en19
      refine c_get E G l0 1 (v := .ref (ad n19)) (oO_k g18).1 (cc_o10 (oO_k g18).2) rfl (fun w h => .tail _ (iA_12 h)) (by decide) (.tail _ qA_14) rfl (by rw [en19]; rfl) dX10_widenTo_61 ?_
      clear en19
      refine lv_iload_n hx hb dX10_widenTo_64 rfl (lv_at hl 3 rfl) ?_
      refine lv_iconst (v := 1) hx hb dX10_widenTo_65 (by decide) ?_
      refine lv_isub hx hb dX10_widenTo_66 ?_
      refine lv_topi (fun v20 ev20 => ?_)
      have h := elet_at ev20 h
      clear ev20
      obtain ⟨g21, h⟩ := oif_some h
      obtain ⟨g22, h⟩ := oif_some h
      obtain ⟨n23, en23, h⟩ := obind_some h
      have h_n23 : n23 < T.1 := by rw [← cp0.1]; exact cp0.2.2 _ _ _ en23
      refine c_alda E G n19 7 (k := v20.toNatClampNeg) (v := .ref (ad n23)) (aA_k g21).1 (cc_a107 (aA_k g21).2.1) rfl (inb_k g22).1 (inb_k g22).2 (aA_k g21).2.2 (by show va_rf ((T.2.2.2.2 n19 v20.toNatClampNeg).map ad) = _; rw [en23]; rfl) dX10_widenTo_67 ?_
      clear en23
      refine lv_iload_n hx hb dX10_widenTo_68 rfl (lv_at hl 4 rfl) ?_
      refine lv_lload hx hb dX10_widenTo_69 (lv_at hl 0 rfl) ?_
      refine lv_ldc2 (v := 268435455) hx hb hown (hts (.constantLong RX10 59 (268435455)) (.tail _ qA_81)) dX10_widenTo_71 ?_
      refine lv_land hx hb dX10_widenTo_74 ?_
      refine lv_topl (fun v24 ev24 => ?_)
      have h := elet_at ev24 h
      clear ev24
      obtain ⟨g25, h⟩ := oif_some h
      obtain ⟨g26, h⟩ := oif_some h
      refine c_last E G n23 1 (k := l3.toNatClampNeg) (v := v24) (aA_k g25).1 (cc_a101 (aA_k g25).2.1) rfl (inb_k g26).1 (inb_k g26).2 (aA_k g25).2.2 dX10_widenTo_75 (fun H locs G => ?_)
      have G := gC_up_j (f := vp_updL (T.2.2.2.1 n23) l3.toNatClampNeg v24) (ccv_101 (aA_k g25).2.1) G
      obtain ⟨T27, eT27, h⟩ := elet_some h
      have G : gC cI cJ cZ cMic cSrc cSt cAI cAJ D ad A s.heap H locs T27 := by rw [eT27]; exact G
      have cp1 := show CPR T T27 from by rw [eT27]; exact cpr_sp cp0 sp_uJ
      clear eT27
      refine lv_aload_n hx hb dX10_widenTo_76 rfl (lv_at hl 1 rfl) ?_
      obtain ⟨g28, h⟩ := oif_some h
      obtain ⟨n29, en29, h⟩ := obind_some h
      have h_n29 : n29 < T.1 := by rw [← cp1.1]; exact cp1.2.2 _ _ _ en29
      refine c_get E G l0 1 (v := .ref (ad n29)) (oO_k g28).1 (cc_o10 (oO_k g28).2) rfl (fun w h => .tail _ (iA_12 h)) (by decide) (.tail _ qA_14) rfl (by rw [en29]; rfl) dX10_widenTo_77 ?_
      clear en29
      refine lv_iload_n hx hb dX10_widenTo_80 rfl (lv_at hl 3 rfl) ?_
      obtain ⟨g30, h⟩ := oif_some h
      obtain ⟨g31, h⟩ := oif_some h
      obtain ⟨n32, en32, h⟩ := obind_some h
      have h_n32 : n32 < T.1 := by rw [← cp1.1]; exact cp1.2.2 _ _ _ en32
      refine c_alda E G n29 7 (k := l2.toNatClampNeg) (v := .ref (ad n32)) (aA_k g30).1 (cc_a107 (aA_k g30).2.1) rfl (inb_k g31).1 (inb_k g31).2 (aA_k g30).2.2 (by show va_rf ((T27.2.2.2.2 n29 l2.toNatClampNeg).map ad) = _; rw [en32]; rfl) dX10_widenTo_81 ?_
      clear en32
      refine lv_iload_n hx hb dX10_widenTo_82 rfl (lv_at hl 4 rfl) ?_
      refine lv_lload hx hb dX10_widenTo_83 (lv_at hl 0 rfl) ?_
      refine lv_bipush (v := 28) hx hb dX10_widenTo_85 (by decide) ?_
      refine lv_lshr (v := v17 >>> ((28 : Int32).toInt64 &&& 63)) hx hb dX10_widenTo_87 rfl ?_
      refine lv_topl (fun v33 ev33 => ?_)
      have h := elet_at ev33 h
      clear ev33
      obtain ⟨g34, h⟩ := oif_some h
      obtain ⟨g35, h⟩ := oif_some h
      refine c_last E G n32 1 (k := l3.toNatClampNeg) (v := v33) (aA_k g34).1 (cc_a101 (aA_k g34).2.1) rfl (inb_k g35).1 (inb_k g35).2 (aA_k g34).2.2 dX10_widenTo_88 (fun H locs G => ?_)
      have G := gC_up_j (f := vp_updL (T27.2.2.2.1 n32) l3.toNatClampNeg v33) (ccv_101 (aA_k g34).2.1) G
      obtain ⟨T36, eT36, h⟩ := elet_some h
      have G : gC cI cJ cZ cMic cSrc cSt cAI cAJ D ad A s.heap H locs T36 := by rw [eT36]; exact G
      have cp2 := show CPR T T36 from by rw [eT36]; exact cpr_sp cp1 sp_uJ
      clear eT36
      obtain ⟨v37, ev37, h⟩ := elet_some h
      refine lv_iinc (v := v37) (lv' := [(3, .int v37), (4, .long v17), (0, .ref (ad l0)), (1, .int l1), (2, .int l2)]) hx hb dX10_widenTo_89 hl (k := 4) rfl ev37.symm (by decide) rfl (fun ls hl => ?_)
      refine lv_goto (tgt := 40) hx hb dX10_widenTo_92 (by decide) ?_
      have hl := lv_sub hl [2, 3, 4, 0] rfl
      refine w_cast (c2 := T36.1 - T0.1) (s2 := sg T36 - sg T0) (by rw [cp2.1] <;> rfl) (by rw [sg_cpr cp2] <;> rfl) ?_
      exact ih _ _ _ _ _ _ _ _ _ h (gl_cpr hgl cp2) cp2.2.2 had (by rw [cp2.1]; exact h_l0) G hl
set_option maxHeartbeats 4000000 in
set_option maxRecDepth 100000 in
theorem a_X10_widenTo_b38 {p : Program} {l : Launch} {e : Env} {s : State} {m : MethodId} {args : Array Value} {below : List Frame} {meth : Method} {c : Code} {Q : State → Prop} {D : va_G} {A : Nat → Prop} {cI cJ cZ cMic cSrc cSt cAI cAJ : ClassId} {ad0 : Nat → Nat} {T0 : AT} {T1 : AT} (E : cE p c cX10_widenTo s m args (Cond.code yX10_widenTo cX10_widenTo 6 none :: wsA) D RX10 (CT cI cJ cZ cMic cSrc cSt cAI cAJ)) (hA : ∀ q : Nat, s.heap.size ≤ q → A q) (hX : xT A s) (hN : nX s) (hml : c.maxLocals = 6) (hst : l.stackTraces = false) (kr108 : ∀ (ad : Nat → Nat) (H : Heap) (locs : List Loc) (ls : Array Slot), (∀ n, n < T0.1 → ad n = ad0 n) → gC cI cJ cZ cMic cSrc cSt cAI cAJ D ad A s.heap H locs T1 → W p l e { frames := 1, cells := T1.1 - T0.1, slots := sg T1 - sg T0, locals := 0 } s m args below meth c H locs (T1.1 - T0.1) (sg T1 - sg T0) Q (F0 m 108 ls [])) {k5 : AT → Nat → Int32 → Int32 → Option (AT)} (hs5 : ∀ (T : AT) (l0 : Nat) (l1 : Int32) (l2 : Int32), k5 T l0 l1 l2 = some T1 → GL T T1) (hk5 : ∀ (T : AT) (ad : Nat → Nat) (H : Heap) (locs : List Loc) (ls : Array Slot) (l0 : Nat) (l1 : Int32) (l2 : Int32), k5 T l0 l1 l2 = some T1 → GL T0 T → RC T → (∀ n, n < T0.1 → ad n = ad0 n) → l0 < T.1 → gC cI cJ cZ cMic cSrc cSt cAI cAJ D ad A s.heap H locs T → lv_has ls 6 [(0, .ref (ad l0)), (1, .int l1), (2, .int l2)] → W p l e { frames := 1, cells := T1.1 - T0.1, slots := sg T1 - sg T0, locals := 0 } s m args below meth c H locs (T.1 - T0.1) (sg T - sg T0) Q (F0 m 5 ls [])) : ∀ (T : AT) (ad : Nat → Nat) (H : Heap) (locs : List Loc) (ls : Array Slot) (l0 : Nat) (l1 : Int32) (l2 : Int32), g_X10_widenTo_b38 k5 T l0 l1 l2 = some T1 → GL T0 T → RC T → (∀ n, n < T0.1 → ad n = ad0 n) → l0 < T.1 → gC cI cJ cZ cMic cSrc cSt cAI cAJ D ad A s.heap H locs T → lv_has ls 6 [(0, .ref (ad l0)), (1, .int l1), (2, .int l2)] → W p l e { frames := 1, cells := T1.1 - T0.1, slots := sg T1 - sg T0, locals := 0 } s m args below meth c H locs (T.1 - T0.1) (sg T - sg T0) Q (F0 m 38 ls []) := by
  have hx := E.1
  have hb := E.2.1
  have hts := E.2.2.1
  have hown := E.2.2.2.1
  have hK := E.2.2.2.2
  intro T ad H locs ls l0 l1 l2 h hgl hrc had h_l0 G hl
  have hT1 := s_X10_widenTo_b38 hs5 _ _ _ _ h
  have hcs := cs_ok hgl hT1
  have cp0 := cpr0 hrc
  unfold g_X10_widenTo_b38 at h
  refine lv_iconst (v := 0) hx hb dX10_widenTo_38 (by decide) ?_
  refine lv_istore_n (lv' := [(3, .int 0), (0, .ref (ad l0)), (1, .int l1), (2, .int l2)]) hx hb dX10_widenTo_39 rfl hl (by decide) rfl (fun ls hl => ?_)
  have hl := lv_sub hl [1, 2, 3, 0] rfl
  refine w_cast (c2 := T.1 - T0.1) (s2 := sg T - sg T0) (by rw [cp0.1] <;> rfl) (by rw [sg_cpr cp0] <;> rfl) ?_
  exact a_X10_widenTo_b40 E hA hX hN hml hst kr108 hs5 hk5 _ _ _ _ _ _ _ _ _ _ h (gl_cpr hgl cp0) cp0.2.2 had (by rw [cp0.1]; exact h_l0) G hl
set_option maxHeartbeats 4000000 in
set_option maxRecDepth 100000 in
theorem a_X10_widenTo_b37 {p : Program} {l : Launch} {e : Env} {s : State} {m : MethodId} {args : Array Value} {below : List Frame} {meth : Method} {c : Code} {Q : State → Prop} {D : va_G} {A : Nat → Prop} {cI cJ cZ cMic cSrc cSt cAI cAJ : ClassId} {ad0 : Nat → Nat} {T0 : AT} {T1 : AT} (E : cE p c cX10_widenTo s m args (Cond.code yX10_widenTo cX10_widenTo 6 none :: wsA) D RX10 (CT cI cJ cZ cMic cSrc cSt cAI cAJ)) (hA : ∀ q : Nat, s.heap.size ≤ q → A q) (hX : xT A s) (hN : nX s) (hml : c.maxLocals = 6) (hst : l.stackTraces = false) (kr108 : ∀ (ad : Nat → Nat) (H : Heap) (locs : List Loc) (ls : Array Slot), (∀ n, n < T0.1 → ad n = ad0 n) → gC cI cJ cZ cMic cSrc cSt cAI cAJ D ad A s.heap H locs T1 → W p l e { frames := 1, cells := T1.1 - T0.1, slots := sg T1 - sg T0, locals := 0 } s m args below meth c H locs (T1.1 - T0.1) (sg T1 - sg T0) Q (F0 m 108 ls [])) {k5 : AT → Nat → Int32 → Int32 → Option (AT)} (hs5 : ∀ (T : AT) (l0 : Nat) (l1 : Int32) (l2 : Int32), k5 T l0 l1 l2 = some T1 → GL T T1) (hk5 : ∀ (T : AT) (ad : Nat → Nat) (H : Heap) (locs : List Loc) (ls : Array Slot) (l0 : Nat) (l1 : Int32) (l2 : Int32), k5 T l0 l1 l2 = some T1 → GL T0 T → RC T → (∀ n, n < T0.1 → ad n = ad0 n) → l0 < T.1 → gC cI cJ cZ cMic cSrc cSt cAI cAJ D ad A s.heap H locs T → lv_has ls 6 [(0, .ref (ad l0)), (1, .int l1), (2, .int l2)] → W p l e { frames := 1, cells := T1.1 - T0.1, slots := sg T1 - sg T0, locals := 0 } s m args below meth c H locs (T.1 - T0.1) (sg T - sg T0) Q (F0 m 5 ls [])) : ∀ (T : AT) (ad : Nat → Nat) (H : Heap) (locs : List Loc) (ls : Array Slot) (s0 : Nat) (s1 : Int32) (s2 : Nat) (l0 : Nat) (l1 : Int32) (l2 : Int32), g_X10_widenTo_b37 k5 T s0 s1 s2 l0 l1 l2 = some T1 → GL T0 T → RC T → (∀ n, n < T0.1 → ad n = ad0 n) → s0 < T.1 → s2 < T.1 → l0 < T.1 → gC cI cJ cZ cMic cSrc cSt cAI cAJ D ad A s.heap H locs T → lv_has ls 6 [(0, .ref (ad l0)), (1, .int l1), (2, .int l2)] → W p l e { frames := 1, cells := T1.1 - T0.1, slots := sg T1 - sg T0, locals := 0 } s m args below meth c H locs (T.1 - T0.1) (sg T - sg T0) Q (F0 m 37 ls [.ref (ad s0), .int s1, .ref (ad s2)]) := by
  have hx := E.1
  have hb := E.2.1
  have hts := E.2.2.1
  have hown := E.2.2.2.1
  have hK := E.2.2.2.2
  intro T ad H locs ls s0 s1 s2 l0 l1 l2 h hgl hrc had h_s0 h_s2 h_l0 G hl
  have hT1 := s_X10_widenTo_b37 hs5 _ _ _ _ _ _ _ h
  have hcs := cs_ok hgl hT1
  have cp0 := cpr0 hrc
  unfold g_X10_widenTo_b37 at h
  obtain ⟨g2, h⟩ := oif_some h
  obtain ⟨g3, h⟩ := oif_some h
  obtain ⟨g4, h⟩ := oif_some h
  refine n_asta E G s2 7 s0 (ty := .long) (k := s1.toNatClampNeg) (aA_k g2).1 rfl (cc_a107 (aA_k g2).2.1) rfl hN.2.2.2.2.1 (va_nm_long (hK.2 1 _ rfl).2) (aA_k g4).1 rfl (cc_a101 (aA_k g4).2.1) (inb_k g3).1 (inb_k g3).2 (aA_k g2).2.2 dX10_widenTo_37 (fun H locs G => ?_)
  have G := gC_up_r (f := va_up (T.2.2.2.2 s2) s1.toNatClampNeg (some s0)) (by rw [ccv_107 (aA_k g2).2.1, map_up]) G
  obtain ⟨T5, eT5, h⟩ := elet_some h
  have G : gC cI cJ cZ cMic cSrc cSt cAI cAJ D ad A s.heap H locs T5 := by rw [eT5]; exact G
  have cp1 := show CPR T T5 from by rw [eT5]; exact cpr_uR cp0 (aA_k g4).1
  clear eT5
  have hl := lv_sub hl [0, 1, 2] rfl
  refine w_cast (c2 := T5.1 - T0.1) (s2 := sg T5 - sg T0) (by rw [cp1.1] <;> rfl) (by rw [sg_cpr cp1] <;> rfl) ?_
  exact a_X10_widenTo_b38 E hA hX hN hml hst kr108 hs5 hk5 _ _ _ _ _ _ _ _ h (gl_cpr hgl cp1) cp1.2.2 had (by rw [cp1.1]; exact h_l0) G hl
set_option maxHeartbeats 4000000 in
set_option maxRecDepth 100000 in
theorem a_X10_widenTo_b5 {p : Program} {l : Launch} {e : Env} {s : State} {m : MethodId} {args : Array Value} {below : List Frame} {meth : Method} {c : Code} {Q : State → Prop} {D : va_G} {A : Nat → Prop} {cI cJ cZ cMic cSrc cSt cAI cAJ : ClassId} {ad0 : Nat → Nat} {T0 : AT} {T1 : AT} (E : cE p c cX10_widenTo s m args (Cond.code yX10_widenTo cX10_widenTo 6 none :: wsA) D RX10 (CT cI cJ cZ cMic cSrc cSt cAI cAJ)) (hA : ∀ q : Nat, s.heap.size ≤ q → A q) (hX : xT A s) (hN : nX s) (hml : c.maxLocals = 6) (hst : l.stackTraces = false) (kr108 : ∀ (ad : Nat → Nat) (H : Heap) (locs : List Loc) (ls : Array Slot), (∀ n, n < T0.1 → ad n = ad0 n) → gC cI cJ cZ cMic cSrc cSt cAI cAJ D ad A s.heap H locs T1 → W p l e { frames := 1, cells := T1.1 - T0.1, slots := sg T1 - sg T0, locals := 0 } s m args below meth c H locs (T1.1 - T0.1) (sg T1 - sg T0) Q (F0 m 108 ls [])) : ∀ n : Nat, ∀ (T : AT) (ad : Nat → Nat) (H : Heap) (locs : List Loc) (ls : Array Slot) (l0 : Nat) (l1 : Int32) (l2 : Int32), g_X10_widenTo_b5 n T l0 l1 l2 = some T1 → GL T0 T → RC T → (∀ n, n < T0.1 → ad n = ad0 n) → l0 < T.1 → gC cI cJ cZ cMic cSrc cSt cAI cAJ D ad A s.heap H locs T → lv_has ls 6 [(0, .ref (ad l0)), (1, .int l1), (2, .int l2)] → W p l e { frames := 1, cells := T1.1 - T0.1, slots := sg T1 - sg T0, locals := 0 } s m args below meth c H locs (T.1 - T0.1) (sg T - sg T0) Q (F0 m 5 ls []) := by
  have hx := E.1
  have hb := E.2.1
  have hts := E.2.2.1
  have hown := E.2.2.2.1
  have hK := E.2.2.2.2
  intro n
  induction n with
  | zero =>
    intro T ad H locs ls l0 l1 l2 h
    have h : (none : Option (AT)) = some T1 := h
    cases h
  | succ n ih =>
    intro T ad H locs ls l0 l1 l2 h hgl hrc had h_l0 G hl
    have hT1 := s_X10_widenTo_b5 _ _ _ _ _ h
    have hcs := cs_ok hgl hT1
    have cp0 := cpr0 hrc
    unfold g_X10_widenTo_b5 at h
    refine lv_iload_n hx hb dX10_widenTo_5 rfl (lv_at hl 2 rfl) ?_
    refine lv_iload_n hx hb dX10_widenTo_6 rfl (lv_at hl 1 rfl) ?_
    refine lv_icmp_ge (tgt := 108) hx hb dX10_widenTo_7 (by decide) (fun c2 => ?_) (fun c2 => ?_)
    · have h := oif_pos c2 h
      have hl := lv_sub hl [] rfl
      refine w_cast (c2 := T.1 - T0.1) (s2 := sg T - sg T0) (by rw [cp0.1] <;> rfl) (by rw [sg_cpr cp0] <;> rfl) ?_
      exact a_X10_widenTo_b108 E hA hX hN hml hst kr108 _ _ _ _ _ h (gl_cpr hgl cp0) cp0.2.2 had G hl
    · have h := oif_neg c2 h
      refine lv_iload_n hx hb dX10_widenTo_10 rfl (lv_at hl 2 rfl) ?_
      refine lv_bipush (v := 40) hx hb dX10_widenTo_11 (by decide) ?_
      refine lv_icmp_ge (tgt := 108) hx hb dX10_widenTo_13 (by decide) (fun c3 => ?_) (fun c3 => ?_)
      · have h := oif_pos c3 h
        have hl := lv_sub hl [] rfl
        refine w_cast (c2 := T.1 - T0.1) (s2 := sg T - sg T0) (by rw [cp0.1] <;> rfl) (by rw [sg_cpr cp0] <;> rfl) ?_
        exact a_X10_widenTo_b108 E hA hX hN hml hst kr108 _ _ _ _ _ h (gl_cpr hgl cp0) cp0.2.2 had G hl
      · have h := oif_neg c3 h
        refine lv_aload_n hx hb dX10_widenTo_16 rfl (lv_at hl 0 rfl) ?_
        obtain ⟨g4, h⟩ := oif_some h
        obtain ⟨n5, en5, h⟩ := obind_some h
        have h_n5 : n5 < T.1 := by rw [← cp0.1]; exact cp0.2.2 _ _ _ en5
        refine c_get E G l0 1 (v := .ref (ad n5)) (oO_k g4).1 (cc_o10 (oO_k g4).2) rfl (fun w h => .tail _ (iA_12 h)) (by decide) (.tail _ qA_14) rfl (by rw [en5]; rfl) dX10_widenTo_17 ?_
        clear en5
        refine lv_iload_n hx hb dX10_widenTo_20 rfl (lv_at hl 2 rfl) ?_
        obtain ⟨g6, h⟩ := oif_some h
        obtain ⟨g7, h⟩ := oif_some h
        obtain ⟨n8, en8, h⟩ := obind_some h
        have h_n8 : n8 < T.1 := by rw [← cp0.1]; exact cp0.2.2 _ _ _ en8
        refine c_alda E G n5 7 (k := l2.toNatClampNeg) (v := .ref (ad n8)) (aA_k g6).1 (cc_a107 (aA_k g6).2.1) rfl (inb_k g7).1 (inb_k g7).2 (aA_k g6).2.2 (by show va_rf ((T.2.2.2.2 n5 l2.toNatClampNeg).map ad) = _; rw [en8]; rfl) dX10_widenTo_21 ?_
        clear en8
        obtain ⟨g9, h⟩ := oif_some h
        refine va_alen hx hb hK G.1 n8 1 (cW_e (aA_k g9).1 (cc_a101 (aA_k g9).2.1)) rfl (v := nI (T.2.1 n8).2) rfl dX10_widenTo_22 ?_
        refine lv_topi (fun v10 ev10 => ?_)
        have h := elet_at ev10 h
        clear ev10
        refine lv_if_ne (tgt := 38) hx hb dX10_widenTo_23 (by decide) (fun c11 => ?_) (fun c11 => ?_)
        · have h := oif_neg c11 h
          have hl := lv_sub hl [0, 1, 2] rfl
          refine w_cast (c2 := T.1 - T0.1) (s2 := sg T - sg T0) (by rw [cp0.1] <;> rfl) (by rw [sg_cpr cp0] <;> rfl) ?_
          exact a_X10_widenTo_b38 E hA hX hN hml hst kr108 (s_X10_widenTo_b5 n) ih _ _ _ _ _ _ _ _ h (gl_cpr hgl cp0) cp0.2.2 had (by rw [cp0.1]; exact h_l0) G hl
        · have h := oif_pos c11 h
          refine lv_aload_n hx hb dX10_widenTo_26 rfl (lv_at hl 0 rfl) ?_
          obtain ⟨g12, h⟩ := oif_some h
          obtain ⟨n13, en13, h⟩ := obind_some h
          have h_n13 : n13 < T.1 := by rw [← cp0.1]; exact cp0.2.2 _ _ _ en13
          refine c_get E G l0 1 (v := .ref (ad n13)) (oO_k g12).1 (cc_o10 (oO_k g12).2) rfl (fun w h => .tail _ (iA_12 h)) (by decide) (.tail _ qA_14) rfl (by rw [en13]; rfl) dX10_widenTo_27 ?_
          clear en13
          refine lv_iload_n hx hb dX10_widenTo_30 rfl (lv_at hl 2 rfl) ?_
          refine lv_aload_n hx hb dX10_widenTo_31 rfl (lv_at hl 0 rfl) ?_
          obtain ⟨g14, h⟩ := oif_some h
          refine c_get E G l0 0 (oO_k g14).1 (cc_o10 (oO_k g14).2) rfl (fun w h => .tail _ (iA_12 h)) (by decide) (.tail _ qA_20) rfl rfl dX10_widenTo_32 ?_
          refine lv_topi (fun v15 ev15 => ?_)
          have h := elet_at ev15 h
          clear ev15
          obtain ⟨g16, h⟩ := oif_some h
          obtain ⟨T17, eT17, h⟩ := elet_some h
          have hT2 := s_X10_widenTo_b37 (s_X10_widenTo_b5 n) _ _ _ _ _ _ _ h
          have hg2 : GL T T17 := by rw [eT17]; exact gl_newJ
          have hcn := cs_new hgl cp0 hT2 (by rw [eT17]; rfl) (by rw [eT17]; exact sg_newJ)
          refine n_newl E G hA 1 (K := v15.toNatClampNeg) (.tail _ qA_13) rfl (inb_k g16).1 (Nat.le_of_lt_succ (inb_k g16).2) hcn.1 hcn.2 dX10_widenTo_35 (fun q18 H G => ?_)
          have G := gC_new cp0.2.2 G
          rw [← eT17] at G
          have hga : ∀ n, n < T.1 → cat T.1 ad (fun _ => q18) n = ad n := fun n hn => cat_lo hn
          have hnew : cat T.1 ad (fun _ => q18) T.1 = q18 := cat_hi (Nat.le_refl _)
          have hrc2 := hg2.2.2 cp0.2.2
          refine w_cast (c2 := T17.1 - T0.1) (s2 := sg T17 - sg T0) (cs_e1 hgl cp0 (by rw [eT17]; rfl)) (cs_e2 hgl cp0 (by rw [eT17]; exact sg_newJ)) ?_
          have h_new : T.1 < T17.1 := by rw [eT17]; exact Nat.lt_succ_self _
          rw [← hnew]
          generalize cat T.1 ad (fun _ => q18) = ad2 at G hga ⊢
          have hl := lv_sub hl [0, 1, 2] rfl
          rw [show ad l0 = ad2 l0 from (hga l0 (by rw [cp0.1]; exact h_l0)).symm] at hl
          refine w_st (st2 := [.ref (ad2 T.1), .int l2, .ref (ad2 n13)]) (by rw [hga n13 (by rw [cp0.1]; exact h_n13)]) ?_
          exact a_X10_widenTo_b37 E hA hX hN hml hst kr108 (s_X10_widenTo_b5 n) ih _ _ _ _ _ _ _ _ _ _ _ h (GL.tr (gl_cpr hgl cp0) hg2) hrc2 (fun n hn => (hga n (by rw [cp0.1]; exact Nat.lt_of_lt_of_le hn hgl.1)).trans (had n hn)) h_new (Nat.lt_of_lt_of_le (by rw [cp0.1]; exact h_n13) hg2.1) (Nat.lt_of_lt_of_le (by rw [cp0.1]; exact h_l0) hg2.1) G hl
set_option maxHeartbeats 4000000 in
set_option maxRecDepth 100000 in
theorem a_X10_widenTo (l : Launch) (hst : l.stackTraces = false) (D : va_G) (cI cJ cZ cMic cSrc cSt cAI cAJ : ClassId) (ad : Nat → Nat) (T : AT) (o : Nat) (a0 : Int32) {T1 : AT} (h : g_X10_widenTo T o a0 = some T1) (hrc : RC T) (h_o : o < T.1) : kAv l yX10_widenTo (Cond.code yX10_widenTo cX10_widenTo 6 none :: wsA) 1 0 cI cJ cZ cMic cSrc cSt cAI cAJ D ad T [.ref (ad o), .int a0] T1 := by
  intro sz
  refine Met.ofW (cc := cX10_widenTo) (maxL := 6) (ret := none) (by decide) rfl ?_
  intro p e s m args below meth c s₁ B hml hv
  obtain ⟨rfl, hsz, hP, hK, hD0, hX, hN⟩ := hv
  have hx := B.exec
  have hb := B.bytes
  have hr := B.returns
  have hts := atoms_spec (ws := (Cond.code yX10_widenTo cX10_widenTo 6 none :: wsA)) B.pre
  have hown : s.vm.findClass RX10 = some m.cls := findClass_of_methodNamed B.named
  have hlocks := B.notSynchronized
  subst hsz
  have hD := hD0.self (sz := s.heap.size)
  generalize hAe : va_A (cW ad T.1 (cc cI cJ cZ cMic cSrc cSt cAI cAJ ad T)) s.heap.size = A at hD hX ⊢
  have hA : ∀ q : Nat, s.heap.size ≤ q → A q := fun q h => by rw [← hAe]; exact Or.inr h
  have G : gC cI cJ cZ cMic cSrc cSt cAI cAJ D ad A s.heap s.heap [] T := ⟨hP, hD, va_S.rf⟩
  have E : cE p c cX10_widenTo s m ([.ref (ad o), .int a0] : List Value).toArray (Cond.code yX10_widenTo cX10_widenTo 6 none :: wsA) D RX10 (CT cI cJ cZ cMic cSrc cSt cAI cAJ) := ⟨hx, hb, hts, hown, hK⟩
  have hl := lv_entry ([.ref (ad o), .int a0]) (n := 6) (Nat.le_of_ble_eq_true rfl)
  rw [lg_entry_eq]
  generalize (lg_sl ([.ref (ad o), .int a0]) ++ List.replicate (6 - (lg_sl ([.ref (ad o), .int a0])).length) Slot.unset).toArray = ls at hl ⊢
  have hl : lv_has ls 6 [(0, .ref (ad o)), (1, .int a0)] := hl
  have hgl := GL.rf T
  have had : ∀ n, n < T.1 → ad n = ad n := fun _ _ => rfl
  have hT1 := s_X10_widenTo h
  have hcs := cs_ok hgl hT1
  refine w_cast (Nat.sub_self T.1).symm (Nat.sub_self (sg T)).symm ?_
  have cp0 := cpr0 hrc
  unfold g_X10_widenTo at h
  refine lv_aload_n hx hb dX10_widenTo_0 rfl (lv_at hl 0 rfl) ?_
  obtain ⟨g2, h⟩ := oif_some h
  refine c_get E G o 2 (oO_k g2).1 (cc_o10 (oO_k g2).2) rfl (fun w h => .tail _ (iA_12 h)) (by decide) (.tail _ qA_15) rfl rfl dX10_widenTo_1 ?_
  refine lv_topi (fun v3 ev3 => ?_)
  have h := elet_at ev3 h
  clear ev3
  refine lv_istore_n (lv' := [(2, .int v3), (0, .ref (ad o)), (1, .int a0)]) hx hb dX10_widenTo_4 rfl hl (by decide) rfl (fun ls hl => ?_)
  have hl := lv_sub hl [1, 2, 0] rfl
  refine w_cast (c2 := T.1 - T.1) (s2 := sg T - sg T) (by rw [cp0.1] <;> rfl) (by rw [sg_cpr cp0] <;> rfl) ?_
  exact a_X10_widenTo_b5 E hA hX hN hml hst (fun ad H locs ls had G => W.vret hx hb hr (fun t ht hW => ⟨⟨(T1, ad), rfl, ⟨rfl, had⟩, ⟨by rw [ht]; exact G.1, va_K.moved hW.alike hK, G.2.1⟩⟩, G.2.2.F ht⟩) G.2.2.2.2 dX10_widenTo_108) _ _ _ _ _ _ _ _ _ h (gl_cpr hgl cp0) cp0.2.2 had (by rw [cp0.1]; exact h_o) G hl
def g_X10_settle_b99  (T : AT)  : Option (AT) := some T
def g_X10_settle_b93 (k64 : AT → Nat → Int32 → Int32 → Option (AT)) (T : AT) (l0 : Nat) (l1 : Int32) (l2 : Int32) : Option (AT) := elet (l2 + Int32.ofInt (1)) fun v2 => k64 T l0 l1 v2
def g_X10_settle_b64  : Nat → AT → Nat → Int32 → Int32 → Option (AT)
  | 0, _, _, _, _ => none
  | n + 1, T, l0, l1, l2 => elet (l2 + 1) fun v2 => if 40 ≤ v2 then (g_X10_settle_b99 T) else (oif (oO T l0 10 = true) <| obind (T.2.2.2.2 l0 1) fun n5 => oif (aA T n5 107 = true) <| oif (inb l2 (T.2.1 n5).2 = true) <| obind (T.2.2.2.2 n5 l2.toNatClampNeg) fun n8 => oif (aA T n8 101 = true) <| oif (inb l1 (T.2.1 n8).2 = true) <| elet (T.2.2.2.1 n8 l1.toNatClampNeg) fun v11 => obind (g_X10_isBeyondPart v11) fun r12 => if r12 = 0 then (g_X10_settle_b99 T) else (elet (l2 + 2) fun v15 => oif (oO T l0 10 = true) <| obind (g_X10_widenTo T l0 v15) fun T17 => g_X10_settle_b93 (g_X10_settle_b64 n) T17 l0 l1 l2))
def g_X10_settle_b2  : Nat → AT → Nat → Int32 → Int32 → Option (AT)
  | 0, _, _, _, _ => none
  | n + 1, T, l0, l1, l2 => elet (l2 + 1) fun v2 => oif (oO T l0 10 = true) <| elet (T.2.2.1 l0 2) fun v4 => if v4 ≤ v2 then (oif (oO T l0 10 = true) <| elet (T.2.2.1 l0 2) fun v7 => elet (v7 - 1) fun v8 => g_X10_settle_b64 16384 T l0 l1 v8) else (oif (oO T l0 10 = true) <| obind (T.2.2.2.2 l0 1) fun n10 => oif (aA T n10 107 = true) <| oif (inb l2 (T.2.1 n10).2 = true) <| obind (T.2.2.2.2 n10 l2.toNatClampNeg) fun n13 => oif (aA T n13 101 = true) <| oif (inb l1 (T.2.1 n13).2 = true) <| elet (T.2.2.2.1 n13 l1.toNatClampNeg) fun v16 => oif (oO T l0 10 = true) <| obind (T.2.2.2.2 l0 1) fun n18 => oif (aA T n18 107 = true) <| oif (inb l2 (T.2.1 n18).2 = true) <| obind (T.2.2.2.2 n18 l2.toNatClampNeg) fun n21 => elet (v16 &&& (268435455 : Int64)) fun v22 => oif (aA T n21 101 = true) <| oif (inb l1 (T.2.1 n21).2 = true) <| elet (uJ T n21 l1.toNatClampNeg v22) fun T25 => oif (oO T25 l0 10 = true) <| obind (T25.2.2.2.2 l0 1) fun n27 => elet (l2 + 1) fun v28 => oif (aA T25 n27 107 = true) <| oif (inb v28 (T25.2.1 n27).2 = true) <| obind (T25.2.2.2.2 n27 v28.toNatClampNeg) fun n31 => oif (aA T25 n31 101 = true) <| oif (inb l1 (T25.2.1 n31).2 = true) <| elet (T25.2.2.2.1 n31 l1.toNatClampNeg) fun v34 => elet (v16 >>> ((28 : Int32).toInt64 &&& 63)) fun v35 => elet (v34 + v35) fun v36 => oif (aA T25 n31 101 = true) <| oif (inb l1 (T25.2.1 n31).2 = true) <| elet (uJ T25 n31 l1.toNatClampNeg v36) fun T39 => elet (l2 + Int32.ofInt (1)) fun v40 => g_X10_settle_b2 n T39 l0 l1 v40)
def g_X10_settle (T : AT) (o : Nat) (a0 : Int32) : Option (AT) := g_X10_settle_b2 16384 T o a0 0
set_option maxHeartbeats 4000000 in
set_option maxRecDepth 100000 in
theorem s_X10_settle_b99 {T1 : AT} : ∀ (T : AT), g_X10_settle_b99 T = some T1 → GL T T1 := by
  intro T h
  have p0 := GL.rf T
  unfold g_X10_settle_b99 at h
  rw [← osome1 h]
  exact p0
set_option maxHeartbeats 4000000 in
set_option maxRecDepth 100000 in
theorem s_X10_settle_b93 {T1 : AT} {k64 : AT → Nat → Int32 → Int32 → Option (AT)} (hk64 : ∀ (T : AT) (l0 : Nat) (l1 : Int32) (l2 : Int32), k64 T l0 l1 l2 = some T1 → GL T T1) : ∀ (T : AT) (l0 : Nat) (l1 : Int32) (l2 : Int32), g_X10_settle_b93 k64 T l0 l1 l2 = some T1 → GL T T1 := by
  intro T l0 l1 l2 h
  have p0 := GL.rf T
  unfold g_X10_settle_b93 at h
  obtain ⟨v2, ev2, h⟩ := elet_some h
  exact GL.tr p0 (hk64 _ _ _ _ h)
set_option maxHeartbeats 4000000 in
set_option maxRecDepth 100000 in
theorem s_X10_settle_b64 {T1 : AT} : ∀ n : Nat, ∀ (T : AT) (l0 : Nat) (l1 : Int32) (l2 : Int32), g_X10_settle_b64 n T l0 l1 l2 = some T1 → GL T T1 := by
  intro n
  induction n with
  | zero =>
    intro T l0 l1 l2 h
    have h : (none : Option (AT)) = some T1 := h
    cases h
  | succ n ih =>
    intro T l0 l1 l2 h
    have p0 := GL.rf T
    unfold g_X10_settle_b64 at h
    obtain ⟨v2, -, h⟩ := elet_some h
    rcases oif_or h with ⟨c3, h⟩ | ⟨c3, h⟩
    · have h := h
      exact GL.tr p0 (s_X10_settle_b99 _ h)
    · have h := h
      obtain ⟨g4, h⟩ := oif_some h
      obtain ⟨n5, en5, h⟩ := obind_some h
      obtain ⟨g6, h⟩ := oif_some h
      obtain ⟨g7, h⟩ := oif_some h
      obtain ⟨n8, en8, h⟩ := obind_some h
      obtain ⟨g9, h⟩ := oif_some h
      obtain ⟨g10, h⟩ := oif_some h
      obtain ⟨v11, -, h⟩ := elet_some h
      obtain ⟨r12, -, h⟩ := obind_some h
      rcases oif_or h with ⟨c13, h⟩ | ⟨c13, h⟩
      · have h := h
        exact GL.tr p0 (s_X10_settle_b99 _ h)
      · have h := h
        obtain ⟨v14, -, h⟩ := elet_some h
        obtain ⟨g15, h⟩ := oif_some h
        obtain ⟨T16, eT16, h⟩ := obind_some h
        have p1 : GL T T16 := GL.tr p0 (s_X10_widenTo eT16)
        exact GL.tr p1 (s_X10_settle_b93 ih _ _ _ _ h)
set_option maxHeartbeats 4000000 in
set_option maxRecDepth 100000 in
theorem s_X10_settle_b2 {T1 : AT} : ∀ n : Nat, ∀ (T : AT) (l0 : Nat) (l1 : Int32) (l2 : Int32), g_X10_settle_b2 n T l0 l1 l2 = some T1 → GL T T1 := by
  intro n
  induction n with
  | zero =>
    intro T l0 l1 l2 h
    have h : (none : Option (AT)) = some T1 := h
    cases h
  | succ n ih =>
    intro T l0 l1 l2 h
    have p0 := GL.rf T
    unfold g_X10_settle_b2 at h
    obtain ⟨v2, -, h⟩ := elet_some h
    obtain ⟨g3, h⟩ := oif_some h
    obtain ⟨v4, -, h⟩ := elet_some h
    rcases oif_or h with ⟨c5, h⟩ | ⟨c5, h⟩
    · have h := h
      obtain ⟨g6, h⟩ := oif_some h
      obtain ⟨v7, -, h⟩ := elet_some h
      obtain ⟨v8, -, h⟩ := elet_some h
      exact GL.tr p0 (s_X10_settle_b64 _ _ _ _ _ h)
    · have h := h
      obtain ⟨g9, h⟩ := oif_some h
      obtain ⟨n10, en10, h⟩ := obind_some h
      obtain ⟨g11, h⟩ := oif_some h
      obtain ⟨g12, h⟩ := oif_some h
      obtain ⟨n13, en13, h⟩ := obind_some h
      obtain ⟨g14, h⟩ := oif_some h
      obtain ⟨g15, h⟩ := oif_some h
      obtain ⟨v16, -, h⟩ := elet_some h
      obtain ⟨g17, h⟩ := oif_some h
      obtain ⟨n18, en18, h⟩ := obind_some h
      obtain ⟨g19, h⟩ := oif_some h
      obtain ⟨g20, h⟩ := oif_some h
      obtain ⟨n21, en21, h⟩ := obind_some h
      obtain ⟨v22, -, h⟩ := elet_some h
      obtain ⟨g23, h⟩ := oif_some h
      obtain ⟨g24, h⟩ := oif_some h
      obtain ⟨T25, eT25, h⟩ := elet_some h
      have p1 : GL T T25 := GL.tr p0 (by rw [eT25]; exact gl_sp sp_uJ)
      obtain ⟨g26, h⟩ := oif_some h
      obtain ⟨n27, en27, h⟩ := obind_some h
      obtain ⟨v28, -, h⟩ := elet_some h
      obtain ⟨g29, h⟩ := oif_some h
      obtain ⟨g30, h⟩ := oif_some h
      obtain ⟨n31, en31, h⟩ := obind_some h
      obtain ⟨g32, h⟩ := oif_some h
      obtain ⟨g33, h⟩ := oif_some h
      obtain ⟨v34, -, h⟩ := elet_some h
      obtain ⟨v35, -, h⟩ := elet_some h
      obtain ⟨v36, -, h⟩ := elet_some h
      obtain ⟨g37, h⟩ := oif_some h
      obtain ⟨g38, h⟩ := oif_some h
      obtain ⟨T39, eT39, h⟩ := elet_some h
      have p2 : GL T T39 := GL.tr p1 (by rw [eT39]; exact gl_sp sp_uJ)
      obtain ⟨v40, ev40, h⟩ := elet_some h
      exact GL.tr p2 (ih _ _ _ _ h)
set_option maxHeartbeats 4000000 in
set_option maxRecDepth 100000 in
theorem s_X10_settle {T : AT} {o : Nat} {a0 : Int32} {T1 : AT} (h : g_X10_settle T o a0 = some T1) : GL T T1 := by
  have p0 := GL.rf T
  unfold g_X10_settle at h
  exact GL.tr p0 (s_X10_settle_b2 _ _ _ _ _ h)
set_option maxHeartbeats 4000000 in
set_option maxRecDepth 100000 in
theorem a_X10_settle_b99 {p : Program} {l : Launch} {e : Env} {s : State} {m : MethodId} {args : Array Value} {below : List Frame} {meth : Method} {c : Code} {Q : State → Prop} {D : va_G} {A : Nat → Prop} {cI cJ cZ cMic cSrc cSt cAI cAJ : ClassId} {ad0 : Nat → Nat} {T0 : AT} {T1 : AT} (E : cE p c cX10_settle s m args (Cond.code yX10_settle cX10_settle 5 none :: wsA) D RX10 (CT cI cJ cZ cMic cSrc cSt cAI cAJ)) (hA : ∀ q : Nat, s.heap.size ≤ q → A q) (hX : xT A s) (hN : nX s) (hml : c.maxLocals = 5) (hst : l.stackTraces = false) (kr99 : ∀ (ad : Nat → Nat) (H : Heap) (locs : List Loc) (ls : Array Slot), (∀ n, n < T0.1 → ad n = ad0 n) → gC cI cJ cZ cMic cSrc cSt cAI cAJ D ad A s.heap H locs T1 → W p l e { frames := 2, cells := T1.1 - T0.1, slots := sg T1 - sg T0, locals := 25 } s m args below meth c H locs (T1.1 - T0.1) (sg T1 - sg T0) Q (F0 m 99 ls [])) : ∀ (T : AT) (ad : Nat → Nat) (H : Heap) (locs : List Loc) (ls : Array Slot), g_X10_settle_b99 T = some T1 → GL T0 T → RC T → (∀ n, n < T0.1 → ad n = ad0 n) → gC cI cJ cZ cMic cSrc cSt cAI cAJ D ad A s.heap H locs T → lv_has ls 5 [] → W p l e { frames := 2, cells := T1.1 - T0.1, slots := sg T1 - sg T0, locals := 25 } s m args below meth c H locs (T.1 - T0.1) (sg T - sg T0) Q (F0 m 99 ls []) := by
  have hx := E.1
  have hb := E.2.1
  have hts := E.2.2.1
  have hown := E.2.2.2.1
  have hK := E.2.2.2.2
  intro T ad H locs ls h hgl hrc had G hl
  have hT1 := s_X10_settle_b99 _ h
  have hcs := cs_ok hgl hT1
  have cp0 := cpr0 hrc
  unfold g_X10_settle_b99 at h
  rw [osome1 h] at G
  refine w_cast (c2 := T1.1 - T0.1) (s2 := sg T1 - sg T0) (by rw [← osome1 h, cp0.1] <;> rfl) (by rw [← osome1 h, sg_cpr cp0] <;> rfl) ?_
  exact kr99 ad _ _ _ had G
set_option maxHeartbeats 4000000 in
set_option maxRecDepth 100000 in
theorem a_X10_settle_b93 {p : Program} {l : Launch} {e : Env} {s : State} {m : MethodId} {args : Array Value} {below : List Frame} {meth : Method} {c : Code} {Q : State → Prop} {D : va_G} {A : Nat → Prop} {cI cJ cZ cMic cSrc cSt cAI cAJ : ClassId} {ad0 : Nat → Nat} {T0 : AT} {T1 : AT} (E : cE p c cX10_settle s m args (Cond.code yX10_settle cX10_settle 5 none :: wsA) D RX10 (CT cI cJ cZ cMic cSrc cSt cAI cAJ)) (hA : ∀ q : Nat, s.heap.size ≤ q → A q) (hX : xT A s) (hN : nX s) (hml : c.maxLocals = 5) (hst : l.stackTraces = false) (kr99 : ∀ (ad : Nat → Nat) (H : Heap) (locs : List Loc) (ls : Array Slot), (∀ n, n < T0.1 → ad n = ad0 n) → gC cI cJ cZ cMic cSrc cSt cAI cAJ D ad A s.heap H locs T1 → W p l e { frames := 2, cells := T1.1 - T0.1, slots := sg T1 - sg T0, locals := 25 } s m args below meth c H locs (T1.1 - T0.1) (sg T1 - sg T0) Q (F0 m 99 ls [])) {k64 : AT → Nat → Int32 → Int32 → Option (AT)} (hs64 : ∀ (T : AT) (l0 : Nat) (l1 : Int32) (l2 : Int32), k64 T l0 l1 l2 = some T1 → GL T T1) (hk64 : ∀ (T : AT) (ad : Nat → Nat) (H : Heap) (locs : List Loc) (ls : Array Slot) (l0 : Nat) (l1 : Int32) (l2 : Int32), k64 T l0 l1 l2 = some T1 → GL T0 T → RC T → (∀ n, n < T0.1 → ad n = ad0 n) → l0 < T.1 → gC cI cJ cZ cMic cSrc cSt cAI cAJ D ad A s.heap H locs T → lv_has ls 5 [(0, .ref (ad l0)), (1, .int l1), (2, .int l2)] → W p l e { frames := 2, cells := T1.1 - T0.1, slots := sg T1 - sg T0, locals := 25 } s m args below meth c H locs (T.1 - T0.1) (sg T - sg T0) Q (F0 m 64 ls [])) : ∀ (T : AT) (ad : Nat → Nat) (H : Heap) (locs : List Loc) (ls : Array Slot) (l0 : Nat) (l1 : Int32) (l2 : Int32), g_X10_settle_b93 k64 T l0 l1 l2 = some T1 → GL T0 T → RC T → (∀ n, n < T0.1 → ad n = ad0 n) → l0 < T.1 → gC cI cJ cZ cMic cSrc cSt cAI cAJ D ad A s.heap H locs T → lv_has ls 5 [(0, .ref (ad l0)), (1, .int l1), (2, .int l2)] → W p l e { frames := 2, cells := T1.1 - T0.1, slots := sg T1 - sg T0, locals := 25 } s m args below meth c H locs (T.1 - T0.1) (sg T - sg T0) Q (F0 m 93 ls []) := by
  have hx := E.1
  have hb := E.2.1
  have hts := E.2.2.1
  have hown := E.2.2.2.1
  have hK := E.2.2.2.2
  intro T ad H locs ls l0 l1 l2 h hgl hrc had h_l0 G hl
  have hT1 := s_X10_settle_b93 hs64 _ _ _ _ h
  have hcs := cs_ok hgl hT1
  have cp0 := cpr0 hrc
  unfold g_X10_settle_b93 at h
  obtain ⟨v2, ev2, h⟩ := elet_some h
  refine lv_iinc (v := v2) (lv' := [(2, .int v2), (0, .ref (ad l0)), (1, .int l1)]) hx hb dX10_settle_93 hl (k := 2) rfl ev2.symm (by decide) rfl (fun ls hl => ?_)
  refine lv_goto (tgt := 64) hx hb dX10_settle_96 (by decide) ?_
  have hl := lv_sub hl [1, 2, 0] rfl
  refine w_cast (c2 := T.1 - T0.1) (s2 := sg T - sg T0) (by rw [cp0.1] <;> rfl) (by rw [sg_cpr cp0] <;> rfl) ?_
  exact hk64 _ _ _ _ _ _ _ _ h (gl_cpr hgl cp0) cp0.2.2 had (by rw [cp0.1]; exact h_l0) G hl
set_option maxHeartbeats 4000000 in
set_option maxRecDepth 100000 in
theorem a_X10_settle_b64 {p : Program} {l : Launch} {e : Env} {s : State} {m : MethodId} {args : Array Value} {below : List Frame} {meth : Method} {c : Code} {Q : State → Prop} {D : va_G} {A : Nat → Prop} {cI cJ cZ cMic cSrc cSt cAI cAJ : ClassId} {ad0 : Nat → Nat} {T0 : AT} {T1 : AT} (E : cE p c cX10_settle s m args (Cond.code yX10_settle cX10_settle 5 none :: wsA) D RX10 (CT cI cJ cZ cMic cSrc cSt cAI cAJ)) (hA : ∀ q : Nat, s.heap.size ≤ q → A q) (hX : xT A s) (hN : nX s) (hml : c.maxLocals = 5) (hst : l.stackTraces = false) (kr99 : ∀ (ad : Nat → Nat) (H : Heap) (locs : List Loc) (ls : Array Slot), (∀ n, n < T0.1 → ad n = ad0 n) → gC cI cJ cZ cMic cSrc cSt cAI cAJ D ad A s.heap H locs T1 → W p l e { frames := 2, cells := T1.1 - T0.1, slots := sg T1 - sg T0, locals := 25 } s m args below meth c H locs (T1.1 - T0.1) (sg T1 - sg T0) Q (F0 m 99 ls [])) : ∀ n : Nat, ∀ (T : AT) (ad : Nat → Nat) (H : Heap) (locs : List Loc) (ls : Array Slot) (l0 : Nat) (l1 : Int32) (l2 : Int32), g_X10_settle_b64 n T l0 l1 l2 = some T1 → GL T0 T → RC T → (∀ n, n < T0.1 → ad n = ad0 n) → l0 < T.1 → gC cI cJ cZ cMic cSrc cSt cAI cAJ D ad A s.heap H locs T → lv_has ls 5 [(0, .ref (ad l0)), (1, .int l1), (2, .int l2)] → W p l e { frames := 2, cells := T1.1 - T0.1, slots := sg T1 - sg T0, locals := 25 } s m args below meth c H locs (T.1 - T0.1) (sg T - sg T0) Q (F0 m 64 ls []) := by
  have hx := E.1
  have hb := E.2.1
  have hts := E.2.2.1
  have hown := E.2.2.2.1
  have hK := E.2.2.2.2
  intro n
  induction n with
  | zero =>
    intro T ad H locs ls l0 l1 l2 h
    have h : (none : Option (AT)) = some T1 := h
    cases h
  | succ n ih =>
    intro T ad H locs ls l0 l1 l2 h hgl hrc had h_l0 G hl
    have hT1 := s_X10_settle_b64 _ _ _ _ _ h
    have hcs := cs_ok hgl hT1
    have cp0 := cpr0 hrc
    unfold g_X10_settle_b64 at h
    refine lv_iload_n hx hb dX10_settle_64 rfl (lv_at hl 2 rfl) ?_
    refine lv_iconst (v := 1) hx hb dX10_settle_65 (by decide) ?_
    refine lv_iadd hx hb dX10_settle_66 ?_
    refine lv_topi (fun v2 ev2 => ?_)
    have h := elet_at ev2 h
    clear ev2
    refine lv_bipush (v := 40) hx hb dX10_settle_67 (by decide) ?_
    refine lv_icmp_ge (tgt := 99) hx hb dX10_settle_69 (by decide) (fun c3 => ?_) (fun c3 => ?_)
    · have h := oif_pos c3 h
      have hl := lv_sub hl [] rfl
      refine w_cast (c2 := T.1 - T0.1) (s2 := sg T - sg T0) (by rw [cp0.1] <;> rfl) (by rw [sg_cpr cp0] <;> rfl) ?_
      exact a_X10_settle_b99 E hA hX hN hml hst kr99 _ _ _ _ _ h (gl_cpr hgl cp0) cp0.2.2 had G hl
    · have h := oif_neg c3 h
      refine lv_aload_n hx hb dX10_settle_72 rfl (lv_at hl 0 rfl) ?_
      obtain ⟨g4, h⟩ := oif_some h
      obtain ⟨n5, en5, h⟩ := obind_some h
      have h_n5 : n5 < T.1 := by rw [← cp0.1]; exact cp0.2.2 _ _ _ en5
      refine c_get E G l0 1 (v := .ref (ad n5)) (oO_k g4).1 (cc_o10 (oO_k g4).2) rfl (fun w h => .tail _ (iA_12 h)) (by decide) (.tail _ qA_14) rfl (by rw [en5]; rfl) dX10_settle_73 ?_
      clear en5
      refine lv_iload_n hx hb dX10_settle_76 rfl (lv_at hl 2 rfl) ?_
      obtain ⟨g6, h⟩ := oif_some h
      obtain ⟨g7, h⟩ := oif_some h
      obtain ⟨n8, en8, h⟩ := obind_some h
      have h_n8 : n8 < T.1 := by rw [← cp0.1]; exact cp0.2.2 _ _ _ en8
      refine c_alda E G n5 7 (k := l2.toNatClampNeg) (v := .ref (ad n8)) (aA_k g6).1 (cc_a107 (aA_k g6).2.1) rfl (inb_k g7).1 (inb_k g7).2 (aA_k g6).2.2 (by show va_rf ((T.2.2.2.2 n5 l2.toNatClampNeg).map ad) = _; rw [en8]; rfl) dX10_settle_77 ?_
      clear en8
      refine lv_iload_n hx hb dX10_settle_78 rfl (lv_at hl 1 rfl) ?_
      obtain ⟨g9, h⟩ := oif_some h
      obtain ⟨g10, h⟩ := oif_some h
      refine c_lald E G n8 1 (k := l1.toNatClampNeg) (aA_k g9).1 (cc_a101 (aA_k g9).2.1) rfl (inb_k g10).1 (inb_k g10).2 (aA_k g9).2.2 dX10_settle_79 ?_
      refine lv_topl (fun v11 ev11 => ?_)
      have h := elet_at ev11 h
      clear ev11
      obtain ⟨r12, er12, h⟩ := obind_some h
      refine q_sti (As := [.long v11]) (rest := []) ⟨hx, hb, hml, hown, hts⟩ hN (u_X10_isBeyondPart l v11 er12) (cwS 1 hts (gaS qA_94 qA_95 qA_6 qA_96) rfl rfl rfl (by decide +kernel) ⟨Nat.le_of_ble_eq_true rfl, Nat.le_of_ble_eq_true rfl⟩) rfl hl.1 rfl (lv_room (Nat.le_of_ble_eq_true rfl)) dX10_settle_80 hcs (fun q13 hq => ?_)
      refine lv_to hq ?_
      clear hq er12
      refine lv_if_eq (tgt := 99) hx hb dX10_settle_83 (by decide) (fun c14 => ?_) (fun c14 => ?_)
      · have h := oif_pos c14 h
        have hl := lv_sub hl [] rfl
        refine w_cast (c2 := T.1 - T0.1) (s2 := sg T - sg T0) (by rw [cp0.1] <;> rfl) (by rw [sg_cpr cp0] <;> rfl) ?_
        exact a_X10_settle_b99 E hA hX hN hml hst kr99 _ _ _ _ _ h (gl_cpr hgl cp0) cp0.2.2 had G hl
      · have h := oif_neg c14 h
        refine lv_aload_n hx hb dX10_settle_86 rfl (lv_at hl 0 rfl) ?_
        refine lv_iload_n hx hb dX10_settle_87 rfl (lv_at hl 2 rfl) ?_
        refine lv_iconst (v := 2) hx hb dX10_settle_88 (by decide) ?_
        refine lv_iadd hx hb dX10_settle_89 ?_
        refine lv_topi (fun v15 ev15 => ?_)
        have h := elet_at ev15 h
        clear ev15
        obtain ⟨g16, h⟩ := oif_some h
        obtain ⟨T17, eT17, h⟩ := obind_some h
        have hg2 := s_X10_widenTo eT17
        have hrc2 := hg2.2.2 cp0.2.2
        have hT2 := s_X10_settle_b93 (s_X10_settle_b64 n) _ _ _ _ h
        refine q_avv (As := [.int v15]) (rest := []) E G hA hX hN hml (a_X10_widenTo l hst D cI cJ cZ cMic cSrc cSt cAI cAJ ad T l0 v15 eT17 cp0.2.2 (by rw [cp0.1]; exact h_l0)) (cwV 1 hts (gaV qA_98 qA_78 qA_79 qA_6 qA_80) rfl rfl rfl (by decide +kernel) ⟨Nat.le_of_ble_eq_true rfl, Nat.le_of_ble_eq_true rfl⟩) (oO_k g16).1 (cc_o10 (oO_k g16).2) rfl rfl hl.1 rfl (lv_room (Nat.le_of_ble_eq_true rfl)) dX10_settle_90 (cs_av hgl cp0 hg2 hT2) (fun ad2 H locs hga G => ?_)
        refine w_cast (c2 := T17.1 - T0.1) (s2 := sg T17 - sg T0) (cs_f1 hgl cp0 hg2) (cs_f2 hgl cp0 hg2) ?_
        have hl := lv_sub hl [0, 1, 2] rfl
        rw [show ad l0 = ad2 l0 from (hga l0 (by rw [cp0.1]; exact h_l0)).symm] at hl
        exact a_X10_settle_b93 E hA hX hN hml hst kr99 (s_X10_settle_b64 n) ih _ _ _ _ _ _ _ _ h (GL.tr (gl_cpr hgl cp0) hg2) hrc2 (fun n hn => (hga n (by rw [cp0.1]; exact Nat.lt_of_lt_of_le hn hgl.1)).trans (had n hn)) (Nat.lt_of_lt_of_le (by rw [cp0.1]; exact h_l0) hg2.1) G hl
set_option maxHeartbeats 4000000 in
set_option maxRecDepth 100000 in
theorem a_X10_settle_b2 {p : Program} {l : Launch} {e : Env} {s : State} {m : MethodId} {args : Array Value} {below : List Frame} {meth : Method} {c : Code} {Q : State → Prop} {D : va_G} {A : Nat → Prop} {cI cJ cZ cMic cSrc cSt cAI cAJ : ClassId} {ad0 : Nat → Nat} {T0 : AT} {T1 : AT} (E : cE p c cX10_settle s m args (Cond.code yX10_settle cX10_settle 5 none :: wsA) D RX10 (CT cI cJ cZ cMic cSrc cSt cAI cAJ)) (hA : ∀ q : Nat, s.heap.size ≤ q → A q) (hX : xT A s) (hN : nX s) (hml : c.maxLocals = 5) (hst : l.stackTraces = false) (kr99 : ∀ (ad : Nat → Nat) (H : Heap) (locs : List Loc) (ls : Array Slot), (∀ n, n < T0.1 → ad n = ad0 n) → gC cI cJ cZ cMic cSrc cSt cAI cAJ D ad A s.heap H locs T1 → W p l e { frames := 2, cells := T1.1 - T0.1, slots := sg T1 - sg T0, locals := 25 } s m args below meth c H locs (T1.1 - T0.1) (sg T1 - sg T0) Q (F0 m 99 ls [])) : ∀ n : Nat, ∀ (T : AT) (ad : Nat → Nat) (H : Heap) (locs : List Loc) (ls : Array Slot) (l0 : Nat) (l1 : Int32) (l2 : Int32), g_X10_settle_b2 n T l0 l1 l2 = some T1 → GL T0 T → RC T → (∀ n, n < T0.1 → ad n = ad0 n) → l0 < T.1 → gC cI cJ cZ cMic cSrc cSt cAI cAJ D ad A s.heap H locs T → lv_has ls 5 [(0, .ref (ad l0)), (1, .int l1), (2, .int l2)] → W p l e { frames := 2, cells := T1.1 - T0.1, slots := sg T1 - sg T0, locals := 25 } s m args below meth c H locs (T.1 - T0.1) (sg T - sg T0) Q (F0 m 2 ls []) := by
  have hx := E.1
  have hb := E.2.1
  have hts := E.2.2.1
  have hown := E.2.2.2.1
  have hK := E.2.2.2.2
  intro n
  induction n with
  | zero =>
    intro T ad H locs ls l0 l1 l2 h
    have h : (none : Option (AT)) = some T1 := h
    cases h
  | succ n ih =>
    intro T ad H locs ls l0 l1 l2 h hgl hrc had h_l0 G hl
    have hT1 := s_X10_settle_b2 _ _ _ _ _ h
    have hcs := cs_ok hgl hT1
    have cp0 := cpr0 hrc
    unfold g_X10_settle_b2 at h
    refine lv_iload_n hx hb dX10_settle_2 rfl (lv_at hl 2 rfl) ?_
    refine lv_iconst (v := 1) hx hb dX10_settle_3 (by decide) ?_
    refine lv_iadd hx hb dX10_settle_4 ?_
    refine lv_topi (fun v2 ev2 => ?_)
    have h := elet_at ev2 h
    clear ev2
    refine lv_aload_n hx hb dX10_settle_5 rfl (lv_at hl 0 rfl) ?_
    obtain ⟨g3, h⟩ := oif_some h
    refine c_get E G l0 2 (oO_k g3).1 (cc_o10 (oO_k g3).2) rfl (fun w h => .tail _ (iA_12 h)) (by decide) (.tail _ qA_15) rfl rfl dX10_settle_6 ?_
    refine lv_topi (fun v4 ev4 => ?_)
    have h := elet_at ev4 h
    clear ev4
    refine lv_icmp_ge (tgt := 57) hx hb dX10_settle_9 (by decide) (fun c5 => ?_) (fun c5 => ?_)
    · have h := oif_pos c5 h
      refine lv_aload_n hx hb dX10_settle_57 rfl (lv_at hl 0 rfl) ?_
      obtain ⟨g6, h⟩ := oif_some h
      refine c_get E G l0 2 (oO_k g6).1 (cc_o10 (oO_k g6).2) rfl (fun w h => .tail _ (iA_12 h)) (by decide) (.tail _ qA_15) rfl rfl dX10_settle_58 ?_
      refine lv_topi (fun v7 ev7 => ?_)
      have h := elet_at ev7 h
      clear ev7
      refine lv_iconst (v := 1) hx hb dX10_settle_61 (by decide) ?_
      refine lv_isub hx hb dX10_settle_62 ?_
      refine lv_topi (fun v8 ev8 => ?_)
      have h := elet_at ev8 h
      clear ev8
      refine lv_istore_n (lv' := [(2, .int v8), (0, .ref (ad l0)), (1, .int l1)]) hx hb dX10_settle_63 rfl hl (by decide) rfl (fun ls hl => ?_)
      have hl := lv_sub hl [1, 2, 0] rfl
      refine w_cast (c2 := T.1 - T0.1) (s2 := sg T - sg T0) (by rw [cp0.1] <;> rfl) (by rw [sg_cpr cp0] <;> rfl) ?_
      exact a_X10_settle_b64 E hA hX hN hml hst kr99 _ _ _ _ _ _ _ _ _ h (gl_cpr hgl cp0) cp0.2.2 had (by rw [cp0.1]; exact h_l0) G hl
    · have h := oif_neg c5 h
      refine lv_aload_n hx hb dX10_settle_12 rfl (lv_at hl 0 rfl) ?_
      obtain ⟨g9, h⟩ := oif_some h
      obtain ⟨n10, en10, h⟩ := obind_some h
      have h_n10 : n10 < T.1 := by rw [← cp0.1]; exact cp0.2.2 _ _ _ en10
      refine c_get E G l0 1 (v := .ref (ad n10)) (oO_k g9).1 (cc_o10 (oO_k g9).2) rfl (fun w h => .tail _ (iA_12 h)) (by decide) (.tail _ qA_14) rfl (by rw [en10]; rfl) dX10_settle_13 ?_
      clear en10
      refine lv_iload_n hx hb dX10_settle_16 rfl (lv_at hl 2 rfl) ?_
      obtain ⟨g11, h⟩ := oif_some h
      obtain ⟨g12, h⟩ := oif_some h
      obtain ⟨n13, en13, h⟩ := obind_some h
      have h_n13 : n13 < T.1 := by rw [← cp0.1]; exact cp0.2.2 _ _ _ en13
      refine c_alda E G n10 7 (k := l2.toNatClampNeg) (v := .ref (ad n13)) (aA_k g11).1 (cc_a107 (aA_k g11).2.1) rfl (inb_k g12).1 (inb_k g12).2 (aA_k g11).2.2 (by show va_rf ((T.2.2.2.2 n10 l2.toNatClampNeg).map ad) = _; rw [en13]; rfl) dX10_settle_17 ?_
      clear en13
      refine lv_iload_n hx hb dX10_settle_18 rfl (lv_at hl 1 rfl) ?_
      obtain ⟨g14, h⟩ := oif_some h
      obtain ⟨g15, h⟩ := oif_some h
      refine c_lald E G n13 1 (k := l1.toNatClampNeg) (aA_k g14).1 (cc_a101 (aA_k g14).2.1) rfl (inb_k g15).1 (inb_k g15).2 (aA_k g14).2.2 dX10_settle_19 ?_
      refine lv_topl (fun v16 ev16 => ?_)
      have h := elet_at ev16 h
      clear ev16
      refine lv_lstore_n (lv' := [(3, .long v16), (0, .ref (ad l0)), (1, .int l1), (2, .int l2)]) hx hb dX10_settle_20 rfl hl (by decide) rfl (fun ls hl => ?_)
      refine lv_aload_n hx hb dX10_settle_21 rfl (lv_at hl 1 rfl) ?_
      obtain ⟨g17, h⟩ := oif_some h
      obtain ⟨n18, en18, h⟩ := obind_some h
      have h_n18 : n18 < T.1 := by rw [← cp0.1]; exact cp0.2.2 _ _ _ en18
      refine c_get E G l0 1 (v := .ref (ad n18)) (oO_k g17).1 (cc_o10 (oO_k g17).2) rfl (fun w h => .tail _ (iA_12 h)) (by decide) (.tail _ qA_14) rfl (by rw [en18]; rfl) dX10_settle_22 ?_
      clear en18
      refine lv_iload_n hx hb dX10_settle_25 rfl (lv_at hl 3 rfl) ?_
      obtain ⟨g19, h⟩ := oif_some h
      obtain ⟨g20, h⟩ := oif_some h
      obtain ⟨n21, en21, h⟩ := obind_some h
      have h_n21 : n21 < T.1 := by rw [← cp0.1]; exact cp0.2.2 _ _ _ en21
      refine c_alda E G n18 7 (k := l2.toNatClampNeg) (v := .ref (ad n21)) (aA_k g19).1 (cc_a107 (aA_k g19).2.1) rfl (inb_k g20).1 (inb_k g20).2 (aA_k g19).2.2 (by show va_rf ((T.2.2.2.2 n18 l2.toNatClampNeg).map ad) = _; rw [en21]; rfl) dX10_settle_26 ?_
      clear en21
      refine lv_iload_n hx hb dX10_settle_27 rfl (lv_at hl 2 rfl) ?_
      refine lv_lload_n hx hb dX10_settle_28 rfl (lv_at hl 0 rfl) ?_
      refine lv_ldc2 (v := 268435455) hx hb hown (hts (.constantLong RX10 59 (268435455)) (.tail _ qA_81)) dX10_settle_29 ?_
      refine lv_land hx hb dX10_settle_32 ?_
      refine lv_topl (fun v22 ev22 => ?_)
      have h := elet_at ev22 h
      clear ev22
      obtain ⟨g23, h⟩ := oif_some h
      obtain ⟨g24, h⟩ := oif_some h
      refine c_last E G n21 1 (k := l1.toNatClampNeg) (v := v22) (aA_k g23).1 (cc_a101 (aA_k g23).2.1) rfl (inb_k g24).1 (inb_k g24).2 (aA_k g23).2.2 dX10_settle_33 (fun H locs G => ?_)
      have G := gC_up_j (f := vp_updL (T.2.2.2.1 n21) l1.toNatClampNeg v22) (ccv_101 (aA_k g23).2.1) G
      obtain ⟨T25, eT25, h⟩ := elet_some h
      have G : gC cI cJ cZ cMic cSrc cSt cAI cAJ D ad A s.heap H locs T25 := by rw [eT25]; exact G
      have cp1 := show CPR T T25 from by rw [eT25]; exact cpr_sp cp0 sp_uJ
      clear eT25
      refine lv_aload_n hx hb dX10_settle_34 rfl (lv_at hl 1 rfl) ?_
      obtain ⟨g26, h⟩ := oif_some h
      obtain ⟨n27, en27, h⟩ := obind_some h
      have h_n27 : n27 < T.1 := by rw [← cp1.1]; exact cp1.2.2 _ _ _ en27
      refine c_get E G l0 1 (v := .ref (ad n27)) (oO_k g26).1 (cc_o10 (oO_k g26).2) rfl (fun w h => .tail _ (iA_12 h)) (by decide) (.tail _ qA_14) rfl (by rw [en27]; rfl) dX10_settle_35 ?_
      clear en27
      refine lv_iload_n hx hb dX10_settle_38 rfl (lv_at hl 3 rfl) ?_
      refine lv_iconst (v := 1) hx hb dX10_settle_39 (by decide) ?_
      refine lv_iadd hx hb dX10_settle_40 ?_
      refine lv_topi (fun v28 ev28 => ?_)
      have h := elet_at ev28 h
      clear ev28
      obtain ⟨g29, h⟩ := oif_some h
      obtain ⟨g30, h⟩ := oif_some h
      obtain ⟨n31, en31, h⟩ := obind_some h
      have h_n31 : n31 < T.1 := by rw [← cp1.1]; exact cp1.2.2 _ _ _ en31
      refine c_alda E G n27 7 (k := v28.toNatClampNeg) (v := .ref (ad n31)) (aA_k g29).1 (cc_a107 (aA_k g29).2.1) rfl (inb_k g30).1 (inb_k g30).2 (aA_k g29).2.2 (by show va_rf ((T25.2.2.2.2 n27 v28.toNatClampNeg).map ad) = _; rw [en31]; rfl) dX10_settle_41 ?_
      clear en31
      refine lv_iload_n hx hb dX10_settle_42 rfl (lv_at hl 2 rfl) ?_
      refine lv_dup2_11 hx hb dX10_settle_43 rfl rfl ?_
      obtain ⟨g32, h⟩ := oif_some h
      obtain ⟨g33, h⟩ := oif_some h
      refine c_lald E G n31 1 (k := l1.toNatClampNeg) (aA_k g32).1 (cc_a101 (aA_k g32).2.1) rfl (inb_k g33).1 (inb_k g33).2 (aA_k g32).2.2 dX10_settle_44 ?_
      refine lv_topl (fun v34 ev34 => ?_)
      have h := elet_at ev34 h
      clear ev34
      refine lv_lload_n hx hb dX10_settle_45 rfl (lv_at hl 0 rfl) ?_
      refine lv_bipush (v := 28) hx hb dX10_settle_46 (by decide) ?_
      refine lv_lshr (v := v16 >>> ((28 : Int32).toInt64 &&& 63)) hx hb dX10_settle_48 rfl ?_
      refine lv_topl (fun v35 ev35 => ?_)
      have h := elet_at ev35 h
      clear ev35
      refine lv_ladd hx hb dX10_settle_49 ?_
      refine lv_topl (fun v36 ev36 => ?_)
      have h := elet_at ev36 h
      clear ev36
      obtain ⟨g37, h⟩ := oif_some h
      obtain ⟨g38, h⟩ := oif_some h
      refine c_last E G n31 1 (k := l1.toNatClampNeg) (v := v36) (aA_k g37).1 (cc_a101 (aA_k g37).2.1) rfl (inb_k g38).1 (inb_k g38).2 (aA_k g37).2.2 dX10_settle_50 (fun H locs G => ?_)
      have G := gC_up_j (f := vp_updL (T25.2.2.2.1 n31) l1.toNatClampNeg v36) (ccv_101 (aA_k g37).2.1) G
      obtain ⟨T39, eT39, h⟩ := elet_some h
      have G : gC cI cJ cZ cMic cSrc cSt cAI cAJ D ad A s.heap H locs T39 := by rw [eT39]; exact G
      have cp2 := show CPR T T39 from by rw [eT39]; exact cpr_sp cp1 sp_uJ
      clear eT39
      obtain ⟨v40, ev40, h⟩ := elet_some h
      refine lv_iinc (v := v40) (lv' := [(2, .int v40), (3, .long v16), (0, .ref (ad l0)), (1, .int l1)]) hx hb dX10_settle_51 hl (k := 3) rfl ev40.symm (by decide) rfl (fun ls hl => ?_)
      refine lv_goto (tgt := 2) hx hb dX10_settle_54 (by decide) ?_
      have hl := lv_sub hl [2, 3, 0] rfl
      refine w_cast (c2 := T39.1 - T0.1) (s2 := sg T39 - sg T0) (by rw [cp2.1] <;> rfl) (by rw [sg_cpr cp2] <;> rfl) ?_
      exact ih _ _ _ _ _ _ _ _ h (gl_cpr hgl cp2) cp2.2.2 had (by rw [cp2.1]; exact h_l0) G hl
set_option maxHeartbeats 4000000 in
set_option maxRecDepth 100000 in
theorem a_X10_settle (l : Launch) (hst : l.stackTraces = false) (D : va_G) (cI cJ cZ cMic cSrc cSt cAI cAJ : ClassId) (ad : Nat → Nat) (T : AT) (o : Nat) (a0 : Int32) {T1 : AT} (h : g_X10_settle T o a0 = some T1) (hrc : RC T) (h_o : o < T.1) : kAv l yX10_settle (Cond.code yX10_settle cX10_settle 5 none :: wsA) 2 25 cI cJ cZ cMic cSrc cSt cAI cAJ D ad T [.ref (ad o), .int a0] T1 := by
  intro sz
  refine Met.ofW (cc := cX10_settle) (maxL := 5) (ret := none) (by decide) rfl ?_
  intro p e s m args below meth c s₁ B hml hv
  obtain ⟨rfl, hsz, hP, hK, hD0, hX, hN⟩ := hv
  have hx := B.exec
  have hb := B.bytes
  have hr := B.returns
  have hts := atoms_spec (ws := (Cond.code yX10_settle cX10_settle 5 none :: wsA)) B.pre
  have hown : s.vm.findClass RX10 = some m.cls := findClass_of_methodNamed B.named
  have hlocks := B.notSynchronized
  subst hsz
  have hD := hD0.self (sz := s.heap.size)
  generalize hAe : va_A (cW ad T.1 (cc cI cJ cZ cMic cSrc cSt cAI cAJ ad T)) s.heap.size = A at hD hX ⊢
  have hA : ∀ q : Nat, s.heap.size ≤ q → A q := fun q h => by rw [← hAe]; exact Or.inr h
  have G : gC cI cJ cZ cMic cSrc cSt cAI cAJ D ad A s.heap s.heap [] T := ⟨hP, hD, va_S.rf⟩
  have E : cE p c cX10_settle s m ([.ref (ad o), .int a0] : List Value).toArray (Cond.code yX10_settle cX10_settle 5 none :: wsA) D RX10 (CT cI cJ cZ cMic cSrc cSt cAI cAJ) := ⟨hx, hb, hts, hown, hK⟩
  have hl := lv_entry ([.ref (ad o), .int a0]) (n := 5) (Nat.le_of_ble_eq_true rfl)
  rw [lg_entry_eq]
  generalize (lg_sl ([.ref (ad o), .int a0]) ++ List.replicate (5 - (lg_sl ([.ref (ad o), .int a0])).length) Slot.unset).toArray = ls at hl ⊢
  have hl : lv_has ls 5 [(0, .ref (ad o)), (1, .int a0)] := hl
  have hgl := GL.rf T
  have had : ∀ n, n < T.1 → ad n = ad n := fun _ _ => rfl
  have hT1 := s_X10_settle h
  have hcs := cs_ok hgl hT1
  refine w_cast (Nat.sub_self T.1).symm (Nat.sub_self (sg T)).symm ?_
  have cp0 := cpr0 hrc
  unfold g_X10_settle at h
  refine lv_iconst (v := 0) hx hb dX10_settle_0 (by decide) ?_
  refine lv_istore_n (lv' := [(2, .int 0), (0, .ref (ad o)), (1, .int a0)]) hx hb dX10_settle_1 rfl hl (by decide) rfl (fun ls hl => ?_)
  have hl := lv_sub hl [1, 2, 0] rfl
  refine w_cast (c2 := T.1 - T.1) (s2 := sg T - sg T) (by rw [cp0.1] <;> rfl) (by rw [sg_cpr cp0] <;> rfl) ?_
  exact a_X10_settle_b2 E hA hX hN hml hst (fun ad H locs ls had G => W.vret hx hb hr (fun t ht hW => ⟨⟨(T1, ad), rfl, ⟨rfl, had⟩, ⟨by rw [ht]; exact G.1, va_K.moved hW.alike hK, G.2.1⟩⟩, G.2.2.F ht⟩) G.2.2.2.2 dX10_settle_99) _ _ _ _ _ _ _ _ _ h (gl_cpr hgl cp0) cp0.2.2 had (by rw [cp0.1]; exact h_o) G hl
def g_J9_floorDiv_f86c9_b27   (l4 : Int64) : Option (Int64) := some l4
set_option maxHeartbeats 4000000 in
set_option maxRecDepth 100000 in
theorem u_J9_floorDiv_f86c9_b27 {p : Program} {l : Launch} {e : Env} {s : State} {m : MethodId} {args : Array Value} {below : List Frame} {meth : Method} {c : Code} {Q : State → Prop} {r1 : Int64}  (E : p.tables.exec = Jvm.exec ∧ c.code = cJ9_floorDiv_f86c9 ∧ (∀ w ∈ (Cond.code yJ9_floorDiv_f86c9 cJ9_floorDiv_f86c9 6 (some .long) :: wsA), w.before args s = true) ∧ s.vm.findClass RJ9 = some m.cls) (hN : nX s) (hml : c.maxLocals = 6) (kr26 : ∀ (ls : Array Slot), W p l e { frames := 1, cells := 0, slots := 0, locals := 0 } s m args below meth c s.heap [] 0 0 Q (F0 m 26 ls [.long r1])) (kr29 : ∀ (ls : Array Slot), W p l e { frames := 1, cells := 0, slots := 0, locals := 0 } s m args below meth c s.heap [] 0 0 Q (F0 m 29 ls [.long r1])) : ∀ (ls : Array Slot) (l4 : Int64), g_J9_floorDiv_f86c9_b27 l4 = some r1 → lv_has ls 6 [(4, .long l4)] → W p l e { frames := 1, cells := 0, slots := 0, locals := 0 } s m args below meth c s.heap [] 0 0 Q (F0 m 27 ls []) := by
  have hx := E.1
  have hb := E.2.1
  have hts := E.2.2.1
  have hown := E.2.2.2
  intro ls l4 h hl
  unfold g_J9_floorDiv_f86c9_b27 at h
  refine lv_lload hx hb dJ9_floorDiv_f86c9_27 (lv_at hl 0 rfl) ?_
  refine lv_tol (osome1 h) ?_
  exact kr29 _
def g_J9_floorDiv_f86c9  (a0 : Int64) (a1 : Int64) : Option (Int64) := oif (¬ a1 = 0) <| elet (a0 / a1) fun v3 => elet (a0 ^^^ a1) fun v4 => elet (lg_cmp v4 (0 : Int64)) fun v5 => if 0 ≤ v5 then (g_J9_floorDiv_f86c9_b27 v3) else (elet (v3 * a1) fun v7 => elet (lg_cmp v7 a0) fun v8 => if v8 = 0 then (g_J9_floorDiv_f86c9_b27 v3) else (elet (v3 - (1 : Int64)) fun v10 => some v10))
set_option maxHeartbeats 4000000 in
set_option maxRecDepth 100000 in
theorem u_J9_floorDiv_f86c9 (l : Launch) (a0 : Int64) (a1 : Int64) {r1 : Int64} (h : g_J9_floorDiv_f86c9 a0 a1 = some r1) : Met l yJ9_floorDiv_f86c9 (Cond.code yJ9_floorDiv_f86c9 cJ9_floorDiv_f86c9 6 (some .long) :: wsA) { frames := 1, cells := 0, slots := 0, locals := 0 } (va_Pc [.long a0, .long a1] nX) (vp_Sl (fun r => r = r1)) 0 0 (fun _ => False) := by
  refine met_ofF (cc := cJ9_floorDiv_f86c9) (maxL := 6) (ret := (some .long)) (by decide +kernel) rfl ?_
  intro p e s m args below meth c s₁ B hml hv
  obtain ⟨rfl, hN⟩ := hv
  have hx := B.exec
  have hb := B.bytes
  have hr := B.returns
  have hts := atoms_spec (ws := (Cond.code yJ9_floorDiv_f86c9 cJ9_floorDiv_f86c9 6 (some .long) :: wsA)) B.pre
  have hown : s.vm.findClass RJ9 = some m.cls := findClass_of_methodNamed B.named
  have hlocks := B.notSynchronized
  have E : p.tables.exec = Jvm.exec ∧ c.code = cJ9_floorDiv_f86c9 ∧ (∀ w ∈ (Cond.code yJ9_floorDiv_f86c9 cJ9_floorDiv_f86c9 6 (some .long) :: wsA), w.before ([.long a0, .long a1] : List Value).toArray s = true) ∧ s.vm.findClass RJ9 = some m.cls := ⟨hx, hb, hts, hown⟩
  have hl := lv_entry ([.long a0, .long a1]) (n := 6) (Nat.le_of_ble_eq_true rfl)
  rw [lg_entry_eq]
  generalize (lg_sl ([.long a0, .long a1]) ++ List.replicate (6 - (lg_sl ([.long a0, .long a1])).length) Slot.unset).toArray = ls at hl ⊢
  have hl : lv_has ls 6 [(0, .long a0), (2, .long a1)] := hl
  unfold g_J9_floorDiv_f86c9 at h
  refine lv_lload_n hx hb dJ9_floorDiv_f86c9_0 rfl (lv_at hl 0 rfl) ?_
  refine lv_lload_n hx hb dJ9_floorDiv_f86c9_1 rfl (lv_at hl 1 rfl) ?_
  obtain ⟨g2, h⟩ := oif_some h
  refine lv_ldiv hx hb dJ9_floorDiv_f86c9_2 g2 ?_
  refine lv_topl (fun v3 ev3 => ?_)
  have h := elet_at ev3 h
  clear ev3
  refine lv_lstore (lv' := [(4, .long v3), (0, .long a0), (2, .long a1)]) hx hb dJ9_floorDiv_f86c9_3 hl (by decide) rfl (fun ls hl => ?_)
  refine lv_lload_n hx hb dJ9_floorDiv_f86c9_5 rfl (lv_at hl 1 rfl) ?_
  refine lv_lload_n hx hb dJ9_floorDiv_f86c9_6 rfl (lv_at hl 2 rfl) ?_
  refine lv_lxor hx hb dJ9_floorDiv_f86c9_7 ?_
  refine lv_topl (fun v4 ev4 => ?_)
  have h := elet_at ev4 h
  clear ev4
  refine lv_lconst (v := 0) hx hb dJ9_floorDiv_f86c9_8 (by decide) ?_
  refine W.lcmp hx hb dJ9_floorDiv_f86c9_9 ?_
  refine lv_topi (fun v5 ev5 => ?_)
  have h := elet_at ev5 h
  clear ev5
  refine lv_if_ge (tgt := 27) hx hb dJ9_floorDiv_f86c9_10 (by decide) (fun c6 => ?_) (fun c6 => ?_)
  · have h := oif_pos c6 h
    have hl := lv_sub hl [0] rfl
    exact u_J9_floorDiv_f86c9_b27 E hN hml (fun ls => W.lret (v := r1) hx hb hr (fun t ht hW => ⟨r1, rfl, rfl, ht⟩) (fun _ h => absurd h List.not_mem_nil) dJ9_floorDiv_f86c9_26) (fun ls => W.lret (v := r1) hx hb hr (fun t ht hW => ⟨r1, rfl, rfl, ht⟩) (fun _ h => absurd h List.not_mem_nil) dJ9_floorDiv_f86c9_29) _ _ h hl
  · have h := oif_neg c6 h
    refine lv_lload hx hb dJ9_floorDiv_f86c9_13 (lv_at hl 0 rfl) ?_
    refine lv_lload_n hx hb dJ9_floorDiv_f86c9_15 rfl (lv_at hl 2 rfl) ?_
    refine lv_lmul hx hb dJ9_floorDiv_f86c9_16 ?_
    refine lv_topl (fun v7 ev7 => ?_)
    have h := elet_at ev7 h
    clear ev7
    refine lv_lload_n hx hb dJ9_floorDiv_f86c9_17 rfl (lv_at hl 1 rfl) ?_
    refine W.lcmp hx hb dJ9_floorDiv_f86c9_18 ?_
    refine lv_topi (fun v8 ev8 => ?_)
    have h := elet_at ev8 h
    clear ev8
    refine lv_if_eq (tgt := 27) hx hb dJ9_floorDiv_f86c9_19 (by decide) (fun c9 => ?_) (fun c9 => ?_)
    · have h := oif_pos c9 h
      have hl := lv_sub hl [0] rfl
      exact u_J9_floorDiv_f86c9_b27 E hN hml (fun ls => W.lret (v := r1) hx hb hr (fun t ht hW => ⟨r1, rfl, rfl, ht⟩) (fun _ h => absurd h List.not_mem_nil) dJ9_floorDiv_f86c9_26) (fun ls => W.lret (v := r1) hx hb hr (fun t ht hW => ⟨r1, rfl, rfl, ht⟩) (fun _ h => absurd h List.not_mem_nil) dJ9_floorDiv_f86c9_29) _ _ h hl
    · have h := oif_neg c9 h
      refine lv_lload hx hb dJ9_floorDiv_f86c9_22 (lv_at hl 0 rfl) ?_
      refine lv_lconst (v := 1) hx hb dJ9_floorDiv_f86c9_24 (by decide) ?_
      refine lv_lsub hx hb dJ9_floorDiv_f86c9_25 ?_
      refine lv_topl (fun v10 ev10 => ?_)
      have h := elet_at ev10 h
      clear ev10
      exact W.lret (v := v10) hx hb hr (fun t ht hW => ⟨v10, rfl, osome1 h, ht⟩) (fun _ h => absurd h List.not_mem_nil) dJ9_floorDiv_f86c9_26
def g_J9_floorMod_f86c9_b25   (l4 : Int64) : Option (Int64) := some l4
set_option maxHeartbeats 4000000 in
set_option maxRecDepth 100000 in
theorem u_J9_floorMod_f86c9_b25 {p : Program} {l : Launch} {e : Env} {s : State} {m : MethodId} {args : Array Value} {below : List Frame} {meth : Method} {c : Code} {Q : State → Prop} {r1 : Int64}  (E : p.tables.exec = Jvm.exec ∧ c.code = cJ9_floorMod_f86c9 ∧ (∀ w ∈ (Cond.code yJ9_floorMod_f86c9 cJ9_floorMod_f86c9 6 (some .long) :: wsA), w.before args s = true) ∧ s.vm.findClass RJ9 = some m.cls) (hN : nX s) (hml : c.maxLocals = 6) (kr24 : ∀ (ls : Array Slot), W p l e { frames := 1, cells := 0, slots := 0, locals := 0 } s m args below meth c s.heap [] 0 0 Q (F0 m 24 ls [.long r1])) (kr27 : ∀ (ls : Array Slot), W p l e { frames := 1, cells := 0, slots := 0, locals := 0 } s m args below meth c s.heap [] 0 0 Q (F0 m 27 ls [.long r1])) : ∀ (ls : Array Slot) (l4 : Int64), g_J9_floorMod_f86c9_b25 l4 = some r1 → lv_has ls 6 [(4, .long l4)] → W p l e { frames := 1, cells := 0, slots := 0, locals := 0 } s m args below meth c s.heap [] 0 0 Q (F0 m 25 ls []) := by
  have hx := E.1
  have hb := E.2.1
  have hts := E.2.2.1
  have hown := E.2.2.2
  intro ls l4 h hl
  unfold g_J9_floorMod_f86c9_b25 at h
  refine lv_lload hx hb dJ9_floorMod_f86c9_25 (lv_at hl 0 rfl) ?_
  refine lv_tol (osome1 h) ?_
  exact kr27 _
def g_J9_floorMod_f86c9  (a0 : Int64) (a1 : Int64) : Option (Int64) := oif (¬ a1 = 0) <| elet (a0 - a0 / a1 * a1) fun v3 => elet (a0 ^^^ a1) fun v4 => elet (lg_cmp v4 (0 : Int64)) fun v5 => if 0 ≤ v5 then (g_J9_floorMod_f86c9_b25 v3) else (elet (lg_cmp v3 (0 : Int64)) fun v7 => if v7 = 0 then (g_J9_floorMod_f86c9_b25 v3) else (elet (v3 + a1) fun v9 => some v9))
set_option maxHeartbeats 4000000 in
set_option maxRecDepth 100000 in
theorem u_J9_floorMod_f86c9 (l : Launch) (a0 : Int64) (a1 : Int64) {r1 : Int64} (h : g_J9_floorMod_f86c9 a0 a1 = some r1) : Met l yJ9_floorMod_f86c9 (Cond.code yJ9_floorMod_f86c9 cJ9_floorMod_f86c9 6 (some .long) :: wsA) { frames := 1, cells := 0, slots := 0, locals := 0 } (va_Pc [.long a0, .long a1] nX) (vp_Sl (fun r => r = r1)) 0 0 (fun _ => False) := by
  refine met_ofF (cc := cJ9_floorMod_f86c9) (maxL := 6) (ret := (some .long)) (by decide +kernel) rfl ?_
  intro p e s m args below meth c s₁ B hml hv
  obtain ⟨rfl, hN⟩ := hv
  have hx := B.exec
  have hb := B.bytes
  have hr := B.returns
  have hts := atoms_spec (ws := (Cond.code yJ9_floorMod_f86c9 cJ9_floorMod_f86c9 6 (some .long) :: wsA)) B.pre
  have hown : s.vm.findClass RJ9 = some m.cls := findClass_of_methodNamed B.named
  have hlocks := B.notSynchronized
  have E : p.tables.exec = Jvm.exec ∧ c.code = cJ9_floorMod_f86c9 ∧ (∀ w ∈ (Cond.code yJ9_floorMod_f86c9 cJ9_floorMod_f86c9 6 (some .long) :: wsA), w.before ([.long a0, .long a1] : List Value).toArray s = true) ∧ s.vm.findClass RJ9 = some m.cls := ⟨hx, hb, hts, hown⟩
  have hl := lv_entry ([.long a0, .long a1]) (n := 6) (Nat.le_of_ble_eq_true rfl)
  rw [lg_entry_eq]
  generalize (lg_sl ([.long a0, .long a1]) ++ List.replicate (6 - (lg_sl ([.long a0, .long a1])).length) Slot.unset).toArray = ls at hl ⊢
  have hl : lv_has ls 6 [(0, .long a0), (2, .long a1)] := hl
  unfold g_J9_floorMod_f86c9 at h
  refine lv_lload_n hx hb dJ9_floorMod_f86c9_0 rfl (lv_at hl 0 rfl) ?_
  refine lv_lload_n hx hb dJ9_floorMod_f86c9_1 rfl (lv_at hl 1 rfl) ?_
  obtain ⟨g2, h⟩ := oif_some h
  refine lv_lrem hx hb dJ9_floorMod_f86c9_2 g2 ?_
  refine lv_topl (fun v3 ev3 => ?_)
  have h := elet_at ev3 h
  clear ev3
  refine lv_lstore (lv' := [(4, .long v3), (0, .long a0), (2, .long a1)]) hx hb dJ9_floorMod_f86c9_3 hl (by decide) rfl (fun ls hl => ?_)
  refine lv_lload_n hx hb dJ9_floorMod_f86c9_5 rfl (lv_at hl 1 rfl) ?_
  refine lv_lload_n hx hb dJ9_floorMod_f86c9_6 rfl (lv_at hl 2 rfl) ?_
  refine lv_lxor hx hb dJ9_floorMod_f86c9_7 ?_
  refine lv_topl (fun v4 ev4 => ?_)
  have h := elet_at ev4 h
  clear ev4
  refine lv_lconst (v := 0) hx hb dJ9_floorMod_f86c9_8 (by decide) ?_
  refine W.lcmp hx hb dJ9_floorMod_f86c9_9 ?_
  refine lv_topi (fun v5 ev5 => ?_)
  have h := elet_at ev5 h
  clear ev5
  refine lv_if_ge (tgt := 25) hx hb dJ9_floorMod_f86c9_10 (by decide) (fun c6 => ?_) (fun c6 => ?_)
  · have h := oif_pos c6 h
    have hl := lv_sub hl [0] rfl
    exact u_J9_floorMod_f86c9_b25 E hN hml (fun ls => W.lret (v := r1) hx hb hr (fun t ht hW => ⟨r1, rfl, rfl, ht⟩) (fun _ h => absurd h List.not_mem_nil) dJ9_floorMod_f86c9_24) (fun ls => W.lret (v := r1) hx hb hr (fun t ht hW => ⟨r1, rfl, rfl, ht⟩) (fun _ h => absurd h List.not_mem_nil) dJ9_floorMod_f86c9_27) _ _ h hl
  · have h := oif_neg c6 h
    refine lv_lload hx hb dJ9_floorMod_f86c9_13 (lv_at hl 0 rfl) ?_
    refine lv_lconst (v := 0) hx hb dJ9_floorMod_f86c9_15 (by decide) ?_
    refine W.lcmp hx hb dJ9_floorMod_f86c9_16 ?_
    refine lv_topi (fun v7 ev7 => ?_)
    have h := elet_at ev7 h
    clear ev7
    refine lv_if_eq (tgt := 25) hx hb dJ9_floorMod_f86c9_17 (by decide) (fun c8 => ?_) (fun c8 => ?_)
    · have h := oif_pos c8 h
      have hl := lv_sub hl [0] rfl
      exact u_J9_floorMod_f86c9_b25 E hN hml (fun ls => W.lret (v := r1) hx hb hr (fun t ht hW => ⟨r1, rfl, rfl, ht⟩) (fun _ h => absurd h List.not_mem_nil) dJ9_floorMod_f86c9_24) (fun ls => W.lret (v := r1) hx hb hr (fun t ht hW => ⟨r1, rfl, rfl, ht⟩) (fun _ h => absurd h List.not_mem_nil) dJ9_floorMod_f86c9_27) _ _ h hl
    · have h := oif_neg c8 h
      refine lv_lload hx hb dJ9_floorMod_f86c9_20 (lv_at hl 0 rfl) ?_
      refine lv_lload_n hx hb dJ9_floorMod_f86c9_22 rfl (lv_at hl 2 rfl) ?_
      refine lv_ladd hx hb dJ9_floorMod_f86c9_23 ?_
      refine lv_topl (fun v9 ev9 => ?_)
      have h := elet_at ev9 h
      clear ev9
      exact W.lret (v := v9) hx hb hr (fun t ht hW => ⟨v9, rfl, osome1 h, ht⟩) (fun _ h => absurd h List.not_mem_nil) dJ9_floorMod_f86c9_24
def g_X10_divide_b121  (T : AT)  : Option (AT) := some T
def g_X10_divide_b40  : Nat → AT → Nat → Int32 → Int32 → Int32 → Int64 → Int32 → Option (AT)
  | 0, _, _, _, _, _, _, _ => none
  | n + 1, T, l0, l1, l2, l3, l4, l6 => if l6 < 0 then (if l3 = 0 then (g_X10_divide_b121 T) else (elet (lg_cmp l4 (0 : Int64)) fun v4 => if v4 ≤ 0 then (g_X10_divide_b121 T) else (oif (oO T l0 10 = true) <| obind (T.2.2.2.2 l0 1) fun n7 => oif (aA T n7 107 = true) <| oif (inb 0 (T.2.1 n7).2 = true) <| obind (T.2.2.2.2 n7 (0 : Int32).toNatClampNeg) fun n10 => oif (aA T n10 101 = true) <| oif (inb l1 (T.2.1 n10).2 = true) <| elet (T.2.2.2.1 n10 l1.toNatClampNeg) fun v13 => elet (v13 + (1 : Int64)) fun v14 => oif (aA T n10 101 = true) <| oif (inb l1 (T.2.1 n10).2 = true) <| elet (uJ T n10 l1.toNatClampNeg v14) fun T17 => oif (oO T17 l0 10 = true) <| obind (g_X10_settle T17 l0 l1) fun T19 => g_X10_divide_b121 T19))) else (elet (l4 <<< ((28 : Int32).toInt64 &&& 63)) fun v21 => oif (oO T l0 10 = true) <| obind (T.2.2.2.2 l0 1) fun n23 => oif (aA T n23 107 = true) <| oif (inb l6 (T.2.1 n23).2 = true) <| obind (T.2.2.2.2 n23 l6.toNatClampNeg) fun n26 => oif (aA T n26 101 = true) <| oif (inb l1 (T.2.1 n26).2 = true) <| elet (T.2.2.2.1 n26 l1.toNatClampNeg) fun v29 => elet (v21 + v29) fun v30 => oif (oO T l0 10 = true) <| obind (T.2.2.2.2 l0 1) fun n32 => oif (aA T n32 107 = true) <| oif (inb l6 (T.2.1 n32).2 = true) <| obind (T.2.2.2.2 n32 l6.toNatClampNeg) fun n35 => elet (l2.toInt64) fun v36 => obind (g_J9_floorDiv_f86c9 v30 v36) fun r37 => oif (aA T n35 101 = true) <| oif (inb l1 (T.2.1 n35).2 = true) <| elet (uJ T n35 l1.toNatClampNeg r37) fun T41 => elet (l2.toInt64) fun v42 => obind (g_J9_floorMod_f86c9 v30 v42) fun r43 => elet (l6 + Int32.ofInt (-1)) fun v45 => g_X10_divide_b40 n T41 l0 l1 l2 l3 r43 v45)
def g_X10_divide_b28  (T : AT) (s0 : Int32) (l0 : Nat) (l1 : Int32) (l2 : Int32) : Option (AT) := oif (oO T l0 10 = true) <| elet (T.2.2.1 l0 2) fun v3 => elet (v3 - 1) fun v4 => g_X10_divide_b40 16384 T l0 l1 l2 s0 (0 : Int64) v4
def g_X10_divide (T : AT) (o : Nat) (a0 : Int32) (a1 : Int32) : Option (AT) := if 0 < a1 then (oif (oO T o 10 = true) <| obind (T.2.2.2.2 o 1) fun n4 => oif (oO T o 10 = true) <| elet (T.2.2.1 o 2) fun v6 => elet (v6 - 1) fun v7 => oif (aA T n4 107 = true) <| oif (inb v7 (T.2.1 n4).2 = true) <| obind (T.2.2.2.2 n4 v7.toNatClampNeg) fun n10 => oif (aA T n10 101 = true) <| oif (inb a0 (T.2.1 n10).2 = true) <| elet (T.2.2.2.1 n10 a0.toNatClampNeg) fun v13 => elet (lg_cmp v13 (0 : Int64)) fun v14 => if 0 ≤ v14 then (g_X10_divide_b28 T 0 o a0 a1) else (g_X10_divide_b28 T 1 o a0 a1)) else (some T)
set_option maxHeartbeats 4000000 in
set_option maxRecDepth 100000 in
theorem s_X10_divide_b121 {T1 : AT} : ∀ (T : AT), g_X10_divide_b121 T = some T1 → GL T T1 := by
  intro T h
  have p0 := GL.rf T
  unfold g_X10_divide_b121 at h
  rw [← osome1 h]
  exact p0
set_option maxHeartbeats 4000000 in
set_option maxRecDepth 100000 in
theorem s_X10_divide_b40 {T1 : AT} : ∀ n : Nat, ∀ (T : AT) (l0 : Nat) (l1 : Int32) (l2 : Int32) (l3 : Int32) (l4 : Int64) (l6 : Int32), g_X10_divide_b40 n T l0 l1 l2 l3 l4 l6 = some T1 → GL T T1 := by
  intro n
  induction n with
  | zero =>
    intro T l0 l1 l2 l3 l4 l6 h
    have h : (none : Option (AT)) = some T1 := h
    cases h
  | succ n ih =>
    intro T l0 l1 l2 l3 l4 l6 h
    have p0 := GL.rf T
    unfold g_X10_divide_b40 at h
    rcases oif_or h with ⟨c2, h⟩ | ⟨c2, h⟩
    · have h := h
      rcases oif_or h with ⟨c3, h⟩ | ⟨c3, h⟩
      · have h := h
        exact GL.tr p0 (s_X10_divide_b121 _ h)
      · have h := h
        obtain ⟨v4, -, h⟩ := elet_some h
        rcases oif_or h with ⟨c5, h⟩ | ⟨c5, h⟩
        · have h := h
          exact GL.tr p0 (s_X10_divide_b121 _ h)
        · have h := h
          obtain ⟨g6, h⟩ := oif_some h
          obtain ⟨n7, en7, h⟩ := obind_some h
          obtain ⟨g8, h⟩ := oif_some h
          obtain ⟨g9, h⟩ := oif_some h
          obtain ⟨n10, en10, h⟩ := obind_some h
          obtain ⟨g11, h⟩ := oif_some h
          obtain ⟨g12, h⟩ := oif_some h
          obtain ⟨v13, -, h⟩ := elet_some h
          obtain ⟨v14, -, h⟩ := elet_some h
          obtain ⟨g15, h⟩ := oif_some h
          obtain ⟨g16, h⟩ := oif_some h
          obtain ⟨T17, eT17, h⟩ := elet_some h
          have p1 : GL T T17 := GL.tr p0 (by rw [eT17]; exact gl_sp sp_uJ)
          obtain ⟨g18, h⟩ := oif_some h
          obtain ⟨T19, eT19, h⟩ := obind_some h
          have p2 : GL T T19 := GL.tr p1 (s_X10_settle eT19)
          exact GL.tr p2 (s_X10_divide_b121 _ h)
    · have h := h
      obtain ⟨v21, -, h⟩ := elet_some h
      obtain ⟨g22, h⟩ := oif_some h
      obtain ⟨n23, en23, h⟩ := obind_some h
      obtain ⟨g24, h⟩ := oif_some h
      obtain ⟨g25, h⟩ := oif_some h
      obtain ⟨n26, en26, h⟩ := obind_some h
      obtain ⟨g27, h⟩ := oif_some h
      obtain ⟨g28, h⟩ := oif_some h
      obtain ⟨v29, -, h⟩ := elet_some h
      obtain ⟨v30, -, h⟩ := elet_some h
      obtain ⟨g31, h⟩ := oif_some h
      obtain ⟨n32, en32, h⟩ := obind_some h
      obtain ⟨g33, h⟩ := oif_some h
      obtain ⟨g34, h⟩ := oif_some h
      obtain ⟨n35, en35, h⟩ := obind_some h
      obtain ⟨v36, -, h⟩ := elet_some h
      obtain ⟨r37, -, h⟩ := obind_some h
      obtain ⟨g38, h⟩ := oif_some h
      obtain ⟨g39, h⟩ := oif_some h
      obtain ⟨T40, eT40, h⟩ := elet_some h
      have p1 : GL T T40 := GL.tr p0 (by rw [eT40]; exact gl_sp sp_uJ)
      obtain ⟨v41, -, h⟩ := elet_some h
      obtain ⟨r42, -, h⟩ := obind_some h
      obtain ⟨v43, ev43, h⟩ := elet_some h
      exact GL.tr p1 (ih _ _ _ _ _ _ _ h)
set_option maxHeartbeats 4000000 in
set_option maxRecDepth 100000 in
theorem s_X10_divide_b28 {T1 : AT} : ∀ (T : AT) (s0 : Int32) (l0 : Nat) (l1 : Int32) (l2 : Int32), g_X10_divide_b28 T s0 l0 l1 l2 = some T1 → GL T T1 := by
  intro T s0 l0 l1 l2 h
  have p0 := GL.rf T
  unfold g_X10_divide_b28 at h
  obtain ⟨g2, h⟩ := oif_some h
  obtain ⟨v3, -, h⟩ := elet_some h
  obtain ⟨v4, -, h⟩ := elet_some h
  exact GL.tr p0 (s_X10_divide_b40 _ _ _ _ _ _ _ _ h)
set_option maxHeartbeats 4000000 in
set_option maxRecDepth 100000 in
theorem s_X10_divide {T : AT} {o : Nat} {a0 : Int32} {a1 : Int32} {T1 : AT} (h : g_X10_divide T o a0 a1 = some T1) : GL T T1 := by
  have p0 := GL.rf T
  unfold g_X10_divide at h
  rcases oif_or h with ⟨c2, h⟩ | ⟨c2, h⟩
  · have h := h
    obtain ⟨g3, h⟩ := oif_some h
    obtain ⟨n4, en4, h⟩ := obind_some h
    obtain ⟨g5, h⟩ := oif_some h
    obtain ⟨v6, -, h⟩ := elet_some h
    obtain ⟨v7, -, h⟩ := elet_some h
    obtain ⟨g8, h⟩ := oif_some h
    obtain ⟨g9, h⟩ := oif_some h
    obtain ⟨n10, en10, h⟩ := obind_some h
    obtain ⟨g11, h⟩ := oif_some h
    obtain ⟨g12, h⟩ := oif_some h
    obtain ⟨v13, -, h⟩ := elet_some h
    obtain ⟨v14, -, h⟩ := elet_some h
    rcases oif_or h with ⟨c15, h⟩ | ⟨c15, h⟩
    · have h := h
      exact GL.tr p0 (s_X10_divide_b28 _ _ _ _ _ h)
    · have h := h
      exact GL.tr p0 (s_X10_divide_b28 _ _ _ _ _ h)
  · have h := h
    rw [← osome1 h]
    exact p0
set_option maxHeartbeats 4000000 in
set_option maxRecDepth 100000 in
theorem a_X10_divide_b121 {p : Program} {l : Launch} {e : Env} {s : State} {m : MethodId} {args : Array Value} {below : List Frame} {meth : Method} {c : Code} {Q : State → Prop} {D : va_G} {A : Nat → Prop} {cI cJ cZ cMic cSrc cSt cAI cAJ : ClassId} {ad0 : Nat → Nat} {T0 : AT} {T1 : AT} (E : cE p c cX10_divide s m args (Cond.code yX10_divide cX10_divide 9 none :: wsA) D RX10 (CT cI cJ cZ cMic cSrc cSt cAI cAJ)) (hA : ∀ q : Nat, s.heap.size ≤ q → A q) (hX : xT A s) (hN : nX s) (hml : c.maxLocals = 9) (hst : l.stackTraces = false) (kr4 : ∀ (ad : Nat → Nat) (H : Heap) (locs : List Loc) (ls : Array Slot), (∀ n, n < T0.1 → ad n = ad0 n) → gC cI cJ cZ cMic cSrc cSt cAI cAJ D ad A s.heap H locs T1 → W p l e { frames := 3, cells := T1.1 - T0.1, slots := sg T1 - sg T0, locals := 49 } s m args below meth c H locs (T1.1 - T0.1) (sg T1 - sg T0) Q (F0 m 4 ls [])) (kr121 : ∀ (ad : Nat → Nat) (H : Heap) (locs : List Loc) (ls : Array Slot), (∀ n, n < T0.1 → ad n = ad0 n) → gC cI cJ cZ cMic cSrc cSt cAI cAJ D ad A s.heap H locs T1 → W p l e { frames := 3, cells := T1.1 - T0.1, slots := sg T1 - sg T0, locals := 49 } s m args below meth c H locs (T1.1 - T0.1) (sg T1 - sg T0) Q (F0 m 121 ls [])) : ∀ (T : AT) (ad : Nat → Nat) (H : Heap) (locs : List Loc) (ls : Array Slot), g_X10_divide_b121 T = some T1 → GL T0 T → RC T → (∀ n, n < T0.1 → ad n = ad0 n) → gC cI cJ cZ cMic cSrc cSt cAI cAJ D ad A s.heap H locs T → lv_has ls 9 [] → W p l e { frames := 3, cells := T1.1 - T0.1, slots := sg T1 - sg T0, locals := 49 } s m args below meth c H locs (T.1 - T0.1) (sg T - sg T0) Q (F0 m 121 ls []) := by
  have hx := E.1
  have hb := E.2.1
  have hts := E.2.2.1
  have hown := E.2.2.2.1
  have hK := E.2.2.2.2
  intro T ad H locs ls h hgl hrc had G hl
  have hT1 := s_X10_divide_b121 _ h
  have hcs := cs_ok hgl hT1
  have cp0 := cpr0 hrc
  unfold g_X10_divide_b121 at h
  rw [osome1 h] at G
  refine w_cast (c2 := T1.1 - T0.1) (s2 := sg T1 - sg T0) (by rw [← osome1 h, cp0.1] <;> rfl) (by rw [← osome1 h, sg_cpr cp0] <;> rfl) ?_
  exact kr121 ad _ _ _ had G
set_option maxHeartbeats 4000000 in
set_option maxRecDepth 100000 in
theorem a_X10_divide_b40 {p : Program} {l : Launch} {e : Env} {s : State} {m : MethodId} {args : Array Value} {below : List Frame} {meth : Method} {c : Code} {Q : State → Prop} {D : va_G} {A : Nat → Prop} {cI cJ cZ cMic cSrc cSt cAI cAJ : ClassId} {ad0 : Nat → Nat} {T0 : AT} {T1 : AT} (E : cE p c cX10_divide s m args (Cond.code yX10_divide cX10_divide 9 none :: wsA) D RX10 (CT cI cJ cZ cMic cSrc cSt cAI cAJ)) (hA : ∀ q : Nat, s.heap.size ≤ q → A q) (hX : xT A s) (hN : nX s) (hml : c.maxLocals = 9) (hst : l.stackTraces = false) (kr4 : ∀ (ad : Nat → Nat) (H : Heap) (locs : List Loc) (ls : Array Slot), (∀ n, n < T0.1 → ad n = ad0 n) → gC cI cJ cZ cMic cSrc cSt cAI cAJ D ad A s.heap H locs T1 → W p l e { frames := 3, cells := T1.1 - T0.1, slots := sg T1 - sg T0, locals := 49 } s m args below meth c H locs (T1.1 - T0.1) (sg T1 - sg T0) Q (F0 m 4 ls [])) (kr121 : ∀ (ad : Nat → Nat) (H : Heap) (locs : List Loc) (ls : Array Slot), (∀ n, n < T0.1 → ad n = ad0 n) → gC cI cJ cZ cMic cSrc cSt cAI cAJ D ad A s.heap H locs T1 → W p l e { frames := 3, cells := T1.1 - T0.1, slots := sg T1 - sg T0, locals := 49 } s m args below meth c H locs (T1.1 - T0.1) (sg T1 - sg T0) Q (F0 m 121 ls [])) : ∀ n : Nat, ∀ (T : AT) (ad : Nat → Nat) (H : Heap) (locs : List Loc) (ls : Array Slot) (l0 : Nat) (l1 : Int32) (l2 : Int32) (l3 : Int32) (l4 : Int64) (l6 : Int32), g_X10_divide_b40 n T l0 l1 l2 l3 l4 l6 = some T1 → GL T0 T → RC T → (∀ n, n < T0.1 → ad n = ad0 n) → l0 < T.1 → gC cI cJ cZ cMic cSrc cSt cAI cAJ D ad A s.heap H locs T → lv_has ls 9 [(0, .ref (ad l0)), (1, .int l1), (2, .int l2), (3, .int l3), (4, .long l4), (6, .int l6)] → W p l e { frames := 3, cells := T1.1 - T0.1, slots := sg T1 - sg T0, locals := 49 } s m args below meth c H locs (T.1 - T0.1) (sg T - sg T0) Q (F0 m 40 ls []) := by
  have hx := E.1
  have hb := E.2.1
  have hts := E.2.2.1
  have hown := E.2.2.2.1
  have hK := E.2.2.2.2
  intro n
  induction n with
  | zero =>
    intro T ad H locs ls l0 l1 l2 l3 l4 l6 h
    have h : (none : Option (AT)) = some T1 := h
    cases h
  | succ n ih =>
    intro T ad H locs ls l0 l1 l2 l3 l4 l6 h hgl hrc had h_l0 G hl
    have hT1 := s_X10_divide_b40 _ _ _ _ _ _ _ _ h
    have hcs := cs_ok hgl hT1
    have cp0 := cpr0 hrc
    unfold g_X10_divide_b40 at h
    refine lv_iload hx hb dX10_divide_40 (lv_at hl 5 rfl) ?_
    refine lv_if_lt (tgt := 93) hx hb dX10_divide_42 (by decide) (fun c2 => ?_) (fun c2 => ?_)
    · have h := oif_pos c2 h
      refine lv_iload_n hx hb dX10_divide_93 rfl (lv_at hl 3 rfl) ?_
      refine lv_if_eq (tgt := 121) hx hb dX10_divide_94 (by decide) (fun c3 => ?_) (fun c3 => ?_)
      · have h := oif_pos c3 h
        have hl := lv_sub hl [] rfl
        refine w_cast (c2 := T.1 - T0.1) (s2 := sg T - sg T0) (by rw [cp0.1] <;> rfl) (by rw [sg_cpr cp0] <;> rfl) ?_
        exact a_X10_divide_b121 E hA hX hN hml hst kr4 kr121 _ _ _ _ _ h (gl_cpr hgl cp0) cp0.2.2 had G hl
      · have h := oif_neg c3 h
        refine lv_lload hx hb dX10_divide_97 (lv_at hl 4 rfl) ?_
        refine lv_lconst (v := 0) hx hb dX10_divide_99 (by decide) ?_
        refine W.lcmp hx hb dX10_divide_100 ?_
        refine lv_topi (fun v4 ev4 => ?_)
        have h := elet_at ev4 h
        clear ev4
        refine lv_if_le (tgt := 121) hx hb dX10_divide_101 (by decide) (fun c5 => ?_) (fun c5 => ?_)
        · have h := oif_pos c5 h
          have hl := lv_sub hl [] rfl
          refine w_cast (c2 := T.1 - T0.1) (s2 := sg T - sg T0) (by rw [cp0.1] <;> rfl) (by rw [sg_cpr cp0] <;> rfl) ?_
          exact a_X10_divide_b121 E hA hX hN hml hst kr4 kr121 _ _ _ _ _ h (gl_cpr hgl cp0) cp0.2.2 had G hl
        · have h := oif_neg c5 h
          refine lv_aload_n hx hb dX10_divide_104 rfl (lv_at hl 0 rfl) ?_
          obtain ⟨g6, h⟩ := oif_some h
          obtain ⟨n7, en7, h⟩ := obind_some h
          have h_n7 : n7 < T.1 := by rw [← cp0.1]; exact cp0.2.2 _ _ _ en7
          refine c_get E G l0 1 (v := .ref (ad n7)) (oO_k g6).1 (cc_o10 (oO_k g6).2) rfl (fun w h => .tail _ (iA_12 h)) (by decide) (.tail _ qA_14) rfl (by rw [en7]; rfl) dX10_divide_105 ?_
          clear en7
          refine lv_iconst (v := 0) hx hb dX10_divide_108 (by decide) ?_
          obtain ⟨g8, h⟩ := oif_some h
          obtain ⟨g9, h⟩ := oif_some h
          obtain ⟨n10, en10, h⟩ := obind_some h
          have h_n10 : n10 < T.1 := by rw [← cp0.1]; exact cp0.2.2 _ _ _ en10
          refine c_alda E G n7 7 (k := (0 : Int32).toNatClampNeg) (v := .ref (ad n10)) (aA_k g8).1 (cc_a107 (aA_k g8).2.1) rfl (inb_k g9).1 (inb_k g9).2 (aA_k g8).2.2 (by show va_rf ((T.2.2.2.2 n7 (0 : Int32).toNatClampNeg).map ad) = _; rw [en10]; rfl) dX10_divide_109 ?_
          clear en10
          refine lv_iload_n hx hb dX10_divide_110 rfl (lv_at hl 1 rfl) ?_
          refine lv_dup2_11 hx hb dX10_divide_111 rfl rfl ?_
          obtain ⟨g11, h⟩ := oif_some h
          obtain ⟨g12, h⟩ := oif_some h
          refine c_lald E G n10 1 (k := l1.toNatClampNeg) (aA_k g11).1 (cc_a101 (aA_k g11).2.1) rfl (inb_k g12).1 (inb_k g12).2 (aA_k g11).2.2 dX10_divide_112 ?_
          refine lv_topl (fun v13 ev13 => ?_)
          have h := elet_at ev13 h
          clear ev13
          refine lv_lconst (v := 1) hx hb dX10_divide_113 (by decide) ?_
          refine lv_ladd hx hb dX10_divide_114 ?_
          refine lv_topl (fun v14 ev14 => ?_)
          have h := elet_at ev14 h
          clear ev14
          obtain ⟨g15, h⟩ := oif_some h
          obtain ⟨g16, h⟩ := oif_some h
          refine c_last E G n10 1 (k := l1.toNatClampNeg) (v := v14) (aA_k g15).1 (cc_a101 (aA_k g15).2.1) rfl (inb_k g16).1 (inb_k g16).2 (aA_k g15).2.2 dX10_divide_115 (fun H locs G => ?_)
          have G := gC_up_j (f := vp_updL (T.2.2.2.1 n10) l1.toNatClampNeg v14) (ccv_101 (aA_k g15).2.1) G
          obtain ⟨T17, eT17, h⟩ := elet_some h
          have G : gC cI cJ cZ cMic cSrc cSt cAI cAJ D ad A s.heap H locs T17 := by rw [eT17]; exact G
          have cp1 := show CPR T T17 from by rw [eT17]; exact cpr_sp cp0 sp_uJ
          clear eT17
          refine lv_aload_n hx hb dX10_divide_116 rfl (lv_at hl 0 rfl) ?_
          refine lv_iload_n hx hb dX10_divide_117 rfl (lv_at hl 1 rfl) ?_
          obtain ⟨g18, h⟩ := oif_some h
          obtain ⟨T19, eT19, h⟩ := obind_some h
          have hg2 := s_X10_settle eT19
          have hrc2 := hg2.2.2 cp1.2.2
          have hT2 := s_X10_divide_b121 _ h
          refine q_avv (As := [.int l1]) (rest := []) E G hA hX hN hml (a_X10_settle l hst D cI cJ cZ cMic cSrc cSt cAI cAJ ad T17 l0 l1 eT19 cp1.2.2 (by rw [cp1.1]; exact h_l0)) (cwV 1 hts (gaV qA_103 qA_91 qA_92 qA_6 qA_93) rfl rfl rfl (by decide +kernel) ⟨Nat.le_of_ble_eq_true rfl, Nat.le_of_ble_eq_true rfl⟩) (oO_k g18).1 (cc_o10 (oO_k g18).2) rfl rfl hl.1 rfl (lv_room (Nat.le_of_ble_eq_true rfl)) dX10_divide_118 (cs_av hgl cp1 hg2 hT2) (fun ad2 H locs hga G => ?_)
          refine w_cast (c2 := T19.1 - T0.1) (s2 := sg T19 - sg T0) (cs_f1 hgl cp1 hg2) (cs_f2 hgl cp1 hg2) ?_
          have hl := lv_sub hl [] rfl
          exact a_X10_divide_b121 E hA hX hN hml hst kr4 kr121 _ _ _ _ _ h (GL.tr (gl_cpr hgl cp1) hg2) hrc2 (fun n hn => (hga n (by rw [cp1.1]; exact Nat.lt_of_lt_of_le hn hgl.1)).trans (had n hn)) G hl
    · have h := oif_neg c2 h
      refine lv_lload hx hb dX10_divide_45 (lv_at hl 4 rfl) ?_
      refine lv_bipush (v := 28) hx hb dX10_divide_47 (by decide) ?_
      refine lv_lshl (v := l4 <<< ((28 : Int32).toInt64 &&& 63)) hx hb dX10_divide_49 rfl ?_
      refine lv_topl (fun v21 ev21 => ?_)
      have h := elet_at ev21 h
      clear ev21
      refine lv_aload_n hx hb dX10_divide_50 rfl (lv_at hl 0 rfl) ?_
      obtain ⟨g22, h⟩ := oif_some h
      obtain ⟨n23, en23, h⟩ := obind_some h
      have h_n23 : n23 < T.1 := by rw [← cp0.1]; exact cp0.2.2 _ _ _ en23
      refine c_get E G l0 1 (v := .ref (ad n23)) (oO_k g22).1 (cc_o10 (oO_k g22).2) rfl (fun w h => .tail _ (iA_12 h)) (by decide) (.tail _ qA_14) rfl (by rw [en23]; rfl) dX10_divide_51 ?_
      clear en23
      refine lv_iload hx hb dX10_divide_54 (lv_at hl 5 rfl) ?_
      obtain ⟨g24, h⟩ := oif_some h
      obtain ⟨g25, h⟩ := oif_some h
      obtain ⟨n26, en26, h⟩ := obind_some h
      have h_n26 : n26 < T.1 := by rw [← cp0.1]; exact cp0.2.2 _ _ _ en26
      refine c_alda E G n23 7 (k := l6.toNatClampNeg) (v := .ref (ad n26)) (aA_k g24).1 (cc_a107 (aA_k g24).2.1) rfl (inb_k g25).1 (inb_k g25).2 (aA_k g24).2.2 (by show va_rf ((T.2.2.2.2 n23 l6.toNatClampNeg).map ad) = _; rw [en26]; rfl) dX10_divide_56 ?_
      clear en26
      refine lv_iload_n hx hb dX10_divide_57 rfl (lv_at hl 1 rfl) ?_
      obtain ⟨g27, h⟩ := oif_some h
      obtain ⟨g28, h⟩ := oif_some h
      refine c_lald E G n26 1 (k := l1.toNatClampNeg) (aA_k g27).1 (cc_a101 (aA_k g27).2.1) rfl (inb_k g28).1 (inb_k g28).2 (aA_k g27).2.2 dX10_divide_58 ?_
      refine lv_topl (fun v29 ev29 => ?_)
      have h := elet_at ev29 h
      clear ev29
      refine lv_ladd hx hb dX10_divide_59 ?_
      refine lv_topl (fun v30 ev30 => ?_)
      have h := elet_at ev30 h
      clear ev30
      refine lv_lstore (lv' := [(7, .long v30), (0, .ref (ad l0)), (1, .int l1), (2, .int l2), (3, .int l3), (4, .long l4), (6, .int l6)]) hx hb dX10_divide_60 hl (by decide) rfl (fun ls hl => ?_)
      refine lv_aload_n hx hb dX10_divide_62 rfl (lv_at hl 1 rfl) ?_
      obtain ⟨g31, h⟩ := oif_some h
      obtain ⟨n32, en32, h⟩ := obind_some h
      have h_n32 : n32 < T.1 := by rw [← cp0.1]; exact cp0.2.2 _ _ _ en32
      refine c_get E G l0 1 (v := .ref (ad n32)) (oO_k g31).1 (cc_o10 (oO_k g31).2) rfl (fun w h => .tail _ (iA_12 h)) (by decide) (.tail _ qA_14) rfl (by rw [en32]; rfl) dX10_divide_63 ?_
      clear en32
      refine lv_iload hx hb dX10_divide_66 (lv_at hl 6 rfl) ?_
      obtain ⟨g33, h⟩ := oif_some h
      obtain ⟨g34, h⟩ := oif_some h
      obtain ⟨n35, en35, h⟩ := obind_some h
      have h_n35 : n35 < T.1 := by rw [← cp0.1]; exact cp0.2.2 _ _ _ en35
      refine c_alda E G n32 7 (k := l6.toNatClampNeg) (v := .ref (ad n35)) (aA_k g33).1 (cc_a107 (aA_k g33).2.1) rfl (inb_k g34).1 (inb_k g34).2 (aA_k g33).2.2 (by show va_rf ((T.2.2.2.2 n32 l6.toNatClampNeg).map ad) = _; rw [en35]; rfl) dX10_divide_68 ?_
      clear en35
      refine lv_iload_n hx hb dX10_divide_69 rfl (lv_at hl 2 rfl) ?_
      refine lv_lload hx hb dX10_divide_70 (lv_at hl 0 rfl) ?_
      refine lv_iload_n hx hb dX10_divide_72 rfl (lv_at hl 3 rfl) ?_
      refine lv_i2l (v := l2.toInt64) hx hb dX10_divide_73 rfl ?_
      refine lv_topl (fun v36 ev36 => ?_)
      have h := elet_at ev36 h
      clear ev36
      obtain ⟨r37, er37, h⟩ := obind_some h
      refine q_stl (As := [.long v30, .long v36]) (rest := [.int l1, .ref (ad n35)]) ⟨hx, hb, hml, hown, hts⟩ hN (u_J9_floorDiv_f86c9 l v30 v36 er37) ⟨callB_of 2 hts (gaC qA_111) rfl rfl rfl (hts _ (.tail _ qA_18)) (hts _ (.tail _ qA_108)) (by decide +kernel) ⟨Nat.le_of_ble_eq_true rfl, Nat.le_of_ble_eq_true rfl⟩, hts _ (.tail _ qA_109)⟩ rfl hl.1 rfl (lv_room (Nat.le_of_ble_eq_true rfl)) dX10_divide_74 hcs (fun q38 hq => ?_)
      refine lv_tol hq ?_
      clear hq er37
      obtain ⟨g39, h⟩ := oif_some h
      obtain ⟨g40, h⟩ := oif_some h
      refine c_last E G n35 1 (k := l1.toNatClampNeg) (v := r37) (aA_k g39).1 (cc_a101 (aA_k g39).2.1) rfl (inb_k g40).1 (inb_k g40).2 (aA_k g39).2.2 dX10_divide_77 (fun H locs G => ?_)
      have G := gC_up_j (f := vp_updL (T.2.2.2.1 n35) l1.toNatClampNeg r37) (ccv_101 (aA_k g39).2.1) G
      obtain ⟨T41, eT41, h⟩ := elet_some h
      have G : gC cI cJ cZ cMic cSrc cSt cAI cAJ D ad A s.heap H locs T41 := by rw [eT41]; exact G
      have cp1 := show CPR T T41 from by rw [eT41]; exact cpr_sp cp0 sp_uJ
      clear eT41
      refine lv_lload hx hb dX10_divide_78 (lv_at hl 0 rfl) ?_
      refine lv_iload_n hx hb dX10_divide_80 rfl (lv_at hl 3 rfl) ?_
      refine lv_i2l (v := l2.toInt64) hx hb dX10_divide_81 rfl ?_
      refine lv_topl (fun v42 ev42 => ?_)
      have h := elet_at ev42 h
      clear ev42
      obtain ⟨r43, er43, h⟩ := obind_some h
      refine q_stl (As := [.long v30, .long v42]) (rest := []) ⟨hx, hb, hml, hown, hts⟩ hN (u_J9_floorMod_f86c9 l v30 v42 er43) ⟨callB_of 2 hts (gaC qA_114) rfl rfl rfl (hts _ (.tail _ qA_18)) (hts _ (.tail _ qA_112)) (by decide +kernel) ⟨Nat.le_of_ble_eq_true rfl, Nat.le_of_ble_eq_true rfl⟩, hts _ (.tail _ qA_113)⟩ rfl hl.1 rfl (lv_room (Nat.le_of_ble_eq_true rfl)) dX10_divide_82 hcs (fun q44 hq => ?_)
      refine lv_tol hq ?_
      clear hq er43
      refine lv_lstore (lv' := [(4, .long r43), (7, .long v30), (0, .ref (ad l0)), (1, .int l1), (2, .int l2), (3, .int l3), (6, .int l6)]) hx hb dX10_divide_85 hl (by decide) rfl (fun ls hl => ?_)
      obtain ⟨v45, ev45, h⟩ := elet_some h
      refine lv_iinc (v := v45) (lv' := [(6, .int v45), (4, .long r43), (7, .long v30), (0, .ref (ad l0)), (1, .int l1), (2, .int l2), (3, .int l3)]) hx hb dX10_divide_87 hl (k := 6) rfl ev45.symm (by decide) rfl (fun ls hl => ?_)
      refine lv_goto (tgt := 40) hx hb dX10_divide_90 (by decide) ?_
      have hl := lv_sub hl [3, 4, 5, 6, 1, 0] rfl
      refine w_cast (c2 := T41.1 - T0.1) (s2 := sg T41 - sg T0) (by rw [cp1.1] <;> rfl) (by rw [sg_cpr cp1] <;> rfl) ?_
      exact ih _ _ _ _ _ _ _ _ _ _ _ h (gl_cpr hgl cp1) cp1.2.2 had (by rw [cp1.1]; exact h_l0) G hl
set_option maxHeartbeats 4000000 in
set_option maxRecDepth 100000 in
theorem a_X10_divide_b28 {p : Program} {l : Launch} {e : Env} {s : State} {m : MethodId} {args : Array Value} {below : List Frame} {meth : Method} {c : Code} {Q : State → Prop} {D : va_G} {A : Nat → Prop} {cI cJ cZ cMic cSrc cSt cAI cAJ : ClassId} {ad0 : Nat → Nat} {T0 : AT} {T1 : AT} (E : cE p c cX10_divide s m args (Cond.code yX10_divide cX10_divide 9 none :: wsA) D RX10 (CT cI cJ cZ cMic cSrc cSt cAI cAJ)) (hA : ∀ q : Nat, s.heap.size ≤ q → A q) (hX : xT A s) (hN : nX s) (hml : c.maxLocals = 9) (hst : l.stackTraces = false) (kr4 : ∀ (ad : Nat → Nat) (H : Heap) (locs : List Loc) (ls : Array Slot), (∀ n, n < T0.1 → ad n = ad0 n) → gC cI cJ cZ cMic cSrc cSt cAI cAJ D ad A s.heap H locs T1 → W p l e { frames := 3, cells := T1.1 - T0.1, slots := sg T1 - sg T0, locals := 49 } s m args below meth c H locs (T1.1 - T0.1) (sg T1 - sg T0) Q (F0 m 4 ls [])) (kr121 : ∀ (ad : Nat → Nat) (H : Heap) (locs : List Loc) (ls : Array Slot), (∀ n, n < T0.1 → ad n = ad0 n) → gC cI cJ cZ cMic cSrc cSt cAI cAJ D ad A s.heap H locs T1 → W p l e { frames := 3, cells := T1.1 - T0.1, slots := sg T1 - sg T0, locals := 49 } s m args below meth c H locs (T1.1 - T0.1) (sg T1 - sg T0) Q (F0 m 121 ls [])) : ∀ (T : AT) (ad : Nat → Nat) (H : Heap) (locs : List Loc) (ls : Array Slot) (s0 : Int32) (l0 : Nat) (l1 : Int32) (l2 : Int32), g_X10_divide_b28 T s0 l0 l1 l2 = some T1 → GL T0 T → RC T → (∀ n, n < T0.1 → ad n = ad0 n) → l0 < T.1 → gC cI cJ cZ cMic cSrc cSt cAI cAJ D ad A s.heap H locs T → lv_has ls 9 [(0, .ref (ad l0)), (1, .int l1), (2, .int l2)] → W p l e { frames := 3, cells := T1.1 - T0.1, slots := sg T1 - sg T0, locals := 49 } s m args below meth c H locs (T.1 - T0.1) (sg T - sg T0) Q (F0 m 28 ls [.int s0]) := by
  have hx := E.1
  have hb := E.2.1
  have hts := E.2.2.1
  have hown := E.2.2.2.1
  have hK := E.2.2.2.2
  intro T ad H locs ls s0 l0 l1 l2 h hgl hrc had h_l0 G hl
  have hT1 := s_X10_divide_b28 _ _ _ _ _ h
  have hcs := cs_ok hgl hT1
  have cp0 := cpr0 hrc
  unfold g_X10_divide_b28 at h
  refine lv_istore_n (lv' := [(3, .int s0), (0, .ref (ad l0)), (1, .int l1), (2, .int l2)]) hx hb dX10_divide_28 rfl hl (by decide) rfl (fun ls hl => ?_)
  refine lv_lconst (v := 0) hx hb dX10_divide_29 (by decide) ?_
  refine lv_lstore (lv' := [(4, .long (0 : Int64)), (3, .int s0), (0, .ref (ad l0)), (1, .int l1), (2, .int l2)]) hx hb dX10_divide_30 hl (by decide) rfl (fun ls hl => ?_)
  refine lv_aload_n hx hb dX10_divide_32 rfl (lv_at hl 2 rfl) ?_
  obtain ⟨g2, h⟩ := oif_some h
  refine c_get E G l0 2 (oO_k g2).1 (cc_o10 (oO_k g2).2) rfl (fun w h => .tail _ (iA_12 h)) (by decide) (.tail _ qA_15) rfl rfl dX10_divide_33 ?_
  refine lv_topi (fun v3 ev3 => ?_)
  have h := elet_at ev3 h
  clear ev3
  refine lv_iconst (v := 1) hx hb dX10_divide_36 (by decide) ?_
  refine lv_isub hx hb dX10_divide_37 ?_
  refine lv_topi (fun v4 ev4 => ?_)
  have h := elet_at ev4 h
  clear ev4
  refine lv_istore (lv' := [(6, .int v4), (4, .long (0 : Int64)), (3, .int s0), (0, .ref (ad l0)), (1, .int l1), (2, .int l2)]) hx hb dX10_divide_38 hl (by decide) rfl (fun ls hl => ?_)
  have hl := lv_sub hl [3, 4, 5, 2, 1, 0] rfl
  refine w_cast (c2 := T.1 - T0.1) (s2 := sg T - sg T0) (by rw [cp0.1] <;> rfl) (by rw [sg_cpr cp0] <;> rfl) ?_
  exact a_X10_divide_b40 E hA hX hN hml hst kr4 kr121 _ _ _ _ _ _ _ _ _ _ _ _ h (gl_cpr hgl cp0) cp0.2.2 had (by rw [cp0.1]; exact h_l0) G hl
set_option maxHeartbeats 4000000 in
set_option maxRecDepth 100000 in
theorem a_X10_divide (l : Launch) (hst : l.stackTraces = false) (D : va_G) (cI cJ cZ cMic cSrc cSt cAI cAJ : ClassId) (ad : Nat → Nat) (T : AT) (o : Nat) (a0 : Int32) (a1 : Int32) {T1 : AT} (h : g_X10_divide T o a0 a1 = some T1) (hrc : RC T) (h_o : o < T.1) : kAv l yX10_divide (Cond.code yX10_divide cX10_divide 9 none :: wsA) 3 49 cI cJ cZ cMic cSrc cSt cAI cAJ D ad T [.ref (ad o), .int a0, .int a1] T1 := by
  intro sz
  refine Met.ofW (cc := cX10_divide) (maxL := 9) (ret := none) (by decide) rfl ?_
  intro p e s m args below meth c s₁ B hml hv
  obtain ⟨rfl, hsz, hP, hK, hD0, hX, hN⟩ := hv
  have hx := B.exec
  have hb := B.bytes
  have hr := B.returns
  have hts := atoms_spec (ws := (Cond.code yX10_divide cX10_divide 9 none :: wsA)) B.pre
  have hown : s.vm.findClass RX10 = some m.cls := findClass_of_methodNamed B.named
  have hlocks := B.notSynchronized
  subst hsz
  have hD := hD0.self (sz := s.heap.size)
  generalize hAe : va_A (cW ad T.1 (cc cI cJ cZ cMic cSrc cSt cAI cAJ ad T)) s.heap.size = A at hD hX ⊢
  have hA : ∀ q : Nat, s.heap.size ≤ q → A q := fun q h => by rw [← hAe]; exact Or.inr h
  have G : gC cI cJ cZ cMic cSrc cSt cAI cAJ D ad A s.heap s.heap [] T := ⟨hP, hD, va_S.rf⟩
  have E : cE p c cX10_divide s m ([.ref (ad o), .int a0, .int a1] : List Value).toArray (Cond.code yX10_divide cX10_divide 9 none :: wsA) D RX10 (CT cI cJ cZ cMic cSrc cSt cAI cAJ) := ⟨hx, hb, hts, hown, hK⟩
  have hl := lv_entry ([.ref (ad o), .int a0, .int a1]) (n := 9) (Nat.le_of_ble_eq_true rfl)
  rw [lg_entry_eq]
  generalize (lg_sl ([.ref (ad o), .int a0, .int a1]) ++ List.replicate (9 - (lg_sl ([.ref (ad o), .int a0, .int a1])).length) Slot.unset).toArray = ls at hl ⊢
  have hl : lv_has ls 9 [(0, .ref (ad o)), (1, .int a0), (2, .int a1)] := hl
  have hgl := GL.rf T
  have had : ∀ n, n < T.1 → ad n = ad n := fun _ _ => rfl
  have hT1 := s_X10_divide h
  have hcs := cs_ok hgl hT1
  refine w_cast (Nat.sub_self T.1).symm (Nat.sub_self (sg T)).symm ?_
  have cp0 := cpr0 hrc
  unfold g_X10_divide at h
  refine lv_iload_n hx hb dX10_divide_0 rfl (lv_at hl 2 rfl) ?_
  refine lv_if_gt (tgt := 5) hx hb dX10_divide_1 (by decide) (fun c2 => ?_) (fun c2 => ?_)
  · have h := oif_pos c2 h
    refine lv_aload_n hx hb dX10_divide_5 rfl (lv_at hl 0 rfl) ?_
    obtain ⟨g3, h⟩ := oif_some h
    obtain ⟨n4, en4, h⟩ := obind_some h
    have h_n4 : n4 < T.1 := by rw [← cp0.1]; exact cp0.2.2 _ _ _ en4
    refine c_get E G o 1 (v := .ref (ad n4)) (oO_k g3).1 (cc_o10 (oO_k g3).2) rfl (fun w h => .tail _ (iA_12 h)) (by decide) (.tail _ qA_14) rfl (by rw [en4]; rfl) dX10_divide_6 ?_
    clear en4
    refine lv_aload_n hx hb dX10_divide_9 rfl (lv_at hl 0 rfl) ?_
    obtain ⟨g5, h⟩ := oif_some h
    refine c_get E G o 2 (oO_k g5).1 (cc_o10 (oO_k g5).2) rfl (fun w h => .tail _ (iA_12 h)) (by decide) (.tail _ qA_15) rfl rfl dX10_divide_10 ?_
    refine lv_topi (fun v6 ev6 => ?_)
    have h := elet_at ev6 h
    clear ev6
    refine lv_iconst (v := 1) hx hb dX10_divide_13 (by decide) ?_
    refine lv_isub hx hb dX10_divide_14 ?_
    refine lv_topi (fun v7 ev7 => ?_)
    have h := elet_at ev7 h
    clear ev7
    obtain ⟨g8, h⟩ := oif_some h
    obtain ⟨g9, h⟩ := oif_some h
    obtain ⟨n10, en10, h⟩ := obind_some h
    have h_n10 : n10 < T.1 := by rw [← cp0.1]; exact cp0.2.2 _ _ _ en10
    refine c_alda E G n4 7 (k := v7.toNatClampNeg) (v := .ref (ad n10)) (aA_k g8).1 (cc_a107 (aA_k g8).2.1) rfl (inb_k g9).1 (inb_k g9).2 (aA_k g8).2.2 (by show va_rf ((T.2.2.2.2 n4 v7.toNatClampNeg).map ad) = _; rw [en10]; rfl) dX10_divide_15 ?_
    clear en10
    refine lv_iload_n hx hb dX10_divide_16 rfl (lv_at hl 1 rfl) ?_
    obtain ⟨g11, h⟩ := oif_some h
    obtain ⟨g12, h⟩ := oif_some h
    refine c_lald E G n10 1 (k := a0.toNatClampNeg) (aA_k g11).1 (cc_a101 (aA_k g11).2.1) rfl (inb_k g12).1 (inb_k g12).2 (aA_k g11).2.2 dX10_divide_17 ?_
    refine lv_topl (fun v13 ev13 => ?_)
    have h := elet_at ev13 h
    clear ev13
    refine lv_lconst (v := 0) hx hb dX10_divide_18 (by decide) ?_
    refine W.lcmp hx hb dX10_divide_19 ?_
    refine lv_topi (fun v14 ev14 => ?_)
    have h := elet_at ev14 h
    clear ev14
    refine lv_if_ge (tgt := 27) hx hb dX10_divide_20 (by decide) (fun c15 => ?_) (fun c15 => ?_)
    · have h := oif_pos c15 h
      refine lv_iconst (v := 0) hx hb dX10_divide_27 (by decide) ?_
      have hl := lv_sub hl [0, 1, 2] rfl
      refine w_cast (c2 := T.1 - T.1) (s2 := sg T - sg T) (by rw [cp0.1] <;> rfl) (by rw [sg_cpr cp0] <;> rfl) ?_
      exact a_X10_divide_b28 E hA hX hN hml hst (fun ad H locs ls had G => W.vret hx hb hr (fun t ht hW => ⟨⟨(T1, ad), rfl, ⟨rfl, had⟩, ⟨by rw [ht]; exact G.1, va_K.moved hW.alike hK, G.2.1⟩⟩, G.2.2.F ht⟩) G.2.2.2.2 dX10_divide_4) (fun ad H locs ls had G => W.vret hx hb hr (fun t ht hW => ⟨⟨(T1, ad), rfl, ⟨rfl, had⟩, ⟨by rw [ht]; exact G.1, va_K.moved hW.alike hK, G.2.1⟩⟩, G.2.2.F ht⟩) G.2.2.2.2 dX10_divide_121) _ _ _ _ _ _ _ _ _ h (gl_cpr hgl cp0) cp0.2.2 had (by rw [cp0.1]; exact h_o) G hl
    · have h := oif_neg c15 h
      refine lv_iconst (v := 1) hx hb dX10_divide_23 (by decide) ?_
      refine lv_goto (tgt := 28) hx hb dX10_divide_24 (by decide) ?_
      have hl := lv_sub hl [0, 1, 2] rfl
      refine w_cast (c2 := T.1 - T.1) (s2 := sg T - sg T) (by rw [cp0.1] <;> rfl) (by rw [sg_cpr cp0] <;> rfl) ?_
      exact a_X10_divide_b28 E hA hX hN hml hst (fun ad H locs ls had G => W.vret hx hb hr (fun t ht hW => ⟨⟨(T1, ad), rfl, ⟨rfl, had⟩, ⟨by rw [ht]; exact G.1, va_K.moved hW.alike hK, G.2.1⟩⟩, G.2.2.F ht⟩) G.2.2.2.2 dX10_divide_4) (fun ad H locs ls had G => W.vret hx hb hr (fun t ht hW => ⟨⟨(T1, ad), rfl, ⟨rfl, had⟩, ⟨by rw [ht]; exact G.1, va_K.moved hW.alike hK, G.2.1⟩⟩, G.2.2.F ht⟩) G.2.2.2.2 dX10_divide_121) _ _ _ _ _ _ _ _ _ h (gl_cpr hgl cp0) cp0.2.2 had (by rw [cp0.1]; exact h_o) G hl
  · have h := oif_neg c2 h
    rw [osome1 h] at G
    refine w_cast (c2 := T1.1 - T.1) (s2 := sg T1 - sg T) (by rw [← osome1 h, cp0.1] <;> rfl) (by rw [← osome1 h, sg_cpr cp0] <;> rfl) ?_
    exact W.vret hx hb hr (fun t ht hW => ⟨⟨(T1, ad), rfl, ⟨rfl, had⟩, ⟨by rw [ht]; exact G.1, va_K.moved hW.alike hK, G.2.1⟩⟩, G.2.2.F ht⟩) G.2.2.2.2 dX10_divide_4
def g_X8_placeOf  (a0 : Int32) (a1 : Int32) : Option (Int32) := elet (a0 * 200) fun v2 => elet (v2 + a1) fun v3 => some v3
set_option maxHeartbeats 4000000 in
set_option maxRecDepth 100000 in
theorem u_X8_placeOf (l : Launch) (a0 : Int32) (a1 : Int32) {r1 : Int32} (h : g_X8_placeOf a0 a1 = some r1) : Met l yX8_placeOf (Cond.code yX8_placeOf cX8_placeOf 2 (some .int) :: wsA) { frames := 1, cells := 0, slots := 0, locals := 0 } (va_Pc [.int a0, .int a1] nX) (vp_Si (fun r => r = r1)) 0 0 (fun _ => False) := by
  refine Met.ofW (cc := cX8_placeOf) (maxL := 2) (ret := (some .int)) (by decide) rfl ?_
  intro p e s m args below meth c s₁ B hml hv
  obtain ⟨rfl, hN⟩ := hv
  have hx := B.exec
  have hb := B.bytes
  have hr := B.returns
  have hts := atoms_spec (ws := (Cond.code yX8_placeOf cX8_placeOf 2 (some .int) :: wsA)) B.pre
  have hown : s.vm.findClass RX8 = some m.cls := findClass_of_methodNamed B.named
  have hlocks := B.notSynchronized
  have E : p.tables.exec = Jvm.exec ∧ c.code = cX8_placeOf ∧ (∀ w ∈ (Cond.code yX8_placeOf cX8_placeOf 2 (some .int) :: wsA), w.before ([.int a0, .int a1] : List Value).toArray s = true) ∧ s.vm.findClass RX8 = some m.cls := ⟨hx, hb, hts, hown⟩
  have hl := lv_entry ([.int a0, .int a1]) (n := 2) (Nat.le_of_ble_eq_true rfl)
  rw [lg_entry_eq]
  generalize (lg_sl ([.int a0, .int a1]) ++ List.replicate (2 - (lg_sl ([.int a0, .int a1])).length) Slot.unset).toArray = ls at hl ⊢
  have hl : lv_has ls 2 [(0, .int a0), (1, .int a1)] := hl
  unfold g_X8_placeOf at h
  refine lv_iload_n hx hb dX8_placeOf_0 rfl (lv_at hl 0 rfl) ?_
  refine lv_sipush (v := 200) hx hb dX8_placeOf_1 (by decide) ?_
  refine lv_imul hx hb dX8_placeOf_4 ?_
  refine lv_topi (fun v2 ev2 => ?_)
  have h := elet_at ev2 h
  clear ev2
  refine lv_iload_n hx hb dX8_placeOf_5 rfl (lv_at hl 1 rfl) ?_
  refine lv_iadd hx hb dX8_placeOf_6 ?_
  refine lv_topi (fun v3 ev3 => ?_)
  have h := elet_at ev3 h
  clear ev3
  exact W.iret (v := v3) hx hb hr (fun t ht hW => ⟨v3, rfl, osome1 h, ht⟩) (fun _ h => absurd h List.not_mem_nil) dX8_placeOf_7
def g_X8_weighted_b70 (k6 : AT → Nat → Nat → Nat → Int32 → Int64 → Int32 → Option (Int64 × AT)) (T : AT) (l0 : Nat) (l1 : Nat) (l2 : Nat) (l3 : Int32) (l4 : Int64) (l6 : Int32) : Option (Int64 × AT) := elet (l6 + Int32.ofInt (1)) fun v2 => k6 T l0 l1 l2 l3 l4 v2
set_option maxHeartbeats 4000000 in
set_option maxRecDepth 100000 in
theorem u_X8_weighted_b70 {p : Program} {l : Launch} {e : Env} {s : State} {m : MethodId} {args : Array Value} {below : List Frame} {meth : Method} {c : Code} {Q : State → Prop} {D : va_G} {A : Nat → Prop} {cI cJ cZ cMic cSrc cSt cAI cAJ : ClassId} {ad : Nat → Nat} {r1 : Int64} {T1 : AT} (E : cE p c cX8_weighted s m args (Cond.code yX8_weighted cX8_weighted 8 (some .long) :: wsA) D RX8 (CT cI cJ cZ cMic cSrc cSt cAI cAJ)) (hA : ∀ q : Nat, s.heap.size ≤ q → A q) (hX : xT A s) (hN : nX s) (hml : c.maxLocals = 8) (hst : l.stackTraces = false) (kr78 : ∀ (H : Heap) (locs : List Loc) (ls : Array Slot), gC cI cJ cZ cMic cSrc cSt cAI cAJ D ad A s.heap H locs T1 → W p l e { frames := 2, cells := 0, slots := 0, locals := 21 } s m args below meth c H locs 0 0 Q (F0 m 78 ls [.long r1])) {k6 : AT → Nat → Nat → Nat → Int32 → Int64 → Int32 → Option (Int64 × AT)} (hk6 : ∀ (T : AT) (H : Heap) (locs : List Loc) (ls : Array Slot) (l0 : Nat) (l1 : Nat) (l2 : Nat) (l3 : Int32) (l4 : Int64) (l6 : Int32), k6 T l0 l1 l2 l3 l4 l6 = some (r1, T1) → gC cI cJ cZ cMic cSrc cSt cAI cAJ D ad A s.heap H locs T → lv_has ls 8 [(0, .ref (ad l0)), (1, .ref (ad l1)), (2, .ref (ad l2)), (3, .int l3), (4, .long l4), (6, .int l6)] → W p l e { frames := 2, cells := 0, slots := 0, locals := 21 } s m args below meth c H locs 0 0 Q (F0 m 6 ls [])) : ∀ (T : AT) (H : Heap) (locs : List Loc) (ls : Array Slot) (l0 : Nat) (l1 : Nat) (l2 : Nat) (l3 : Int32) (l4 : Int64) (l6 : Int32), g_X8_weighted_b70 k6 T l0 l1 l2 l3 l4 l6 = some (r1, T1) → gC cI cJ cZ cMic cSrc cSt cAI cAJ D ad A s.heap H locs T → lv_has ls 8 [(0, .ref (ad l0)), (1, .ref (ad l1)), (2, .ref (ad l2)), (3, .int l3), (4, .long l4), (6, .int l6)] → W p l e { frames := 2, cells := 0, slots := 0, locals := 21 } s m args below meth c H locs 0 0 Q (F0 m 70 ls []) := by
  have hx := E.1
  have hb := E.2.1
  have hts := E.2.2.1
  have hown := E.2.2.2.1
  have hK := E.2.2.2.2
  intro T H locs ls l0 l1 l2 l3 l4 l6 h G hl
  unfold g_X8_weighted_b70 at h
  obtain ⟨v2, ev2, h⟩ := elet_some h
  refine lv_iinc (v := v2) (lv' := [(6, .int v2), (0, .ref (ad l0)), (1, .ref (ad l1)), (2, .ref (ad l2)), (3, .int l3), (4, .long l4)]) hx hb dX8_weighted_70 hl (k := 5) rfl ev2.symm (by decide) rfl (fun ls hl => ?_)
  refine lv_goto (tgt := 6) hx hb dX8_weighted_73 (by decide) ?_
  have hl := lv_sub hl [1, 2, 3, 4, 5, 0] rfl
  exact hk6 _ _ _ _ _ _ _ _ _ _ h G hl
def g_X8_weighted_b6  : Nat → AT → Nat → Nat → Nat → Int32 → Int64 → Int32 → Option (Int64 × AT)
  | 0, _, _, _, _, _, _, _ => none
  | n + 1, T, l0, l1, l2, l3, l4, l6 => oif (oO T l0 8 = true) <| elet (T.2.2.1 l0 0) fun v3 => if v3 ≤ l6 then (some (l4, T)) else (oif (aA T l2 100 = true) <| oif (inb l6 (T.2.1 l2).2 = true) <| elet (T.2.2.1 l2 l6.toNatClampNeg) fun v7 => elet (l3 + v7) fun v8 => oif (oO T l0 8 = true) <| obind (T.2.2.2.2 l0 3) fun n10 => oif (aA T n10 102 = true) <| oif (inb l6 (T.2.1 n10).2 = true) <| elet (T.2.2.1 n10 l6.toNatClampNeg) fun v13 => if v13 = 0 then (if v8 < 0 then (g_X8_weighted_b70 (g_X8_weighted_b6 n) T l0 l1 l2 l3 l4 l6) else (oif (oO T l0 8 = true) <| elet (T.2.2.1 l0 1) fun v17 => if v17 ≤ v8 then (g_X8_weighted_b70 (g_X8_weighted_b6 n) T l0 l1 l2 l3 l4 l6) else (oif (oO T l0 8 = true) <| obind (T.2.2.2.2 l0 4) fun n20 => oif (aA T n20 100 = true) <| oif (inb l6 (T.2.1 n20).2 = true) <| elet (T.2.2.1 n20 l6.toNatClampNeg) fun v23 => elet (v23.toInt64) fun v24 => obind (g_X8_placeOf l6 v8) fun r25 => oif (aA T l1 101 = true) <| oif (inb r25 (T.2.1 l1).2 = true) <| elet (T.2.2.2.1 l1 r25.toNatClampNeg) fun v29 => elet (v24 * v29) fun v30 => elet (l4 + v30) fun v31 => g_X8_weighted_b70 (g_X8_weighted_b6 n) T l0 l1 l2 l3 v31 l6))) else (g_X8_weighted_b70 (g_X8_weighted_b6 n) T l0 l1 l2 l3 l4 l6))
set_option maxHeartbeats 4000000 in
set_option maxRecDepth 100000 in
theorem u_X8_weighted_b6 {p : Program} {l : Launch} {e : Env} {s : State} {m : MethodId} {args : Array Value} {below : List Frame} {meth : Method} {c : Code} {Q : State → Prop} {D : va_G} {A : Nat → Prop} {cI cJ cZ cMic cSrc cSt cAI cAJ : ClassId} {ad : Nat → Nat} {r1 : Int64} {T1 : AT} (E : cE p c cX8_weighted s m args (Cond.code yX8_weighted cX8_weighted 8 (some .long) :: wsA) D RX8 (CT cI cJ cZ cMic cSrc cSt cAI cAJ)) (hA : ∀ q : Nat, s.heap.size ≤ q → A q) (hX : xT A s) (hN : nX s) (hml : c.maxLocals = 8) (hst : l.stackTraces = false) (kr78 : ∀ (H : Heap) (locs : List Loc) (ls : Array Slot), gC cI cJ cZ cMic cSrc cSt cAI cAJ D ad A s.heap H locs T1 → W p l e { frames := 2, cells := 0, slots := 0, locals := 21 } s m args below meth c H locs 0 0 Q (F0 m 78 ls [.long r1])) : ∀ n : Nat, ∀ (T : AT) (H : Heap) (locs : List Loc) (ls : Array Slot) (l0 : Nat) (l1 : Nat) (l2 : Nat) (l3 : Int32) (l4 : Int64) (l6 : Int32), g_X8_weighted_b6 n T l0 l1 l2 l3 l4 l6 = some (r1, T1) → gC cI cJ cZ cMic cSrc cSt cAI cAJ D ad A s.heap H locs T → lv_has ls 8 [(0, .ref (ad l0)), (1, .ref (ad l1)), (2, .ref (ad l2)), (3, .int l3), (4, .long l4), (6, .int l6)] → W p l e { frames := 2, cells := 0, slots := 0, locals := 21 } s m args below meth c H locs 0 0 Q (F0 m 6 ls []) := by
  have hx := E.1
  have hb := E.2.1
  have hts := E.2.2.1
  have hown := E.2.2.2.1
  have hK := E.2.2.2.2
  intro n
  induction n with
  | zero =>
    intro T H locs ls l0 l1 l2 l3 l4 l6 h
    have h : (none : Option (Int64 × AT)) = some (r1, T1) := h
    cases h
  | succ n ih =>
    intro T H locs ls l0 l1 l2 l3 l4 l6 h G hl
    unfold g_X8_weighted_b6 at h
    refine lv_iload hx hb dX8_weighted_6 (lv_at hl 5 rfl) ?_
    refine lv_aload_n hx hb dX8_weighted_8 rfl (lv_at hl 0 rfl) ?_
    obtain ⟨g2, h⟩ := oif_some h
    refine c_get E G l0 0 (oO_k g2).1 (cc_o8 (oO_k g2).2) rfl (fun w h => .tail _ (iA_16 h)) (by decide) (.tail _ qA_63) rfl rfl dX8_weighted_9 ?_
    refine lv_topi (fun v3 ev3 => ?_)
    have h := elet_at ev3 h
    clear ev3
    refine lv_icmp_ge (tgt := 76) hx hb dX8_weighted_12 (by decide) (fun c4 => ?_) (fun c4 => ?_)
    · have h := oif_pos c4 h
      refine lv_lload hx hb dX8_weighted_76 (lv_at hl 4 rfl) ?_
      rw [(osome2 h).2] at G
      refine lv_tol (osome2 h).1 ?_
      exact kr78 _ _ _ G
    · have h := oif_neg c4 h
      refine lv_iload_n hx hb dX8_weighted_15 rfl (lv_at hl 3 rfl) ?_
      refine lv_aload_n hx hb dX8_weighted_16 rfl (lv_at hl 2 rfl) ?_
      refine lv_iload hx hb dX8_weighted_17 (lv_at hl 5 rfl) ?_
      obtain ⟨g5, h⟩ := oif_some h
      obtain ⟨g6, h⟩ := oif_some h
      refine c_iald E G l2 0 (k := l6.toNatClampNeg) (aA_k g5).1 (cc_a100 (aA_k g5).2.1) rfl (inb_k g6).1 (inb_k g6).2 (aA_k g5).2.2 dX8_weighted_19 ?_
      refine lv_topi (fun v7 ev7 => ?_)
      have h := elet_at ev7 h
      clear ev7
      refine lv_iadd hx hb dX8_weighted_20 ?_
      refine lv_topi (fun v8 ev8 => ?_)
      have h := elet_at ev8 h
      clear ev8
      refine lv_istore (lv' := [(7, .int v8), (0, .ref (ad l0)), (1, .ref (ad l1)), (2, .ref (ad l2)), (3, .int l3), (4, .long l4), (6, .int l6)]) hx hb dX8_weighted_21 hl (by decide) rfl (fun ls hl => ?_)
      refine lv_aload_n hx hb dX8_weighted_23 rfl (lv_at hl 1 rfl) ?_
      obtain ⟨g9, h⟩ := oif_some h
      obtain ⟨n10, en10, h⟩ := obind_some h
      refine c_get E G l0 3 (v := .ref (ad n10)) (oO_k g9).1 (cc_o8 (oO_k g9).2) rfl (fun w h => .tail _ (iA_16 h)) (by decide) (.tail _ qA_64) rfl (by rw [en10]; rfl) dX8_weighted_24 ?_
      clear en10
      refine lv_iload hx hb dX8_weighted_27 (lv_at hl 6 rfl) ?_
      obtain ⟨g11, h⟩ := oif_some h
      obtain ⟨g12, h⟩ := oif_some h
      refine c_zald E G n10 2 (k := l6.toNatClampNeg) (aA_k g11).1 (cc_a102 (aA_k g11).2.1) rfl (inb_k g12).1 (inb_k g12).2 (aA_k g11).2.2 dX8_weighted_29 ?_
      refine lv_topi (fun v13 ev13 => ?_)
      have h := elet_at ev13 h
      clear ev13
      refine lv_if_ne (tgt := 70) hx hb dX8_weighted_30 (by decide) (fun c14 => ?_) (fun c14 => ?_)
      · have h := oif_neg c14 h
        have hl := lv_sub hl [1, 2, 3, 4, 5, 6] rfl
        exact u_X8_weighted_b70 E hA hX hN hml hst kr78 ih _ _ _ _ _ _ _ _ _ _ h G hl
      · have h := oif_pos c14 h
        refine lv_iload hx hb dX8_weighted_33 (lv_at hl 0 rfl) ?_
        refine lv_if_lt (tgt := 70) hx hb dX8_weighted_35 (by decide) (fun c15 => ?_) (fun c15 => ?_)
        · have h := oif_pos c15 h
          have hl := lv_sub hl [1, 2, 3, 4, 5, 6] rfl
          exact u_X8_weighted_b70 E hA hX hN hml hst kr78 ih _ _ _ _ _ _ _ _ _ _ h G hl
        · have h := oif_neg c15 h
          refine lv_iload hx hb dX8_weighted_38 (lv_at hl 0 rfl) ?_
          refine lv_aload_n hx hb dX8_weighted_40 rfl (lv_at hl 1 rfl) ?_
          obtain ⟨g16, h⟩ := oif_some h
          refine c_get E G l0 1 (oO_k g16).1 (cc_o8 (oO_k g16).2) rfl (fun w h => .tail _ (iA_16 h)) (by decide) (.tail _ qA_57) rfl rfl dX8_weighted_41 ?_
          refine lv_topi (fun v17 ev17 => ?_)
          have h := elet_at ev17 h
          clear ev17
          refine lv_icmp_ge (tgt := 70) hx hb dX8_weighted_44 (by decide) (fun c18 => ?_) (fun c18 => ?_)
          · have h := oif_pos c18 h
            have hl := lv_sub hl [1, 2, 3, 4, 5, 6] rfl
            exact u_X8_weighted_b70 E hA hX hN hml hst kr78 ih _ _ _ _ _ _ _ _ _ _ h G hl
          · have h := oif_neg c18 h
            refine lv_lload hx hb dX8_weighted_47 (lv_at hl 5 rfl) ?_
            refine lv_aload_n hx hb dX8_weighted_49 rfl (lv_at hl 1 rfl) ?_
            obtain ⟨g19, h⟩ := oif_some h
            obtain ⟨n20, en20, h⟩ := obind_some h
            refine c_get E G l0 4 (v := .ref (ad n20)) (oO_k g19).1 (cc_o8 (oO_k g19).2) rfl (fun w h => .tail _ (iA_16 h)) (by decide) (.tail _ qA_86) rfl (by rw [en20]; rfl) dX8_weighted_50 ?_
            clear en20
            refine lv_iload hx hb dX8_weighted_53 (lv_at hl 6 rfl) ?_
            obtain ⟨g21, h⟩ := oif_some h
            obtain ⟨g22, h⟩ := oif_some h
            refine c_iald E G n20 0 (k := l6.toNatClampNeg) (aA_k g21).1 (cc_a100 (aA_k g21).2.1) rfl (inb_k g22).1 (inb_k g22).2 (aA_k g21).2.2 dX8_weighted_55 ?_
            refine lv_topi (fun v23 ev23 => ?_)
            have h := elet_at ev23 h
            clear ev23
            refine lv_i2l (v := v23.toInt64) hx hb dX8_weighted_56 rfl ?_
            refine lv_topl (fun v24 ev24 => ?_)
            have h := elet_at ev24 h
            clear ev24
            refine lv_aload_n hx hb dX8_weighted_57 rfl (lv_at hl 2 rfl) ?_
            refine lv_iload hx hb dX8_weighted_58 (lv_at hl 6 rfl) ?_
            refine lv_iload hx hb dX8_weighted_60 (lv_at hl 0 rfl) ?_
            obtain ⟨r25, er25, h⟩ := obind_some h
            refine q_sti (As := [.int l6, .int v8]) (rest := [.ref (ad l1), .long v24, .long l4]) ⟨hx, hb, hml, hown, hts⟩ hN (u_X8_placeOf l l6 v8 er25) (cwS 2 hts (gaS qA_87 qA_88 qA_47 qA_89) rfl rfl rfl (by decide +kernel) ⟨Nat.le_of_ble_eq_true rfl, Nat.le_of_ble_eq_true rfl⟩) rfl hl.1 rfl (lv_room (Nat.le_of_ble_eq_true rfl)) dX8_weighted_62 ⟨Nat.zero_le _, Nat.zero_le _⟩ (fun q26 hq => ?_)
            refine lv_to hq ?_
            clear hq er25
            obtain ⟨g27, h⟩ := oif_some h
            obtain ⟨g28, h⟩ := oif_some h
            refine c_lald E G l1 1 (k := r25.toNatClampNeg) (aA_k g27).1 (cc_a101 (aA_k g27).2.1) rfl (inb_k g28).1 (inb_k g28).2 (aA_k g27).2.2 dX8_weighted_65 ?_
            refine lv_topl (fun v29 ev29 => ?_)
            have h := elet_at ev29 h
            clear ev29
            refine lv_lmul hx hb dX8_weighted_66 ?_
            refine lv_topl (fun v30 ev30 => ?_)
            have h := elet_at ev30 h
            clear ev30
            refine lv_ladd hx hb dX8_weighted_67 ?_
            refine lv_topl (fun v31 ev31 => ?_)
            have h := elet_at ev31 h
            clear ev31
            refine lv_lstore (lv' := [(4, .long v31), (7, .int v8), (0, .ref (ad l0)), (1, .ref (ad l1)), (2, .ref (ad l2)), (3, .int l3), (6, .int l6)]) hx hb dX8_weighted_68 hl (by decide) rfl (fun ls hl => ?_)
            have hl := lv_sub hl [2, 3, 4, 5, 0, 6] rfl
            exact u_X8_weighted_b70 E hA hX hN hml hst kr78 ih _ _ _ _ _ _ _ _ _ _ h G hl
def g_X8_weighted (T : AT) (o : Nat) (a0 : Nat) (a1 : Nat) (a2 : Int32) : Option (Int64 × AT) := g_X8_weighted_b6 16384 T o a0 a1 a2 (0 : Int64) 0
set_option maxHeartbeats 4000000 in
set_option maxRecDepth 100000 in
theorem u_X8_weighted (l : Launch) (hst : l.stackTraces = false) (D : va_G) (cI cJ cZ cMic cSrc cSt cAI cAJ : ClassId) (ad : Nat → Nat) (T : AT) (o : Nat) (a0 : Nat) (a1 : Nat) (a2 : Int32) {r1 : Int64} {T1 : AT} (h : g_X8_weighted T o a0 a1 a2 = some (r1, T1)) : kCl l yX8_weighted (Cond.code yX8_weighted cX8_weighted 8 (some .long) :: wsA) 2 21 cI cJ cZ cMic cSrc cSt cAI cAJ D ad T [.ref (ad o), .ref (ad a0), .ref (ad a1), .int a2] (fun r T9 => r = r1 ∧ T9 = T1) := by
  intro sz
  refine Met.ofW (cc := cX8_weighted) (maxL := 8) (ret := (some .long)) (by decide) rfl ?_
  intro p e s m args below meth c s₁ B hml hv
  obtain ⟨rfl, hsz, hP, hK, hD0, hX, hN⟩ := hv
  have hx := B.exec
  have hb := B.bytes
  have hr := B.returns
  have hts := atoms_spec (ws := (Cond.code yX8_weighted cX8_weighted 8 (some .long) :: wsA)) B.pre
  have hown : s.vm.findClass RX8 = some m.cls := findClass_of_methodNamed B.named
  have hlocks := B.notSynchronized
  subst hsz
  have hD := hD0.self (sz := s.heap.size)
  generalize hAe : va_A (cW ad T.1 (cc cI cJ cZ cMic cSrc cSt cAI cAJ ad T)) s.heap.size = A at hD hX ⊢
  have hA : ∀ q : Nat, s.heap.size ≤ q → A q := fun q h => by rw [← hAe]; exact Or.inr h
  have G : gC cI cJ cZ cMic cSrc cSt cAI cAJ D ad A s.heap s.heap [] T := ⟨hP, hD, va_S.rf⟩
  have E : cE p c cX8_weighted s m ([.ref (ad o), .ref (ad a0), .ref (ad a1), .int a2] : List Value).toArray (Cond.code yX8_weighted cX8_weighted 8 (some .long) :: wsA) D RX8 (CT cI cJ cZ cMic cSrc cSt cAI cAJ) := ⟨hx, hb, hts, hown, hK⟩
  have hl := lv_entry ([.ref (ad o), .ref (ad a0), .ref (ad a1), .int a2]) (n := 8) (Nat.le_of_ble_eq_true rfl)
  rw [lg_entry_eq]
  generalize (lg_sl ([.ref (ad o), .ref (ad a0), .ref (ad a1), .int a2]) ++ List.replicate (8 - (lg_sl ([.ref (ad o), .ref (ad a0), .ref (ad a1), .int a2])).length) Slot.unset).toArray = ls at hl ⊢
  have hl : lv_has ls 8 [(0, .ref (ad o)), (1, .ref (ad a0)), (2, .ref (ad a1)), (3, .int a2)] := hl
  unfold g_X8_weighted at h
  refine lv_lconst (v := 0) hx hb dX8_weighted_0 (by decide) ?_
  refine lv_lstore (lv' := [(4, .long (0 : Int64)), (0, .ref (ad o)), (1, .ref (ad a0)), (2, .ref (ad a1)), (3, .int a2)]) hx hb dX8_weighted_1 hl (by decide) rfl (fun ls hl => ?_)
  refine lv_iconst (v := 0) hx hb dX8_weighted_3 (by decide) ?_
  refine lv_istore (lv' := [(6, .int 0), (4, .long (0 : Int64)), (0, .ref (ad o)), (1, .ref (ad a0)), (2, .ref (ad a1)), (3, .int a2)]) hx hb dX8_weighted_4 hl (by decide) rfl (fun ls hl => ?_)
  have hl := lv_sub hl [2, 3, 4, 5, 1, 0] rfl
  exact u_X8_weighted_b6 E hA hX hN hml hst (fun H locs ls G => W.lret (v := r1) hx hb hr (fun t ht hW => ⟨⟨r1, T1, rfl, ⟨rfl, rfl⟩, ⟨by rw [ht]; exact G.1, va_K.moved hW.alike hK, G.2.1⟩⟩, G.2.2.F ht⟩) G.2.2.2.2 dX8_weighted_78) _ _ _ _ _ _ _ _ _ _ _ h G hl
set_option maxHeartbeats 4000000 in
set_option maxRecDepth 100000 in
theorem s_X8_weighted_b70 {r1 : Int64} {T1 : AT} {k6 : AT → Nat → Nat → Nat → Int32 → Int64 → Int32 → Option (Int64 × AT)} (hk6 : ∀ (T : AT) (l0 : Nat) (l1 : Nat) (l2 : Nat) (l3 : Int32) (l4 : Int64) (l6 : Int32), k6 T l0 l1 l2 l3 l4 l6 = some (r1, T1) → SP T T1) : ∀ (T : AT) (l0 : Nat) (l1 : Nat) (l2 : Nat) (l3 : Int32) (l4 : Int64) (l6 : Int32), g_X8_weighted_b70 k6 T l0 l1 l2 l3 l4 l6 = some (r1, T1) → SP T T1 := by
  intro T l0 l1 l2 l3 l4 l6 h
  have p0 := SP.rf T
  unfold g_X8_weighted_b70 at h
  obtain ⟨v2, ev2, h⟩ := elet_some h
  exact SP.tr p0 (hk6 _ _ _ _ _ _ _ h)
set_option maxHeartbeats 4000000 in
set_option maxRecDepth 100000 in
theorem s_X8_weighted_b6 {r1 : Int64} {T1 : AT} : ∀ n : Nat, ∀ (T : AT) (l0 : Nat) (l1 : Nat) (l2 : Nat) (l3 : Int32) (l4 : Int64) (l6 : Int32), g_X8_weighted_b6 n T l0 l1 l2 l3 l4 l6 = some (r1, T1) → SP T T1 := by
  intro n
  induction n with
  | zero =>
    intro T l0 l1 l2 l3 l4 l6 h
    have h : (none : Option (Int64 × AT)) = some (r1, T1) := h
    cases h
  | succ n ih =>
    intro T l0 l1 l2 l3 l4 l6 h
    have p0 := SP.rf T
    unfold g_X8_weighted_b6 at h
    obtain ⟨g2, h⟩ := oif_some h
    obtain ⟨v3, -, h⟩ := elet_some h
    rcases oif_or h with ⟨c4, h⟩ | ⟨c4, h⟩
    · have h := h
      rw [← (osome2 h).2]
      exact p0
    · have h := h
      obtain ⟨g5, h⟩ := oif_some h
      obtain ⟨g6, h⟩ := oif_some h
      obtain ⟨v7, -, h⟩ := elet_some h
      obtain ⟨v8, -, h⟩ := elet_some h
      obtain ⟨g9, h⟩ := oif_some h
      obtain ⟨n10, en10, h⟩ := obind_some h
      obtain ⟨g11, h⟩ := oif_some h
      obtain ⟨g12, h⟩ := oif_some h
      obtain ⟨v13, -, h⟩ := elet_some h
      rcases oif_or h with ⟨c14, h⟩ | ⟨c14, h⟩
      · have h := h
        rcases oif_or h with ⟨c15, h⟩ | ⟨c15, h⟩
        · have h := h
          exact SP.tr p0 (s_X8_weighted_b70 ih _ _ _ _ _ _ _ h)
        · have h := h
          obtain ⟨g16, h⟩ := oif_some h
          obtain ⟨v17, -, h⟩ := elet_some h
          rcases oif_or h with ⟨c18, h⟩ | ⟨c18, h⟩
          · have h := h
            exact SP.tr p0 (s_X8_weighted_b70 ih _ _ _ _ _ _ _ h)
          · have h := h
            obtain ⟨g19, h⟩ := oif_some h
            obtain ⟨n20, en20, h⟩ := obind_some h
            obtain ⟨g21, h⟩ := oif_some h
            obtain ⟨g22, h⟩ := oif_some h
            obtain ⟨v23, -, h⟩ := elet_some h
            obtain ⟨v24, -, h⟩ := elet_some h
            obtain ⟨r25, -, h⟩ := obind_some h
            obtain ⟨g26, h⟩ := oif_some h
            obtain ⟨g27, h⟩ := oif_some h
            obtain ⟨v28, -, h⟩ := elet_some h
            obtain ⟨v29, -, h⟩ := elet_some h
            obtain ⟨v30, -, h⟩ := elet_some h
            exact SP.tr p0 (s_X8_weighted_b70 ih _ _ _ _ _ _ _ h)
      · have h := h
        exact SP.tr p0 (s_X8_weighted_b70 ih _ _ _ _ _ _ _ h)
set_option maxHeartbeats 4000000 in
set_option maxRecDepth 100000 in
theorem s_X8_weighted {T : AT} {o : Nat} {a0 : Nat} {a1 : Nat} {a2 : Int32} {r1 : Int64} {T1 : AT} (h : g_X8_weighted T o a0 a1 a2 = some (r1, T1)) : SP T T1 := by
  have p0 := SP.rf T
  unfold g_X8_weighted at h
  exact SP.tr p0 (s_X8_weighted_b6 _ _ _ _ _ _ _ _ h)
def g_X8_focus_b74  (T : AT)  : Option (AT) := some T
def g_X8_focus_b23  : Nat → AT → Nat → Nat → Int32 → Int32 → Option (AT)
  | 0, _, _, _, _, _ => none
  | n + 1, T, l0, l1, l2, l3 => oif (oO T l0 8 = true) <| obind (T.2.2.2.2 l0 10) fun n3 => oif (oO T n3 10 = true) <| elet (T.2.2.1 n3 2) fun v5 => if v5 ≤ l3 then (oif (oO T l0 8 = true) <| obind (T.2.2.2.2 l0 11) fun n8 => oif (oO T n8 10 = true) <| obind (g_X10_settle T n8 (0 : Int32)) fun T10 => g_X8_focus_b74 T10) else (oif (oO T l0 8 = true) <| obind (T.2.2.2.2 l0 11) fun n13 => oif (oO T n13 10 = true) <| obind (T.2.2.2.2 n13 1) fun n15 => oif (aA T n15 107 = true) <| oif (inb l3 (T.2.1 n15).2 = true) <| obind (T.2.2.2.2 n15 l3.toNatClampNeg) fun n18 => oif (oO T l0 8 = true) <| obind (T.2.2.2.2 l0 10) fun n20 => oif (oO T n20 10 = true) <| obind (T.2.2.2.2 n20 1) fun n22 => oif (aA T n22 107 = true) <| oif (inb l3 (T.2.1 n22).2 = true) <| obind (T.2.2.2.2 n22 l3.toNatClampNeg) fun n25 => oif (oO T l0 8 = true) <| obind2 (g_X8_weighted T l0 n25 l1 l2) fun r29 T27 => oif (aA T27 n18 101 = true) <| oif (inb 0 (T27.2.1 n18).2 = true) <| elet (uJ T27 n18 (0 : Int32).toNatClampNeg r29) fun T33 => elet (l3 + Int32.ofInt (1)) fun v34 => g_X8_focus_b23 n T33 l0 l1 l2 v34)
def g_X8_focus_b21  (T : AT) (l0 : Nat) (l1 : Nat) (l2 : Int32) : Option (AT) := g_X8_focus_b23 16384 T l0 l1 l2 0
def g_X8_focus (T : AT) (o : Nat) (a0 : Nat) (a1 : Int32) : Option (AT) := oif (oO T o 8 = true) <| obind (T.2.2.2.2 o 11) fun n3 => oif (oO T n3 10 = true) <| obind (g_X10_narrow T n3) fun T5 => oif (oO T5 o 8 = true) <| obind (T5.2.2.2.2 o 11) fun n8 => oif (oO T5 o 8 = true) <| obind (T5.2.2.2.2 o 10) fun n10 => oif (oO T5 n10 10 = true) <| elet (T5.2.2.1 n10 2) fun v12 => oif (oO T5 n8 10 = true) <| obind (g_X10_widenTo T5 n8 v12) fun T14 => g_X8_focus_b21 T14 o a0 a1
set_option maxHeartbeats 4000000 in
set_option maxRecDepth 100000 in
theorem s_X8_focus_b74 {T1 : AT} : ∀ (T : AT), g_X8_focus_b74 T = some T1 → GL T T1 := by
  intro T h
  have p0 := GL.rf T
  unfold g_X8_focus_b74 at h
  rw [← osome1 h]
  exact p0
set_option maxHeartbeats 4000000 in
set_option maxRecDepth 100000 in
theorem s_X8_focus_b23 {T1 : AT} : ∀ n : Nat, ∀ (T : AT) (l0 : Nat) (l1 : Nat) (l2 : Int32) (l3 : Int32), g_X8_focus_b23 n T l0 l1 l2 l3 = some T1 → GL T T1 := by
  intro n
  induction n with
  | zero =>
    intro T l0 l1 l2 l3 h
    have h : (none : Option (AT)) = some T1 := h
    cases h
  | succ n ih =>
    intro T l0 l1 l2 l3 h
    have p0 := GL.rf T
    unfold g_X8_focus_b23 at h
    obtain ⟨g2, h⟩ := oif_some h
    obtain ⟨n3, en3, h⟩ := obind_some h
    obtain ⟨g4, h⟩ := oif_some h
    obtain ⟨v5, -, h⟩ := elet_some h
    rcases oif_or h with ⟨c6, h⟩ | ⟨c6, h⟩
    · have h := h
      obtain ⟨g7, h⟩ := oif_some h
      obtain ⟨n8, en8, h⟩ := obind_some h
      obtain ⟨g9, h⟩ := oif_some h
      obtain ⟨T10, eT10, h⟩ := obind_some h
      have p1 : GL T T10 := GL.tr p0 (s_X10_settle eT10)
      exact GL.tr p1 (s_X8_focus_b74 _ h)
    · have h := h
      obtain ⟨g12, h⟩ := oif_some h
      obtain ⟨n13, en13, h⟩ := obind_some h
      obtain ⟨g14, h⟩ := oif_some h
      obtain ⟨n15, en15, h⟩ := obind_some h
      obtain ⟨g16, h⟩ := oif_some h
      obtain ⟨g17, h⟩ := oif_some h
      obtain ⟨n18, en18, h⟩ := obind_some h
      obtain ⟨g19, h⟩ := oif_some h
      obtain ⟨n20, en20, h⟩ := obind_some h
      obtain ⟨g21, h⟩ := oif_some h
      obtain ⟨n22, en22, h⟩ := obind_some h
      obtain ⟨g23, h⟩ := oif_some h
      obtain ⟨g24, h⟩ := oif_some h
      obtain ⟨n25, en25, h⟩ := obind_some h
      obtain ⟨g26, h⟩ := oif_some h
      obtain ⟨r28, T27, eT27, h⟩ := obind2_some h
      have p1 : GL T T27 := GL.tr p0 (gl_sp (s_X8_weighted eT27))
      obtain ⟨g29, h⟩ := oif_some h
      obtain ⟨g30, h⟩ := oif_some h
      obtain ⟨T31, eT31, h⟩ := elet_some h
      have p2 : GL T T31 := GL.tr p1 (by rw [eT31]; exact gl_sp sp_uJ)
      obtain ⟨v32, ev32, h⟩ := elet_some h
      exact GL.tr p2 (ih _ _ _ _ _ h)
set_option maxHeartbeats 4000000 in
set_option maxRecDepth 100000 in
theorem s_X8_focus_b21 {T1 : AT} : ∀ (T : AT) (l0 : Nat) (l1 : Nat) (l2 : Int32), g_X8_focus_b21 T l0 l1 l2 = some T1 → GL T T1 := by
  intro T l0 l1 l2 h
  have p0 := GL.rf T
  unfold g_X8_focus_b21 at h
  exact GL.tr p0 (s_X8_focus_b23 _ _ _ _ _ _ h)
set_option maxHeartbeats 4000000 in
set_option maxRecDepth 100000 in
theorem s_X8_focus {T : AT} {o : Nat} {a0 : Nat} {a1 : Int32} {T1 : AT} (h : g_X8_focus T o a0 a1 = some T1) : GL T T1 := by
  have p0 := GL.rf T
  unfold g_X8_focus at h
  obtain ⟨g2, h⟩ := oif_some h
  obtain ⟨n3, en3, h⟩ := obind_some h
  obtain ⟨g4, h⟩ := oif_some h
  obtain ⟨T5, eT5, h⟩ := obind_some h
  have p1 : GL T T5 := GL.tr p0 (gl_sp (s_X10_narrow eT5))
  obtain ⟨g7, h⟩ := oif_some h
  obtain ⟨n8, en8, h⟩ := obind_some h
  obtain ⟨g9, h⟩ := oif_some h
  obtain ⟨n10, en10, h⟩ := obind_some h
  obtain ⟨g11, h⟩ := oif_some h
  obtain ⟨v12, -, h⟩ := elet_some h
  obtain ⟨g13, h⟩ := oif_some h
  obtain ⟨T14, eT14, h⟩ := obind_some h
  have p2 : GL T T14 := GL.tr p1 (s_X10_widenTo eT14)
  exact GL.tr p2 (s_X8_focus_b21 _ _ _ _ h)
set_option maxHeartbeats 4000000 in
set_option maxRecDepth 100000 in
theorem a_X8_focus_b74 {p : Program} {l : Launch} {e : Env} {s : State} {m : MethodId} {args : Array Value} {below : List Frame} {meth : Method} {c : Code} {Q : State → Prop} {D : va_G} {A : Nat → Prop} {cI cJ cZ cMic cSrc cSt cAI cAJ : ClassId} {ad0 : Nat → Nat} {T0 : AT} {T1 : AT} (E : cE p c cX8_focus s m args (Cond.code yX8_focus cX8_focus 4 none :: wsA) D RX8 (CT cI cJ cZ cMic cSrc cSt cAI cAJ)) (hA : ∀ q : Nat, s.heap.size ≤ q → A q) (hX : xT A s) (hN : nX s) (hml : c.maxLocals = 4) (hst : l.stackTraces = false) (kr74 : ∀ (ad : Nat → Nat) (H : Heap) (locs : List Loc) (ls : Array Slot), (∀ n, n < T0.1 → ad n = ad0 n) → gC cI cJ cZ cMic cSrc cSt cAI cAJ D ad A s.heap H locs T1 → W p l e { frames := 3, cells := T1.1 - T0.1, slots := sg T1 - sg T0, locals := 49 } s m args below meth c H locs (T1.1 - T0.1) (sg T1 - sg T0) Q (F0 m 74 ls [])) : ∀ (T : AT) (ad : Nat → Nat) (H : Heap) (locs : List Loc) (ls : Array Slot), g_X8_focus_b74 T = some T1 → GL T0 T → RC T → (∀ n, n < T0.1 → ad n = ad0 n) → gC cI cJ cZ cMic cSrc cSt cAI cAJ D ad A s.heap H locs T → lv_has ls 4 [] → W p l e { frames := 3, cells := T1.1 - T0.1, slots := sg T1 - sg T0, locals := 49 } s m args below meth c H locs (T.1 - T0.1) (sg T - sg T0) Q (F0 m 74 ls []) := by
  have hx := E.1
  have hb := E.2.1
  have hts := E.2.2.1
  have hown := E.2.2.2.1
  have hK := E.2.2.2.2
  intro T ad H locs ls h hgl hrc had G hl
  have hT1 := s_X8_focus_b74 _ h
  have hcs := cs_ok hgl hT1
  have cp0 := cpr0 hrc
  unfold g_X8_focus_b74 at h
  rw [osome1 h] at G
  refine w_cast (c2 := T1.1 - T0.1) (s2 := sg T1 - sg T0) (by rw [← osome1 h, cp0.1] <;> rfl) (by rw [← osome1 h, sg_cpr cp0] <;> rfl) ?_
  exact kr74 ad _ _ _ had G
set_option maxHeartbeats 4000000 in
set_option maxRecDepth 100000 in
theorem a_X8_focus_b23 {p : Program} {l : Launch} {e : Env} {s : State} {m : MethodId} {args : Array Value} {below : List Frame} {meth : Method} {c : Code} {Q : State → Prop} {D : va_G} {A : Nat → Prop} {cI cJ cZ cMic cSrc cSt cAI cAJ : ClassId} {ad0 : Nat → Nat} {T0 : AT} {T1 : AT} (E : cE p c cX8_focus s m args (Cond.code yX8_focus cX8_focus 4 none :: wsA) D RX8 (CT cI cJ cZ cMic cSrc cSt cAI cAJ)) (hA : ∀ q : Nat, s.heap.size ≤ q → A q) (hX : xT A s) (hN : nX s) (hml : c.maxLocals = 4) (hst : l.stackTraces = false) (kr74 : ∀ (ad : Nat → Nat) (H : Heap) (locs : List Loc) (ls : Array Slot), (∀ n, n < T0.1 → ad n = ad0 n) → gC cI cJ cZ cMic cSrc cSt cAI cAJ D ad A s.heap H locs T1 → W p l e { frames := 3, cells := T1.1 - T0.1, slots := sg T1 - sg T0, locals := 49 } s m args below meth c H locs (T1.1 - T0.1) (sg T1 - sg T0) Q (F0 m 74 ls [])) : ∀ n : Nat, ∀ (T : AT) (ad : Nat → Nat) (H : Heap) (locs : List Loc) (ls : Array Slot) (l0 : Nat) (l1 : Nat) (l2 : Int32) (l3 : Int32), g_X8_focus_b23 n T l0 l1 l2 l3 = some T1 → GL T0 T → RC T → (∀ n, n < T0.1 → ad n = ad0 n) → l0 < T.1 → l1 < T.1 → gC cI cJ cZ cMic cSrc cSt cAI cAJ D ad A s.heap H locs T → lv_has ls 4 [(0, .ref (ad l0)), (1, .ref (ad l1)), (2, .int l2), (3, .int l3)] → W p l e { frames := 3, cells := T1.1 - T0.1, slots := sg T1 - sg T0, locals := 49 } s m args below meth c H locs (T.1 - T0.1) (sg T - sg T0) Q (F0 m 23 ls []) := by
  have hx := E.1
  have hb := E.2.1
  have hts := E.2.2.1
  have hown := E.2.2.2.1
  have hK := E.2.2.2.2
  intro n
  induction n with
  | zero =>
    intro T ad H locs ls l0 l1 l2 l3 h
    have h : (none : Option (AT)) = some T1 := h
    cases h
  | succ n ih =>
    intro T ad H locs ls l0 l1 l2 l3 h hgl hrc had h_l0 h_l1 G hl
    have hT1 := s_X8_focus_b23 _ _ _ _ _ _ h
    have hcs := cs_ok hgl hT1
    have cp0 := cpr0 hrc
    unfold g_X8_focus_b23 at h
    refine lv_iload_n hx hb dX8_focus_23 rfl (lv_at hl 3 rfl) ?_
    refine lv_aload_n hx hb dX8_focus_24 rfl (lv_at hl 0 rfl) ?_
    obtain ⟨g2, h⟩ := oif_some h
    obtain ⟨n3, en3, h⟩ := obind_some h
    have h_n3 : n3 < T.1 := by rw [← cp0.1]; exact cp0.2.2 _ _ _ en3
    refine c_get E G l0 10 (v := .ref (ad n3)) (oO_k g2).1 (cc_o8 (oO_k g2).2) rfl (fun w h => .tail _ (iA_16 h)) (by decide) (.tail _ qA_73) rfl (by rw [en3]; rfl) dX8_focus_25 ?_
    clear en3
    obtain ⟨g4, h⟩ := oif_some h
    refine c_get E G n3 2 (oO_k g4).1 (cc_o10 (oO_k g4).2) rfl (fun w h => .tail _ (iA_12 h)) (by decide) (.tail _ qA_74) rfl rfl dX8_focus_28 ?_
    refine lv_topi (fun v5 ev5 => ?_)
    have h := elet_at ev5 h
    clear ev5
    refine lv_icmp_ge (tgt := 66) hx hb dX8_focus_31 (by decide) (fun c6 => ?_) (fun c6 => ?_)
    · have h := oif_pos c6 h
      refine lv_aload_n hx hb dX8_focus_66 rfl (lv_at hl 0 rfl) ?_
      obtain ⟨g7, h⟩ := oif_some h
      obtain ⟨n8, en8, h⟩ := obind_some h
      have h_n8 : n8 < T.1 := by rw [← cp0.1]; exact cp0.2.2 _ _ _ en8
      refine c_get E G l0 11 (v := .ref (ad n8)) (oO_k g7).1 (cc_o8 (oO_k g7).2) rfl (fun w h => .tail _ (iA_16 h)) (by decide) (.tail _ qA_52) rfl (by rw [en8]; rfl) dX8_focus_67 ?_
      clear en8
      refine lv_iconst (v := 0) hx hb dX8_focus_70 (by decide) ?_
      obtain ⟨g9, h⟩ := oif_some h
      obtain ⟨T10, eT10, h⟩ := obind_some h
      have hg2 := s_X10_settle eT10
      have hrc2 := hg2.2.2 cp0.2.2
      have hT2 := s_X8_focus_b74 _ h
      refine q_avv (As := [.int 0]) (rest := []) E G hA hX hN hml (a_X10_settle l hst D cI cJ cZ cMic cSrc cSt cAI cAJ ad T n8 (0 : Int32) eT10 cp0.2.2 (by rw [cp0.1]; exact h_n8)) (cwV 1 hts (gaV qA_90 qA_91 qA_92 qA_6 qA_93) rfl rfl rfl (by decide +kernel) ⟨Nat.le_of_ble_eq_true rfl, Nat.le_of_ble_eq_true rfl⟩) (oO_k g9).1 (cc_o10 (oO_k g9).2) rfl rfl hl.1 rfl (lv_room (Nat.le_of_ble_eq_true rfl)) dX8_focus_71 (cs_av hgl cp0 hg2 hT2) (fun ad2 H locs hga G => ?_)
      refine w_cast (c2 := T10.1 - T0.1) (s2 := sg T10 - sg T0) (cs_f1 hgl cp0 hg2) (cs_f2 hgl cp0 hg2) ?_
      have hl := lv_sub hl [] rfl
      exact a_X8_focus_b74 E hA hX hN hml hst kr74 _ _ _ _ _ h (GL.tr (gl_cpr hgl cp0) hg2) hrc2 (fun n hn => (hga n (by rw [cp0.1]; exact Nat.lt_of_lt_of_le hn hgl.1)).trans (had n hn)) G hl
    · have h := oif_neg c6 h
      refine lv_aload_n hx hb dX8_focus_34 rfl (lv_at hl 0 rfl) ?_
      obtain ⟨g12, h⟩ := oif_some h
      obtain ⟨n13, en13, h⟩ := obind_some h
      have h_n13 : n13 < T.1 := by rw [← cp0.1]; exact cp0.2.2 _ _ _ en13
      refine c_get E G l0 11 (v := .ref (ad n13)) (oO_k g12).1 (cc_o8 (oO_k g12).2) rfl (fun w h => .tail _ (iA_16 h)) (by decide) (.tail _ qA_52) rfl (by rw [en13]; rfl) dX8_focus_35 ?_
      clear en13
      obtain ⟨g14, h⟩ := oif_some h
      obtain ⟨n15, en15, h⟩ := obind_some h
      have h_n15 : n15 < T.1 := by rw [← cp0.1]; exact cp0.2.2 _ _ _ en15
      refine c_get E G n13 1 (v := .ref (ad n15)) (oO_k g14).1 (cc_o10 (oO_k g14).2) rfl (fun w h => .tail _ (iA_12 h)) (by decide) (.tail _ qA_75) rfl (by rw [en15]; rfl) dX8_focus_38 ?_
      clear en15
      refine lv_iload_n hx hb dX8_focus_41 rfl (lv_at hl 3 rfl) ?_
      obtain ⟨g16, h⟩ := oif_some h
      obtain ⟨g17, h⟩ := oif_some h
      obtain ⟨n18, en18, h⟩ := obind_some h
      have h_n18 : n18 < T.1 := by rw [← cp0.1]; exact cp0.2.2 _ _ _ en18
      refine c_alda E G n15 7 (k := l3.toNatClampNeg) (v := .ref (ad n18)) (aA_k g16).1 (cc_a107 (aA_k g16).2.1) rfl (inb_k g17).1 (inb_k g17).2 (aA_k g16).2.2 (by show va_rf ((T.2.2.2.2 n15 l3.toNatClampNeg).map ad) = _; rw [en18]; rfl) dX8_focus_42 ?_
      clear en18
      refine lv_iconst (v := 0) hx hb dX8_focus_43 (by decide) ?_
      refine lv_aload_n hx hb dX8_focus_44 rfl (lv_at hl 0 rfl) ?_
      refine lv_aload_n hx hb dX8_focus_45 rfl (lv_at hl 0 rfl) ?_
      obtain ⟨g19, h⟩ := oif_some h
      obtain ⟨n20, en20, h⟩ := obind_some h
      have h_n20 : n20 < T.1 := by rw [← cp0.1]; exact cp0.2.2 _ _ _ en20
      refine c_get E G l0 10 (v := .ref (ad n20)) (oO_k g19).1 (cc_o8 (oO_k g19).2) rfl (fun w h => .tail _ (iA_16 h)) (by decide) (.tail _ qA_73) rfl (by rw [en20]; rfl) dX8_focus_46 ?_
      clear en20
      obtain ⟨g21, h⟩ := oif_some h
      obtain ⟨n22, en22, h⟩ := obind_some h
      have h_n22 : n22 < T.1 := by rw [← cp0.1]; exact cp0.2.2 _ _ _ en22
      refine c_get E G n20 1 (v := .ref (ad n22)) (oO_k g21).1 (cc_o10 (oO_k g21).2) rfl (fun w h => .tail _ (iA_12 h)) (by decide) (.tail _ qA_75) rfl (by rw [en22]; rfl) dX8_focus_49 ?_
      clear en22
      refine lv_iload_n hx hb dX8_focus_52 rfl (lv_at hl 3 rfl) ?_
      obtain ⟨g23, h⟩ := oif_some h
      obtain ⟨g24, h⟩ := oif_some h
      obtain ⟨n25, en25, h⟩ := obind_some h
      have h_n25 : n25 < T.1 := by rw [← cp0.1]; exact cp0.2.2 _ _ _ en25
      refine c_alda E G n22 7 (k := l3.toNatClampNeg) (v := .ref (ad n25)) (aA_k g23).1 (cc_a107 (aA_k g23).2.1) rfl (inb_k g24).1 (inb_k g24).2 (aA_k g23).2.2 (by show va_rf ((T.2.2.2.2 n22 l3.toNatClampNeg).map ad) = _; rw [en25]; rfl) dX8_focus_53 ?_
      clear en25
      refine lv_aload_n hx hb dX8_focus_54 rfl (lv_at hl 1 rfl) ?_
      refine lv_iload_n hx hb dX8_focus_55 rfl (lv_at hl 2 rfl) ?_
      obtain ⟨g26, h⟩ := oif_some h
      obtain ⟨r29, T27, eT27, h⟩ := obind2_some h
      refine q_cvl (As := [.ref (ad n25), .ref (ad l1), .int l2]) (rest := [.int 0, .ref (ad n18)]) E G hA hX hN hml (u_X8_weighted l hst D cI cJ cZ cMic cSrc cSt cAI cAJ ad T l0 n25 l1 l2 eT27) (cwV 3 hts (gaV qA_82 qA_83 qA_84 qA_47 qA_85) rfl rfl rfl (by decide +kernel) ⟨Nat.le_of_ble_eq_true rfl, Nat.le_of_ble_eq_true rfl⟩) (oO_k g26).1 (cc_o8 (oO_k g26).2) rfl rfl hl.1 rfl (lv_room (Nat.le_of_ble_eq_true rfl)) dX8_focus_56 hcs (fun q30 T28 H locs hq G => ?_)
      obtain ⟨hq1, hq2⟩ := hq
      rw [hq2] at G
      refine lv_tol hq1 ?_
      clear hq1 hq2
      have cp1 := cpr_sp cp0 (s_X8_weighted eT27)
      obtain ⟨g31, h⟩ := oif_some h
      obtain ⟨g32, h⟩ := oif_some h
      refine c_last E G n18 1 (k := (0 : Int32).toNatClampNeg) (v := r29) (aA_k g31).1 (cc_a101 (aA_k g31).2.1) rfl (inb_k g32).1 (inb_k g32).2 (aA_k g31).2.2 dX8_focus_59 (fun H locs G => ?_)
      have G := gC_up_j (f := vp_updL (T27.2.2.2.1 n18) (0 : Int32).toNatClampNeg r29) (ccv_101 (aA_k g31).2.1) G
      obtain ⟨T33, eT33, h⟩ := elet_some h
      have G : gC cI cJ cZ cMic cSrc cSt cAI cAJ D ad A s.heap H locs T33 := by rw [eT33]; exact G
      have cp2 := show CPR T T33 from by rw [eT33]; exact cpr_sp cp1 sp_uJ
      clear eT33
      obtain ⟨v34, ev34, h⟩ := elet_some h
      refine lv_iinc (v := v34) (lv' := [(3, .int v34), (0, .ref (ad l0)), (1, .ref (ad l1)), (2, .int l2)]) hx hb dX8_focus_60 hl (k := 3) rfl ev34.symm (by decide) rfl (fun ls hl => ?_)
      refine lv_goto (tgt := 23) hx hb dX8_focus_63 (by decide) ?_
      have hl := lv_sub hl [1, 2, 3, 0] rfl
      refine w_cast (c2 := T33.1 - T0.1) (s2 := sg T33 - sg T0) (by rw [cp2.1] <;> rfl) (by rw [sg_cpr cp2] <;> rfl) ?_
      exact ih _ _ _ _ _ _ _ _ _ h (gl_cpr hgl cp2) cp2.2.2 had (by rw [cp2.1]; exact h_l0) (by rw [cp2.1]; exact h_l1) G hl
set_option maxHeartbeats 4000000 in
set_option maxRecDepth 100000 in
theorem a_X8_focus_b21 {p : Program} {l : Launch} {e : Env} {s : State} {m : MethodId} {args : Array Value} {below : List Frame} {meth : Method} {c : Code} {Q : State → Prop} {D : va_G} {A : Nat → Prop} {cI cJ cZ cMic cSrc cSt cAI cAJ : ClassId} {ad0 : Nat → Nat} {T0 : AT} {T1 : AT} (E : cE p c cX8_focus s m args (Cond.code yX8_focus cX8_focus 4 none :: wsA) D RX8 (CT cI cJ cZ cMic cSrc cSt cAI cAJ)) (hA : ∀ q : Nat, s.heap.size ≤ q → A q) (hX : xT A s) (hN : nX s) (hml : c.maxLocals = 4) (hst : l.stackTraces = false) (kr74 : ∀ (ad : Nat → Nat) (H : Heap) (locs : List Loc) (ls : Array Slot), (∀ n, n < T0.1 → ad n = ad0 n) → gC cI cJ cZ cMic cSrc cSt cAI cAJ D ad A s.heap H locs T1 → W p l e { frames := 3, cells := T1.1 - T0.1, slots := sg T1 - sg T0, locals := 49 } s m args below meth c H locs (T1.1 - T0.1) (sg T1 - sg T0) Q (F0 m 74 ls [])) : ∀ (T : AT) (ad : Nat → Nat) (H : Heap) (locs : List Loc) (ls : Array Slot) (l0 : Nat) (l1 : Nat) (l2 : Int32), g_X8_focus_b21 T l0 l1 l2 = some T1 → GL T0 T → RC T → (∀ n, n < T0.1 → ad n = ad0 n) → l0 < T.1 → l1 < T.1 → gC cI cJ cZ cMic cSrc cSt cAI cAJ D ad A s.heap H locs T → lv_has ls 4 [(0, .ref (ad l0)), (1, .ref (ad l1)), (2, .int l2)] → W p l e { frames := 3, cells := T1.1 - T0.1, slots := sg T1 - sg T0, locals := 49 } s m args below meth c H locs (T.1 - T0.1) (sg T - sg T0) Q (F0 m 21 ls []) := by
  have hx := E.1
  have hb := E.2.1
  have hts := E.2.2.1
  have hown := E.2.2.2.1
  have hK := E.2.2.2.2
  intro T ad H locs ls l0 l1 l2 h hgl hrc had h_l0 h_l1 G hl
  have hT1 := s_X8_focus_b21 _ _ _ _ h
  have hcs := cs_ok hgl hT1
  have cp0 := cpr0 hrc
  unfold g_X8_focus_b21 at h
  refine lv_iconst (v := 0) hx hb dX8_focus_21 (by decide) ?_
  refine lv_istore_n (lv' := [(3, .int 0), (0, .ref (ad l0)), (1, .ref (ad l1)), (2, .int l2)]) hx hb dX8_focus_22 rfl hl (by decide) rfl (fun ls hl => ?_)
  have hl := lv_sub hl [1, 2, 3, 0] rfl
  refine w_cast (c2 := T.1 - T0.1) (s2 := sg T - sg T0) (by rw [cp0.1] <;> rfl) (by rw [sg_cpr cp0] <;> rfl) ?_
  exact a_X8_focus_b23 E hA hX hN hml hst kr74 _ _ _ _ _ _ _ _ _ _ h (gl_cpr hgl cp0) cp0.2.2 had (by rw [cp0.1]; exact h_l0) (by rw [cp0.1]; exact h_l1) G hl
set_option maxHeartbeats 4000000 in
set_option maxRecDepth 100000 in
theorem a_X8_focus (l : Launch) (hst : l.stackTraces = false) (D : va_G) (cI cJ cZ cMic cSrc cSt cAI cAJ : ClassId) (ad : Nat → Nat) (T : AT) (o : Nat) (a0 : Nat) (a1 : Int32) {T1 : AT} (h : g_X8_focus T o a0 a1 = some T1) (hrc : RC T) (h_o : o < T.1) (h_a0 : a0 < T.1) : kAv l yX8_focus (Cond.code yX8_focus cX8_focus 4 none :: wsA) 3 49 cI cJ cZ cMic cSrc cSt cAI cAJ D ad T [.ref (ad o), .ref (ad a0), .int a1] T1 := by
  intro sz
  refine Met.ofW (cc := cX8_focus) (maxL := 4) (ret := none) (by decide) rfl ?_
  intro p e s m args below meth c s₁ B hml hv
  obtain ⟨rfl, hsz, hP, hK, hD0, hX, hN⟩ := hv
  have hx := B.exec
  have hb := B.bytes
  have hr := B.returns
  have hts := atoms_spec (ws := (Cond.code yX8_focus cX8_focus 4 none :: wsA)) B.pre
  have hown : s.vm.findClass RX8 = some m.cls := findClass_of_methodNamed B.named
  have hlocks := B.notSynchronized
  subst hsz
  have hD := hD0.self (sz := s.heap.size)
  generalize hAe : va_A (cW ad T.1 (cc cI cJ cZ cMic cSrc cSt cAI cAJ ad T)) s.heap.size = A at hD hX ⊢
  have hA : ∀ q : Nat, s.heap.size ≤ q → A q := fun q h => by rw [← hAe]; exact Or.inr h
  have G : gC cI cJ cZ cMic cSrc cSt cAI cAJ D ad A s.heap s.heap [] T := ⟨hP, hD, va_S.rf⟩
  have E : cE p c cX8_focus s m ([.ref (ad o), .ref (ad a0), .int a1] : List Value).toArray (Cond.code yX8_focus cX8_focus 4 none :: wsA) D RX8 (CT cI cJ cZ cMic cSrc cSt cAI cAJ) := ⟨hx, hb, hts, hown, hK⟩
  have hl := lv_entry ([.ref (ad o), .ref (ad a0), .int a1]) (n := 4) (Nat.le_of_ble_eq_true rfl)
  rw [lg_entry_eq]
  generalize (lg_sl ([.ref (ad o), .ref (ad a0), .int a1]) ++ List.replicate (4 - (lg_sl ([.ref (ad o), .ref (ad a0), .int a1])).length) Slot.unset).toArray = ls at hl ⊢
  have hl : lv_has ls 4 [(0, .ref (ad o)), (1, .ref (ad a0)), (2, .int a1)] := hl
  have hgl := GL.rf T
  have had : ∀ n, n < T.1 → ad n = ad n := fun _ _ => rfl
  have hT1 := s_X8_focus h
  have hcs := cs_ok hgl hT1
  refine w_cast (Nat.sub_self T.1).symm (Nat.sub_self (sg T)).symm ?_
  have cp0 := cpr0 hrc
  unfold g_X8_focus at h
  refine lv_aload_n hx hb dX8_focus_0 rfl (lv_at hl 0 rfl) ?_
  obtain ⟨g2, h⟩ := oif_some h
  obtain ⟨n3, en3, h⟩ := obind_some h
  have h_n3 : n3 < T.1 := by rw [← cp0.1]; exact cp0.2.2 _ _ _ en3
  refine c_get E G o 11 (v := .ref (ad n3)) (oO_k g2).1 (cc_o8 (oO_k g2).2) rfl (fun w h => .tail _ (iA_16 h)) (by decide) (.tail _ qA_52) rfl (by rw [en3]; rfl) dX8_focus_1 ?_
  clear en3
  obtain ⟨g4, h⟩ := oif_some h
  obtain ⟨T5, eT5, h⟩ := obind_some h
  refine q_cvv (As := []) (rest := []) E G hA hX hN hml (u_X10_narrow l hst D cI cJ cZ cMic cSrc cSt cAI cAJ ad T n3 eT5) (cwV 0 hts (gaV qA_76 qA_25 qA_26 qA_6 qA_27) rfl rfl rfl (by decide +kernel) ⟨Nat.le_of_ble_eq_true rfl, Nat.le_of_ble_eq_true rfl⟩) (oO_k g4).1 (cc_o10 (oO_k g4).2) rfl rfl hl.1 rfl (lv_room (Nat.le_of_ble_eq_true rfl)) dX8_focus_4 hcs (fun T6 H locs hq G => ?_)
  rw [hq] at G
  clear hq
  have cp1 := cpr_sp cp0 (s_X10_narrow eT5)
  refine lv_aload_n hx hb dX8_focus_7 rfl (lv_at hl 0 rfl) ?_
  obtain ⟨g7, h⟩ := oif_some h
  obtain ⟨n8, en8, h⟩ := obind_some h
  have h_n8 : n8 < T.1 := by rw [← cp1.1]; exact cp1.2.2 _ _ _ en8
  refine c_get E G o 11 (v := .ref (ad n8)) (oO_k g7).1 (cc_o8 (oO_k g7).2) rfl (fun w h => .tail _ (iA_16 h)) (by decide) (.tail _ qA_52) rfl (by rw [en8]; rfl) dX8_focus_8 ?_
  clear en8
  refine lv_aload_n hx hb dX8_focus_11 rfl (lv_at hl 0 rfl) ?_
  obtain ⟨g9, h⟩ := oif_some h
  obtain ⟨n10, en10, h⟩ := obind_some h
  have h_n10 : n10 < T.1 := by rw [← cp1.1]; exact cp1.2.2 _ _ _ en10
  refine c_get E G o 10 (v := .ref (ad n10)) (oO_k g9).1 (cc_o8 (oO_k g9).2) rfl (fun w h => .tail _ (iA_16 h)) (by decide) (.tail _ qA_73) rfl (by rw [en10]; rfl) dX8_focus_12 ?_
  clear en10
  obtain ⟨g11, h⟩ := oif_some h
  refine c_get E G n10 2 (oO_k g11).1 (cc_o10 (oO_k g11).2) rfl (fun w h => .tail _ (iA_12 h)) (by decide) (.tail _ qA_74) rfl rfl dX8_focus_15 ?_
  refine lv_topi (fun v12 ev12 => ?_)
  have h := elet_at ev12 h
  clear ev12
  obtain ⟨g13, h⟩ := oif_some h
  obtain ⟨T14, eT14, h⟩ := obind_some h
  have hg2 := s_X10_widenTo eT14
  have hrc2 := hg2.2.2 cp1.2.2
  have hT2 := s_X8_focus_b21 _ _ _ _ h
  refine q_avv (As := [.int v12]) (rest := []) E G hA hX hN hml (a_X10_widenTo l hst D cI cJ cZ cMic cSrc cSt cAI cAJ ad T5 n8 v12 eT14 cp1.2.2 (by rw [cp1.1]; exact h_n8)) (cwV 1 hts (gaV qA_77 qA_78 qA_79 qA_6 qA_80) rfl rfl rfl (by decide +kernel) ⟨Nat.le_of_ble_eq_true rfl, Nat.le_of_ble_eq_true rfl⟩) (oO_k g13).1 (cc_o10 (oO_k g13).2) rfl rfl hl.1 rfl (lv_room (Nat.le_of_ble_eq_true rfl)) dX8_focus_18 (cs_av hgl cp1 hg2 hT2) (fun ad2 H locs hga G => ?_)
  refine w_cast (c2 := T14.1 - T.1) (s2 := sg T14 - sg T) (cs_f1 hgl cp1 hg2) (cs_f2 hgl cp1 hg2) ?_
  have hl := lv_sub hl [0, 1, 2] rfl
  rw [show ad o = ad2 o from (hga o (by rw [cp1.1]; exact h_o)).symm] at hl
  rw [show ad a0 = ad2 a0 from (hga a0 (by rw [cp1.1]; exact h_a0)).symm] at hl
  exact a_X8_focus_b21 E hA hX hN hml hst (fun ad H locs ls had G => W.vret hx hb hr (fun t ht hW => ⟨⟨(T1, ad), rfl, ⟨rfl, had⟩, ⟨by rw [ht]; exact G.1, va_K.moved hW.alike hK, G.2.1⟩⟩, G.2.2.F ht⟩) G.2.2.2.2 dX8_focus_74) _ _ _ _ _ _ _ _ h (GL.tr (gl_cpr hgl cp1) hg2) hrc2 (fun n hn => (hga n (by rw [cp1.1]; exact Nat.lt_of_lt_of_le hn hgl.1)).trans (had n hn)) (Nat.lt_of_lt_of_le (by rw [cp1.1]; exact h_o) hg2.1) (Nat.lt_of_lt_of_le (by rw [cp1.1]; exact h_a0) hg2.1) G hl
end
