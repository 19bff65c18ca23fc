theorem m_x01 {x : Int32} (h1 : ¬ x < 0) (h2 : x < 2) : x = 0 ∨ x = 1 := by
  have h3 : (0 : Int32).toInt ≤ x.toInt := Int32.le_iff_toInt_le.mp (Int32.not_lt.mp h1)
  have h4 : x.toInt < (2 : Int32).toInt := Int32.lt_iff_toInt_lt.mp h2
  have h5 : (0 : Int32).toInt = 0 := by decide
  have h6 : (2 : Int32).toInt = 2 := by decide
  rw [h5] at h3
  rw [h6] at h4
  rcases (show x.toInt = 0 ∨ x.toInt = 1 by omega) with h | h
  · exact Or.inl (Int32.toInt_inj.mp (h.trans h5.symm))
  · exact Or.inr (Int32.toInt_inj.mp (h.trans (by decide)))
theorem m_x01i {x : Int32} (h1 : ¬ x < 0) (h2 : x < 2) : x = nI x.toNatClampNeg ∧ x.toNatClampNeg < 2 := by
  rcases m_x01 h1 h2 with rfl | rfl
  · exact ⟨by decide, by decide⟩
  · exact ⟨by decide, by decide⟩
theorem m_x01l {x : Int32} (h1 : ¬ x < 0) (h2 : x < 2) : 0 ≤ x ∧ x ≤ 1 := by
  rcases m_x01 h1 h2 with rfl | rfl
  · exact ⟨by decide, by decide⟩
  · exact ⟨by decide, by decide⟩
set_option maxHeartbeats 4000000 in
set_option maxRecDepth 100000 in
theorem n_mapByte (l : Launch) (D : va_G) (cI cJ cZ : ClassId) (ad : Nat → Nat) (S : MS) (x : Int32) (h28 : S.1 28 = 0) : mCi l yX12_mapByte (Cond.code yX12_mapByte cX12_mapByte 2 (some .int) :: wsM) 2 22 D cI cJ cZ ad S [.int x] (fun r S1 => r = 0 ∧ S1 = mi S 0 1) := by
  intro sz
  refine Met.ofW (cc := cX12_mapByte) (maxL := 2) (ret := (some .int)) (by decide) rfl ?_
  intro p e s m args below meth c s₁ B hml hv
  obtain ⟨rfl, hsz, hP, hK, hD0, hR⟩ := hv
  have hx := B.exec
  have hb := B.bytes
  have hr := B.returns
  have hts := atoms_spec (ws := (Cond.code yX12_mapByte cX12_mapByte 2 (some .int) :: wsM)) B.pre
  have hown : s.vm.findClass RX12 = some m.cls := findClass_of_methodNamed B.named
  have hlocks := B.notSynchronized
  subst hsz
  have hD := hD0.self (sz := s.heap.size)
  generalize hAe : va_A (MW cI cJ cZ ad S) s.heap.size = A at hD ⊢
  have hA : ∀ q : Nat, s.heap.size ≤ q → A q := fun q h => by rw [← hAe]; exact Or.inr h
  have G : mG D cI cJ cZ ad A s.heap s.heap [] S := ⟨hP, hD, va_S.rf⟩
  have E : mE p c cX12_mapByte s m ([.ref (ad 0), .int x] : List Value).toArray (Cond.code yX12_mapByte cX12_mapByte 2 (some .int) :: wsM) D cI cJ cZ := ⟨hx, hb, hts, hown, hK, fun w h => .tail _ (iM_x h)⟩
  have hl := lv_entry ([.ref (ad 0), .int x]) (n := 2) (Nat.le_of_ble_eq_true rfl)
  rw [lg_entry_eq]
  generalize (lg_sl ([.ref (ad 0), .int x]) ++ List.replicate (2 - (lg_sl ([.ref (ad 0), .int x])).length) Slot.unset).toArray = ls at hl ⊢
  have hl : lv_has ls 2 [(0, .ref (ad 0)), (1, .int x)] := hl
  have hh : True := trivial
  refine lv_aload_n hx hb dX12_mapByte_0 rfl (lv_at hl 0 rfl) ?_
  refine lv_iload_n hx hb dX12_mapByte_1 rfl (lv_at hl 1 rfl) ?_
  refine lv_iconst (v := 0) hx hb dX12_mapByte_2 (by decide) ?_
  refine lv_aload_n hx hb dX12_mapByte_3 rfl (lv_at hl 0 rfl) ?_
  refine m_get E G 28 (v := .int (S.1 28)) (by decide) (.tail _ qM_469) rfl dX12_mapByte_4 rfl ?_
  refine lv_to (y := 0) h28 ?_
  refine lv_iconst (v := 1) hx hb dX12_mapByte_7 (by decide) ?_
  refine lv_isub hx hb dX12_mapByte_8 ?_
  refine lv_to (y := (-1)) (by decide +kernel) ?_
  refine m_stat (As := [.int x, .int 0, .int (-1)]) (rest := [.ref (ad 0)]) ⟨hx, hb, hml, hown, hts⟩ (m_in l x 0 (-1)) (cwS 3 hts (gmS qM_52 qM_53 qM_35 qM_27) rfl rfl rfl (by decide +kernel) ⟨Nat.le_of_ble_eq_true rfl, Nat.le_of_ble_eq_true rfl⟩) rfl hl.1 rfl (lv_room (Nat.le_of_ble_eq_true rfl)) dX12_mapByte_9 ⟨Nat.zero_le _, Nat.zero_le _⟩ (fun r1 hq => ?_)
  obtain rfl : r1 = 0 := hq.trans (m_noin (by decide +kernel))
  refine lv_if_eq (tgt := 19) hx hb dX12_mapByte_12 (by decide) (fun c2 => ?_) (fun c2 => absurd (by decide +kernel) c2)
  refine lv_iconst (v := 1) hx hb dX12_mapByte_19 (by decide) ?_
  refine m_put E G 0 (by decide) (.tail _ qM_26) (mw_i0 _ _ _ _ _ 1) dX12_mapByte_20 ⟨rfl, rfl, rfl⟩ rfl rfl (fun H locs G => ?_)
  refine lv_aload_n hx hb dX12_mapByte_23 rfl (lv_at hl 0 rfl) ?_
  refine m_get E G 0 (v := .int 1) (by decide) (.tail _ qM_26) rfl dX12_mapByte_24 rfl ?_
  refine lv_if_ne (tgt := 39) hx hb dX12_mapByte_27 (by decide) (fun c3 => ?_) (fun c3 => absurd c3 (by decide +kernel))
  refine lv_iconst (v := 0) hx hb dX12_mapByte_39 (by decide) ?_
  exact W.iret (v := 0) hx hb hr (fun t ht hW => ⟨⟨0, (mi S 0 1), rfl, ⟨rfl, rfl⟩, ⟨by rw [ht]; exact G.1, va_K.moved hW.alike hK, G.2.1⟩⟩, G.2.2.F ht⟩) G.2.2.2.2 dX12_mapByte_40
set_option maxHeartbeats 4000000 in
set_option maxRecDepth 100000 in
theorem n_undo (l : Launch) (D : va_G) (cI cJ cZ : ClassId) (ad : Nat → Nat) (S : MS) (h19 : S.1 19 = 0) : mCi l yX12_undo (Cond.code yX12_undo cX12_undo 1 (some .int) :: wsM) 1 0 D cI cJ cZ ad S [] (fun r S1 => r = 0 ∧ S1 = mi S 0 1) := by
  intro sz
  refine Met.ofW (cc := cX12_undo) (maxL := 1) (ret := (some .int)) (by decide) rfl ?_
  intro p e s m args below meth c s₁ B hml hv
  obtain ⟨rfl, hsz, hP, hK, hD0, hR⟩ := hv
  have hx := B.exec
  have hb := B.bytes
  have hr := B.returns
  have hts := atoms_spec (ws := (Cond.code yX12_undo cX12_undo 1 (some .int) :: wsM)) B.pre
  have hown : s.vm.findClass RX12 = some m.cls := findClass_of_methodNamed B.named
  have hlocks := B.notSynchronized
  subst hsz
  have hD := hD0.self (sz := s.heap.size)
  generalize hAe : va_A (MW cI cJ cZ ad S) s.heap.size = A at hD ⊢
  have hA : ∀ q : Nat, s.heap.size ≤ q → A q := fun q h => by rw [← hAe]; exact Or.inr h
  have G : mG D cI cJ cZ ad A s.heap s.heap [] S := ⟨hP, hD, va_S.rf⟩
  have E : mE p c cX12_undo s m ([.ref (ad 0)] : List Value).toArray (Cond.code yX12_undo cX12_undo 1 (some .int) :: wsM) D cI cJ cZ := ⟨hx, hb, hts, hown, hK, fun w h => .tail _ (iM_x h)⟩
  have hl := lv_entry ([.ref (ad 0)]) (n := 1) (Nat.le_of_ble_eq_true rfl)
  rw [lg_entry_eq]
  generalize (lg_sl ([.ref (ad 0)]) ++ List.replicate (1 - (lg_sl ([.ref (ad 0)])).length) Slot.unset).toArray = ls at hl ⊢
  have hl : lv_has ls 1 [(0, .ref (ad 0))] := hl
  have hh : True := trivial
  refine lv_aload_n hx hb dX12_undo_0 rfl (lv_at hl 0 rfl) ?_
  refine lv_aload_n hx hb dX12_undo_1 rfl (lv_at hl 0 rfl) ?_
  refine m_get E G 19 (v := .int (S.1 19)) (by decide) (.tail _ qM_194) rfl dX12_undo_2 rfl ?_
  refine lv_to (y := 0) h19 ?_
  refine lv_if_ne (tgt := 12) hx hb dX12_undo_5 (by decide) (fun c1 => absurd (by decide +kernel) c1) (fun c1 => ?_)
  refine lv_iconst (v := 1) hx hb dX12_undo_8 (by decide) ?_
  refine lv_goto (tgt := 13) hx hb dX12_undo_9 (by decide) ?_
  refine m_put E G 0 (by decide) (.tail _ qM_26) (mw_i0 _ _ _ _ _ 1) dX12_undo_13 ⟨rfl, rfl, rfl⟩ rfl rfl (fun H locs G => ?_)
  refine lv_aload_n hx hb dX12_undo_16 rfl (lv_at hl 0 rfl) ?_
  refine m_get E G 0 (v := .int 1) (by decide) (.tail _ qM_26) rfl dX12_undo_17 rfl ?_
  refine lv_if_le (tgt := 25) hx hb dX12_undo_20 (by decide) (fun c2 => absurd c2 (by decide +kernel)) (fun c2 => ?_)
  refine lv_iconst (v := 0) hx hb dX12_undo_23 (by decide) ?_
  exact W.iret (v := 0) hx hb hr (fun t ht hW => ⟨⟨0, (mi S 0 1), rfl, ⟨rfl, rfl⟩, ⟨by rw [ht]; exact G.1, va_K.moved hW.alike hK, G.2.1⟩⟩, G.2.2.F ht⟩) G.2.2.2.2 dX12_undo_24
set_option maxHeartbeats 4000000 in
set_option maxRecDepth 100000 in
theorem n_restore_b (l : Launch) (D : va_G) (cI cJ cZ : ClassId) (ad : Nat → Nat) (S : MS) (x : Int32) (h : ¬ (¬ x < 0 ∧ x < 2)) : mCi l yX12_restore (Cond.code yX12_restore cX12_restore 2 (some .int) :: wsM) 2 22 D cI cJ cZ ad S [.int x] (fun r S1 => r = 0 ∧ S1 = mi S 0 1) := by
  intro sz
  refine Met.ofW (cc := cX12_restore) (maxL := 2) (ret := (some .int)) (by decide) rfl ?_
  intro p e s m args below meth c s₁ B hml hv
  obtain ⟨rfl, hsz, hP, hK, hD0, hR⟩ := hv
  have hx := B.exec
  have hb := B.bytes
  have hr := B.returns
  have hts := atoms_spec (ws := (Cond.code yX12_restore cX12_restore 2 (some .int) :: wsM)) B.pre
  have hown : s.vm.findClass RX12 = some m.cls := findClass_of_methodNamed B.named
  have hlocks := B.notSynchronized
  subst hsz
  have hD := hD0.self (sz := s.heap.size)
  generalize hAe : va_A (MW cI cJ cZ ad S) s.heap.size = A at hD ⊢
  have hA : ∀ q : Nat, s.heap.size ≤ q → A q := fun q h => by rw [← hAe]; exact Or.inr h
  have G : mG D cI cJ cZ ad A s.heap s.heap [] S := ⟨hP, hD, va_S.rf⟩
  have E : mE p c cX12_restore s m ([.ref (ad 0), .int x] : List Value).toArray (Cond.code yX12_restore cX12_restore 2 (some .int) :: wsM) D cI cJ cZ := ⟨hx, hb, hts, hown, hK, fun w h => .tail _ (iM_x h)⟩
  have hl := lv_entry ([.ref (ad 0), .int x]) (n := 2) (Nat.le_of_ble_eq_true rfl)
  rw [lg_entry_eq]
  generalize (lg_sl ([.ref (ad 0), .int x]) ++ List.replicate (2 - (lg_sl ([.ref (ad 0), .int x])).length) Slot.unset).toArray = ls at hl ⊢
  have hl : lv_has ls 2 [(0, .ref (ad 0)), (1, .int x)] := hl
  have hh : True := trivial
  refine lv_aload_n hx hb dX12_restore_0 rfl (lv_at hl 0 rfl) ?_
  refine lv_iload_n hx hb dX12_restore_1 rfl (lv_at hl 1 rfl) ?_
  refine lv_iconst (v := 0) hx hb dX12_restore_2 (by decide) ?_
  refine lv_iconst (v := 1) hx hb dX12_restore_3 (by decide) ?_
  refine m_stat (As := [.int x, .int 0, .int 1]) (rest := [.ref (ad 0)]) ⟨hx, hb, hml, hown, hts⟩ (m_in l x 0 1) (cwS 3 hts (gmS qM_52 qM_53 qM_35 qM_27) rfl rfl rfl (by decide +kernel) ⟨Nat.le_of_ble_eq_true rfl, Nat.le_of_ble_eq_true rfl⟩) rfl hl.1 rfl (lv_room (Nat.le_of_ble_eq_true rfl)) dX12_restore_4 ⟨Nat.zero_le _, Nat.zero_le _⟩ (fun r1 hq => ?_)
  obtain rfl : r1 = 0 := hq.trans (if_neg (fun q => h ⟨Int32.not_lt.mpr q.1, Int32.lt_of_le_of_lt q.2 (by decide)⟩))
  refine lv_if_ne (tgt := 14) hx hb dX12_restore_7 (by decide) (fun c2 => absurd (by decide +kernel) c2) (fun c2 => ?_)
  refine lv_iconst (v := 1) hx hb dX12_restore_10 (by decide) ?_
  refine lv_goto (tgt := 28) hx hb dX12_restore_11 (by decide) ?_
  refine m_put E G 0 (by decide) (.tail _ qM_26) (mw_i0 _ _ _ _ _ 1) dX12_restore_28 ⟨rfl, rfl, rfl⟩ rfl rfl (fun H locs G => ?_)
  refine lv_aload_n hx hb dX12_restore_31 rfl (lv_at hl 0 rfl) ?_
  refine m_get E G 0 (v := .int 1) (by decide) (.tail _ qM_26) rfl dX12_restore_32 rfl ?_
  refine lv_if_le (tgt := 40) hx hb dX12_restore_35 (by decide) (fun c3 => absurd c3 (by decide +kernel)) (fun c3 => ?_)
  refine lv_iconst (v := 0) hx hb dX12_restore_38 (by decide) ?_
  exact W.iret (v := 0) hx hb hr (fun t ht hW => ⟨⟨0, (mi S 0 1), rfl, ⟨rfl, rfl⟩, ⟨by rw [ht]; exact G.1, va_K.moved hW.alike hK, G.2.1⟩⟩, G.2.2.F ht⟩) G.2.2.2.2 dX12_restore_39
set_option maxHeartbeats 4000000 in
set_option maxRecDepth 100000 in
theorem n_restore_a (l : Launch) (D : va_G) (cI cJ cZ : ClassId) (ad : Nat → Nat) (S : MS) (x : Int32) (h1 : ¬ x < 0) (h2 : x < 2) (h18 : ∀ k, S.2.1 18 k = 0) : mCi l yX12_restore (Cond.code yX12_restore cX12_restore 2 (some .int) :: wsM) 2 22 D cI cJ cZ ad S [.int x] (fun r S1 => r = 0 ∧ S1 = mi S 0 2) := by
  intro sz
  refine Met.ofW (cc := cX12_restore) (maxL := 2) (ret := (some .int)) (by decide) rfl ?_
  intro p e s m args below meth c s₁ B hml hv
  obtain ⟨rfl, hsz, hP, hK, hD0, hR⟩ := hv
  have hx := B.exec
  have hb := B.bytes
  have hr := B.returns
  have hts := atoms_spec (ws := (Cond.code yX12_restore cX12_restore 2 (some .int) :: wsM)) B.pre
  have hown : s.vm.findClass RX12 = some m.cls := findClass_of_methodNamed B.named
  have hlocks := B.notSynchronized
  subst hsz
  have hD := hD0.self (sz := s.heap.size)
  generalize hAe : va_A (MW cI cJ cZ ad S) s.heap.size = A at hD ⊢
  have hA : ∀ q : Nat, s.heap.size ≤ q → A q := fun q h => by rw [← hAe]; exact Or.inr h
  have G : mG D cI cJ cZ ad A s.heap s.heap [] S := ⟨hP, hD, va_S.rf⟩
  have E : mE p c cX12_restore s m ([.ref (ad 0), .int x] : List Value).toArray (Cond.code yX12_restore cX12_restore 2 (some .int) :: wsM) D cI cJ cZ := ⟨hx, hb, hts, hown, hK, fun w h => .tail _ (iM_x h)⟩
  have hl := lv_entry ([.ref (ad 0), .int x]) (n := 2) (Nat.le_of_ble_eq_true rfl)
  rw [lg_entry_eq]
  generalize (lg_sl ([.ref (ad 0), .int x]) ++ List.replicate (2 - (lg_sl ([.ref (ad 0), .int x])).length) Slot.unset).toArray = ls at hl ⊢
  have hl : lv_has ls 2 [(0, .ref (ad 0)), (1, .int x)] := hl
  have hh : True := trivial
  refine lv_aload_n hx hb dX12_restore_0 rfl (lv_at hl 0 rfl) ?_
  refine lv_iload_n hx hb dX12_restore_1 rfl (lv_at hl 1 rfl) ?_
  refine lv_iconst (v := 0) hx hb dX12_restore_2 (by decide) ?_
  refine lv_iconst (v := 1) hx hb dX12_restore_3 (by decide) ?_
  refine m_stat (As := [.int x, .int 0, .int 1]) (rest := [.ref (ad 0)]) ⟨hx, hb, hml, hown, hts⟩ (m_in l x 0 1) (cwS 3 hts (gmS qM_52 qM_53 qM_35 qM_27) rfl rfl rfl (by decide +kernel) ⟨Nat.le_of_ble_eq_true rfl, Nat.le_of_ble_eq_true rfl⟩) rfl hl.1 rfl (lv_room (Nat.le_of_ble_eq_true rfl)) dX12_restore_4 ⟨Nat.zero_le _, Nat.zero_le _⟩ (fun r1 hq => ?_)
  obtain rfl : r1 = 1 := hq.trans (if_pos (m_x01l h1 h2))
  refine lv_if_ne (tgt := 14) hx hb dX12_restore_7 (by decide) (fun c2 => ?_) (fun c2 => absurd c2 (by decide +kernel))
  refine lv_aload_n hx hb dX12_restore_14 rfl (lv_at hl 0 rfl) ?_
  refine m_get E G 18 (v := .ref (ad 18)) (by decide) (.tail _ qM_16) rfl dX12_restore_15 rfl ?_
  refine lv_iload_n hx hb dX12_restore_18 rfl (lv_at hl 1 rfl) ?_
  refine m_zald E G 18 10 (n := 2) (k := x.toNatClampNeg) rfl (m_x01i h1 h2).1 (m_x01i h1 h2).2 (by decide) dX12_restore_19 ?_
  refine lv_to (y := 0) (h18 _) ?_
  refine lv_if_eq (tgt := 27) hx hb dX12_restore_20 (by decide) (fun c3 => ?_) (fun c3 => absurd (by decide +kernel) c3)
  refine lv_iconst (v := 2) hx hb dX12_restore_27 (by decide) ?_
  refine m_put E G 0 (by decide) (.tail _ qM_26) (mw_i0 _ _ _ _ _ 2) dX12_restore_28 ⟨rfl, rfl, rfl⟩ rfl rfl (fun H locs G => ?_)
  refine lv_aload_n hx hb dX12_restore_31 rfl (lv_at hl 0 rfl) ?_
  refine m_get E G 0 (v := .int 2) (by decide) (.tail _ qM_26) rfl dX12_restore_32 rfl ?_
  refine lv_if_le (tgt := 40) hx hb dX12_restore_35 (by decide) (fun c4 => absurd c4 (by decide +kernel)) (fun c4 => ?_)
  refine lv_iconst (v := 0) hx hb dX12_restore_38 (by decide) ?_
  exact W.iret (v := 0) hx hb hr (fun t ht hW => ⟨⟨0, (mi S 0 2), rfl, ⟨rfl, rfl⟩, ⟨by rw [ht]; exact G.1, va_K.moved hW.alike hK, G.2.1⟩⟩, G.2.2.F ht⟩) G.2.2.2.2 dX12_restore_39
set_option maxHeartbeats 4000000 in
set_option maxRecDepth 100000 in
theorem n_load_x (l : Launch) (D : va_G) (cI cJ cZ : ClassId) (ad : Nat → Nat) (S : MS) (x : Int32) (h2 : S.1 2 = 0) (h : ¬ x = 0) : mCi l yX12_load (Cond.code yX12_load cX12_load 4 (some .int) :: wsM) 2 22 D cI cJ cZ ad S [.int x] (fun r S1 => r = 0 ∧ S1 = mi (mi S 0 0) 0 1) := by
  intro sz
  refine Met.ofW (cc := cX12_load) (maxL := 4) (ret := (some .int)) (by decide) rfl ?_
  intro p e s m args below meth c s₁ B hml hv
  obtain ⟨rfl, hsz, hP, hK, hD0, hR⟩ := hv
  have hx := B.exec
  have hb := B.bytes
  have hr := B.returns
  have hts := atoms_spec (ws := (Cond.code yX12_load cX12_load 4 (some .int) :: wsM)) B.pre
  have hown : s.vm.findClass RX12 = some m.cls := findClass_of_methodNamed B.named
  have hlocks := B.notSynchronized
  subst hsz
  have hD := hD0.self (sz := s.heap.size)
  generalize hAe : va_A (MW cI cJ cZ ad S) s.heap.size = A at hD ⊢
  have hA : ∀ q : Nat, s.heap.size ≤ q → A q := fun q h => by rw [← hAe]; exact Or.inr h
  have G : mG D cI cJ cZ ad A s.heap s.heap [] S := ⟨hP, hD, va_S.rf⟩
  have E : mE p c cX12_load s m ([.ref (ad 0), .int x] : List Value).toArray (Cond.code yX12_load cX12_load 4 (some .int) :: wsM) D cI cJ cZ := ⟨hx, hb, hts, hown, hK, fun w h => .tail _ (iM_x h)⟩
  have hl := lv_entry ([.ref (ad 0), .int x]) (n := 4) (Nat.le_of_ble_eq_true rfl)
  rw [lg_entry_eq]
  generalize (lg_sl ([.ref (ad 0), .int x]) ++ List.replicate (4 - (lg_sl ([.ref (ad 0), .int x])).length) Slot.unset).toArray = ls at hl ⊢
  have hl : lv_has ls 4 [(0, .ref (ad 0)), (1, .int x)] := hl
  have hh : True := trivial
  refine lv_aload_n hx hb dX12_load_0 rfl (lv_at hl 0 rfl) ?_
  refine lv_iconst (v := 0) hx hb dX12_load_1 (by decide) ?_
  refine m_put E G 0 (by decide) (.tail _ qM_26) (mw_i0 _ _ _ _ _ 0) dX12_load_2 ⟨rfl, rfl, rfl⟩ rfl rfl (fun H locs G => ?_)
  refine lv_iload_n hx hb dX12_load_5 rfl (lv_at hl 1 rfl) ?_
  refine lv_iconst (v := 0) hx hb dX12_load_6 (by decide) ?_
  refine lv_aload_n hx hb dX12_load_7 rfl (lv_at hl 0 rfl) ?_
  refine m_get E G 2 (v := .int (S.1 2)) (by decide) (.tail _ qM_30) rfl dX12_load_8 rfl ?_
  refine lv_to (y := 0) h2 ?_
  refine m_stat (As := [.int x, .int 0, .int 0]) (rest := []) ⟨hx, hb, hml, hown, hts⟩ (m_in l x 0 0) (cwS 3 hts (gmS qM_52 qM_53 qM_35 qM_27) rfl rfl rfl (by decide +kernel) ⟨Nat.le_of_ble_eq_true rfl, Nat.le_of_ble_eq_true rfl⟩) rfl hl.1 rfl (lv_room (Nat.le_of_ble_eq_true rfl)) dX12_load_11 ⟨Nat.zero_le _, Nat.zero_le _⟩ (fun r1 hq => ?_)
  obtain rfl : r1 = 0 := hq.trans (if_neg (fun q => h (Int32.le_antisymm q.2 q.1)))
  refine lv_if_ne (tgt := 23) hx hb dX12_load_14 (by decide) (fun c2 => absurd (by decide +kernel) c2) (fun c2 => ?_)
  refine lv_aload_n hx hb dX12_load_17 rfl (lv_at hl 0 rfl) ?_
  refine lv_iconst (v := 1) hx hb dX12_load_18 (by decide) ?_
  refine m_calli (As := [.int 1]) (rest := []) E G hA hR hml (m_throwsAt l D cI cJ cZ ad (mi S 0 0) 1) (cwV 1 hts (gmV qM_195 qM_196 qM_197 qM_35 qM_28) rfl rfl rfl (by decide +kernel) ⟨Nat.le_of_ble_eq_true rfl, Nat.le_of_ble_eq_true rfl⟩) rfl hl.1 rfl (lv_room (Nat.le_of_ble_eq_true rfl)) dX12_load_19 ⟨Nat.zero_le _, Nat.zero_le _⟩ (fun r3 S4 H locs hq G => ?_)
  obtain ⟨hq1, hq2⟩ := hq
  rw [hq2] at G
  refine lv_to (y := 0) hq1 ?_
  exact W.iret (v := 0) hx hb hr (fun t ht hW => ⟨⟨0, (mi (mi S 0 0) 0 1), rfl, ⟨rfl, rfl⟩, ⟨by rw [ht]; exact G.1, va_K.moved hW.alike hK, G.2.1⟩⟩, G.2.2.F ht⟩) G.2.2.2.2 dX12_load_22
set_option maxHeartbeats 4000000 in
set_option maxRecDepth 100000 in
theorem n_contrast (l : Launch) (D : va_G) (cI cJ cZ : ClassId) (ad : Nat → Nat) (S : MS) (h20 : S.1 20 = 0) : mCf l yX12_contrast (Cond.code yX12_contrast cX12_contrast 5 (some .float) :: wsM) 2 21 D cI cJ cZ ad S [] (fun r S1 => r = FP.fconst0 ∧ S1 = mi S 0 1) := by
  intro sz
  refine Met.ofW (cc := cX12_contrast) (maxL := 5) (ret := (some .float)) (by decide) rfl ?_
  intro p e s m args below meth c s₁ B hml hv
  obtain ⟨rfl, hsz, hP, hK, hD0, hR⟩ := hv
  have hx := B.exec
  have hb := B.bytes
  have hr := B.returns
  have hts := atoms_spec (ws := (Cond.code yX12_contrast cX12_contrast 5 (some .float) :: wsM)) B.pre
  have hown : s.vm.findClass RX12 = some m.cls := findClass_of_methodNamed B.named
  have hlocks := B.notSynchronized
  subst hsz
  have hD := hD0.self (sz := s.heap.size)
  generalize hAe : va_A (MW cI cJ cZ ad S) s.heap.size = A at hD ⊢
  have hA : ∀ q : Nat, s.heap.size ≤ q → A q := fun q h => by rw [← hAe]; exact Or.inr h
  have G : mG D cI cJ cZ ad A s.heap s.heap [] S := ⟨hP, hD, va_S.rf⟩
  have E : mE p c cX12_contrast s m ([.ref (ad 0)] : List Value).toArray (Cond.code yX12_contrast cX12_contrast 5 (some .float) :: wsM) D cI cJ cZ := ⟨hx, hb, hts, hown, hK, fun w h => .tail _ (iM_x h)⟩
  have hl := lv_entry ([.ref (ad 0)]) (n := 5) (Nat.le_of_ble_eq_true rfl)
  rw [lg_entry_eq]
  generalize (lg_sl ([.ref (ad 0)]) ++ List.replicate (5 - (lg_sl ([.ref (ad 0)])).length) Slot.unset).toArray = ls at hl ⊢
  have hl : lv_has ls 5 [(0, .ref (ad 0))] := hl
  have hh : True := trivial
  refine lv_aload_n hx hb dX12_contrast_0 rfl (lv_at hl 0 rfl) ?_
  refine lv_iconst (v := 1) hx hb dX12_contrast_1 (by decide) ?_
  refine m_calli (As := [.int 1]) (rest := []) E G hA hR hml (n_mayAsk l D cI cJ cZ ad S 1 h20) (cwV 1 hts (gmV qM_319 qM_320 qM_321 qM_35 qM_304) rfl rfl rfl (by decide +kernel) ⟨Nat.le_of_ble_eq_true rfl, Nat.le_of_ble_eq_true rfl⟩) rfl hl.1 rfl (lv_room (Nat.le_of_ble_eq_true rfl)) dX12_contrast_2 ⟨Nat.zero_le _, Nat.zero_le _⟩ (fun r1 S2 H locs hq G => ?_)
  obtain ⟨hq1, hq2⟩ := hq
  rw [hq2] at G
  refine lv_to (y := 0) hq1 ?_
  refine lv_if_ne (tgt := 10) hx hb dX12_contrast_5 (by decide) (fun c3 => absurd (by decide +kernel) c3) (fun c3 => ?_)
  refine lv_fconst0 hx hb dX12_contrast_8 ?_
  exact W.fret (v := FP.fconst0) hx hb hr (fun t ht hW => ⟨⟨FP.fconst0, (mi S 0 1), rfl, ⟨rfl, rfl⟩, ⟨by rw [ht]; exact G.1, va_K.moved hW.alike hK, G.2.1⟩⟩, G.2.2.F ht⟩) G.2.2.2.2 dX12_contrast_9
set_option maxHeartbeats 4000000 in
set_option maxRecDepth 100000 in
theorem n_four_0 (l : Launch) (D : va_G) (cI cJ cZ : ClassId) (ad : Nat → Nat) (S : MS) (v : Int32) (h2 : S.1 2 = 0) : mCv l yX12_four (Cond.code yX12_four cX12_four 3 none :: wsM) 1 0 D cI cJ cZ ad S [.int v] (fun S1 => S1.1 0 = S.1 0 ∧ S1.1 2 = 4) := by
  intro sz
  refine Met.ofW (cc := cX12_four) (maxL := 3) (ret := none) (by decide) rfl ?_
  intro p e s m args below meth c s₁ B hml hv
  obtain ⟨rfl, hsz, hP, hK, hD0, hR⟩ := hv
  have hx := B.exec
  have hb := B.bytes
  have hr := B.returns
  have hts := atoms_spec (ws := (Cond.code yX12_four cX12_four 3 none :: wsM)) B.pre
  have hown : s.vm.findClass RX12 = some m.cls := findClass_of_methodNamed B.named
  have hlocks := B.notSynchronized
  subst hsz
  have hD := hD0.self (sz := s.heap.size)
  generalize hAe : va_A (MW cI cJ cZ ad S) s.heap.size = A at hD ⊢
  have hA : ∀ q : Nat, s.heap.size ≤ q → A q := fun q h => by rw [← hAe]; exact Or.inr h
  have G : mG D cI cJ cZ ad A s.heap s.heap [] S := ⟨hP, hD, va_S.rf⟩
  have E : mE p c cX12_four s m ([.ref (ad 0), .int v] : List Value).toArray (Cond.code yX12_four cX12_four 3 none :: wsM) D cI cJ cZ := ⟨hx, hb, hts, hown, hK, fun w h => .tail _ (iM_x h)⟩
  have hl := lv_entry ([.ref (ad 0), .int v]) (n := 3) (Nat.le_of_ble_eq_true rfl)
  rw [lg_entry_eq]
  generalize (lg_sl ([.ref (ad 0), .int v]) ++ List.replicate (3 - (lg_sl ([.ref (ad 0), .int v])).length) Slot.unset).toArray = ls at hl ⊢
  have hl : lv_has ls 3 [(0, .ref (ad 0)), (1, .int v)] := hl
  have hh : True := trivial
  refine lv_bipush (v := 24) hx hb dX12_four_0 (by decide) ?_
  refine lv_istore_n (lv' := [(2, .int 24), (0, .ref (ad 0)), (1, .int v)]) hx hb dX12_four_2 rfl hl (by decide) rfl (fun ls hl => ?_)
  refine lv_iload_n hx hb dX12_four_3 rfl (lv_at hl 0 rfl) ?_
  refine lv_if_lt (tgt := 39) hx hb dX12_four_4 (by decide) (fun c1 => absurd c1 (by decide +kernel)) (fun c1 => ?_)
  refine lv_aload_n hx hb dX12_four_7 rfl (lv_at hl 1 rfl) ?_
  refine m_get E G 1 (v := .ref (ad 1)) (by decide) (.tail _ qM_5) rfl dX12_four_8 rfl ?_
  refine lv_aload_n hx hb dX12_four_11 rfl (lv_at hl 1 rfl) ?_
  refine m_get E G 2 (v := .int (S.1 2)) (by decide) (.tail _ qM_30) rfl dX12_four_12 rfl ?_
  refine lv_to (y := 0) h2 ?_
  refine lv_iload_n hx hb dX12_four_15 rfl (lv_at hl 2 rfl) ?_
  refine lv_iload_n hx hb dX12_four_16 rfl (lv_at hl 0 rfl) ?_
  refine lv_ishr hx hb dX12_four_17 ?_
  refine lv_topi (fun v2 ev2 => ?_)
  refine lv_sipush (v := 255) hx hb dX12_four_18 (by decide) ?_
  refine lv_iand hx hb dX12_four_21 ?_
  refine lv_topi (fun v3 ev3 => ?_)
  refine m_iast E G 1 1 (k := 0) rfl (fun _ => rfl) rfl (by decide) (by decide) dX12_four_22 (fun H locs G => ?_)
  refine lv_aload_n hx hb dX12_four_23 rfl (lv_at hl 1 rfl) ?_
  refine lv_dup hx hb dX12_four_24 rfl ?_
  refine m_get E G 2 (v := .int (S.1 2)) (by decide) (.tail _ qM_30) rfl dX12_four_25 rfl ?_
  refine lv_to (y := 0) h2 ?_
  refine lv_iconst (v := 1) hx hb dX12_four_28 (by decide) ?_
  refine lv_iadd hx hb dX12_four_29 ?_
  refine lv_to (y := 1) (by decide +kernel) ?_
  refine m_put E G 2 (by decide) (.tail _ qM_30) (mw_i2 _ _ _ _ _ 1) dX12_four_30 ⟨rfl, rfl, rfl⟩ rfl rfl (fun H locs G => ?_)
  refine lv_iinc (v := 16) (lv' := [(2, .int 16), (0, .ref (ad 0)), (1, .int v)]) hx hb dX12_four_33 hl (k := 0) rfl (by decide +kernel) (by decide) rfl (fun ls hl => ?_)
  refine lv_goto (tgt := 3) hx hb dX12_four_36 (by decide) ?_
  refine lv_iload_n hx hb dX12_four_3 rfl (lv_at hl 0 rfl) ?_
  refine lv_if_lt (tgt := 39) hx hb dX12_four_4 (by decide) (fun c4 => absurd c4 (by decide +kernel)) (fun c4 => ?_)
  refine lv_aload_n hx hb dX12_four_7 rfl (lv_at hl 1 rfl) ?_
  refine m_get E G 1 (v := .ref (ad 1)) (by decide) (.tail _ qM_5) rfl dX12_four_8 rfl ?_
  refine lv_aload_n hx hb dX12_four_11 rfl (lv_at hl 1 rfl) ?_
  refine m_get E G 2 (v := .int 1) (by decide) (.tail _ qM_30) rfl dX12_four_12 rfl ?_
  refine lv_iload_n hx hb dX12_four_15 rfl (lv_at hl 2 rfl) ?_
  refine lv_iload_n hx hb dX12_four_16 rfl (lv_at hl 0 rfl) ?_
  refine lv_ishr hx hb dX12_four_17 ?_
  refine lv_topi (fun v5 ev5 => ?_)
  refine lv_sipush (v := 255) hx hb dX12_four_18 (by decide) ?_
  refine lv_iand hx hb dX12_four_21 ?_
  refine lv_topi (fun v6 ev6 => ?_)
  refine m_iast E G 1 1 (k := 1) rfl (fun _ => rfl) rfl (by decide) (by decide) dX12_four_22 (fun H locs G => ?_)
  refine lv_aload_n hx hb dX12_four_23 rfl (lv_at hl 1 rfl) ?_
  refine lv_dup hx hb dX12_four_24 rfl ?_
  refine m_get E G 2 (v := .int 1) (by decide) (.tail _ qM_30) rfl dX12_four_25 rfl ?_
  refine lv_iconst (v := 1) hx hb dX12_four_28 (by decide) ?_
  refine lv_iadd hx hb dX12_four_29 ?_
  refine lv_to (y := 2) (by decide +kernel) ?_
  refine m_put E G 2 (by decide) (.tail _ qM_30) (mw_i2 _ _ _ _ _ 2) dX12_four_30 ⟨rfl, rfl, rfl⟩ rfl rfl (fun H locs G => ?_)
  refine lv_iinc (v := 8) (lv' := [(2, .int 8), (0, .ref (ad 0)), (1, .int v)]) hx hb dX12_four_33 hl (k := 0) rfl (by decide +kernel) (by decide) rfl (fun ls hl => ?_)
  refine lv_goto (tgt := 3) hx hb dX12_four_36 (by decide) ?_
  refine lv_iload_n hx hb dX12_four_3 rfl (lv_at hl 0 rfl) ?_
  refine lv_if_lt (tgt := 39) hx hb dX12_four_4 (by decide) (fun c7 => absurd c7 (by decide +kernel)) (fun c7 => ?_)
  refine lv_aload_n hx hb dX12_four_7 rfl (lv_at hl 1 rfl) ?_
  refine m_get E G 1 (v := .ref (ad 1)) (by decide) (.tail _ qM_5) rfl dX12_four_8 rfl ?_
  refine lv_aload_n hx hb dX12_four_11 rfl (lv_at hl 1 rfl) ?_
  refine m_get E G 2 (v := .int 2) (by decide) (.tail _ qM_30) rfl dX12_four_12 rfl ?_
  refine lv_iload_n hx hb dX12_four_15 rfl (lv_at hl 2 rfl) ?_
  refine lv_iload_n hx hb dX12_four_16 rfl (lv_at hl 0 rfl) ?_
  refine lv_ishr hx hb dX12_four_17 ?_
  refine lv_topi (fun v8 ev8 => ?_)
  refine lv_sipush (v := 255) hx hb dX12_four_18 (by decide) ?_
  refine lv_iand hx hb dX12_four_21 ?_
  refine lv_topi (fun v9 ev9 => ?_)
  refine m_iast E G 1 1 (k := 2) rfl (fun _ => rfl) rfl (by decide) (by decide) dX12_four_22 (fun H locs G => ?_)
  refine lv_aload_n hx hb dX12_four_23 rfl (lv_at hl 1 rfl) ?_
  refine lv_dup hx hb dX12_four_24 rfl ?_
  refine m_get E G 2 (v := .int 2) (by decide) (.tail _ qM_30) rfl dX12_four_25 rfl ?_
  refine lv_iconst (v := 1) hx hb dX12_four_28 (by decide) ?_
  refine lv_iadd hx hb dX12_four_29 ?_
  refine lv_to (y := 3) (by decide +kernel) ?_
  refine m_put E G 2 (by decide) (.tail _ qM_30) (mw_i2 _ _ _ _ _ 3) dX12_four_30 ⟨rfl, rfl, rfl⟩ rfl rfl (fun H locs G => ?_)
  refine lv_iinc (v := 0) (lv' := [(2, .int 0), (0, .ref (ad 0)), (1, .int v)]) hx hb dX12_four_33 hl (k := 0) rfl (by decide +kernel) (by decide) rfl (fun ls hl => ?_)
  refine lv_goto (tgt := 3) hx hb dX12_four_36 (by decide) ?_
  refine lv_iload_n hx hb dX12_four_3 rfl (lv_at hl 0 rfl) ?_
  refine lv_if_lt (tgt := 39) hx hb dX12_four_4 (by decide) (fun c10 => absurd c10 (by decide +kernel)) (fun c10 => ?_)
  refine lv_aload_n hx hb dX12_four_7 rfl (lv_at hl 1 rfl) ?_
  refine m_get E G 1 (v := .ref (ad 1)) (by decide) (.tail _ qM_5) rfl dX12_four_8 rfl ?_
  refine lv_aload_n hx hb dX12_four_11 rfl (lv_at hl 1 rfl) ?_
  refine m_get E G 2 (v := .int 3) (by decide) (.tail _ qM_30) rfl dX12_four_12 rfl ?_
  refine lv_iload_n hx hb dX12_four_15 rfl (lv_at hl 2 rfl) ?_
  refine lv_iload_n hx hb dX12_four_16 rfl (lv_at hl 0 rfl) ?_
  refine lv_ishr hx hb dX12_four_17 ?_
  refine lv_topi (fun v11 ev11 => ?_)
  refine lv_sipush (v := 255) hx hb dX12_four_18 (by decide) ?_
  refine lv_iand hx hb dX12_four_21 ?_
  refine lv_topi (fun v12 ev12 => ?_)
  refine m_iast E G 1 1 (k := 3) rfl (fun _ => rfl) rfl (by decide) (by decide) dX12_four_22 (fun H locs G => ?_)
  refine lv_aload_n hx hb dX12_four_23 rfl (lv_at hl 1 rfl) ?_
  refine lv_dup hx hb dX12_four_24 rfl ?_
  refine m_get E G 2 (v := .int 3) (by decide) (.tail _ qM_30) rfl dX12_four_25 rfl ?_
  refine lv_iconst (v := 1) hx hb dX12_four_28 (by decide) ?_
  refine lv_iadd hx hb dX12_four_29 ?_
  refine lv_to (y := 4) (by decide +kernel) ?_
  refine m_put E G 2 (by decide) (.tail _ qM_30) (mw_i2 _ _ _ _ _ 4) dX12_four_30 ⟨rfl, rfl, rfl⟩ rfl rfl (fun H locs G => ?_)
  refine lv_iinc (v := (-8)) (lv' := [(2, .int (-8)), (0, .ref (ad 0)), (1, .int v)]) hx hb dX12_four_33 hl (k := 0) rfl (by decide +kernel) (by decide) rfl (fun ls hl => ?_)
  refine lv_goto (tgt := 3) hx hb dX12_four_36 (by decide) ?_
  refine lv_iload_n hx hb dX12_four_3 rfl (lv_at hl 0 rfl) ?_
  refine lv_if_lt (tgt := 39) hx hb dX12_four_4 (by decide) (fun c13 => ?_) (fun c13 => absurd (by decide +kernel) c13)
  exact W.vret hx hb hr (fun t ht hW => ⟨⟨(mi (mf (mi (mf (mi (mf (mi (mf S 1 (upd (S.2.1 1) 0 v3)) 2 1) 1 (upd ((mi (mf S 1 (upd (S.2.1 1) 0 v3)) 2 1).2.1 1) 1 v6)) 2 2) 1 (upd ((mi (mf (mi (mf S 1 (upd (S.2.1 1) 0 v3)) 2 1) 1 (upd ((mi (mf S 1 (upd (S.2.1 1) 0 v3)) 2 1).2.1 1) 1 v6)) 2 2).2.1 1) 2 v9)) 2 3) 1 (upd ((mi (mf (mi (mf (mi (mf S 1 (upd (S.2.1 1) 0 v3)) 2 1) 1 (upd ((mi (mf S 1 (upd (S.2.1 1) 0 v3)) 2 1).2.1 1) 1 v6)) 2 2) 1 (upd ((mi (mf (mi (mf S 1 (upd (S.2.1 1) 0 v3)) 2 1) 1 (upd ((mi (mf S 1 (upd (S.2.1 1) 0 v3)) 2 1).2.1 1) 1 v6)) 2 2).2.1 1) 2 v9)) 2 3).2.1 1) 3 v12)) 2 4), rfl, ⟨rfl, rfl⟩, ⟨by rw [ht]; exact G.1, va_K.moved hW.alike hK, G.2.1⟩⟩, G.2.2.F ht⟩) G.2.2.2.2 dX12_four_39
set_option maxHeartbeats 4000000 in
set_option maxRecDepth 100000 in
theorem n_four_4 (l : Launch) (D : va_G) (cI cJ cZ : ClassId) (ad : Nat → Nat) (S : MS) (v : Int32) (h2 : S.1 2 = 4) : mCv l yX12_four (Cond.code yX12_four cX12_four 3 none :: wsM) 1 0 D cI cJ cZ ad S [.int v] (fun S1 => S1.1 0 = S.1 0 ∧ S1.1 2 = 8) := by
  intro sz
  refine Met.ofW (cc := cX12_four) (maxL := 3) (ret := none) (by decide) rfl ?_
  intro p e s m args below meth c s₁ B hml hv
  obtain ⟨rfl, hsz, hP, hK, hD0, hR⟩ := hv
  have hx := B.exec
  have hb := B.bytes
  have hr := B.returns
  have hts := atoms_spec (ws := (Cond.code yX12_four cX12_four 3 none :: wsM)) B.pre
  have hown : s.vm.findClass RX12 = some m.cls := findClass_of_methodNamed B.named
  have hlocks := B.notSynchronized
  subst hsz
  have hD := hD0.self (sz := s.heap.size)
  generalize hAe : va_A (MW cI cJ cZ ad S) s.heap.size = A at hD ⊢
  have hA : ∀ q : Nat, s.heap.size ≤ q → A q := fun q h => by rw [← hAe]; exact Or.inr h
  have G : mG D cI cJ cZ ad A s.heap s.heap [] S := ⟨hP, hD, va_S.rf⟩
  have E : mE p c cX12_four s m ([.ref (ad 0), .int v] : List Value).toArray (Cond.code yX12_four cX12_four 3 none :: wsM) D cI cJ cZ := ⟨hx, hb, hts, hown, hK, fun w h => .tail _ (iM_x h)⟩
  have hl := lv_entry ([.ref (ad 0), .int v]) (n := 3) (Nat.le_of_ble_eq_true rfl)
  rw [lg_entry_eq]
  generalize (lg_sl ([.ref (ad 0), .int v]) ++ List.replicate (3 - (lg_sl ([.ref (ad 0), .int v])).length) Slot.unset).toArray = ls at hl ⊢
  have hl : lv_has ls 3 [(0, .ref (ad 0)), (1, .int v)] := hl
  have hh : True := trivial
  refine lv_bipush (v := 24) hx hb dX12_four_0 (by decide) ?_
  refine lv_istore_n (lv' := [(2, .int 24), (0, .ref (ad 0)), (1, .int v)]) hx hb dX12_four_2 rfl hl (by decide) rfl (fun ls hl => ?_)
  refine lv_iload_n hx hb dX12_four_3 rfl (lv_at hl 0 rfl) ?_
  refine lv_if_lt (tgt := 39) hx hb dX12_four_4 (by decide) (fun c1 => absurd c1 (by decide +kernel)) (fun c1 => ?_)
  refine lv_aload_n hx hb dX12_four_7 rfl (lv_at hl 1 rfl) ?_
  refine m_get E G 1 (v := .ref (ad 1)) (by decide) (.tail _ qM_5) rfl dX12_four_8 rfl ?_
  refine lv_aload_n hx hb dX12_four_11 rfl (lv_at hl 1 rfl) ?_
  refine m_get E G 2 (v := .int (S.1 2)) (by decide) (.tail _ qM_30) rfl dX12_four_12 rfl ?_
  refine lv_to (y := 4) h2 ?_
  refine lv_iload_n hx hb dX12_four_15 rfl (lv_at hl 2 rfl) ?_
  refine lv_iload_n hx hb dX12_four_16 rfl (lv_at hl 0 rfl) ?_
  refine lv_ishr hx hb dX12_four_17 ?_
  refine lv_topi (fun v2 ev2 => ?_)
  refine lv_sipush (v := 255) hx hb dX12_four_18 (by decide) ?_
  refine lv_iand hx hb dX12_four_21 ?_
  refine lv_topi (fun v3 ev3 => ?_)
  refine m_iast E G 1 1 (k := 4) rfl (fun _ => rfl) rfl (by decide) (by decide) dX12_four_22 (fun H locs G => ?_)
  refine lv_aload_n hx hb dX12_four_23 rfl (lv_at hl 1 rfl) ?_
  refine lv_dup hx hb dX12_four_24 rfl ?_
  refine m_get E G 2 (v := .int (S.1 2)) (by decide) (.tail _ qM_30) rfl dX12_four_25 rfl ?_
  refine lv_to (y := 4) h2 ?_
  refine lv_iconst (v := 1) hx hb dX12_four_28 (by decide) ?_
  refine lv_iadd hx hb dX12_four_29 ?_
  refine lv_to (y := 5) (by decide +kernel) ?_
  refine m_put E G 2 (by decide) (.tail _ qM_30) (mw_i2 _ _ _ _ _ 5) dX12_four_30 ⟨rfl, rfl, rfl⟩ rfl rfl (fun H locs G => ?_)
  refine lv_iinc (v := 16) (lv' := [(2, .int 16), (0, .ref (ad 0)), (1, .int v)]) hx hb dX12_four_33 hl (k := 0) rfl (by decide +kernel) (by decide) rfl (fun ls hl => ?_)
  refine lv_goto (tgt := 3) hx hb dX12_four_36 (by decide) ?_
  refine lv_iload_n hx hb dX12_four_3 rfl (lv_at hl 0 rfl) ?_
  refine lv_if_lt (tgt := 39) hx hb dX12_four_4 (by decide) (fun c4 => absurd c4 (by decide +kernel)) (fun c4 => ?_)
  refine lv_aload_n hx hb dX12_four_7 rfl (lv_at hl 1 rfl) ?_
  refine m_get E G 1 (v := .ref (ad 1)) (by decide) (.tail _ qM_5) rfl dX12_four_8 rfl ?_
  refine lv_aload_n hx hb dX12_four_11 rfl (lv_at hl 1 rfl) ?_
  refine m_get E G 2 (v := .int 5) (by decide) (.tail _ qM_30) rfl dX12_four_12 rfl ?_
  refine lv_iload_n hx hb dX12_four_15 rfl (lv_at hl 2 rfl) ?_
  refine lv_iload_n hx hb dX12_four_16 rfl (lv_at hl 0 rfl) ?_
  refine lv_ishr hx hb dX12_four_17 ?_
  refine lv_topi (fun v5 ev5 => ?_)
  refine lv_sipush (v := 255) hx hb dX12_four_18 (by decide) ?_
  refine lv_iand hx hb dX12_four_21 ?_
  refine lv_topi (fun v6 ev6 => ?_)
  refine m_iast E G 1 1 (k := 5) rfl (fun _ => rfl) rfl (by decide) (by decide) dX12_four_22 (fun H locs G => ?_)
  refine lv_aload_n hx hb dX12_four_23 rfl (lv_at hl 1 rfl) ?_
  refine lv_dup hx hb dX12_four_24 rfl ?_
  refine m_get E G 2 (v := .int 5) (by decide) (.tail _ qM_30) rfl dX12_four_25 rfl ?_
  refine lv_iconst (v := 1) hx hb dX12_four_28 (by decide) ?_
  refine lv_iadd hx hb dX12_four_29 ?_
  refine lv_to (y := 6) (by decide +kernel) ?_
  refine m_put E G 2 (by decide) (.tail _ qM_30) (mw_i2 _ _ _ _ _ 6) dX12_four_30 ⟨rfl, rfl, rfl⟩ rfl rfl (fun H locs G => ?_)
  refine lv_iinc (v := 8) (lv' := [(2, .int 8), (0, .ref (ad 0)), (1, .int v)]) hx hb dX12_four_33 hl (k := 0) rfl (by decide +kernel) (by decide) rfl (fun ls hl => ?_)
  refine lv_goto (tgt := 3) hx hb dX12_four_36 (by decide) ?_
  refine lv_iload_n hx hb dX12_four_3 rfl (lv_at hl 0 rfl) ?_
  refine lv_if_lt (tgt := 39) hx hb dX12_four_4 (by decide) (fun c7 => absurd c7 (by decide +kernel)) (fun c7 => ?_)
  refine lv_aload_n hx hb dX12_four_7 rfl (lv_at hl 1 rfl) ?_
  refine m_get E G 1 (v := .ref (ad 1)) (by decide) (.tail _ qM_5) rfl dX12_four_8 rfl ?_
  refine lv_aload_n hx hb dX12_four_11 rfl (lv_at hl 1 rfl) ?_
  refine m_get E G 2 (v := .int 6) (by decide) (.tail _ qM_30) rfl dX12_four_12 rfl ?_
  refine lv_iload_n hx hb dX12_four_15 rfl (lv_at hl 2 rfl) ?_
  refine lv_iload_n hx hb dX12_four_16 rfl (lv_at hl 0 rfl) ?_
  refine lv_ishr hx hb dX12_four_17 ?_
  refine lv_topi (fun v8 ev8 => ?_)
  refine lv_sipush (v := 255) hx hb dX12_four_18 (by decide) ?_
  refine lv_iand hx hb dX12_four_21 ?_
  refine lv_topi (fun v9 ev9 => ?_)
  refine m_iast E G 1 1 (k := 6) rfl (fun _ => rfl) rfl (by decide) (by decide) dX12_four_22 (fun H locs G => ?_)
  refine lv_aload_n hx hb dX12_four_23 rfl (lv_at hl 1 rfl) ?_
  refine lv_dup hx hb dX12_four_24 rfl ?_
  refine m_get E G 2 (v := .int 6) (by decide) (.tail _ qM_30) rfl dX12_four_25 rfl ?_
  refine lv_iconst (v := 1) hx hb dX12_four_28 (by decide) ?_
  refine lv_iadd hx hb dX12_four_29 ?_
  refine lv_to (y := 7) (by decide +kernel) ?_
  refine m_put E G 2 (by decide) (.tail _ qM_30) (mw_i2 _ _ _ _ _ 7) dX12_four_30 ⟨rfl, rfl, rfl⟩ rfl rfl (fun H locs G => ?_)
  refine lv_iinc (v := 0) (lv' := [(2, .int 0), (0, .ref (ad 0)), (1, .int v)]) hx hb dX12_four_33 hl (k := 0) rfl (by decide +kernel) (by decide) rfl (fun ls hl => ?_)
  refine lv_goto (tgt := 3) hx hb dX12_four_36 (by decide) ?_
  refine lv_iload_n hx hb dX12_four_3 rfl (lv_at hl 0 rfl) ?_
  refine lv_if_lt (tgt := 39) hx hb dX12_four_4 (by decide) (fun c10 => absurd c10 (by decide +kernel)) (fun c10 => ?_)
  refine lv_aload_n hx hb dX12_four_7 rfl (lv_at hl 1 rfl) ?_
  refine m_get E G 1 (v := .ref (ad 1)) (by decide) (.tail _ qM_5) rfl dX12_four_8 rfl ?_
  refine lv_aload_n hx hb dX12_four_11 rfl (lv_at hl 1 rfl) ?_
  refine m_get E G 2 (v := .int 7) (by decide) (.tail _ qM_30) rfl dX12_four_12 rfl ?_
  refine lv_iload_n hx hb dX12_four_15 rfl (lv_at hl 2 rfl) ?_
  refine lv_iload_n hx hb dX12_four_16 rfl (lv_at hl 0 rfl) ?_
  refine lv_ishr hx hb dX12_four_17 ?_
  refine lv_topi (fun v11 ev11 => ?_)
  refine lv_sipush (v := 255) hx hb dX12_four_18 (by decide) ?_
  refine lv_iand hx hb dX12_four_21 ?_
  refine lv_topi (fun v12 ev12 => ?_)
  refine m_iast E G 1 1 (k := 7) rfl (fun _ => rfl) rfl (by decide) (by decide) dX12_four_22 (fun H locs G => ?_)
  refine lv_aload_n hx hb dX12_four_23 rfl (lv_at hl 1 rfl) ?_
  refine lv_dup hx hb dX12_four_24 rfl ?_
  refine m_get E G 2 (v := .int 7) (by decide) (.tail _ qM_30) rfl dX12_four_25 rfl ?_
  refine lv_iconst (v := 1) hx hb dX12_four_28 (by decide) ?_
  refine lv_iadd hx hb dX12_four_29 ?_
  refine lv_to (y := 8) (by decide +kernel) ?_
  refine m_put E G 2 (by decide) (.tail _ qM_30) (mw_i2 _ _ _ _ _ 8) dX12_four_30 ⟨rfl, rfl, rfl⟩ rfl rfl (fun H locs G => ?_)
  refine lv_iinc (v := (-8)) (lv' := [(2, .int (-8)), (0, .ref (ad 0)), (1, .int v)]) hx hb dX12_four_33 hl (k := 0) rfl (by decide +kernel) (by decide) rfl (fun ls hl => ?_)
  refine lv_goto (tgt := 3) hx hb dX12_four_36 (by decide) ?_
  refine lv_iload_n hx hb dX12_four_3 rfl (lv_at hl 0 rfl) ?_
  refine lv_if_lt (tgt := 39) hx hb dX12_four_4 (by decide) (fun c13 => ?_) (fun c13 => absurd (by decide +kernel) c13)
  exact W.vret hx hb hr (fun t ht hW => ⟨⟨(mi (mf (mi (mf (mi (mf (mi (mf S 1 (upd (S.2.1 1) 4 v3)) 2 5) 1 (upd ((mi (mf S 1 (upd (S.2.1 1) 4 v3)) 2 5).2.1 1) 5 v6)) 2 6) 1 (upd ((mi (mf (mi (mf S 1 (upd (S.2.1 1) 4 v3)) 2 5) 1 (upd ((mi (mf S 1 (upd (S.2.1 1) 4 v3)) 2 5).2.1 1) 5 v6)) 2 6).2.1 1) 6 v9)) 2 7) 1 (upd ((mi (mf (mi (mf (mi (mf S 1 (upd (S.2.1 1) 4 v3)) 2 5) 1 (upd ((mi (mf S 1 (upd (S.2.1 1) 4 v3)) 2 5).2.1 1) 5 v6)) 2 6) 1 (upd ((mi (mf (mi (mf S 1 (upd (S.2.1 1) 4 v3)) 2 5) 1 (upd ((mi (mf S 1 (upd (S.2.1 1) 4 v3)) 2 5).2.1 1) 5 v6)) 2 6).2.1 1) 6 v9)) 2 7).2.1 1) 7 v12)) 2 8), rfl, ⟨rfl, rfl⟩, ⟨by rw [ht]; exact G.1, va_K.moved hW.alike hK, G.2.1⟩⟩, G.2.2.F ht⟩) G.2.2.2.2 dX12_four_39
set_option maxHeartbeats 4000000 in
set_option maxRecDepth 100000 in
theorem n_four_8 (l : Launch) (D : va_G) (cI cJ cZ : ClassId) (ad : Nat → Nat) (S : MS) (v : Int32) (h2 : S.1 2 = 8) : mCv l yX12_four (Cond.code yX12_four cX12_four 3 none :: wsM) 1 0 D cI cJ cZ ad S [.int v] (fun S1 => S1.1 0 = S.1 0 ∧ S1.1 2 = 12) := by
  intro sz
  refine Met.ofW (cc := cX12_four) (maxL := 3) (ret := none) (by decide) rfl ?_
  intro p e s m args below meth c s₁ B hml hv
  obtain ⟨rfl, hsz, hP, hK, hD0, hR⟩ := hv
  have hx := B.exec
  have hb := B.bytes
  have hr := B.returns
  have hts := atoms_spec (ws := (Cond.code yX12_four cX12_four 3 none :: wsM)) B.pre
  have hown : s.vm.findClass RX12 = some m.cls := findClass_of_methodNamed B.named
  have hlocks := B.notSynchronized
  subst hsz
  have hD := hD0.self (sz := s.heap.size)
  generalize hAe : va_A (MW cI cJ cZ ad S) s.heap.size = A at hD ⊢
  have hA : ∀ q : Nat, s.heap.size ≤ q → A q := fun q h => by rw [← hAe]; exact Or.inr h
  have G : mG D cI cJ cZ ad A s.heap s.heap [] S := ⟨hP, hD, va_S.rf⟩
  have E : mE p c cX12_four s m ([.ref (ad 0), .int v] : List Value).toArray (Cond.code yX12_four cX12_four 3 none :: wsM) D cI cJ cZ := ⟨hx, hb, hts, hown, hK, fun w h => .tail _ (iM_x h)⟩
  have hl := lv_entry ([.ref (ad 0), .int v]) (n := 3) (Nat.le_of_ble_eq_true rfl)
  rw [lg_entry_eq]
  generalize (lg_sl ([.ref (ad 0), .int v]) ++ List.replicate (3 - (lg_sl ([.ref (ad 0), .int v])).length) Slot.unset).toArray = ls at hl ⊢
  have hl : lv_has ls 3 [(0, .ref (ad 0)), (1, .int v)] := hl
  have hh : True := trivial
  refine lv_bipush (v := 24) hx hb dX12_four_0 (by decide) ?_
  refine lv_istore_n (lv' := [(2, .int 24), (0, .ref (ad 0)), (1, .int v)]) hx hb dX12_four_2 rfl hl (by decide) rfl (fun ls hl => ?_)
  refine lv_iload_n hx hb dX12_four_3 rfl (lv_at hl 0 rfl) ?_
  refine lv_if_lt (tgt := 39) hx hb dX12_four_4 (by decide) (fun c1 => absurd c1 (by decide +kernel)) (fun c1 => ?_)
  refine lv_aload_n hx hb dX12_four_7 rfl (lv_at hl 1 rfl) ?_
  refine m_get E G 1 (v := .ref (ad 1)) (by decide) (.tail _ qM_5) rfl dX12_four_8 rfl ?_
  refine lv_aload_n hx hb dX12_four_11 rfl (lv_at hl 1 rfl) ?_
  refine m_get E G 2 (v := .int (S.1 2)) (by decide) (.tail _ qM_30) rfl dX12_four_12 rfl ?_
  refine lv_to (y := 8) h2 ?_
  refine lv_iload_n hx hb dX12_four_15 rfl (lv_at hl 2 rfl) ?_
  refine lv_iload_n hx hb dX12_four_16 rfl (lv_at hl 0 rfl) ?_
  refine lv_ishr hx hb dX12_four_17 ?_
  refine lv_topi (fun v2 ev2 => ?_)
  refine lv_sipush (v := 255) hx hb dX12_four_18 (by decide) ?_
  refine lv_iand hx hb dX12_four_21 ?_
  refine lv_topi (fun v3 ev3 => ?_)
  refine m_iast E G 1 1 (k := 8) rfl (fun _ => rfl) rfl (by decide) (by decide) dX12_four_22 (fun H locs G => ?_)
  refine lv_aload_n hx hb dX12_four_23 rfl (lv_at hl 1 rfl) ?_
  refine lv_dup hx hb dX12_four_24 rfl ?_
  refine m_get E G 2 (v := .int (S.1 2)) (by decide) (.tail _ qM_30) rfl dX12_four_25 rfl ?_
  refine lv_to (y := 8) h2 ?_
  refine lv_iconst (v := 1) hx hb dX12_four_28 (by decide) ?_
  refine lv_iadd hx hb dX12_four_29 ?_
  refine lv_to (y := 9) (by decide +kernel) ?_
  refine m_put E G 2 (by decide) (.tail _ qM_30) (mw_i2 _ _ _ _ _ 9) dX12_four_30 ⟨rfl, rfl, rfl⟩ rfl rfl (fun H locs G => ?_)
  refine lv_iinc (v := 16) (lv' := [(2, .int 16), (0, .ref (ad 0)), (1, .int v)]) hx hb dX12_four_33 hl (k := 0) rfl (by decide +kernel) (by decide) rfl (fun ls hl => ?_)
  refine lv_goto (tgt := 3) hx hb dX12_four_36 (by decide) ?_
  refine lv_iload_n hx hb dX12_four_3 rfl (lv_at hl 0 rfl) ?_
  refine lv_if_lt (tgt := 39) hx hb dX12_four_4 (by decide) (fun c4 => absurd c4 (by decide +kernel)) (fun c4 => ?_)
  refine lv_aload_n hx hb dX12_four_7 rfl (lv_at hl 1 rfl) ?_
  refine m_get E G 1 (v := .ref (ad 1)) (by decide) (.tail _ qM_5) rfl dX12_four_8 rfl ?_
  refine lv_aload_n hx hb dX12_four_11 rfl (lv_at hl 1 rfl) ?_
  refine m_get E G 2 (v := .int 9) (by decide) (.tail _ qM_30) rfl dX12_four_12 rfl ?_
  refine lv_iload_n hx hb dX12_four_15 rfl (lv_at hl 2 rfl) ?_
  refine lv_iload_n hx hb dX12_four_16 rfl (lv_at hl 0 rfl) ?_
  refine lv_ishr hx hb dX12_four_17 ?_
  refine lv_topi (fun v5 ev5 => ?_)
  refine lv_sipush (v := 255) hx hb dX12_four_18 (by decide) ?_
  refine lv_iand hx hb dX12_four_21 ?_
  refine lv_topi (fun v6 ev6 => ?_)
  refine m_iast E G 1 1 (k := 9) rfl (fun _ => rfl) rfl (by decide) (by decide) dX12_four_22 (fun H locs G => ?_)
  refine lv_aload_n hx hb dX12_four_23 rfl (lv_at hl 1 rfl) ?_
  refine lv_dup hx hb dX12_four_24 rfl ?_
  refine m_get E G 2 (v := .int 9) (by decide) (.tail _ qM_30) rfl dX12_four_25 rfl ?_
  refine lv_iconst (v := 1) hx hb dX12_four_28 (by decide) ?_
  refine lv_iadd hx hb dX12_four_29 ?_
  refine lv_to (y := 10) (by decide +kernel) ?_
  refine m_put E G 2 (by decide) (.tail _ qM_30) (mw_i2 _ _ _ _ _ 10) dX12_four_30 ⟨rfl, rfl, rfl⟩ rfl rfl (fun H locs G => ?_)
  refine lv_iinc (v := 8) (lv' := [(2, .int 8), (0, .ref (ad 0)), (1, .int v)]) hx hb dX12_four_33 hl (k := 0) rfl (by decide +kernel) (by decide) rfl (fun ls hl => ?_)
  refine lv_goto (tgt := 3) hx hb dX12_four_36 (by decide) ?_
  refine lv_iload_n hx hb dX12_four_3 rfl (lv_at hl 0 rfl) ?_
  refine lv_if_lt (tgt := 39) hx hb dX12_four_4 (by decide) (fun c7 => absurd c7 (by decide +kernel)) (fun c7 => ?_)
  refine lv_aload_n hx hb dX12_four_7 rfl (lv_at hl 1 rfl) ?_
  refine m_get E G 1 (v := .ref (ad 1)) (by decide) (.tail _ qM_5) rfl dX12_four_8 rfl ?_
  refine lv_aload_n hx hb dX12_four_11 rfl (lv_at hl 1 rfl) ?_
  refine m_get E G 2 (v := .int 10) (by decide) (.tail _ qM_30) rfl dX12_four_12 rfl ?_
  refine lv_iload_n hx hb dX12_four_15 rfl (lv_at hl 2 rfl) ?_
  refine lv_iload_n hx hb dX12_four_16 rfl (lv_at hl 0 rfl) ?_
  refine lv_ishr hx hb dX12_four_17 ?_
  refine lv_topi (fun v8 ev8 => ?_)
  refine lv_sipush (v := 255) hx hb dX12_four_18 (by decide) ?_
  refine lv_iand hx hb dX12_four_21 ?_
  refine lv_topi (fun v9 ev9 => ?_)
  refine m_iast E G 1 1 (k := 10) rfl (fun _ => rfl) rfl (by decide) (by decide) dX12_four_22 (fun H locs G => ?_)
  refine lv_aload_n hx hb dX12_four_23 rfl (lv_at hl 1 rfl) ?_
  refine lv_dup hx hb dX12_four_24 rfl ?_
  refine m_get E G 2 (v := .int 10) (by decide) (.tail _ qM_30) rfl dX12_four_25 rfl ?_
  refine lv_iconst (v := 1) hx hb dX12_four_28 (by decide) ?_
  refine lv_iadd hx hb dX12_four_29 ?_
  refine lv_to (y := 11) (by decide +kernel) ?_
  refine m_put E G 2 (by decide) (.tail _ qM_30) (mw_i2 _ _ _ _ _ 11) dX12_four_30 ⟨rfl, rfl, rfl⟩ rfl rfl (fun H locs G => ?_)
  refine lv_iinc (v := 0) (lv' := [(2, .int 0), (0, .ref (ad 0)), (1, .int v)]) hx hb dX12_four_33 hl (k := 0) rfl (by decide +kernel) (by decide) rfl (fun ls hl => ?_)
  refine lv_goto (tgt := 3) hx hb dX12_four_36 (by decide) ?_
  refine lv_iload_n hx hb dX12_four_3 rfl (lv_at hl 0 rfl) ?_
  refine lv_if_lt (tgt := 39) hx hb dX12_four_4 (by decide) (fun c10 => absurd c10 (by decide +kernel)) (fun c10 => ?_)
  refine lv_aload_n hx hb dX12_four_7 rfl (lv_at hl 1 rfl) ?_
  refine m_get E G 1 (v := .ref (ad 1)) (by decide) (.tail _ qM_5) rfl dX12_four_8 rfl ?_
  refine lv_aload_n hx hb dX12_four_11 rfl (lv_at hl 1 rfl) ?_
  refine m_get E G 2 (v := .int 11) (by decide) (.tail _ qM_30) rfl dX12_four_12 rfl ?_
  refine lv_iload_n hx hb dX12_four_15 rfl (lv_at hl 2 rfl) ?_
  refine lv_iload_n hx hb dX12_four_16 rfl (lv_at hl 0 rfl) ?_
  refine lv_ishr hx hb dX12_four_17 ?_
  refine lv_topi (fun v11 ev11 => ?_)
  refine lv_sipush (v := 255) hx hb dX12_four_18 (by decide) ?_
  refine lv_iand hx hb dX12_four_21 ?_
  refine lv_topi (fun v12 ev12 => ?_)
  refine m_iast E G 1 1 (k := 11) rfl (fun _ => rfl) rfl (by decide) (by decide) dX12_four_22 (fun H locs G => ?_)
  refine lv_aload_n hx hb dX12_four_23 rfl (lv_at hl 1 rfl) ?_
  refine lv_dup hx hb dX12_four_24 rfl ?_
  refine m_get E G 2 (v := .int 11) (by decide) (.tail _ qM_30) rfl dX12_four_25 rfl ?_
  refine lv_iconst (v := 1) hx hb dX12_four_28 (by decide) ?_
  refine lv_iadd hx hb dX12_four_29 ?_
  refine lv_to (y := 12) (by decide +kernel) ?_
  refine m_put E G 2 (by decide) (.tail _ qM_30) (mw_i2 _ _ _ _ _ 12) dX12_four_30 ⟨rfl, rfl, rfl⟩ rfl rfl (fun H locs G => ?_)
  refine lv_iinc (v := (-8)) (lv' := [(2, .int (-8)), (0, .ref (ad 0)), (1, .int v)]) hx hb dX12_four_33 hl (k := 0) rfl (by decide +kernel) (by decide) rfl (fun ls hl => ?_)
  refine lv_goto (tgt := 3) hx hb dX12_four_36 (by decide) ?_
  refine lv_iload_n hx hb dX12_four_3 rfl (lv_at hl 0 rfl) ?_
  refine lv_if_lt (tgt := 39) hx hb dX12_four_4 (by decide) (fun c13 => ?_) (fun c13 => absurd (by decide +kernel) c13)
  exact W.vret hx hb hr (fun t ht hW => ⟨⟨(mi (mf (mi (mf (mi (mf (mi (mf S 1 (upd (S.2.1 1) 8 v3)) 2 9) 1 (upd ((mi (mf S 1 (upd (S.2.1 1) 8 v3)) 2 9).2.1 1) 9 v6)) 2 10) 1 (upd ((mi (mf (mi (mf S 1 (upd (S.2.1 1) 8 v3)) 2 9) 1 (upd ((mi (mf S 1 (upd (S.2.1 1) 8 v3)) 2 9).2.1 1) 9 v6)) 2 10).2.1 1) 10 v9)) 2 11) 1 (upd ((mi (mf (mi (mf (mi (mf S 1 (upd (S.2.1 1) 8 v3)) 2 9) 1 (upd ((mi (mf S 1 (upd (S.2.1 1) 8 v3)) 2 9).2.1 1) 9 v6)) 2 10) 1 (upd ((mi (mf (mi (mf S 1 (upd (S.2.1 1) 8 v3)) 2 9) 1 (upd ((mi (mf S 1 (upd (S.2.1 1) 8 v3)) 2 9).2.1 1) 9 v6)) 2 10).2.1 1) 10 v9)) 2 11).2.1 1) 11 v12)) 2 12), rfl, ⟨rfl, rfl⟩, ⟨by rw [ht]; exact G.1, va_K.moved hW.alike hK, G.2.1⟩⟩, G.2.2.F ht⟩) G.2.2.2.2 dX12_four_39
set_option maxHeartbeats 4000000 in
set_option maxRecDepth 100000 in
theorem n_four_12 (l : Launch) (D : va_G) (cI cJ cZ : ClassId) (ad : Nat → Nat) (S : MS) (v : Int32) (h2 : S.1 2 = 12) : mCv l yX12_four (Cond.code yX12_four cX12_four 3 none :: wsM) 1 0 D cI cJ cZ ad S [.int v] (fun S1 => S1.1 0 = S.1 0 ∧ S1.1 2 = 16) := by
  intro sz
  refine Met.ofW (cc := cX12_four) (maxL := 3) (ret := none) (by decide) rfl ?_
  intro p e s m args below meth c s₁ B hml hv
  obtain ⟨rfl, hsz, hP, hK, hD0, hR⟩ := hv
  have hx := B.exec
  have hb := B.bytes
  have hr := B.returns
  have hts := atoms_spec (ws := (Cond.code yX12_four cX12_four 3 none :: wsM)) B.pre
  have hown : s.vm.findClass RX12 = some m.cls := findClass_of_methodNamed B.named
  have hlocks := B.notSynchronized
  subst hsz
  have hD := hD0.self (sz := s.heap.size)
  generalize hAe : va_A (MW cI cJ cZ ad S) s.heap.size = A at hD ⊢
  have hA : ∀ q : Nat, s.heap.size ≤ q → A q := fun q h => by rw [← hAe]; exact Or.inr h
  have G : mG D cI cJ cZ ad A s.heap s.heap [] S := ⟨hP, hD, va_S.rf⟩
  have E : mE p c cX12_four s m ([.ref (ad 0), .int v] : List Value).toArray (Cond.code yX12_four cX12_four 3 none :: wsM) D cI cJ cZ := ⟨hx, hb, hts, hown, hK, fun w h => .tail _ (iM_x h)⟩
  have hl := lv_entry ([.ref (ad 0), .int v]) (n := 3) (Nat.le_of_ble_eq_true rfl)
  rw [lg_entry_eq]
  generalize (lg_sl ([.ref (ad 0), .int v]) ++ List.replicate (3 - (lg_sl ([.ref (ad 0), .int v])).length) Slot.unset).toArray = ls at hl ⊢
  have hl : lv_has ls 3 [(0, .ref (ad 0)), (1, .int v)] := hl
  have hh : True := trivial
  refine lv_bipush (v := 24) hx hb dX12_four_0 (by decide) ?_
  refine lv_istore_n (lv' := [(2, .int 24), (0, .ref (ad 0)), (1, .int v)]) hx hb dX12_four_2 rfl hl (by decide) rfl (fun ls hl => ?_)
  refine lv_iload_n hx hb dX12_four_3 rfl (lv_at hl 0 rfl) ?_
  refine lv_if_lt (tgt := 39) hx hb dX12_four_4 (by decide) (fun c1 => absurd c1 (by decide +kernel)) (fun c1 => ?_)
  refine lv_aload_n hx hb dX12_four_7 rfl (lv_at hl 1 rfl) ?_
  refine m_get E G 1 (v := .ref (ad 1)) (by decide) (.tail _ qM_5) rfl dX12_four_8 rfl ?_
  refine lv_aload_n hx hb dX12_four_11 rfl (lv_at hl 1 rfl) ?_
  refine m_get E G 2 (v := .int (S.1 2)) (by decide) (.tail _ qM_30) rfl dX12_four_12 rfl ?_
  refine lv_to (y := 12) h2 ?_
  refine lv_iload_n hx hb dX12_four_15 rfl (lv_at hl 2 rfl) ?_
  refine lv_iload_n hx hb dX12_four_16 rfl (lv_at hl 0 rfl) ?_
  refine lv_ishr hx hb dX12_four_17 ?_
  refine lv_topi (fun v2 ev2 => ?_)
  refine lv_sipush (v := 255) hx hb dX12_four_18 (by decide) ?_
  refine lv_iand hx hb dX12_four_21 ?_
  refine lv_topi (fun v3 ev3 => ?_)
  refine m_iast E G 1 1 (k := 12) rfl (fun _ => rfl) rfl (by decide) (by decide) dX12_four_22 (fun H locs G => ?_)
  refine lv_aload_n hx hb dX12_four_23 rfl (lv_at hl 1 rfl) ?_
  refine lv_dup hx hb dX12_four_24 rfl ?_
  refine m_get E G 2 (v := .int (S.1 2)) (by decide) (.tail _ qM_30) rfl dX12_four_25 rfl ?_
  refine lv_to (y := 12) h2 ?_
  refine lv_iconst (v := 1) hx hb dX12_four_28 (by decide) ?_
  refine lv_iadd hx hb dX12_four_29 ?_
  refine lv_to (y := 13) (by decide +kernel) ?_
  refine m_put E G 2 (by decide) (.tail _ qM_30) (mw_i2 _ _ _ _ _ 13) dX12_four_30 ⟨rfl, rfl, rfl⟩ rfl rfl (fun H locs G => ?_)
  refine lv_iinc (v := 16) (lv' := [(2, .int 16), (0, .ref (ad 0)), (1, .int v)]) hx hb dX12_four_33 hl (k := 0) rfl (by decide +kernel) (by decide) rfl (fun ls hl => ?_)
  refine lv_goto (tgt := 3) hx hb dX12_four_36 (by decide) ?_
  refine lv_iload_n hx hb dX12_four_3 rfl (lv_at hl 0 rfl) ?_
  refine lv_if_lt (tgt := 39) hx hb dX12_four_4 (by decide) (fun c4 => absurd c4 (by decide +kernel)) (fun c4 => ?_)
  refine lv_aload_n hx hb dX12_four_7 rfl (lv_at hl 1 rfl) ?_
  refine m_get E G 1 (v := .ref (ad 1)) (by decide) (.tail _ qM_5) rfl dX12_four_8 rfl ?_
  refine lv_aload_n hx hb dX12_four_11 rfl (lv_at hl 1 rfl) ?_
  refine m_get E G 2 (v := .int 13) (by decide) (.tail _ qM_30) rfl dX12_four_12 rfl ?_
  refine lv_iload_n hx hb dX12_four_15 rfl (lv_at hl 2 rfl) ?_
  refine lv_iload_n hx hb dX12_four_16 rfl (lv_at hl 0 rfl) ?_
  refine lv_ishr hx hb dX12_four_17 ?_
  refine lv_topi (fun v5 ev5 => ?_)
  refine lv_sipush (v := 255) hx hb dX12_four_18 (by decide) ?_
  refine lv_iand hx hb dX12_four_21 ?_
  refine lv_topi (fun v6 ev6 => ?_)
  refine m_iast E G 1 1 (k := 13) rfl (fun _ => rfl) rfl (by decide) (by decide) dX12_four_22 (fun H locs G => ?_)
  refine lv_aload_n hx hb dX12_four_23 rfl (lv_at hl 1 rfl) ?_
  refine lv_dup hx hb dX12_four_24 rfl ?_
  refine m_get E G 2 (v := .int 13) (by decide) (.tail _ qM_30) rfl dX12_four_25 rfl ?_
  refine lv_iconst (v := 1) hx hb dX12_four_28 (by decide) ?_
  refine lv_iadd hx hb dX12_four_29 ?_
  refine lv_to (y := 14) (by decide +kernel) ?_
  refine m_put E G 2 (by decide) (.tail _ qM_30) (mw_i2 _ _ _ _ _ 14) dX12_four_30 ⟨rfl, rfl, rfl⟩ rfl rfl (fun H locs G => ?_)
  refine lv_iinc (v := 8) (lv' := [(2, .int 8), (0, .ref (ad 0)), (1, .int v)]) hx hb dX12_four_33 hl (k := 0) rfl (by decide +kernel) (by decide) rfl (fun ls hl => ?_)
  refine lv_goto (tgt := 3) hx hb dX12_four_36 (by decide) ?_
  refine lv_iload_n hx hb dX12_four_3 rfl (lv_at hl 0 rfl) ?_
  refine lv_if_lt (tgt := 39) hx hb dX12_four_4 (by decide) (fun c7 => absurd c7 (by decide +kernel)) (fun c7 => ?_)
  refine lv_aload_n hx hb dX12_four_7 rfl (lv_at hl 1 rfl) ?_
  refine m_get E G 1 (v := .ref (ad 1)) (by decide) (.tail _ qM_5) rfl dX12_four_8 rfl ?_
  refine lv_aload_n hx hb dX12_four_11 rfl (lv_at hl 1 rfl) ?_
  refine m_get E G 2 (v := .int 14) (by decide) (.tail _ qM_30) rfl dX12_four_12 rfl ?_
  refine lv_iload_n hx hb dX12_four_15 rfl (lv_at hl 2 rfl) ?_
  refine lv_iload_n hx hb dX12_four_16 rfl (lv_at hl 0 rfl) ?_
  refine lv_ishr hx hb dX12_four_17 ?_
  refine lv_topi (fun v8 ev8 => ?_)
  refine lv_sipush (v := 255) hx hb dX12_four_18 (by decide) ?_
  refine lv_iand hx hb dX12_four_21 ?_
  refine lv_topi (fun v9 ev9 => ?_)
  refine m_iast E G 1 1 (k := 14) rfl (fun _ => rfl) rfl (by decide) (by decide) dX12_four_22 (fun H locs G => ?_)
  refine lv_aload_n hx hb dX12_four_23 rfl (lv_at hl 1 rfl) ?_
  refine lv_dup hx hb dX12_four_24 rfl ?_
  refine m_get E G 2 (v := .int 14) (by decide) (.tail _ qM_30) rfl dX12_four_25 rfl ?_
  refine lv_iconst (v := 1) hx hb dX12_four_28 (by decide) ?_
  refine lv_iadd hx hb dX12_four_29 ?_
  refine lv_to (y := 15) (by decide +kernel) ?_
  refine m_put E G 2 (by decide) (.tail _ qM_30) (mw_i2 _ _ _ _ _ 15) dX12_four_30 ⟨rfl, rfl, rfl⟩ rfl rfl (fun H locs G => ?_)
  refine lv_iinc (v := 0) (lv' := [(2, .int 0), (0, .ref (ad 0)), (1, .int v)]) hx hb dX12_four_33 hl (k := 0) rfl (by decide +kernel) (by decide) rfl (fun ls hl => ?_)
  refine lv_goto (tgt := 3) hx hb dX12_four_36 (by decide) ?_
  refine lv_iload_n hx hb dX12_four_3 rfl (lv_at hl 0 rfl) ?_
  refine lv_if_lt (tgt := 39) hx hb dX12_four_4 (by decide) (fun c10 => absurd c10 (by decide +kernel)) (fun c10 => ?_)
  refine lv_aload_n hx hb dX12_four_7 rfl (lv_at hl 1 rfl) ?_
  refine m_get E G 1 (v := .ref (ad 1)) (by decide) (.tail _ qM_5) rfl dX12_four_8 rfl ?_
  refine lv_aload_n hx hb dX12_four_11 rfl (lv_at hl 1 rfl) ?_
  refine m_get E G 2 (v := .int 15) (by decide) (.tail _ qM_30) rfl dX12_four_12 rfl ?_
  refine lv_iload_n hx hb dX12_four_15 rfl (lv_at hl 2 rfl) ?_
  refine lv_iload_n hx hb dX12_four_16 rfl (lv_at hl 0 rfl) ?_
  refine lv_ishr hx hb dX12_four_17 ?_
  refine lv_topi (fun v11 ev11 => ?_)
  refine lv_sipush (v := 255) hx hb dX12_four_18 (by decide) ?_
  refine lv_iand hx hb dX12_four_21 ?_
  refine lv_topi (fun v12 ev12 => ?_)
  refine m_iast E G 1 1 (k := 15) rfl (fun _ => rfl) rfl (by decide) (by decide) dX12_four_22 (fun H locs G => ?_)
  refine lv_aload_n hx hb dX12_four_23 rfl (lv_at hl 1 rfl) ?_
  refine lv_dup hx hb dX12_four_24 rfl ?_
  refine m_get E G 2 (v := .int 15) (by decide) (.tail _ qM_30) rfl dX12_four_25 rfl ?_
  refine lv_iconst (v := 1) hx hb dX12_four_28 (by decide) ?_
  refine lv_iadd hx hb dX12_four_29 ?_
  refine lv_to (y := 16) (by decide +kernel) ?_
  refine m_put E G 2 (by decide) (.tail _ qM_30) (mw_i2 _ _ _ _ _ 16) dX12_four_30 ⟨rfl, rfl, rfl⟩ rfl rfl (fun H locs G => ?_)
  refine lv_iinc (v := (-8)) (lv' := [(2, .int (-8)), (0, .ref (ad 0)), (1, .int v)]) hx hb dX12_four_33 hl (k := 0) rfl (by decide +kernel) (by decide) rfl (fun ls hl => ?_)
  refine lv_goto (tgt := 3) hx hb dX12_four_36 (by decide) ?_
  refine lv_iload_n hx hb dX12_four_3 rfl (lv_at hl 0 rfl) ?_
  refine lv_if_lt (tgt := 39) hx hb dX12_four_4 (by decide) (fun c13 => ?_) (fun c13 => absurd (by decide +kernel) c13)
  exact W.vret hx hb hr (fun t ht hW => ⟨⟨(mi (mf (mi (mf (mi (mf (mi (mf S 1 (upd (S.2.1 1) 12 v3)) 2 13) 1 (upd ((mi (mf S 1 (upd (S.2.1 1) 12 v3)) 2 13).2.1 1) 13 v6)) 2 14) 1 (upd ((mi (mf (mi (mf S 1 (upd (S.2.1 1) 12 v3)) 2 13) 1 (upd ((mi (mf S 1 (upd (S.2.1 1) 12 v3)) 2 13).2.1 1) 13 v6)) 2 14).2.1 1) 14 v9)) 2 15) 1 (upd ((mi (mf (mi (mf (mi (mf S 1 (upd (S.2.1 1) 12 v3)) 2 13) 1 (upd ((mi (mf S 1 (upd (S.2.1 1) 12 v3)) 2 13).2.1 1) 13 v6)) 2 14) 1 (upd ((mi (mf (mi (mf S 1 (upd (S.2.1 1) 12 v3)) 2 13) 1 (upd ((mi (mf S 1 (upd (S.2.1 1) 12 v3)) 2 13).2.1 1) 13 v6)) 2 14).2.1 1) 14 v9)) 2 15).2.1 1) 15 v12)) 2 16), rfl, ⟨rfl, rfl⟩, ⟨by rw [ht]; exact G.1, va_K.moved hW.alike hK, G.2.1⟩⟩, G.2.2.F ht⟩) G.2.2.2.2 dX12_four_39
set_option maxHeartbeats 4000000 in
set_option maxRecDepth 100000 in
theorem n_four_16 (l : Launch) (D : va_G) (cI cJ cZ : ClassId) (ad : Nat → Nat) (S : MS) (v : Int32) (h2 : S.1 2 = 16) : mCv l yX12_four (Cond.code yX12_four cX12_four 3 none :: wsM) 1 0 D cI cJ cZ ad S [.int v] (fun S1 => S1.1 0 = S.1 0 ∧ S1.1 2 = 20) := by
  intro sz
  refine Met.ofW (cc := cX12_four) (maxL := 3) (ret := none) (by decide) rfl ?_
  intro p e s m args below meth c s₁ B hml hv
  obtain ⟨rfl, hsz, hP, hK, hD0, hR⟩ := hv
  have hx := B.exec
  have hb := B.bytes
  have hr := B.returns
  have hts := atoms_spec (ws := (Cond.code yX12_four cX12_four 3 none :: wsM)) B.pre
  have hown : s.vm.findClass RX12 = some m.cls := findClass_of_methodNamed B.named
  have hlocks := B.notSynchronized
  subst hsz
  have hD := hD0.self (sz := s.heap.size)
  generalize hAe : va_A (MW cI cJ cZ ad S) s.heap.size = A at hD ⊢
  have hA : ∀ q : Nat, s.heap.size ≤ q → A q := fun q h => by rw [← hAe]; exact Or.inr h
  have G : mG D cI cJ cZ ad A s.heap s.heap [] S := ⟨hP, hD, va_S.rf⟩
  have E : mE p c cX12_four s m ([.ref (ad 0), .int v] : List Value).toArray (Cond.code yX12_four cX12_four 3 none :: wsM) D cI cJ cZ := ⟨hx, hb, hts, hown, hK, fun w h => .tail _ (iM_x h)⟩
  have hl := lv_entry ([.ref (ad 0), .int v]) (n := 3) (Nat.le_of_ble_eq_true rfl)
  rw [lg_entry_eq]
  generalize (lg_sl ([.ref (ad 0), .int v]) ++ List.replicate (3 - (lg_sl ([.ref (ad 0), .int v])).length) Slot.unset).toArray = ls at hl ⊢
  have hl : lv_has ls 3 [(0, .ref (ad 0)), (1, .int v)] := hl
  have hh : True := trivial
  refine lv_bipush (v := 24) hx hb dX12_four_0 (by decide) ?_
  refine lv_istore_n (lv' := [(2, .int 24), (0, .ref (ad 0)), (1, .int v)]) hx hb dX12_four_2 rfl hl (by decide) rfl (fun ls hl => ?_)
  refine lv_iload_n hx hb dX12_four_3 rfl (lv_at hl 0 rfl) ?_
  refine lv_if_lt (tgt := 39) hx hb dX12_four_4 (by decide) (fun c1 => absurd c1 (by decide +kernel)) (fun c1 => ?_)
  refine lv_aload_n hx hb dX12_four_7 rfl (lv_at hl 1 rfl) ?_
  refine m_get E G 1 (v := .ref (ad 1)) (by decide) (.tail _ qM_5) rfl dX12_four_8 rfl ?_
  refine lv_aload_n hx hb dX12_four_11 rfl (lv_at hl 1 rfl) ?_
  refine m_get E G 2 (v := .int (S.1 2)) (by decide) (.tail _ qM_30) rfl dX12_four_12 rfl ?_
  refine lv_to (y := 16) h2 ?_
  refine lv_iload_n hx hb dX12_four_15 rfl (lv_at hl 2 rfl) ?_
  refine lv_iload_n hx hb dX12_four_16 rfl (lv_at hl 0 rfl) ?_
  refine lv_ishr hx hb dX12_four_17 ?_
  refine lv_topi (fun v2 ev2 => ?_)
  refine lv_sipush (v := 255) hx hb dX12_four_18 (by decide) ?_
  refine lv_iand hx hb dX12_four_21 ?_
  refine lv_topi (fun v3 ev3 => ?_)
  refine m_iast E G 1 1 (k := 16) rfl (fun _ => rfl) rfl (by decide) (by decide) dX12_four_22 (fun H locs G => ?_)
  refine lv_aload_n hx hb dX12_four_23 rfl (lv_at hl 1 rfl) ?_
  refine lv_dup hx hb dX12_four_24 rfl ?_
  refine m_get E G 2 (v := .int (S.1 2)) (by decide) (.tail _ qM_30) rfl dX12_four_25 rfl ?_
  refine lv_to (y := 16) h2 ?_
  refine lv_iconst (v := 1) hx hb dX12_four_28 (by decide) ?_
  refine lv_iadd hx hb dX12_four_29 ?_
  refine lv_to (y := 17) (by decide +kernel) ?_
  refine m_put E G 2 (by decide) (.tail _ qM_30) (mw_i2 _ _ _ _ _ 17) dX12_four_30 ⟨rfl, rfl, rfl⟩ rfl rfl (fun H locs G => ?_)
  refine lv_iinc (v := 16) (lv' := [(2, .int 16), (0, .ref (ad 0)), (1, .int v)]) hx hb dX12_four_33 hl (k := 0) rfl (by decide +kernel) (by decide) rfl (fun ls hl => ?_)
  refine lv_goto (tgt := 3) hx hb dX12_four_36 (by decide) ?_
  refine lv_iload_n hx hb dX12_four_3 rfl (lv_at hl 0 rfl) ?_
  refine lv_if_lt (tgt := 39) hx hb dX12_four_4 (by decide) (fun c4 => absurd c4 (by decide +kernel)) (fun c4 => ?_)
  refine lv_aload_n hx hb dX12_four_7 rfl (lv_at hl 1 rfl) ?_
  refine m_get E G 1 (v := .ref (ad 1)) (by decide) (.tail _ qM_5) rfl dX12_four_8 rfl ?_
  refine lv_aload_n hx hb dX12_four_11 rfl (lv_at hl 1 rfl) ?_
  refine m_get E G 2 (v := .int 17) (by decide) (.tail _ qM_30) rfl dX12_four_12 rfl ?_
  refine lv_iload_n hx hb dX12_four_15 rfl (lv_at hl 2 rfl) ?_
  refine lv_iload_n hx hb dX12_four_16 rfl (lv_at hl 0 rfl) ?_
  refine lv_ishr hx hb dX12_four_17 ?_
  refine lv_topi (fun v5 ev5 => ?_)
  refine lv_sipush (v := 255) hx hb dX12_four_18 (by decide) ?_
  refine lv_iand hx hb dX12_four_21 ?_
  refine lv_topi (fun v6 ev6 => ?_)
  refine m_iast E G 1 1 (k := 17) rfl (fun _ => rfl) rfl (by decide) (by decide) dX12_four_22 (fun H locs G => ?_)
  refine lv_aload_n hx hb dX12_four_23 rfl (lv_at hl 1 rfl) ?_
  refine lv_dup hx hb dX12_four_24 rfl ?_
  refine m_get E G 2 (v := .int 17) (by decide) (.tail _ qM_30) rfl dX12_four_25 rfl ?_
  refine lv_iconst (v := 1) hx hb dX12_four_28 (by decide) ?_
  refine lv_iadd hx hb dX12_four_29 ?_
  refine lv_to (y := 18) (by decide +kernel) ?_
  refine m_put E G 2 (by decide) (.tail _ qM_30) (mw_i2 _ _ _ _ _ 18) dX12_four_30 ⟨rfl, rfl, rfl⟩ rfl rfl (fun H locs G => ?_)
  refine lv_iinc (v := 8) (lv' := [(2, .int 8), (0, .ref (ad 0)), (1, .int v)]) hx hb dX12_four_33 hl (k := 0) rfl (by decide +kernel) (by decide) rfl (fun ls hl => ?_)
  refine lv_goto (tgt := 3) hx hb dX12_four_36 (by decide) ?_
  refine lv_iload_n hx hb dX12_four_3 rfl (lv_at hl 0 rfl) ?_
  refine lv_if_lt (tgt := 39) hx hb dX12_four_4 (by decide) (fun c7 => absurd c7 (by decide +kernel)) (fun c7 => ?_)
  refine lv_aload_n hx hb dX12_four_7 rfl (lv_at hl 1 rfl) ?_
  refine m_get E G 1 (v := .ref (ad 1)) (by decide) (.tail _ qM_5) rfl dX12_four_8 rfl ?_
  refine lv_aload_n hx hb dX12_four_11 rfl (lv_at hl 1 rfl) ?_
  refine m_get E G 2 (v := .int 18) (by decide) (.tail _ qM_30) rfl dX12_four_12 rfl ?_
  refine lv_iload_n hx hb dX12_four_15 rfl (lv_at hl 2 rfl) ?_
  refine lv_iload_n hx hb dX12_four_16 rfl (lv_at hl 0 rfl) ?_
  refine lv_ishr hx hb dX12_four_17 ?_
  refine lv_topi (fun v8 ev8 => ?_)
  refine lv_sipush (v := 255) hx hb dX12_four_18 (by decide) ?_
  refine lv_iand hx hb dX12_four_21 ?_
  refine lv_topi (fun v9 ev9 => ?_)
  refine m_iast E G 1 1 (k := 18) rfl (fun _ => rfl) rfl (by decide) (by decide) dX12_four_22 (fun H locs G => ?_)
  refine lv_aload_n hx hb dX12_four_23 rfl (lv_at hl 1 rfl) ?_
  refine lv_dup hx hb dX12_four_24 rfl ?_
  refine m_get E G 2 (v := .int 18) (by decide) (.tail _ qM_30) rfl dX12_four_25 rfl ?_
  refine lv_iconst (v := 1) hx hb dX12_four_28 (by decide) ?_
  refine lv_iadd hx hb dX12_four_29 ?_
  refine lv_to (y := 19) (by decide +kernel) ?_
  refine m_put E G 2 (by decide) (.tail _ qM_30) (mw_i2 _ _ _ _ _ 19) dX12_four_30 ⟨rfl, rfl, rfl⟩ rfl rfl (fun H locs G => ?_)
  refine lv_iinc (v := 0) (lv' := [(2, .int 0), (0, .ref (ad 0)), (1, .int v)]) hx hb dX12_four_33 hl (k := 0) rfl (by decide +kernel) (by decide) rfl (fun ls hl => ?_)
  refine lv_goto (tgt := 3) hx hb dX12_four_36 (by decide) ?_
  refine lv_iload_n hx hb dX12_four_3 rfl (lv_at hl 0 rfl) ?_
  refine lv_if_lt (tgt := 39) hx hb dX12_four_4 (by decide) (fun c10 => absurd c10 (by decide +kernel)) (fun c10 => ?_)
  refine lv_aload_n hx hb dX12_four_7 rfl (lv_at hl 1 rfl) ?_
  refine m_get E G 1 (v := .ref (ad 1)) (by decide) (.tail _ qM_5) rfl dX12_four_8 rfl ?_
  refine lv_aload_n hx hb dX12_four_11 rfl (lv_at hl 1 rfl) ?_
  refine m_get E G 2 (v := .int 19) (by decide) (.tail _ qM_30) rfl dX12_four_12 rfl ?_
  refine lv_iload_n hx hb dX12_four_15 rfl (lv_at hl 2 rfl) ?_
  refine lv_iload_n hx hb dX12_four_16 rfl (lv_at hl 0 rfl) ?_
  refine lv_ishr hx hb dX12_four_17 ?_
  refine lv_topi (fun v11 ev11 => ?_)
  refine lv_sipush (v := 255) hx hb dX12_four_18 (by decide) ?_
  refine lv_iand hx hb dX12_four_21 ?_
  refine lv_topi (fun v12 ev12 => ?_)
  refine m_iast E G 1 1 (k := 19) rfl (fun _ => rfl) rfl (by decide) (by decide) dX12_four_22 (fun H locs G => ?_)
  refine lv_aload_n hx hb dX12_four_23 rfl (lv_at hl 1 rfl) ?_
  refine lv_dup hx hb dX12_four_24 rfl ?_
  refine m_get E G 2 (v := .int 19) (by decide) (.tail _ qM_30) rfl dX12_four_25 rfl ?_
  refine lv_iconst (v := 1) hx hb dX12_four_28 (by decide) ?_
  refine lv_iadd hx hb dX12_four_29 ?_
  refine lv_to (y := 20) (by decide +kernel) ?_
  refine m_put E G 2 (by decide) (.tail _ qM_30) (mw_i2 _ _ _ _ _ 20) dX12_four_30 ⟨rfl, rfl, rfl⟩ rfl rfl (fun H locs G => ?_)
  refine lv_iinc (v := (-8)) (lv' := [(2, .int (-8)), (0, .ref (ad 0)), (1, .int v)]) hx hb dX12_four_33 hl (k := 0) rfl (by decide +kernel) (by decide) rfl (fun ls hl => ?_)
  refine lv_goto (tgt := 3) hx hb dX12_four_36 (by decide) ?_
  refine lv_iload_n hx hb dX12_four_3 rfl (lv_at hl 0 rfl) ?_
  refine lv_if_lt (tgt := 39) hx hb dX12_four_4 (by decide) (fun c13 => ?_) (fun c13 => absurd (by decide +kernel) c13)
  exact W.vret hx hb hr (fun t ht hW => ⟨⟨(mi (mf (mi (mf (mi (mf (mi (mf S 1 (upd (S.2.1 1) 16 v3)) 2 17) 1 (upd ((mi (mf S 1 (upd (S.2.1 1) 16 v3)) 2 17).2.1 1) 17 v6)) 2 18) 1 (upd ((mi (mf (mi (mf S 1 (upd (S.2.1 1) 16 v3)) 2 17) 1 (upd ((mi (mf S 1 (upd (S.2.1 1) 16 v3)) 2 17).2.1 1) 17 v6)) 2 18).2.1 1) 18 v9)) 2 19) 1 (upd ((mi (mf (mi (mf (mi (mf S 1 (upd (S.2.1 1) 16 v3)) 2 17) 1 (upd ((mi (mf S 1 (upd (S.2.1 1) 16 v3)) 2 17).2.1 1) 17 v6)) 2 18) 1 (upd ((mi (mf (mi (mf S 1 (upd (S.2.1 1) 16 v3)) 2 17) 1 (upd ((mi (mf S 1 (upd (S.2.1 1) 16 v3)) 2 17).2.1 1) 17 v6)) 2 18).2.1 1) 18 v9)) 2 19).2.1 1) 19 v12)) 2 20), rfl, ⟨rfl, rfl⟩, ⟨by rw [ht]; exact G.1, va_K.moved hW.alike hK, G.2.1⟩⟩, G.2.2.F ht⟩) G.2.2.2.2 dX12_four_39
set_option maxHeartbeats 4000000 in
set_option maxRecDepth 100000 in
theorem n_append (l : Launch) (D : va_G) (cI cJ cZ : ClassId) (ad : Nat → Nat) (S : MS) (x1 x2 x3 x4 x5 : Int32) (h2 : S.1 2 = 0) : mCi l yX12_append (Cond.code yX12_append cX12_append 6 (some .int) :: wsM) 2 22 D cI cJ cZ ad S [.int x1, .int x2, .int x3, .int x4, .int x5] (fun r S1 => r = 20 ∧ S1.1 0 = 0) := by
  intro sz
  refine Met.ofW (cc := cX12_append) (maxL := 6) (ret := (some .int)) (by decide) rfl ?_
  intro p e s m args below meth c s₁ B hml hv
  obtain ⟨rfl, hsz, hP, hK, hD0, hR⟩ := hv
  have hx := B.exec
  have hb := B.bytes
  have hr := B.returns
  have hts := atoms_spec (ws := (Cond.code yX12_append cX12_append 6 (some .int) :: wsM)) B.pre
  have hown : s.vm.findClass RX12 = some m.cls := findClass_of_methodNamed B.named
  have hlocks := B.notSynchronized
  subst hsz
  have hD := hD0.self (sz := s.heap.size)
  generalize hAe : va_A (MW cI cJ cZ ad S) s.heap.size = A at hD ⊢
  have hA : ∀ q : Nat, s.heap.size ≤ q → A q := fun q h => by rw [← hAe]; exact Or.inr h
  have G : mG D cI cJ cZ ad A s.heap s.heap [] S := ⟨hP, hD, va_S.rf⟩
  have E : mE p c cX12_append s m ([.ref (ad 0), .int x1, .int x2, .int x3, .int x4, .int x5] : List Value).toArray (Cond.code yX12_append cX12_append 6 (some .int) :: wsM) D cI cJ cZ := ⟨hx, hb, hts, hown, hK, fun w h => .tail _ (iM_x h)⟩
  have hl := lv_entry ([.ref (ad 0), .int x1, .int x2, .int x3, .int x4, .int x5]) (n := 6) (Nat.le_of_ble_eq_true rfl)
  rw [lg_entry_eq]
  generalize (lg_sl ([.ref (ad 0), .int x1, .int x2, .int x3, .int x4, .int x5]) ++ List.replicate (6 - (lg_sl ([.ref (ad 0), .int x1, .int x2, .int x3, .int x4, .int x5])).length) Slot.unset).toArray = ls at hl ⊢
  have hl : lv_has ls 6 [(0, .ref (ad 0)), (1, .int x1), (2, .int x2), (3, .int x3), (4, .int x4), (5, .int x5)] := hl
  have hh : True := trivial
  refine lv_aload_n hx hb dX12_append_0 rfl (lv_at hl 0 rfl) ?_
  refine lv_iconst (v := 0) hx hb dX12_append_1 (by decide) ?_
  refine m_put E G 0 (by decide) (.tail _ qM_26) (mw_i0 _ _ _ _ _ 0) dX12_append_2 ⟨rfl, rfl, rfl⟩ rfl rfl (fun H locs G => ?_)
  refine lv_aload_n hx hb dX12_append_5 rfl (lv_at hl 0 rfl) ?_
  refine m_get E G 2 (v := .int (S.1 2)) (by decide) (.tail _ qM_30) rfl dX12_append_6 rfl ?_
  refine lv_to (y := 0) h2 ?_
  refine lv_bipush (v := 20) hx hb dX12_append_9 (by decide) ?_
  refine lv_iadd hx hb dX12_append_11 ?_
  refine lv_to (y := 20) (by decide +kernel) ?_
  refine lv_sipush (v := 1000) hx hb dX12_append_12 (by decide) ?_
  refine lv_icmp_le (tgt := 20) hx hb dX12_append_15 (by decide) (fun c1 => ?_) (fun c1 => absurd (by decide +kernel) c1)
  refine lv_aload_n hx hb dX12_append_20 rfl (lv_at hl 0 rfl) ?_
  refine lv_iload_n hx hb dX12_append_21 rfl (lv_at hl 1 rfl) ?_
  have hb0 : (mi S 0 0).1 2 = 0 := h2
  have ht0 : (mi S 0 0).1 0 = 0 := rfl
  refine m_callv (As := [.int x1]) (rest := []) E G hA hR hml (n_four_0 l D cI cJ cZ ad (mi S 0 0) x1 hb0) (cwV 1 hts (gmV qM_32 qM_33 qM_34 qM_35 qM_29) rfl rfl rfl (by decide +kernel) ⟨Nat.le_of_ble_eq_true rfl, Nat.le_of_ble_eq_true rfl⟩) rfl hl.1 rfl (lv_room (Nat.le_of_ble_eq_true rfl)) dX12_append_22 ⟨Nat.zero_le _, Nat.zero_le _⟩ (fun S3 H locs hq G => ?_)
  obtain ⟨ht4, hb4⟩ := hq
  replace ht4 := ht4.trans ht0
  refine lv_aload_n hx hb dX12_append_25 rfl (lv_at hl 0 rfl) ?_
  refine lv_iload_n hx hb dX12_append_26 rfl (lv_at hl 2 rfl) ?_
  refine m_callv (As := [.int x2]) (rest := []) E G hA hR hml (n_four_4 l D cI cJ cZ ad S3 x2 hb4) (cwV 1 hts (gmV qM_32 qM_33 qM_34 qM_35 qM_29) rfl rfl rfl (by decide +kernel) ⟨Nat.le_of_ble_eq_true rfl, Nat.le_of_ble_eq_true rfl⟩) rfl hl.1 rfl (lv_room (Nat.le_of_ble_eq_true rfl)) dX12_append_27 ⟨Nat.zero_le _, Nat.zero_le _⟩ (fun S5 H locs hq G => ?_)
  obtain ⟨ht8, hb8⟩ := hq
  replace ht8 := ht8.trans ht4
  refine lv_aload_n hx hb dX12_append_30 rfl (lv_at hl 0 rfl) ?_
  refine lv_iload_n hx hb dX12_append_31 rfl (lv_at hl 3 rfl) ?_
  refine m_callv (As := [.int x3]) (rest := []) E G hA hR hml (n_four_8 l D cI cJ cZ ad S5 x3 hb8) (cwV 1 hts (gmV qM_32 qM_33 qM_34 qM_35 qM_29) rfl rfl rfl (by decide +kernel) ⟨Nat.le_of_ble_eq_true rfl, Nat.le_of_ble_eq_true rfl⟩) rfl hl.1 rfl (lv_room (Nat.le_of_ble_eq_true rfl)) dX12_append_32 ⟨Nat.zero_le _, Nat.zero_le _⟩ (fun S7 H locs hq G => ?_)
  obtain ⟨ht12, hb12⟩ := hq
  replace ht12 := ht12.trans ht8
  refine lv_aload_n hx hb dX12_append_35 rfl (lv_at hl 0 rfl) ?_
  refine lv_iload hx hb dX12_append_36 (lv_at hl 4 rfl) ?_
  refine m_callv (As := [.int x4]) (rest := []) E G hA hR hml (n_four_12 l D cI cJ cZ ad S7 x4 hb12) (cwV 1 hts (gmV qM_32 qM_33 qM_34 qM_35 qM_29) rfl rfl rfl (by decide +kernel) ⟨Nat.le_of_ble_eq_true rfl, Nat.le_of_ble_eq_true rfl⟩) rfl hl.1 rfl (lv_room (Nat.le_of_ble_eq_true rfl)) dX12_append_38 ⟨Nat.zero_le _, Nat.zero_le _⟩ (fun S9 H locs hq G => ?_)
  obtain ⟨ht16, hb16⟩ := hq
  replace ht16 := ht16.trans ht12
  refine lv_aload_n hx hb dX12_append_41 rfl (lv_at hl 0 rfl) ?_
  refine lv_iload hx hb dX12_append_42 (lv_at hl 5 rfl) ?_
  refine m_callv (As := [.int x5]) (rest := []) E G hA hR hml (n_four_16 l D cI cJ cZ ad S9 x5 hb16) (cwV 1 hts (gmV qM_32 qM_33 qM_34 qM_35 qM_29) rfl rfl rfl (by decide +kernel) ⟨Nat.le_of_ble_eq_true rfl, Nat.le_of_ble_eq_true rfl⟩) rfl hl.1 rfl (lv_room (Nat.le_of_ble_eq_true rfl)) dX12_append_44 ⟨Nat.zero_le _, Nat.zero_le _⟩ (fun S11 H locs hq G => ?_)
  obtain ⟨ht20, hb20⟩ := hq
  replace ht20 := ht20.trans ht16
  refine lv_aload_n hx hb dX12_append_47 rfl (lv_at hl 0 rfl) ?_
  refine m_get E G 2 (v := .int (S11.1 2)) (by decide) (.tail _ qM_30) rfl dX12_append_48 rfl ?_
  refine lv_to (y := 20) hb20 ?_
  exact W.iret (v := 20) hx hb hr (fun t ht hW => ⟨⟨20, S11, rfl, ⟨rfl, ht20⟩, ⟨by rw [ht]; exact G.1, va_K.moved hW.alike hK, G.2.1⟩⟩, G.2.2.F ht⟩) G.2.2.2.2 dX12_append_51
