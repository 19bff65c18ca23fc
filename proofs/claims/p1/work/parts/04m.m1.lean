set_option maxHeartbeats 4000000 in
set_option maxRecDepth 100000 in
theorem m_in (l : Launch) (v lo hi : Int32) : Met l yX12_in (Cond.code yX12_in cX12_in 3 (some .boolean) :: wsM) { frames := 1, cells := 0, slots := 0, locals := 0 } (va_Pc [.int v, .int lo, .int hi] (fun _ => True)) (vp_Si (fun r => r = if lo ≤ v ∧ v ≤ hi then 1 else 0)) 0 0 (fun _ => False) := by
  refine Met.ofW (cc := cX12_in) (maxL := 3) (ret := (some .boolean)) (by decide) rfl ?_
  intro p e s m args below meth c s₁ B hml hv
  obtain ⟨rfl, -⟩ := hv
  have hx := B.exec
  have hb := B.bytes
  have hr := B.returns
  have hts := atoms_spec (ws := (Cond.code yX12_in cX12_in 3 (some .boolean) :: wsM)) B.pre
  have hown : s.vm.findClass RX12 = some m.cls := findClass_of_methodNamed B.named
  have hlocks := B.notSynchronized
  have hl := lv_entry ([.int v, .int lo, .int hi]) (n := 3) (Nat.le_of_ble_eq_true rfl)
  rw [lg_entry_eq]
  generalize (lg_sl ([.int v, .int lo, .int hi]) ++ List.replicate (3 - (lg_sl ([.int v, .int lo, .int hi])).length) Slot.unset).toArray = ls at hl ⊢
  have hl : lv_has ls 3 [(0, .int v), (1, .int lo), (2, .int hi)] := hl
  refine lv_iload_n hx hb dX12_in_0 rfl (lv_at hl 0 rfl) ?_
  refine lv_iload_n hx hb dX12_in_1 rfl (lv_at hl 1 rfl) ?_
  refine lv_icmp_lt (tgt := 14) hx hb dX12_in_2 (by decide) (fun c1 => ?_) (fun c1 => ?_)
  · refine lv_iconst (v := 0) hx hb dX12_in_14 (by decide) ?_
    exact W.zret (v := 0) hx hb hr rfl (fun t ht hW => ⟨0, rfl, (by rw [if_neg (fun q => absurd c1 (Int32.not_lt.mpr q.1))]), ht⟩) (fun _ h => absurd h List.not_mem_nil) dX12_in_15
  · refine lv_iload_n hx hb dX12_in_5 rfl (lv_at hl 0 rfl) ?_
    refine lv_iload_n hx hb dX12_in_6 rfl (lv_at hl 2 rfl) ?_
    refine lv_icmp_gt (tgt := 14) hx hb dX12_in_7 (by decide) (fun c2 => ?_) (fun c2 => ?_)
    · refine lv_iconst (v := 0) hx hb dX12_in_14 (by decide) ?_
      exact W.zret (v := 0) hx hb hr rfl (fun t ht hW => ⟨0, rfl, (by rw [if_neg (fun q => absurd c2 (Int32.not_lt.mpr q.2))]), ht⟩) (fun _ h => absurd h List.not_mem_nil) dX12_in_15
    · refine lv_iconst (v := 1) hx hb dX12_in_10 (by decide) ?_
      refine lv_goto (tgt := 15) hx hb dX12_in_11 (by decide) ?_
      exact W.zret (v := 1) hx hb hr rfl (fun t ht hW => ⟨1, rfl, (by rw [if_pos ⟨Int32.not_lt.mp c1, Int32.not_lt.mp c2⟩]), ht⟩) (fun _ h => absurd h List.not_mem_nil) dX12_in_15
set_option maxHeartbeats 4000000 in
set_option maxRecDepth 100000 in
theorem m_thrown (l : Launch) (D : va_G) (cI cJ cZ : ClassId) (ad : Nat → Nat) (S : MS) : mCi l yX12_thrown (Cond.code yX12_thrown cX12_thrown 1 (some .int) :: wsM) 1 0 D cI cJ cZ ad S [] (fun r S1 => r = S.1 0 ∧ S1 = S) := by
  intro sz
  refine Met.ofW (cc := cX12_thrown) (maxL := 1) (ret := (some .int)) (by decide) rfl ?_
  intro p e s m args below meth c s₁ B hml hv
  obtain ⟨rfl, hsz, hP, hK, hD0, hR⟩ := hv
  have hx := B.exec
  have hb := B.bytes
  have hr := B.returns
  have hts := atoms_spec (ws := (Cond.code yX12_thrown cX12_thrown 1 (some .int) :: wsM)) B.pre
  have hown : s.vm.findClass RX12 = some m.cls := findClass_of_methodNamed B.named
  have hlocks := B.notSynchronized
  subst hsz
  have hD := hD0.self (sz := s.heap.size)
  generalize hAe : va_A (MW cI cJ cZ ad S) s.heap.size = A at hD ⊢
  have hA : ∀ q : Nat, s.heap.size ≤ q → A q := fun q h => by rw [← hAe]; exact Or.inr h
  have G : mG D cI cJ cZ ad A s.heap s.heap [] S := ⟨hP, hD, va_S.rf⟩
  have E : mE p c cX12_thrown s m ([.ref (ad 0)] : List Value).toArray (Cond.code yX12_thrown cX12_thrown 1 (some .int) :: wsM) D cI cJ cZ := ⟨hx, hb, hts, hown, hK, fun w h => .tail _ (iM_x h)⟩
  have hl := lv_entry ([.ref (ad 0)]) (n := 1) (Nat.le_of_ble_eq_true rfl)
  rw [lg_entry_eq]
  generalize (lg_sl ([.ref (ad 0)]) ++ List.replicate (1 - (lg_sl ([.ref (ad 0)])).length) Slot.unset).toArray = ls at hl ⊢
  have hl : lv_has ls 1 [(0, .ref (ad 0))] := hl
  have hh : True := trivial
  refine lv_aload_n hx hb dX12_thrown_0 rfl (lv_at hl 0 rfl) ?_
  refine m_get E G 0 (v := .int (S.1 0)) (by decide) (.tail _ qM_26) rfl dX12_thrown_1 rfl ?_
  exact W.iret (v := (S.1 0)) hx hb hr (fun t ht hW => ⟨⟨(S.1 0), S, rfl, ⟨rfl, rfl⟩, ⟨by rw [ht]; exact G.1, va_K.moved hW.alike hK, G.2.1⟩⟩, G.2.2.F ht⟩) G.2.2.2.2 dX12_thrown_4
set_option maxHeartbeats 4000000 in
set_option maxRecDepth 100000 in
theorem m_buffered (l : Launch) (D : va_G) (cI cJ cZ : ClassId) (ad : Nat → Nat) (S : MS) : mCi l yX12_buffered (Cond.code yX12_buffered cX12_buffered 1 (some .int) :: wsM) 1 0 D cI cJ cZ ad S [] (fun r S1 => r = S.1 2 ∧ S1 = mi S 0 0) := by
  intro sz
  refine Met.ofW (cc := cX12_buffered) (maxL := 1) (ret := (some .int)) (by decide) rfl ?_
  intro p e s m args below meth c s₁ B hml hv
  obtain ⟨rfl, hsz, hP, hK, hD0, hR⟩ := hv
  have hx := B.exec
  have hb := B.bytes
  have hr := B.returns
  have hts := atoms_spec (ws := (Cond.code yX12_buffered cX12_buffered 1 (some .int) :: wsM)) B.pre
  have hown : s.vm.findClass RX12 = some m.cls := findClass_of_methodNamed B.named
  have hlocks := B.notSynchronized
  subst hsz
  have hD := hD0.self (sz := s.heap.size)
  generalize hAe : va_A (MW cI cJ cZ ad S) s.heap.size = A at hD ⊢
  have hA : ∀ q : Nat, s.heap.size ≤ q → A q := fun q h => by rw [← hAe]; exact Or.inr h
  have G : mG D cI cJ cZ ad A s.heap s.heap [] S := ⟨hP, hD, va_S.rf⟩
  have E : mE p c cX12_buffered s m ([.ref (ad 0)] : List Value).toArray (Cond.code yX12_buffered cX12_buffered 1 (some .int) :: wsM) D cI cJ cZ := ⟨hx, hb, hts, hown, hK, fun w h => .tail _ (iM_x h)⟩
  have hl := lv_entry ([.ref (ad 0)]) (n := 1) (Nat.le_of_ble_eq_true rfl)
  rw [lg_entry_eq]
  generalize (lg_sl ([.ref (ad 0)]) ++ List.replicate (1 - (lg_sl ([.ref (ad 0)])).length) Slot.unset).toArray = ls at hl ⊢
  have hl : lv_has ls 1 [(0, .ref (ad 0))] := hl
  have hh : True := trivial
  refine lv_aload_n hx hb dX12_buffered_0 rfl (lv_at hl 0 rfl) ?_
  refine lv_iconst (v := 0) hx hb dX12_buffered_1 (by decide) ?_
  refine m_put E G 0 (by decide) (.tail _ qM_26) (mw_i0 _ _ _ _ _ 0) dX12_buffered_2 ⟨rfl, rfl, rfl⟩ rfl rfl (fun H locs G => ?_)
  refine lv_aload_n hx hb dX12_buffered_5 rfl (lv_at hl 0 rfl) ?_
  refine m_get E G 2 (v := .int (S.1 2)) (by decide) (.tail _ qM_30) rfl dX12_buffered_6 rfl ?_
  exact W.iret (v := (S.1 2)) hx hb hr (fun t ht hW => ⟨⟨(S.1 2), (mi S 0 0), rfl, ⟨rfl, rfl⟩, ⟨by rw [ht]; exact G.1, va_K.moved hW.alike hK, G.2.1⟩⟩, G.2.2.F ht⟩) G.2.2.2.2 dX12_buffered_9
set_option maxHeartbeats 4000000 in
set_option maxRecDepth 100000 in
theorem m_parseError (l : Launch) (D : va_G) (cI cJ cZ : ClassId) (ad : Nat → Nat) (S : MS) : mCi l yX12_parseError (Cond.code yX12_parseError cX12_parseError 1 (some .int) :: wsM) 1 0 D cI cJ cZ ad S [] (fun r S1 => r = S.1 5 ∧ S1 = mi S 0 0) := by
  intro sz
  refine Met.ofW (cc := cX12_parseError) (maxL := 1) (ret := (some .int)) (by decide) rfl ?_
  intro p e s m args below meth c s₁ B hml hv
  obtain ⟨rfl, hsz, hP, hK, hD0, hR⟩ := hv
  have hx := B.exec
  have hb := B.bytes
  have hr := B.returns
  have hts := atoms_spec (ws := (Cond.code yX12_parseError cX12_parseError 1 (some .int) :: wsM)) B.pre
  have hown : s.vm.findClass RX12 = some m.cls := findClass_of_methodNamed B.named
  have hlocks := B.notSynchronized
  subst hsz
  have hD := hD0.self (sz := s.heap.size)
  generalize hAe : va_A (MW cI cJ cZ ad S) s.heap.size = A at hD ⊢
  have hA : ∀ q : Nat, s.heap.size ≤ q → A q := fun q h => by rw [← hAe]; exact Or.inr h
  have G : mG D cI cJ cZ ad A s.heap s.heap [] S := ⟨hP, hD, va_S.rf⟩
  have E : mE p c cX12_parseError s m ([.ref (ad 0)] : List Value).toArray (Cond.code yX12_parseError cX12_parseError 1 (some .int) :: wsM) D cI cJ cZ := ⟨hx, hb, hts, hown, hK, fun w h => .tail _ (iM_x h)⟩
  have hl := lv_entry ([.ref (ad 0)]) (n := 1) (Nat.le_of_ble_eq_true rfl)
  rw [lg_entry_eq]
  generalize (lg_sl ([.ref (ad 0)]) ++ List.replicate (1 - (lg_sl ([.ref (ad 0)])).length) Slot.unset).toArray = ls at hl ⊢
  have hl : lv_has ls 1 [(0, .ref (ad 0))] := hl
  have hh : True := trivial
  refine lv_aload_n hx hb dX12_parseError_0 rfl (lv_at hl 0 rfl) ?_
  refine lv_iconst (v := 0) hx hb dX12_parseError_1 (by decide) ?_
  refine m_put E G 0 (by decide) (.tail _ qM_26) (mw_i0 _ _ _ _ _ 0) dX12_parseError_2 ⟨rfl, rfl, rfl⟩ rfl rfl (fun H locs G => ?_)
  refine lv_aload_n hx hb dX12_parseError_5 rfl (lv_at hl 0 rfl) ?_
  refine m_get E G 5 (v := .int (S.1 5)) (by decide) (.tail _ qM_38) rfl dX12_parseError_6 rfl ?_
  exact W.iret (v := (S.1 5)) hx hb hr (fun t ht hW => ⟨⟨(S.1 5), (mi S 0 0), rfl, ⟨rfl, rfl⟩, ⟨by rw [ht]; exact G.1, va_K.moved hW.alike hK, G.2.1⟩⟩, G.2.2.F ht⟩) G.2.2.2.2 dX12_parseError_9
set_option maxHeartbeats 4000000 in
set_option maxRecDepth 100000 in
theorem m_errorPosition (l : Launch) (D : va_G) (cI cJ cZ : ClassId) (ad : Nat → Nat) (S : MS) : mCi l yX12_errorPosition (Cond.code yX12_errorPosition cX12_errorPosition 1 (some .int) :: wsM) 1 0 D cI cJ cZ ad S [] (fun r S1 => r = S.1 6 ∧ S1 = mi S 0 0) := by
  intro sz
  refine Met.ofW (cc := cX12_errorPosition) (maxL := 1) (ret := (some .int)) (by decide) rfl ?_
  intro p e s m args below meth c s₁ B hml hv
  obtain ⟨rfl, hsz, hP, hK, hD0, hR⟩ := hv
  have hx := B.exec
  have hb := B.bytes
  have hr := B.returns
  have hts := atoms_spec (ws := (Cond.code yX12_errorPosition cX12_errorPosition 1 (some .int) :: wsM)) B.pre
  have hown : s.vm.findClass RX12 = some m.cls := findClass_of_methodNamed B.named
  have hlocks := B.notSynchronized
  subst hsz
  have hD := hD0.self (sz := s.heap.size)
  generalize hAe : va_A (MW cI cJ cZ ad S) s.heap.size = A at hD ⊢
  have hA : ∀ q : Nat, s.heap.size ≤ q → A q := fun q h => by rw [← hAe]; exact Or.inr h
  have G : mG D cI cJ cZ ad A s.heap s.heap [] S := ⟨hP, hD, va_S.rf⟩
  have E : mE p c cX12_errorPosition s m ([.ref (ad 0)] : List Value).toArray (Cond.code yX12_errorPosition cX12_errorPosition 1 (some .int) :: wsM) D cI cJ cZ := ⟨hx, hb, hts, hown, hK, fun w h => .tail _ (iM_x h)⟩
  have hl := lv_entry ([.ref (ad 0)]) (n := 1) (Nat.le_of_ble_eq_true rfl)
  rw [lg_entry_eq]
  generalize (lg_sl ([.ref (ad 0)]) ++ List.replicate (1 - (lg_sl ([.ref (ad 0)])).length) Slot.unset).toArray = ls at hl ⊢
  have hl : lv_has ls 1 [(0, .ref (ad 0))] := hl
  have hh : True := trivial
  refine lv_aload_n hx hb dX12_errorPosition_0 rfl (lv_at hl 0 rfl) ?_
  refine lv_iconst (v := 0) hx hb dX12_errorPosition_1 (by decide) ?_
  refine m_put E G 0 (by decide) (.tail _ qM_26) (mw_i0 _ _ _ _ _ 0) dX12_errorPosition_2 ⟨rfl, rfl, rfl⟩ rfl rfl (fun H locs G => ?_)
  refine lv_aload_n hx hb dX12_errorPosition_5 rfl (lv_at hl 0 rfl) ?_
  refine m_get E G 6 (v := .int (S.1 6)) (by decide) (.tail _ qM_6) rfl dX12_errorPosition_6 rfl ?_
  exact W.iret (v := (S.1 6)) hx hb hr (fun t ht hW => ⟨⟨(S.1 6), (mi S 0 0), rfl, ⟨rfl, rfl⟩, ⟨by rw [ht]; exact G.1, va_K.moved hW.alike hK, G.2.1⟩⟩, G.2.2.F ht⟩) G.2.2.2.2 dX12_errorPosition_9
set_option maxHeartbeats 4000000 in
set_option maxRecDepth 100000 in
theorem m_undoable (l : Launch) (D : va_G) (cI cJ cZ : ClassId) (ad : Nat → Nat) (S : MS) : mCi l yX12_undoable (Cond.code yX12_undoable cX12_undoable 1 (some .int) :: wsM) 1 0 D cI cJ cZ ad S [] (fun r S1 => r = S.1 19 ∧ S1 = mi S 0 0) := by
  intro sz
  refine Met.ofW (cc := cX12_undoable) (maxL := 1) (ret := (some .int)) (by decide) rfl ?_
  intro p e s m args below meth c s₁ B hml hv
  obtain ⟨rfl, hsz, hP, hK, hD0, hR⟩ := hv
  have hx := B.exec
  have hb := B.bytes
  have hr := B.returns
  have hts := atoms_spec (ws := (Cond.code yX12_undoable cX12_undoable 1 (some .int) :: wsM)) B.pre
  have hown : s.vm.findClass RX12 = some m.cls := findClass_of_methodNamed B.named
  have hlocks := B.notSynchronized
  subst hsz
  have hD := hD0.self (sz := s.heap.size)
  generalize hAe : va_A (MW cI cJ cZ ad S) s.heap.size = A at hD ⊢
  have hA : ∀ q : Nat, s.heap.size ≤ q → A q := fun q h => by rw [← hAe]; exact Or.inr h
  have G : mG D cI cJ cZ ad A s.heap s.heap [] S := ⟨hP, hD, va_S.rf⟩
  have E : mE p c cX12_undoable s m ([.ref (ad 0)] : List Value).toArray (Cond.code yX12_undoable cX12_undoable 1 (some .int) :: wsM) D cI cJ cZ := ⟨hx, hb, hts, hown, hK, fun w h => .tail _ (iM_x h)⟩
  have hl := lv_entry ([.ref (ad 0)]) (n := 1) (Nat.le_of_ble_eq_true rfl)
  rw [lg_entry_eq]
  generalize (lg_sl ([.ref (ad 0)]) ++ List.replicate (1 - (lg_sl ([.ref (ad 0)])).length) Slot.unset).toArray = ls at hl ⊢
  have hl : lv_has ls 1 [(0, .ref (ad 0))] := hl
  have hh : True := trivial
  refine lv_aload_n hx hb dX12_undoable_0 rfl (lv_at hl 0 rfl) ?_
  refine lv_iconst (v := 0) hx hb dX12_undoable_1 (by decide) ?_
  refine m_put E G 0 (by decide) (.tail _ qM_26) (mw_i0 _ _ _ _ _ 0) dX12_undoable_2 ⟨rfl, rfl, rfl⟩ rfl rfl (fun H locs G => ?_)
  refine lv_aload_n hx hb dX12_undoable_5 rfl (lv_at hl 0 rfl) ?_
  refine m_get E G 19 (v := .int (S.1 19)) (by decide) (.tail _ qM_194) rfl dX12_undoable_6 rfl ?_
  exact W.iret (v := (S.1 19)) hx hb hr (fun t ht hW => ⟨⟨(S.1 19), (mi S 0 0), rfl, ⟨rfl, rfl⟩, ⟨by rw [ht]; exact G.1, va_K.moved hW.alike hK, G.2.1⟩⟩, G.2.2.F ht⟩) G.2.2.2.2 dX12_undoable_9
set_option maxHeartbeats 4000000 in
set_option maxRecDepth 100000 in
theorem m_throwsAt (l : Launch) (D : va_G) (cI cJ cZ : ClassId) (ad : Nat → Nat) (S : MS) (w : Int32) : mCi l yX12_throwsAt (Cond.code yX12_throwsAt cX12_throwsAt 2 (some .int) :: wsM) 1 0 D cI cJ cZ ad S [.int w] (fun r S1 => r = 0 ∧ S1 = mi S 0 w) := by
  intro sz
  refine Met.ofW (cc := cX12_throwsAt) (maxL := 2) (ret := (some .int)) (by decide) rfl ?_
  intro p e s m args below meth c s₁ B hml hv
  obtain ⟨rfl, hsz, hP, hK, hD0, hR⟩ := hv
  have hx := B.exec
  have hb := B.bytes
  have hr := B.returns
  have hts := atoms_spec (ws := (Cond.code yX12_throwsAt cX12_throwsAt 2 (some .int) :: wsM)) B.pre
  have hown : s.vm.findClass RX12 = some m.cls := findClass_of_methodNamed B.named
  have hlocks := B.notSynchronized
  subst hsz
  have hD := hD0.self (sz := s.heap.size)
  generalize hAe : va_A (MW cI cJ cZ ad S) s.heap.size = A at hD ⊢
  have hA : ∀ q : Nat, s.heap.size ≤ q → A q := fun q h => by rw [← hAe]; exact Or.inr h
  have G : mG D cI cJ cZ ad A s.heap s.heap [] S := ⟨hP, hD, va_S.rf⟩
  have E : mE p c cX12_throwsAt s m ([.ref (ad 0), .int w] : List Value).toArray (Cond.code yX12_throwsAt cX12_throwsAt 2 (some .int) :: wsM) D cI cJ cZ := ⟨hx, hb, hts, hown, hK, fun w h => .tail _ (iM_x h)⟩
  have hl := lv_entry ([.ref (ad 0), .int w]) (n := 2) (Nat.le_of_ble_eq_true rfl)
  rw [lg_entry_eq]
  generalize (lg_sl ([.ref (ad 0), .int w]) ++ List.replicate (2 - (lg_sl ([.ref (ad 0), .int w])).length) Slot.unset).toArray = ls at hl ⊢
  have hl : lv_has ls 2 [(0, .ref (ad 0)), (1, .int w)] := hl
  have hh : True := trivial
  refine lv_aload_n hx hb dX12_throwsAt_0 rfl (lv_at hl 0 rfl) ?_
  refine lv_iload_n hx hb dX12_throwsAt_1 rfl (lv_at hl 1 rfl) ?_
  refine m_put E G 0 (by decide) (.tail _ qM_26) (mw_i0 _ _ _ _ _ w) dX12_throwsAt_2 ⟨rfl, rfl, rfl⟩ rfl rfl (fun H locs G => ?_)
  refine lv_iconst (v := 0) hx hb dX12_throwsAt_5 (by decide) ?_
  exact W.iret (v := 0) hx hb hr (fun t ht hW => ⟨⟨0, (mi S 0 w), rfl, ⟨rfl, rfl⟩, ⟨by rw [ht]; exact G.1, va_K.moved hW.alike hK, G.2.1⟩⟩, G.2.2.F ht⟩) G.2.2.2.2 dX12_throwsAt_6
set_option maxHeartbeats 4000000 in
set_option maxRecDepth 100000 in
theorem n_cellCount (l : Launch) (D : va_G) (cI cJ cZ : ClassId) (ad : Nat → Nat) (S : MS) (h20 : S.1 20 = 0) (hp : ∀ k, S.2.1 10 k = 0) : mCi l yX12_cellCount (Cond.code yX12_cellCount cX12_cellCount 1 (some .int) :: wsM) 1 0 D cI cJ cZ ad S [] (fun r S1 => r = 0 ∧ S1 = S) := by
  intro sz
  refine Met.ofW (cc := cX12_cellCount) (maxL := 1) (ret := (some .int)) (by decide) rfl ?_
  intro p e s m args below meth c s₁ B hml hv
  obtain ⟨rfl, hsz, hP, hK, hD0, hR⟩ := hv
  have hx := B.exec
  have hb := B.bytes
  have hr := B.returns
  have hts := atoms_spec (ws := (Cond.code yX12_cellCount cX12_cellCount 1 (some .int) :: wsM)) B.pre
  have hown : s.vm.findClass RX12 = some m.cls := findClass_of_methodNamed B.named
  have hlocks := B.notSynchronized
  subst hsz
  have hD := hD0.self (sz := s.heap.size)
  generalize hAe : va_A (MW cI cJ cZ ad S) s.heap.size = A at hD ⊢
  have hA : ∀ q : Nat, s.heap.size ≤ q → A q := fun q h => by rw [← hAe]; exact Or.inr h
  have G : mG D cI cJ cZ ad A s.heap s.heap [] S := ⟨hP, hD, va_S.rf⟩
  have E : mE p c cX12_cellCount s m ([.ref (ad 0)] : List Value).toArray (Cond.code yX12_cellCount cX12_cellCount 1 (some .int) :: wsM) D cI cJ cZ := ⟨hx, hb, hts, hown, hK, fun w h => .tail _ (iM_x h)⟩
  have hl := lv_entry ([.ref (ad 0)]) (n := 1) (Nat.le_of_ble_eq_true rfl)
  rw [lg_entry_eq]
  generalize (lg_sl ([.ref (ad 0)]) ++ List.replicate (1 - (lg_sl ([.ref (ad 0)])).length) Slot.unset).toArray = ls at hl ⊢
  have hl : lv_has ls 1 [(0, .ref (ad 0))] := hl
  have hh : True := trivial
  refine lv_aload_n hx hb dX12_cellCount_0 rfl (lv_at hl 0 rfl) ?_
  refine m_get E G 10 (v := .ref (ad 10)) (by decide) (.tail _ qM_7) rfl dX12_cellCount_1 rfl ?_
  refine lv_bipush (v := 9) hx hb dX12_cellCount_4 (by decide) ?_
  refine m_iald E G 10 2 (n := 131) (k := 9) rfl rfl (by decide) (by decide) dX12_cellCount_6 ?_
  refine lv_to (y := 0) (hp _) ?_
  refine lv_aload_n hx hb dX12_cellCount_7 rfl (lv_at hl 0 rfl) ?_
  refine m_get E G 10 (v := .ref (ad 10)) (by decide) (.tail _ qM_7) rfl dX12_cellCount_8 rfl ?_
  refine lv_bipush (v := 10) hx hb dX12_cellCount_11 (by decide) ?_
  refine m_iald E G 10 2 (n := 131) (k := 10) rfl rfl (by decide) (by decide) dX12_cellCount_13 ?_
  refine lv_to (y := 0) (hp _) ?_
  refine lv_imul hx hb dX12_cellCount_14 ?_
  refine lv_to (y := 0) (by decide +kernel) ?_
  exact W.iret (v := 0) hx hb hr (fun t ht hW => ⟨⟨0, S, rfl, ⟨rfl, rfl⟩, ⟨by rw [ht]; exact G.1, va_K.moved hW.alike hK, G.2.1⟩⟩, G.2.2.F ht⟩) G.2.2.2.2 dX12_cellCount_15
set_option maxHeartbeats 4000000 in
set_option maxRecDepth 100000 in
theorem n_isMic (l : Launch) (D : va_G) (cI cJ cZ : ClassId) (ad : Nat → Nat) (S : MS) (v : Int32) (h20 : S.1 20 = 0) (hp : ∀ k, S.2.1 10 k = 0) : mCi l yX12_isMic (Cond.code yX12_isMic cX12_isMic 2 (some .boolean) :: wsM) 2 22 D cI cJ cZ ad S [.int v] (fun r S1 => r = 0 ∧ S1 = S) := by
  intro sz
  refine Met.ofW (cc := cX12_isMic) (maxL := 2) (ret := (some .boolean)) (by decide) rfl ?_
  intro p e s m args below meth c s₁ B hml hv
  obtain ⟨rfl, hsz, hP, hK, hD0, hR⟩ := hv
  have hx := B.exec
  have hb := B.bytes
  have hr := B.returns
  have hts := atoms_spec (ws := (Cond.code yX12_isMic cX12_isMic 2 (some .boolean) :: wsM)) B.pre
  have hown : s.vm.findClass RX12 = some m.cls := findClass_of_methodNamed B.named
  have hlocks := B.notSynchronized
  subst hsz
  have hD := hD0.self (sz := s.heap.size)
  generalize hAe : va_A (MW cI cJ cZ ad S) s.heap.size = A at hD ⊢
  have hA : ∀ q : Nat, s.heap.size ≤ q → A q := fun q h => by rw [← hAe]; exact Or.inr h
  have G : mG D cI cJ cZ ad A s.heap s.heap [] S := ⟨hP, hD, va_S.rf⟩
  have E : mE p c cX12_isMic s m ([.ref (ad 0), .int v] : List Value).toArray (Cond.code yX12_isMic cX12_isMic 2 (some .boolean) :: wsM) D cI cJ cZ := ⟨hx, hb, hts, hown, hK, fun w h => .tail _ (iM_x h)⟩
  have hl := lv_entry ([.ref (ad 0), .int v]) (n := 2) (Nat.le_of_ble_eq_true rfl)
  rw [lg_entry_eq]
  generalize (lg_sl ([.ref (ad 0), .int v]) ++ List.replicate (2 - (lg_sl ([.ref (ad 0), .int v])).length) Slot.unset).toArray = ls at hl ⊢
  have hl : lv_has ls 2 [(0, .ref (ad 0)), (1, .int v)] := hl
  have hh : True := trivial
  refine lv_iload_n hx hb dX12_isMic_0 rfl (lv_at hl 1 rfl) ?_
  refine lv_iconst (v := 0) hx hb dX12_isMic_1 (by decide) ?_
  refine lv_aload_n hx hb dX12_isMic_2 rfl (lv_at hl 0 rfl) ?_
  refine m_get E G 10 (v := .ref (ad 10)) (by decide) (.tail _ qM_7) rfl dX12_isMic_3 rfl ?_
  refine lv_iconst (v := 4) hx hb dX12_isMic_6 (by decide) ?_
  refine m_iald E G 10 2 (n := 131) (k := 4) rfl rfl (by decide) (by decide) dX12_isMic_7 ?_
  refine lv_to (y := 0) (hp _) ?_
  refine lv_iconst (v := 1) hx hb dX12_isMic_8 (by decide) ?_
  refine lv_isub hx hb dX12_isMic_9 ?_
  refine lv_to (y := (-1)) (by decide +kernel) ?_
  refine m_stat (As := [.int v, .int 0, .int (-1)]) (rest := []) ⟨hx, hb, hml, hown, hts⟩ (m_in l v 0 (-1)) (cwS 3 hts (gmS qM_52 qM_53 qM_35 qM_27) rfl rfl rfl (by decide +kernel) ⟨Nat.le_of_ble_eq_true rfl, Nat.le_of_ble_eq_true rfl⟩) rfl hl.1 rfl (lv_room (Nat.le_of_ble_eq_true rfl)) dX12_isMic_10 ⟨Nat.zero_le _, Nat.zero_le _⟩ (fun r1 hq => ?_)
  obtain rfl : r1 = 0 := hq.trans (m_noin (by decide +kernel))
  exact W.zret (v := 0) hx hb hr rfl (fun t ht hW => ⟨⟨0, S, rfl, ⟨rfl, rfl⟩, ⟨by rw [ht]; exact G.1, va_K.moved hW.alike hK, G.2.1⟩⟩, G.2.2.F ht⟩) G.2.2.2.2 dX12_isMic_13
set_option maxHeartbeats 4000000 in
set_option maxRecDepth 100000 in
theorem n_isCell (l : Launch) (D : va_G) (cI cJ cZ : ClassId) (ad : Nat → Nat) (S : MS) (v : Int32) (h20 : S.1 20 = 0) (hp : ∀ k, S.2.1 10 k = 0) : mCi l yX12_isCell (Cond.code yX12_isCell cX12_isCell 2 (some .boolean) :: wsM) 2 22 D cI cJ cZ ad S [.int v] (fun r S1 => r = 0 ∧ S1 = S) := by
  intro sz
  refine Met.ofW (cc := cX12_isCell) (maxL := 2) (ret := (some .boolean)) (by decide) rfl ?_
  intro p e s m args below meth c s₁ B hml hv
  obtain ⟨rfl, hsz, hP, hK, hD0, hR⟩ := hv
  have hx := B.exec
  have hb := B.bytes
  have hr := B.returns
  have hts := atoms_spec (ws := (Cond.code yX12_isCell cX12_isCell 2 (some .boolean) :: wsM)) B.pre
  have hown : s.vm.findClass RX12 = some m.cls := findClass_of_methodNamed B.named
  have hlocks := B.notSynchronized
  subst hsz
  have hD := hD0.self (sz := s.heap.size)
  generalize hAe : va_A (MW cI cJ cZ ad S) s.heap.size = A at hD ⊢
  have hA : ∀ q : Nat, s.heap.size ≤ q → A q := fun q h => by rw [← hAe]; exact Or.inr h
  have G : mG D cI cJ cZ ad A s.heap s.heap [] S := ⟨hP, hD, va_S.rf⟩
  have E : mE p c cX12_isCell s m ([.ref (ad 0), .int v] : List Value).toArray (Cond.code yX12_isCell cX12_isCell 2 (some .boolean) :: wsM) D cI cJ cZ := ⟨hx, hb, hts, hown, hK, fun w h => .tail _ (iM_x h)⟩
  have hl := lv_entry ([.ref (ad 0), .int v]) (n := 2) (Nat.le_of_ble_eq_true rfl)
  rw [lg_entry_eq]
  generalize (lg_sl ([.ref (ad 0), .int v]) ++ List.replicate (2 - (lg_sl ([.ref (ad 0), .int v])).length) Slot.unset).toArray = ls at hl ⊢
  have hl : lv_has ls 2 [(0, .ref (ad 0)), (1, .int v)] := hl
  have hh : True := trivial
  refine lv_iload_n hx hb dX12_isCell_0 rfl (lv_at hl 1 rfl) ?_
  refine lv_iconst (v := 0) hx hb dX12_isCell_1 (by decide) ?_
  refine lv_aload_n hx hb dX12_isCell_2 rfl (lv_at hl 0 rfl) ?_
  refine m_calli (As := []) (rest := [.int 0, .int v]) E G hA hR hml (n_cellCount l D cI cJ cZ ad S h20 hp) (cwV 0 hts (gmV qM_204 qM_205 qM_206 qM_35 qM_207) rfl rfl rfl (by decide +kernel) ⟨Nat.le_of_ble_eq_true rfl, Nat.le_of_ble_eq_true rfl⟩) rfl hl.1 rfl (lv_room (Nat.le_of_ble_eq_true rfl)) dX12_isCell_3 ⟨Nat.zero_le _, Nat.zero_le _⟩ (fun r1 S2 H locs hq G => ?_)
  obtain ⟨hq1, hq2⟩ := hq
  rw [hq2] at G
  refine lv_to (y := 0) hq1 ?_
  refine lv_iconst (v := 1) hx hb dX12_isCell_6 (by decide) ?_
  refine lv_isub hx hb dX12_isCell_7 ?_
  refine lv_to (y := (-1)) (by decide +kernel) ?_
  refine m_stat (As := [.int v, .int 0, .int (-1)]) (rest := []) ⟨hx, hb, hml, hown, hts⟩ (m_in l v 0 (-1)) (cwS 3 hts (gmS qM_52 qM_53 qM_35 qM_27) rfl rfl rfl (by decide +kernel) ⟨Nat.le_of_ble_eq_true rfl, Nat.le_of_ble_eq_true rfl⟩) rfl hl.1 rfl (lv_room (Nat.le_of_ble_eq_true rfl)) dX12_isCell_8 ⟨Nat.zero_le _, Nat.zero_le _⟩ (fun r3 hq => ?_)
  obtain rfl : r3 = 0 := hq.trans (m_noin (by decide +kernel))
  exact W.zret (v := 0) hx hb hr rfl (fun t ht hW => ⟨⟨0, S, rfl, ⟨rfl, rfl⟩, ⟨by rw [ht]; exact G.1, va_K.moved hW.alike hK, G.2.1⟩⟩, G.2.2.F ht⟩) G.2.2.2.2 dX12_isCell_11
set_option maxHeartbeats 4000000 in
set_option maxRecDepth 100000 in
theorem n_isSource (l : Launch) (D : va_G) (cI cJ cZ : ClassId) (ad : Nat → Nat) (S : MS) (v : Int32) (h20 : S.1 20 = 0) (hp : ∀ k, S.2.1 10 k = 0) : mCi l yX12_isSource (Cond.code yX12_isSource cX12_isSource 2 (some .boolean) :: wsM) 2 22 D cI cJ cZ ad S [.int v] (fun r S1 => r = 0 ∧ S1 = S) := by
  intro sz
  refine Met.ofW (cc := cX12_isSource) (maxL := 2) (ret := (some .boolean)) (by decide) rfl ?_
  intro p e s m args below meth c s₁ B hml hv
  obtain ⟨rfl, hsz, hP, hK, hD0, hR⟩ := hv
  have hx := B.exec
  have hb := B.bytes
  have hr := B.returns
  have hts := atoms_spec (ws := (Cond.code yX12_isSource cX12_isSource 2 (some .boolean) :: wsM)) B.pre
  have hown : s.vm.findClass RX12 = some m.cls := findClass_of_methodNamed B.named
  have hlocks := B.notSynchronized
  subst hsz
  have hD := hD0.self (sz := s.heap.size)
  generalize hAe : va_A (MW cI cJ cZ ad S) s.heap.size = A at hD ⊢
  have hA : ∀ q : Nat, s.heap.size ≤ q → A q := fun q h => by rw [← hAe]; exact Or.inr h
  have G : mG D cI cJ cZ ad A s.heap s.heap [] S := ⟨hP, hD, va_S.rf⟩
  have E : mE p c cX12_isSource s m ([.ref (ad 0), .int v] : List Value).toArray (Cond.code yX12_isSource cX12_isSource 2 (some .boolean) :: wsM) D cI cJ cZ := ⟨hx, hb, hts, hown, hK, fun w h => .tail _ (iM_x h)⟩
  have hl := lv_entry ([.ref (ad 0), .int v]) (n := 2) (Nat.le_of_ble_eq_true rfl)
  rw [lg_entry_eq]
  generalize (lg_sl ([.ref (ad 0), .int v]) ++ List.replicate (2 - (lg_sl ([.ref (ad 0), .int v])).length) Slot.unset).toArray = ls at hl ⊢
  have hl : lv_has ls 2 [(0, .ref (ad 0)), (1, .int v)] := hl
  have hh : True := trivial
  refine lv_iload_n hx hb dX12_isSource_0 rfl (lv_at hl 1 rfl) ?_
  refine lv_iconst (v := 0) hx hb dX12_isSource_1 (by decide) ?_
  refine lv_aload_n hx hb dX12_isSource_2 rfl (lv_at hl 0 rfl) ?_
  refine m_get E G 10 (v := .ref (ad 10)) (by decide) (.tail _ qM_7) rfl dX12_isSource_3 rfl ?_
  refine lv_iconst (v := 5) hx hb dX12_isSource_6 (by decide) ?_
  refine m_iald E G 10 2 (n := 131) (k := 5) rfl rfl (by decide) (by decide) dX12_isSource_7 ?_
  refine lv_to (y := 0) (hp _) ?_
  refine lv_iconst (v := 1) hx hb dX12_isSource_8 (by decide) ?_
  refine lv_isub hx hb dX12_isSource_9 ?_
  refine lv_to (y := (-1)) (by decide +kernel) ?_
  refine m_stat (As := [.int v, .int 0, .int (-1)]) (rest := []) ⟨hx, hb, hml, hown, hts⟩ (m_in l v 0 (-1)) (cwS 3 hts (gmS qM_52 qM_53 qM_35 qM_27) rfl rfl rfl (by decide +kernel) ⟨Nat.le_of_ble_eq_true rfl, Nat.le_of_ble_eq_true rfl⟩) rfl hl.1 rfl (lv_room (Nat.le_of_ble_eq_true rfl)) dX12_isSource_10 ⟨Nat.zero_le _, Nat.zero_le _⟩ (fun r1 hq => ?_)
  obtain rfl : r1 = 0 := hq.trans (m_noin (by decide +kernel))
  exact W.zret (v := 0) hx hb hr rfl (fun t ht hW => ⟨⟨0, S, rfl, ⟨rfl, rfl⟩, ⟨by rw [ht]; exact G.1, va_K.moved hW.alike hK, G.2.1⟩⟩, G.2.2.F ht⟩) G.2.2.2.2 dX12_isSource_13
set_option maxHeartbeats 4000000 in
set_option maxRecDepth 100000 in
theorem n_isTime (l : Launch) (D : va_G) (cI cJ cZ : ClassId) (ad : Nat → Nat) (S : MS) (v : Int32) (h20 : S.1 20 = 0) (hp : ∀ k, S.2.1 10 k = 0) : mCi l yX12_isTime (Cond.code yX12_isTime cX12_isTime 2 (some .boolean) :: wsM) 2 22 D cI cJ cZ ad S [.int v] (fun r S1 => r = 0 ∧ S1 = S) := by
  intro sz
  refine Met.ofW (cc := cX12_isTime) (maxL := 2) (ret := (some .boolean)) (by decide) rfl ?_
  intro p e s m args below meth c s₁ B hml hv
  obtain ⟨rfl, hsz, hP, hK, hD0, hR⟩ := hv
  have hx := B.exec
  have hb := B.bytes
  have hr := B.returns
  have hts := atoms_spec (ws := (Cond.code yX12_isTime cX12_isTime 2 (some .boolean) :: wsM)) B.pre
  have hown : s.vm.findClass RX12 = some m.cls := findClass_of_methodNamed B.named
  have hlocks := B.notSynchronized
  subst hsz
  have hD := hD0.self (sz := s.heap.size)
  generalize hAe : va_A (MW cI cJ cZ ad S) s.heap.size = A at hD ⊢
  have hA : ∀ q : Nat, s.heap.size ≤ q → A q := fun q h => by rw [← hAe]; exact Or.inr h
  have G : mG D cI cJ cZ ad A s.heap s.heap [] S := ⟨hP, hD, va_S.rf⟩
  have E : mE p c cX12_isTime s m ([.ref (ad 0), .int v] : List Value).toArray (Cond.code yX12_isTime cX12_isTime 2 (some .boolean) :: wsM) D cI cJ cZ := ⟨hx, hb, hts, hown, hK, fun w h => .tail _ (iM_x h)⟩
  have hl := lv_entry ([.ref (ad 0), .int v]) (n := 2) (Nat.le_of_ble_eq_true rfl)
  rw [lg_entry_eq]
  generalize (lg_sl ([.ref (ad 0), .int v]) ++ List.replicate (2 - (lg_sl ([.ref (ad 0), .int v])).length) Slot.unset).toArray = ls at hl ⊢
  have hl : lv_has ls 2 [(0, .ref (ad 0)), (1, .int v)] := hl
  have hh : True := trivial
  refine lv_iload_n hx hb dX12_isTime_0 rfl (lv_at hl 1 rfl) ?_
  refine lv_iconst (v := 0) hx hb dX12_isTime_1 (by decide) ?_
  refine lv_aload_n hx hb dX12_isTime_2 rfl (lv_at hl 0 rfl) ?_
  refine m_get E G 10 (v := .ref (ad 10)) (by decide) (.tail _ qM_7) rfl dX12_isTime_3 rfl ?_
  refine lv_iconst (v := 2) hx hb dX12_isTime_6 (by decide) ?_
  refine m_iald E G 10 2 (n := 131) (k := 2) rfl rfl (by decide) (by decide) dX12_isTime_7 ?_
  refine lv_to (y := 0) (hp _) ?_
  refine lv_iconst (v := 1) hx hb dX12_isTime_8 (by decide) ?_
  refine lv_isub hx hb dX12_isTime_9 ?_
  refine lv_to (y := (-1)) (by decide +kernel) ?_
  refine m_stat (As := [.int v, .int 0, .int (-1)]) (rest := []) ⟨hx, hb, hml, hown, hts⟩ (m_in l v 0 (-1)) (cwS 3 hts (gmS qM_52 qM_53 qM_35 qM_27) rfl rfl rfl (by decide +kernel) ⟨Nat.le_of_ble_eq_true rfl, Nat.le_of_ble_eq_true rfl⟩) rfl hl.1 rfl (lv_room (Nat.le_of_ble_eq_true rfl)) dX12_isTime_10 ⟨Nat.zero_le _, Nat.zero_le _⟩ (fun r1 hq => ?_)
  obtain rfl : r1 = 0 := hq.trans (m_noin (by decide +kernel))
  exact W.zret (v := 0) hx hb hr rfl (fun t ht hW => ⟨⟨0, S, rfl, ⟨rfl, rfl⟩, ⟨by rw [ht]; exact G.1, va_K.moved hW.alike hK, G.2.1⟩⟩, G.2.2.F ht⟩) G.2.2.2.2 dX12_isTime_13
set_option maxHeartbeats 4000000 in
set_option maxRecDepth 100000 in
theorem n_isZone (l : Launch) (D : va_G) (cI cJ cZ : ClassId) (ad : Nat → Nat) (S : MS) (v : Int32) (h20 : S.1 20 = 0) (hp : ∀ k, S.2.1 10 k = 0) : mCi l yX12_isZone (Cond.code yX12_isZone cX12_isZone 2 (some .boolean) :: wsM) 2 22 D cI cJ cZ ad S [.int v] (fun r S1 => r = 0 ∧ S1 = S) := by
  intro sz
  refine Met.ofW (cc := cX12_isZone) (maxL := 2) (ret := (some .boolean)) (by decide) rfl ?_
  intro p e s m args below meth c s₁ B hml hv
  obtain ⟨rfl, hsz, hP, hK, hD0, hR⟩ := hv
  have hx := B.exec
  have hb := B.bytes
  have hr := B.returns
  have hts := atoms_spec (ws := (Cond.code yX12_isZone cX12_isZone 2 (some .boolean) :: wsM)) B.pre
  have hown : s.vm.findClass RX12 = some m.cls := findClass_of_methodNamed B.named
  have hlocks := B.notSynchronized
  subst hsz
  have hD := hD0.self (sz := s.heap.size)
  generalize hAe : va_A (MW cI cJ cZ ad S) s.heap.size = A at hD ⊢
  have hA : ∀ q : Nat, s.heap.size ≤ q → A q := fun q h => by rw [← hAe]; exact Or.inr h
  have G : mG D cI cJ cZ ad A s.heap s.heap [] S := ⟨hP, hD, va_S.rf⟩
  have E : mE p c cX12_isZone s m ([.ref (ad 0), .int v] : List Value).toArray (Cond.code yX12_isZone cX12_isZone 2 (some .boolean) :: wsM) D cI cJ cZ := ⟨hx, hb, hts, hown, hK, fun w h => .tail _ (iM_x h)⟩
  have hl := lv_entry ([.ref (ad 0), .int v]) (n := 2) (Nat.le_of_ble_eq_true rfl)
  rw [lg_entry_eq]
  generalize (lg_sl ([.ref (ad 0), .int v]) ++ List.replicate (2 - (lg_sl ([.ref (ad 0), .int v])).length) Slot.unset).toArray = ls at hl ⊢
  have hl : lv_has ls 2 [(0, .ref (ad 0)), (1, .int v)] := hl
  have hh : True := trivial
  refine lv_iload_n hx hb dX12_isZone_0 rfl (lv_at hl 1 rfl) ?_
  refine lv_iconst (v := 0) hx hb dX12_isZone_1 (by decide) ?_
  refine lv_aload_n hx hb dX12_isZone_2 rfl (lv_at hl 0 rfl) ?_
  refine m_get E G 10 (v := .ref (ad 10)) (by decide) (.tail _ qM_7) rfl dX12_isZone_3 rfl ?_
  refine lv_bipush (v := 101) hx hb dX12_isZone_6 (by decide) ?_
  refine m_iald E G 10 2 (n := 131) (k := 101) rfl rfl (by decide) (by decide) dX12_isZone_8 ?_
  refine lv_to (y := 0) (hp _) ?_
  refine lv_iconst (v := 1) hx hb dX12_isZone_9 (by decide) ?_
  refine lv_isub hx hb dX12_isZone_10 ?_
  refine lv_to (y := (-1)) (by decide +kernel) ?_
  refine m_stat (As := [.int v, .int 0, .int (-1)]) (rest := []) ⟨hx, hb, hml, hown, hts⟩ (m_in l v 0 (-1)) (cwS 3 hts (gmS qM_52 qM_53 qM_35 qM_27) rfl rfl rfl (by decide +kernel) ⟨Nat.le_of_ble_eq_true rfl, Nat.le_of_ble_eq_true rfl⟩) rfl hl.1 rfl (lv_room (Nat.le_of_ble_eq_true rfl)) dX12_isZone_11 ⟨Nat.zero_le _, Nat.zero_le _⟩ (fun r1 hq => ?_)
  obtain rfl : r1 = 0 := hq.trans (m_noin (by decide +kernel))
  exact W.zret (v := 0) hx hb hr rfl (fun t ht hW => ⟨⟨0, S, rfl, ⟨rfl, rfl⟩, ⟨by rw [ht]; exact G.1, va_K.moved hW.alike hK, G.2.1⟩⟩, G.2.2.F ht⟩) G.2.2.2.2 dX12_isZone_14
set_option maxHeartbeats 4000000 in
set_option maxRecDepth 100000 in
theorem n_isLength (l : Launch) (D : va_G) (cI cJ cZ : ClassId) (ad : Nat → Nat) (S : MS) (v : Int32) (h20 : S.1 20 = 0) (hp : ∀ k, S.2.1 10 k = 0) : mCi l yX12_isLength (Cond.code yX12_isLength cX12_isLength 2 (some .boolean) :: wsM) 2 22 D cI cJ cZ ad S [.int v] (fun r S1 => r = 0 ∧ S1 = S) := by
  intro sz
  refine Met.ofW (cc := cX12_isLength) (maxL := 2) (ret := (some .boolean)) (by decide) rfl ?_
  intro p e s m args below meth c s₁ B hml hv
  obtain ⟨rfl, hsz, hP, hK, hD0, hR⟩ := hv
  have hx := B.exec
  have hb := B.bytes
  have hr := B.returns
  have hts := atoms_spec (ws := (Cond.code yX12_isLength cX12_isLength 2 (some .boolean) :: wsM)) B.pre
  have hown : s.vm.findClass RX12 = some m.cls := findClass_of_methodNamed B.named
  have hlocks := B.notSynchronized
  subst hsz
  have hD := hD0.self (sz := s.heap.size)
  generalize hAe : va_A (MW cI cJ cZ ad S) s.heap.size = A at hD ⊢
  have hA : ∀ q : Nat, s.heap.size ≤ q → A q := fun q h => by rw [← hAe]; exact Or.inr h
  have G : mG D cI cJ cZ ad A s.heap s.heap [] S := ⟨hP, hD, va_S.rf⟩
  have E : mE p c cX12_isLength s m ([.ref (ad 0), .int v] : List Value).toArray (Cond.code yX12_isLength cX12_isLength 2 (some .boolean) :: wsM) D cI cJ cZ := ⟨hx, hb, hts, hown, hK, fun w h => .tail _ (iM_x h)⟩
  have hl := lv_entry ([.ref (ad 0), .int v]) (n := 2) (Nat.le_of_ble_eq_true rfl)
  rw [lg_entry_eq]
  generalize (lg_sl ([.ref (ad 0), .int v]) ++ List.replicate (2 - (lg_sl ([.ref (ad 0), .int v])).length) Slot.unset).toArray = ls at hl ⊢
  have hl : lv_has ls 2 [(0, .ref (ad 0)), (1, .int v)] := hl
  have hh : True := trivial
  refine lv_iload_n hx hb dX12_isLength_0 rfl (lv_at hl 1 rfl) ?_
  refine lv_iconst (v := 4) hx hb dX12_isLength_1 (by decide) ?_
  refine lv_aload_n hx hb dX12_isLength_2 rfl (lv_at hl 0 rfl) ?_
  refine m_get E G 10 (v := .ref (ad 10)) (by decide) (.tail _ qM_7) rfl dX12_isLength_3 rfl ?_
  refine lv_iconst (v := 2) hx hb dX12_isLength_6 (by decide) ?_
  refine m_iald E G 10 2 (n := 131) (k := 2) rfl rfl (by decide) (by decide) dX12_isLength_7 ?_
  refine lv_to (y := 0) (hp _) ?_
  refine m_stat (As := [.int v, .int 4, .int 0]) (rest := []) ⟨hx, hb, hml, hown, hts⟩ (m_in l v 4 0) (cwS 3 hts (gmS qM_52 qM_53 qM_35 qM_27) rfl rfl rfl (by decide +kernel) ⟨Nat.le_of_ble_eq_true rfl, Nat.le_of_ble_eq_true rfl⟩) rfl hl.1 rfl (lv_room (Nat.le_of_ble_eq_true rfl)) dX12_isLength_8 ⟨Nat.zero_le _, Nat.zero_le _⟩ (fun r1 hq => ?_)
  obtain rfl : r1 = 0 := hq.trans (m_noin (by decide +kernel))
  exact W.zret (v := 0) hx hb hr rfl (fun t ht hW => ⟨⟨0, S, rfl, ⟨rfl, rfl⟩, ⟨by rw [ht]; exact G.1, va_K.moved hW.alike hK, G.2.1⟩⟩, G.2.2.F ht⟩) G.2.2.2.2 dX12_isLength_11
set_option maxHeartbeats 4000000 in
set_option maxRecDepth 100000 in
theorem n_mayAsk (l : Launch) (D : va_G) (cI cJ cZ : ClassId) (ad : Nat → Nat) (S : MS) (b : Int32) (h20 : S.1 20 = 0) : mCi l yX12_mayAsk (Cond.code yX12_mayAsk cX12_mayAsk 2 (some .boolean) :: wsM) 1 0 D cI cJ cZ ad S [.int b] (fun r S1 => r = 0 ∧ S1 = mi S 0 1) := by
  intro sz
  refine Met.ofW (cc := cX12_mayAsk) (maxL := 2) (ret := (some .boolean)) (by decide) rfl ?_
  intro p e s m args below meth c s₁ B hml hv
  obtain ⟨rfl, hsz, hP, hK, hD0, hR⟩ := hv
  have hx := B.exec
  have hb := B.bytes
  have hr := B.returns
  have hts := atoms_spec (ws := (Cond.code yX12_mayAsk cX12_mayAsk 2 (some .boolean) :: wsM)) B.pre
  have hown : s.vm.findClass RX12 = some m.cls := findClass_of_methodNamed B.named
  have hlocks := B.notSynchronized
  subst hsz
  have hD := hD0.self (sz := s.heap.size)
  generalize hAe : va_A (MW cI cJ cZ ad S) s.heap.size = A at hD ⊢
  have hA : ∀ q : Nat, s.heap.size ≤ q → A q := fun q h => by rw [← hAe]; exact Or.inr h
  have G : mG D cI cJ cZ ad A s.heap s.heap [] S := ⟨hP, hD, va_S.rf⟩
  have E : mE p c cX12_mayAsk s m ([.ref (ad 0), .int b] : List Value).toArray (Cond.code yX12_mayAsk cX12_mayAsk 2 (some .boolean) :: wsM) D cI cJ cZ := ⟨hx, hb, hts, hown, hK, fun w h => .tail _ (iM_x h)⟩
  have hl := lv_entry ([.ref (ad 0), .int b]) (n := 2) (Nat.le_of_ble_eq_true rfl)
  rw [lg_entry_eq]
  generalize (lg_sl ([.ref (ad 0), .int b]) ++ List.replicate (2 - (lg_sl ([.ref (ad 0), .int b])).length) Slot.unset).toArray = ls at hl ⊢
  have hl : lv_has ls 2 [(0, .ref (ad 0)), (1, .int b)] := hl
  have hh : True := trivial
  refine lv_aload_n hx hb dX12_mayAsk_0 rfl (lv_at hl 0 rfl) ?_
  refine lv_aload_n hx hb dX12_mayAsk_1 rfl (lv_at hl 0 rfl) ?_
  refine m_get E G 20 (v := .int (S.1 20)) (by decide) (.tail _ qM_193) rfl dX12_mayAsk_2 rfl ?_
  refine lv_to (y := 0) h20 ?_
  refine lv_if_ne (tgt := 12) hx hb dX12_mayAsk_5 (by decide) (fun c1 => absurd (by decide +kernel) c1) (fun c1 => ?_)
  refine lv_iconst (v := 1) hx hb dX12_mayAsk_8 (by decide) ?_
  refine lv_goto (tgt := 21) hx hb dX12_mayAsk_9 (by decide) ?_
  refine m_put E G 0 (by decide) (.tail _ qM_26) (mw_i0 _ _ _ _ _ 1) dX12_mayAsk_21 ⟨rfl, rfl, rfl⟩ rfl rfl (fun H locs G => ?_)
  refine lv_aload_n hx hb dX12_mayAsk_24 rfl (lv_at hl 0 rfl) ?_
  refine m_get E G 0 (v := .int 1) (by decide) (.tail _ qM_26) rfl dX12_mayAsk_25 rfl ?_
  refine lv_if_ne (tgt := 35) hx hb dX12_mayAsk_28 (by decide) (fun c2 => ?_) (fun c2 => absurd c2 (by decide +kernel))
  refine lv_iconst (v := 0) hx hb dX12_mayAsk_35 (by decide) ?_
  exact W.zret (v := 0) hx hb hr rfl (fun t ht hW => ⟨⟨0, (mi S 0 1), rfl, ⟨rfl, rfl⟩, ⟨by rw [ht]; exact G.1, va_K.moved hW.alike hK, G.2.1⟩⟩, G.2.2.F ht⟩) G.2.2.2.2 dX12_mayAsk_36
set_option maxHeartbeats 4000000 in
set_option maxRecDepth 100000 in
theorem n_told (l : Launch) (D : va_G) (cI cJ cZ : ClassId) (ad : Nat → Nat) (S : MS) (v : Int32) (h20 : S.1 20 = 0) : mCi l yX12_told (Cond.code yX12_told cX12_told 2 (some .int) :: wsM) 1 0 D cI cJ cZ ad S [.int v] (fun r S1 => r = 0 ∧ S1 = mi S 0 0) := by
  intro sz
  refine Met.ofW (cc := cX12_told) (maxL := 2) (ret := (some .int)) (by decide) rfl ?_
  intro p e s m args below meth c s₁ B hml hv
  obtain ⟨rfl, hsz, hP, hK, hD0, hR⟩ := hv
  have hx := B.exec
  have hb := B.bytes
  have hr := B.returns
  have hts := atoms_spec (ws := (Cond.code yX12_told cX12_told 2 (some .int) :: wsM)) B.pre
  have hown : s.vm.findClass RX12 = some m.cls := findClass_of_methodNamed B.named
  have hlocks := B.notSynchronized
  subst hsz
  have hD := hD0.self (sz := s.heap.size)
  generalize hAe : va_A (MW cI cJ cZ ad S) s.heap.size = A at hD ⊢
  have hA : ∀ q : Nat, s.heap.size ≤ q → A q := fun q h => by rw [← hAe]; exact Or.inr h
  have G : mG D cI cJ cZ ad A s.heap s.heap [] S := ⟨hP, hD, va_S.rf⟩
  have E : mE p c cX12_told s m ([.ref (ad 0), .int v] : List Value).toArray (Cond.code yX12_told cX12_told 2 (some .int) :: wsM) D cI cJ cZ := ⟨hx, hb, hts, hown, hK, fun w h => .tail _ (iM_x h)⟩
  have hl := lv_entry ([.ref (ad 0), .int v]) (n := 2) (Nat.le_of_ble_eq_true rfl)
  rw [lg_entry_eq]
  generalize (lg_sl ([.ref (ad 0), .int v]) ++ List.replicate (2 - (lg_sl ([.ref (ad 0), .int v])).length) Slot.unset).toArray = ls at hl ⊢
  have hl : lv_has ls 2 [(0, .ref (ad 0)), (1, .int v)] := hl
  have hh : True := trivial
  refine lv_aload_n hx hb dX12_told_0 rfl (lv_at hl 0 rfl) ?_
  refine lv_iconst (v := 0) hx hb dX12_told_1 (by decide) ?_
  refine m_put E G 0 (by decide) (.tail _ qM_26) (mw_i0 _ _ _ _ _ 0) dX12_told_2 ⟨rfl, rfl, rfl⟩ rfl rfl (fun H locs G => ?_)
  refine lv_aload_n hx hb dX12_told_5 rfl (lv_at hl 0 rfl) ?_
  refine m_get E G 20 (v := .int (S.1 20)) (by decide) (.tail _ qM_193) rfl dX12_told_6 rfl ?_
  refine lv_to (y := 0) h20 ?_
  refine lv_if_eq (tgt := 16) hx hb dX12_told_9 (by decide) (fun c1 => ?_) (fun c1 => absurd (by decide +kernel) c1)
  refine lv_iconst (v := 0) hx hb dX12_told_16 (by decide) ?_
  exact W.iret (v := 0) hx hb hr (fun t ht hW => ⟨⟨0, (mi S 0 0), rfl, ⟨rfl, rfl⟩, ⟨by rw [ht]; exact G.1, va_K.moved hW.alike hK, G.2.1⟩⟩, G.2.2.F ht⟩) G.2.2.2.2 dX12_told_17
set_option maxHeartbeats 4000000 in
set_option maxRecDepth 100000 in
theorem n_mics (l : Launch) (D : va_G) (cI cJ cZ : ClassId) (ad : Nat → Nat) (S : MS) (h20 : S.1 20 = 0) (hp : ∀ k, S.2.1 10 k = 0) : mCi l yX12_mics (Cond.code yX12_mics cX12_mics 1 (some .int) :: wsM) 2 21 D cI cJ cZ ad S [] (fun r S1 => r = 0 ∧ S1 = mi S 0 0) := by
  intro sz
  refine Met.ofW (cc := cX12_mics) (maxL := 1) (ret := (some .int)) (by decide) rfl ?_
  intro p e s m args below meth c s₁ B hml hv
  obtain ⟨rfl, hsz, hP, hK, hD0, hR⟩ := hv
  have hx := B.exec
  have hb := B.bytes
  have hr := B.returns
  have hts := atoms_spec (ws := (Cond.code yX12_mics cX12_mics 1 (some .int) :: wsM)) B.pre
  have hown : s.vm.findClass RX12 = some m.cls := findClass_of_methodNamed B.named
  have hlocks := B.notSynchronized
  subst hsz
  have hD := hD0.self (sz := s.heap.size)
  generalize hAe : va_A (MW cI cJ cZ ad S) s.heap.size = A at hD ⊢
  have hA : ∀ q : Nat, s.heap.size ≤ q → A q := fun q h => by rw [← hAe]; exact Or.inr h
  have G : mG D cI cJ cZ ad A s.heap s.heap [] S := ⟨hP, hD, va_S.rf⟩
  have E : mE p c cX12_mics s m ([.ref (ad 0)] : List Value).toArray (Cond.code yX12_mics cX12_mics 1 (some .int) :: wsM) D cI cJ cZ := ⟨hx, hb, hts, hown, hK, fun w h => .tail _ (iM_x h)⟩
  have hl := lv_entry ([.ref (ad 0)]) (n := 1) (Nat.le_of_ble_eq_true rfl)
  rw [lg_entry_eq]
  generalize (lg_sl ([.ref (ad 0)]) ++ List.replicate (1 - (lg_sl ([.ref (ad 0)])).length) Slot.unset).toArray = ls at hl ⊢
  have hl : lv_has ls 1 [(0, .ref (ad 0))] := hl
  have hh : True := trivial
  refine lv_aload_n hx hb dX12_mics_0 rfl (lv_at hl 0 rfl) ?_
  refine lv_aload_n hx hb dX12_mics_1 rfl (lv_at hl 0 rfl) ?_
  refine m_get E G 10 (v := .ref (ad 10)) (by decide) (.tail _ qM_7) rfl dX12_mics_2 rfl ?_
  refine lv_iconst (v := 4) hx hb dX12_mics_5 (by decide) ?_
  refine m_iald E G 10 2 (n := 131) (k := 4) rfl rfl (by decide) (by decide) dX12_mics_6 ?_
  refine lv_to (y := 0) (hp _) ?_
  refine m_calli (As := [.int 0]) (rest := []) E G hA hR hml (n_told l D cI cJ cZ ad S 0 h20) (cwV 1 hts (gmV qM_312 qM_313 qM_314 qM_35 qM_305) rfl rfl rfl (by decide +kernel) ⟨Nat.le_of_ble_eq_true rfl, Nat.le_of_ble_eq_true rfl⟩) rfl hl.1 rfl (lv_room (Nat.le_of_ble_eq_true rfl)) dX12_mics_7 ⟨Nat.zero_le _, Nat.zero_le _⟩ (fun r1 S2 H locs hq G => ?_)
  obtain ⟨hq1, hq2⟩ := hq
  rw [hq2] at G
  refine lv_to (y := 0) hq1 ?_
  exact W.iret (v := 0) hx hb hr (fun t ht hW => ⟨⟨0, (mi S 0 0), rfl, ⟨rfl, rfl⟩, ⟨by rw [ht]; exact G.1, va_K.moved hW.alike hK, G.2.1⟩⟩, G.2.2.F ht⟩) G.2.2.2.2 dX12_mics_10
set_option maxHeartbeats 4000000 in
set_option maxRecDepth 100000 in
theorem n_columns (l : Launch) (D : va_G) (cI cJ cZ : ClassId) (ad : Nat → Nat) (S : MS) (h20 : S.1 20 = 0) (hp : ∀ k, S.2.1 10 k = 0) : mCi l yX12_columns (Cond.code yX12_columns cX12_columns 1 (some .int) :: wsM) 2 21 D cI cJ cZ ad S [] (fun r S1 => r = 0 ∧ S1 = mi S 0 0) := by
  intro sz
  refine Met.ofW (cc := cX12_columns) (maxL := 1) (ret := (some .int)) (by decide) rfl ?_
  intro p e s m args below meth c s₁ B hml hv
  obtain ⟨rfl, hsz, hP, hK, hD0, hR⟩ := hv
  have hx := B.exec
  have hb := B.bytes
  have hr := B.returns
  have hts := atoms_spec (ws := (Cond.code yX12_columns cX12_columns 1 (some .int) :: wsM)) B.pre
  have hown : s.vm.findClass RX12 = some m.cls := findClass_of_methodNamed B.named
  have hlocks := B.notSynchronized
  subst hsz
  have hD := hD0.self (sz := s.heap.size)
  generalize hAe : va_A (MW cI cJ cZ ad S) s.heap.size = A at hD ⊢
  have hA : ∀ q : Nat, s.heap.size ≤ q → A q := fun q h => by rw [← hAe]; exact Or.inr h
  have G : mG D cI cJ cZ ad A s.heap s.heap [] S := ⟨hP, hD, va_S.rf⟩
  have E : mE p c cX12_columns s m ([.ref (ad 0)] : List Value).toArray (Cond.code yX12_columns cX12_columns 1 (some .int) :: wsM) D cI cJ cZ := ⟨hx, hb, hts, hown, hK, fun w h => .tail _ (iM_x h)⟩
  have hl := lv_entry ([.ref (ad 0)]) (n := 1) (Nat.le_of_ble_eq_true rfl)
  rw [lg_entry_eq]
  generalize (lg_sl ([.ref (ad 0)]) ++ List.replicate (1 - (lg_sl ([.ref (ad 0)])).length) Slot.unset).toArray = ls at hl ⊢
  have hl : lv_has ls 1 [(0, .ref (ad 0))] := hl
  have hh : True := trivial
  refine lv_aload_n hx hb dX12_columns_0 rfl (lv_at hl 0 rfl) ?_
  refine lv_aload_n hx hb dX12_columns_1 rfl (lv_at hl 0 rfl) ?_
  refine m_get E G 10 (v := .ref (ad 10)) (by decide) (.tail _ qM_7) rfl dX12_columns_2 rfl ?_
  refine lv_bipush (v := 9) hx hb dX12_columns_5 (by decide) ?_
  refine m_iald E G 10 2 (n := 131) (k := 9) rfl rfl (by decide) (by decide) dX12_columns_7 ?_
  refine lv_to (y := 0) (hp _) ?_
  refine m_calli (As := [.int 0]) (rest := []) E G hA hR hml (n_told l D cI cJ cZ ad S 0 h20) (cwV 1 hts (gmV qM_312 qM_313 qM_314 qM_35 qM_305) rfl rfl rfl (by decide +kernel) ⟨Nat.le_of_ble_eq_true rfl, Nat.le_of_ble_eq_true rfl⟩) rfl hl.1 rfl (lv_room (Nat.le_of_ble_eq_true rfl)) dX12_columns_8 ⟨Nat.zero_le _, Nat.zero_le _⟩ (fun r1 S2 H locs hq G => ?_)
  obtain ⟨hq1, hq2⟩ := hq
  rw [hq2] at G
  refine lv_to (y := 0) hq1 ?_
  exact W.iret (v := 0) hx hb hr (fun t ht hW => ⟨⟨0, (mi S 0 0), rfl, ⟨rfl, rfl⟩, ⟨by rw [ht]; exact G.1, va_K.moved hW.alike hK, G.2.1⟩⟩, G.2.2.F ht⟩) G.2.2.2.2 dX12_columns_11
set_option maxHeartbeats 4000000 in
set_option maxRecDepth 100000 in
theorem n_rows (l : Launch) (D : va_G) (cI cJ cZ : ClassId) (ad : Nat → Nat) (S : MS) (h20 : S.1 20 = 0) (hp : ∀ k, S.2.1 10 k = 0) : mCi l yX12_rows (Cond.code yX12_rows cX12_rows 1 (some .int) :: wsM) 2 21 D cI cJ cZ ad S [] (fun r S1 => r = 0 ∧ S1 = mi S 0 0) := by
  intro sz
  refine Met.ofW (cc := cX12_rows) (maxL := 1) (ret := (some .int)) (by decide) rfl ?_
  intro p e s m args below meth c s₁ B hml hv
  obtain ⟨rfl, hsz, hP, hK, hD0, hR⟩ := hv
  have hx := B.exec
  have hb := B.bytes
  have hr := B.returns
  have hts := atoms_spec (ws := (Cond.code yX12_rows cX12_rows 1 (some .int) :: wsM)) B.pre
  have hown : s.vm.findClass RX12 = some m.cls := findClass_of_methodNamed B.named
  have hlocks := B.notSynchronized
  subst hsz
  have hD := hD0.self (sz := s.heap.size)
  generalize hAe : va_A (MW cI cJ cZ ad S) s.heap.size = A at hD ⊢
  have hA : ∀ q : Nat, s.heap.size ≤ q → A q := fun q h => by rw [← hAe]; exact Or.inr h
  have G : mG D cI cJ cZ ad A s.heap s.heap [] S := ⟨hP, hD, va_S.rf⟩
  have E : mE p c cX12_rows s m ([.ref (ad 0)] : List Value).toArray (Cond.code yX12_rows cX12_rows 1 (some .int) :: wsM) D cI cJ cZ := ⟨hx, hb, hts, hown, hK, fun w h => .tail _ (iM_x h)⟩
  have hl := lv_entry ([.ref (ad 0)]) (n := 1) (Nat.le_of_ble_eq_true rfl)
  rw [lg_entry_eq]
  generalize (lg_sl ([.ref (ad 0)]) ++ List.replicate (1 - (lg_sl ([.ref (ad 0)])).length) Slot.unset).toArray = ls at hl ⊢
  have hl : lv_has ls 1 [(0, .ref (ad 0))] := hl
  have hh : True := trivial
  refine lv_aload_n hx hb dX12_rows_0 rfl (lv_at hl 0 rfl) ?_
  refine lv_aload_n hx hb dX12_rows_1 rfl (lv_at hl 0 rfl) ?_
  refine m_get E G 10 (v := .ref (ad 10)) (by decide) (.tail _ qM_7) rfl dX12_rows_2 rfl ?_
  refine lv_bipush (v := 10) hx hb dX12_rows_5 (by decide) ?_
  refine m_iald E G 10 2 (n := 131) (k := 10) rfl rfl (by decide) (by decide) dX12_rows_7 ?_
  refine lv_to (y := 0) (hp _) ?_
  refine m_calli (As := [.int 0]) (rest := []) E G hA hR hml (n_told l D cI cJ cZ ad S 0 h20) (cwV 1 hts (gmV qM_312 qM_313 qM_314 qM_35 qM_305) rfl rfl rfl (by decide +kernel) ⟨Nat.le_of_ble_eq_true rfl, Nat.le_of_ble_eq_true rfl⟩) rfl hl.1 rfl (lv_room (Nat.le_of_ble_eq_true rfl)) dX12_rows_8 ⟨Nat.zero_le _, Nat.zero_le _⟩ (fun r1 S2 H locs hq G => ?_)
  obtain ⟨hq1, hq2⟩ := hq
  rw [hq2] at G
  refine lv_to (y := 0) hq1 ?_
  exact W.iret (v := 0) hx hb hr (fun t ht hW => ⟨⟨0, (mi S 0 0), rfl, ⟨rfl, rfl⟩, ⟨by rw [ht]; exact G.1, va_K.moved hW.alike hK, G.2.1⟩⟩, G.2.2.F ht⟩) G.2.2.2.2 dX12_rows_11
set_option maxHeartbeats 4000000 in
set_option maxRecDepth 100000 in
theorem n_sources (l : Launch) (D : va_G) (cI cJ cZ : ClassId) (ad : Nat → Nat) (S : MS) (h20 : S.1 20 = 0) (hp : ∀ k, S.2.1 10 k = 0) : mCi l yX12_sources (Cond.code yX12_sources cX12_sources 1 (some .int) :: wsM) 2 21 D cI cJ cZ ad S [] (fun r S1 => r = 0 ∧ S1 = mi S 0 0) := by
  intro sz
  refine Met.ofW (cc := cX12_sources) (maxL := 1) (ret := (some .int)) (by decide) rfl ?_
  intro p e s m args below meth c s₁ B hml hv
  obtain ⟨rfl, hsz, hP, hK, hD0, hR⟩ := hv
  have hx := B.exec
  have hb := B.bytes
  have hr := B.returns
  have hts := atoms_spec (ws := (Cond.code yX12_sources cX12_sources 1 (some .int) :: wsM)) B.pre
  have hown : s.vm.findClass RX12 = some m.cls := findClass_of_methodNamed B.named
  have hlocks := B.notSynchronized
  subst hsz
  have hD := hD0.self (sz := s.heap.size)
  generalize hAe : va_A (MW cI cJ cZ ad S) s.heap.size = A at hD ⊢
  have hA : ∀ q : Nat, s.heap.size ≤ q → A q := fun q h => by rw [← hAe]; exact Or.inr h
  have G : mG D cI cJ cZ ad A s.heap s.heap [] S := ⟨hP, hD, va_S.rf⟩
  have E : mE p c cX12_sources s m ([.ref (ad 0)] : List Value).toArray (Cond.code yX12_sources cX12_sources 1 (some .int) :: wsM) D cI cJ cZ := ⟨hx, hb, hts, hown, hK, fun w h => .tail _ (iM_x h)⟩
  have hl := lv_entry ([.ref (ad 0)]) (n := 1) (Nat.le_of_ble_eq_true rfl)
  rw [lg_entry_eq]
  generalize (lg_sl ([.ref (ad 0)]) ++ List.replicate (1 - (lg_sl ([.ref (ad 0)])).length) Slot.unset).toArray = ls at hl ⊢
  have hl : lv_has ls 1 [(0, .ref (ad 0))] := hl
  have hh : True := trivial
  refine lv_aload_n hx hb dX12_sources_0 rfl (lv_at hl 0 rfl) ?_
  refine lv_aload_n hx hb dX12_sources_1 rfl (lv_at hl 0 rfl) ?_
  refine m_get E G 10 (v := .ref (ad 10)) (by decide) (.tail _ qM_7) rfl dX12_sources_2 rfl ?_
  refine lv_iconst (v := 5) hx hb dX12_sources_5 (by decide) ?_
  refine m_iald E G 10 2 (n := 131) (k := 5) rfl rfl (by decide) (by decide) dX12_sources_6 ?_
  refine lv_to (y := 0) (hp _) ?_
  refine m_calli (As := [.int 0]) (rest := []) E G hA hR hml (n_told l D cI cJ cZ ad S 0 h20) (cwV 1 hts (gmV qM_312 qM_313 qM_314 qM_35 qM_305) rfl rfl rfl (by decide +kernel) ⟨Nat.le_of_ble_eq_true rfl, Nat.le_of_ble_eq_true rfl⟩) rfl hl.1 rfl (lv_room (Nat.le_of_ble_eq_true rfl)) dX12_sources_7 ⟨Nat.zero_le _, Nat.zero_le _⟩ (fun r1 S2 H locs hq G => ?_)
  obtain ⟨hq1, hq2⟩ := hq
  rw [hq2] at G
  refine lv_to (y := 0) hq1 ?_
  exact W.iret (v := 0) hx hb hr (fun t ht hW => ⟨⟨0, (mi S 0 0), rfl, ⟨rfl, rfl⟩, ⟨by rw [ht]; exact G.1, va_K.moved hW.alike hK, G.2.1⟩⟩, G.2.2.F ht⟩) G.2.2.2.2 dX12_sources_10
set_option maxHeartbeats 4000000 in
set_option maxRecDepth 100000 in
theorem n_samples (l : Launch) (D : va_G) (cI cJ cZ : ClassId) (ad : Nat → Nat) (S : MS) (h20 : S.1 20 = 0) (hp : ∀ k, S.2.1 10 k = 0) : mCi l yX12_samples (Cond.code yX12_samples cX12_samples 1 (some .int) :: wsM) 2 21 D cI cJ cZ ad S [] (fun r S1 => r = 0 ∧ S1 = mi S 0 0) := by
  intro sz
  refine Met.ofW (cc := cX12_samples) (maxL := 1) (ret := (some .int)) (by decide) rfl ?_
  intro p e s m args below meth c s₁ B hml hv
  obtain ⟨rfl, hsz, hP, hK, hD0, hR⟩ := hv
  have hx := B.exec
  have hb := B.bytes
  have hr := B.returns
  have hts := atoms_spec (ws := (Cond.code yX12_samples cX12_samples 1 (some .int) :: wsM)) B.pre
  have hown : s.vm.findClass RX12 = some m.cls := findClass_of_methodNamed B.named
  have hlocks := B.notSynchronized
  subst hsz
  have hD := hD0.self (sz := s.heap.size)
  generalize hAe : va_A (MW cI cJ cZ ad S) s.heap.size = A at hD ⊢
  have hA : ∀ q : Nat, s.heap.size ≤ q → A q := fun q h => by rw [← hAe]; exact Or.inr h
  have G : mG D cI cJ cZ ad A s.heap s.heap [] S := ⟨hP, hD, va_S.rf⟩
  have E : mE p c cX12_samples s m ([.ref (ad 0)] : List Value).toArray (Cond.code yX12_samples cX12_samples 1 (some .int) :: wsM) D cI cJ cZ := ⟨hx, hb, hts, hown, hK, fun w h => .tail _ (iM_x h)⟩
  have hl := lv_entry ([.ref (ad 0)]) (n := 1) (Nat.le_of_ble_eq_true rfl)
  rw [lg_entry_eq]
  generalize (lg_sl ([.ref (ad 0)]) ++ List.replicate (1 - (lg_sl ([.ref (ad 0)])).length) Slot.unset).toArray = ls at hl ⊢
  have hl : lv_has ls 1 [(0, .ref (ad 0))] := hl
  have hh : True := trivial
  refine lv_aload_n hx hb dX12_samples_0 rfl (lv_at hl 0 rfl) ?_
  refine lv_aload_n hx hb dX12_samples_1 rfl (lv_at hl 0 rfl) ?_
  refine m_get E G 10 (v := .ref (ad 10)) (by decide) (.tail _ qM_7) rfl dX12_samples_2 rfl ?_
  refine lv_iconst (v := 2) hx hb dX12_samples_5 (by decide) ?_
  refine m_iald E G 10 2 (n := 131) (k := 2) rfl rfl (by decide) (by decide) dX12_samples_6 ?_
  refine lv_to (y := 0) (hp _) ?_
  refine m_calli (As := [.int 0]) (rest := []) E G hA hR hml (n_told l D cI cJ cZ ad S 0 h20) (cwV 1 hts (gmV qM_312 qM_313 qM_314 qM_35 qM_305) rfl rfl rfl (by decide +kernel) ⟨Nat.le_of_ble_eq_true rfl, Nat.le_of_ble_eq_true rfl⟩) rfl hl.1 rfl (lv_room (Nat.le_of_ble_eq_true rfl)) dX12_samples_7 ⟨Nat.zero_le _, Nat.zero_le _⟩ (fun r1 S2 H locs hq G => ?_)
  obtain ⟨hq1, hq2⟩ := hq
  rw [hq2] at G
  refine lv_to (y := 0) hq1 ?_
  exact W.iret (v := 0) hx hb hr (fun t ht hW => ⟨⟨0, (mi S 0 0), rfl, ⟨rfl, rfl⟩, ⟨by rw [ht]; exact G.1, va_K.moved hW.alike hK, G.2.1⟩⟩, G.2.2.F ht⟩) G.2.2.2.2 dX12_samples_10
set_option maxHeartbeats 4000000 in
set_option maxRecDepth 100000 in
theorem m_isPeriod (l : Launch) (a : Int32) : Met l yX12_isPeriod (Cond.code yX12_isPeriod cX12_isPeriod 1 (some .boolean) :: wsM) { frames := 2, cells := 0, slots := 0, locals := 22 } (va_Pc [.int a] (fun _ => True)) (vp_Si (fun r => r = 0 ∨ r = 1)) 0 0 (fun _ => False) := by
  refine Met.ofW (cc := cX12_isPeriod) (maxL := 1) (ret := (some .boolean)) (by decide) rfl ?_
  intro p e s m args below meth c s₁ B hml hv
  obtain ⟨rfl, -⟩ := hv
  have hx := B.exec
  have hb := B.bytes
  have hr := B.returns
  have hts := atoms_spec (ws := (Cond.code yX12_isPeriod cX12_isPeriod 1 (some .boolean) :: wsM)) B.pre
  have hown : s.vm.findClass RX12 = some m.cls := findClass_of_methodNamed B.named
  have hlocks := B.notSynchronized
  have hl := lv_entry ([.int a]) (n := 1) (Nat.le_of_ble_eq_true rfl)
  rw [lg_entry_eq]
  generalize (lg_sl ([.int a]) ++ List.replicate (1 - (lg_sl ([.int a])).length) Slot.unset).toArray = ls at hl ⊢
  have hl : lv_has ls 1 [(0, .int a)] := hl
  refine lv_iload_n hx hb dX12_isPeriod_0 rfl (lv_at hl 0 rfl) ?_
  refine lv_iconst (v := 2) hx hb dX12_isPeriod_1 (by decide) ?_
  refine lv_bipush (v := 99) hx hb dX12_isPeriod_2 (by decide) ?_
  refine m_stat (As := [.int a, .int 2, .int 99]) (rest := []) ⟨hx, hb, hml, hown, hts⟩ (m_in l a 2 99) (cwS 3 hts (gmS qM_52 qM_53 qM_35 qM_27) rfl rfl rfl (by decide +kernel) ⟨Nat.le_of_ble_eq_true rfl, Nat.le_of_ble_eq_true rfl⟩) rfl hl.1 rfl (lv_room (Nat.le_of_ble_eq_true rfl)) dX12_isPeriod_4 ⟨Nat.zero_le _, Nat.zero_le _⟩ (fun r1 hq => ?_)
  have hr1 : r1 = 0 ∨ r1 = 1 := by rw [hq]; split; exact .inr rfl; exact .inl rfl
  exact W.zret (v := r1) hx hb hr (by rcases hr1 with rfl | rfl <;> rfl) (fun t ht hW => ⟨r1, rfl, hr1, ht⟩) (fun _ h => absurd h List.not_mem_nil) dX12_isPeriod_7
set_option maxHeartbeats 4000000 in
set_option maxRecDepth 100000 in
theorem m_isShare (l : Launch) (a : Int32) : Met l yX12_isShare (Cond.code yX12_isShare cX12_isShare 1 (some .boolean) :: wsM) { frames := 2, cells := 0, slots := 0, locals := 22 } (va_Pc [.int a] (fun _ => True)) (vp_Si (fun r => r = 0 ∨ r = 1)) 0 0 (fun _ => False) := by
  refine Met.ofW (cc := cX12_isShare) (maxL := 1) (ret := (some .boolean)) (by decide) rfl ?_
  intro p e s m args below meth c s₁ B hml hv
  obtain ⟨rfl, -⟩ := hv
  have hx := B.exec
  have hb := B.bytes
  have hr := B.returns
  have hts := atoms_spec (ws := (Cond.code yX12_isShare cX12_isShare 1 (some .boolean) :: wsM)) B.pre
  have hown : s.vm.findClass RX12 = some m.cls := findClass_of_methodNamed B.named
  have hlocks := B.notSynchronized
  have hl := lv_entry ([.int a]) (n := 1) (Nat.le_of_ble_eq_true rfl)
  rw [lg_entry_eq]
  generalize (lg_sl ([.int a]) ++ List.replicate (1 - (lg_sl ([.int a])).length) Slot.unset).toArray = ls at hl ⊢
  have hl : lv_has ls 1 [(0, .int a)] := hl
  refine lv_iload_n hx hb dX12_isShare_0 rfl (lv_at hl 0 rfl) ?_
  refine lv_iconst (v := 1) hx hb dX12_isShare_1 (by decide) ?_
  refine lv_bipush (v := 100) hx hb dX12_isShare_2 (by decide) ?_
  refine m_stat (As := [.int a, .int 1, .int 100]) (rest := []) ⟨hx, hb, hml, hown, hts⟩ (m_in l a 1 100) (cwS 3 hts (gmS qM_52 qM_53 qM_35 qM_27) rfl rfl rfl (by decide +kernel) ⟨Nat.le_of_ble_eq_true rfl, Nat.le_of_ble_eq_true rfl⟩) rfl hl.1 rfl (lv_room (Nat.le_of_ble_eq_true rfl)) dX12_isShare_4 ⟨Nat.zero_le _, Nat.zero_le _⟩ (fun r1 hq => ?_)
  have hr1 : r1 = 0 ∨ r1 = 1 := by rw [hq]; split; exact .inr rfl; exact .inl rfl
  exact W.zret (v := r1) hx hb hr (by rcases hr1 with rfl | rfl <;> rfl) (fun t ht hW => ⟨r1, rfl, hr1, ht⟩) (fun _ h => absurd h List.not_mem_nil) dX12_isShare_7
set_option maxHeartbeats 4000000 in
set_option maxRecDepth 100000 in
theorem m_isPoint (l : Launch) (a b : Int32) : Met l yX12_isPoint (Cond.code yX12_isPoint cX12_isPoint 2 (some .boolean) :: wsM) { frames := 2, cells := 0, slots := 0, locals := 22 } (va_Pc [.int a, .int b] (fun _ => True)) (vp_Si (fun r => r = 0 ∨ r = 1)) 0 0 (fun _ => False) := by
  refine Met.ofW (cc := cX12_isPoint) (maxL := 2) (ret := (some .boolean)) (by decide) rfl ?_
  intro p e s m args below meth c s₁ B hml hv
  obtain ⟨rfl, -⟩ := hv
  have hx := B.exec
  have hb := B.bytes
  have hr := B.returns
  have hts := atoms_spec (ws := (Cond.code yX12_isPoint cX12_isPoint 2 (some .boolean) :: wsM)) B.pre
  have hown : s.vm.findClass RX12 = some m.cls := findClass_of_methodNamed B.named
  have hlocks := B.notSynchronized
  have hl := lv_entry ([.int a, .int b]) (n := 2) (Nat.le_of_ble_eq_true rfl)
  rw [lg_entry_eq]
  generalize (lg_sl ([.int a, .int b]) ++ List.replicate (2 - (lg_sl ([.int a, .int b])).length) Slot.unset).toArray = ls at hl ⊢
  have hl : lv_has ls 2 [(0, .int a), (1, .int b)] := hl
  refine lv_iload_n hx hb dX12_isPoint_0 rfl (lv_at hl 0 rfl) ?_
  refine lv_sipush (v := (-9999)) hx hb dX12_isPoint_1 (by decide) ?_
  refine lv_sipush (v := 9999) hx hb dX12_isPoint_4 (by decide) ?_
  refine m_stat (As := [.int a, .int (-9999), .int 9999]) (rest := []) ⟨hx, hb, hml, hown, hts⟩ (m_in l a (-9999) 9999) (cwS 3 hts (gmS qM_52 qM_53 qM_35 qM_27) rfl rfl rfl (by decide +kernel) ⟨Nat.le_of_ble_eq_true rfl, Nat.le_of_ble_eq_true rfl⟩) rfl hl.1 rfl (lv_room (Nat.le_of_ble_eq_true rfl)) dX12_isPoint_7 ⟨Nat.zero_le _, Nat.zero_le _⟩ (fun r1 hq => ?_)
  have hr1 : r1 = 0 ∨ r1 = 1 := by rw [hq]; split; exact .inr rfl; exact .inl rfl
  refine lv_if_eq (tgt := 30) hx hb dX12_isPoint_10 (by decide) (fun c2 => ?_) (fun c2 => ?_)
  · refine lv_iconst (v := 0) hx hb dX12_isPoint_30 (by decide) ?_
    exact W.zret (v := 0) hx hb hr rfl (fun t ht hW => ⟨0, rfl, (.inl rfl), ht⟩) (fun _ h => absurd h List.not_mem_nil) dX12_isPoint_31
  · refine lv_iload_n hx hb dX12_isPoint_13 rfl (lv_at hl 1 rfl) ?_
    refine lv_sipush (v := (-9999)) hx hb dX12_isPoint_14 (by decide) ?_
    refine lv_sipush (v := 9999) hx hb dX12_isPoint_17 (by decide) ?_
    refine m_stat (As := [.int b, .int (-9999), .int 9999]) (rest := []) ⟨hx, hb, hml, hown, hts⟩ (m_in l b (-9999) 9999) (cwS 3 hts (gmS qM_52 qM_53 qM_35 qM_27) rfl rfl rfl (by decide +kernel) ⟨Nat.le_of_ble_eq_true rfl, Nat.le_of_ble_eq_true rfl⟩) rfl hl.1 rfl (lv_room (Nat.le_of_ble_eq_true rfl)) dX12_isPoint_20 ⟨Nat.zero_le _, Nat.zero_le _⟩ (fun r3 hq => ?_)
    have hr3 : r3 = 0 ∨ r3 = 1 := by rw [hq]; split; exact .inr rfl; exact .inl rfl
    refine lv_if_eq (tgt := 30) hx hb dX12_isPoint_23 (by decide) (fun c4 => ?_) (fun c4 => ?_)
    · refine lv_iconst (v := 0) hx hb dX12_isPoint_30 (by decide) ?_
      exact W.zret (v := 0) hx hb hr rfl (fun t ht hW => ⟨0, rfl, (.inl rfl), ht⟩) (fun _ h => absurd h List.not_mem_nil) dX12_isPoint_31
    · refine lv_iconst (v := 1) hx hb dX12_isPoint_26 (by decide) ?_
      refine lv_goto (tgt := 31) hx hb dX12_isPoint_27 (by decide) ?_
      exact W.zret (v := 1) hx hb hr rfl (fun t ht hW => ⟨1, rfl, (.inr rfl), ht⟩) (fun _ h => absurd h List.not_mem_nil) dX12_isPoint_31
set_option maxHeartbeats 4000000 in
set_option maxRecDepth 100000 in
theorem m_isVelocity (l : Launch) (a b : Int32) : Met l yX12_isVelocity (Cond.code yX12_isVelocity cX12_isVelocity 2 (some .boolean) :: wsM) { frames := 2, cells := 0, slots := 0, locals := 22 } (va_Pc [.int a, .int b] (fun _ => True)) (vp_Si (fun r => r = 0 ∨ r = 1)) 0 0 (fun _ => False) := by
  refine Met.ofW (cc := cX12_isVelocity) (maxL := 2) (ret := (some .boolean)) (by decide) rfl ?_
  intro p e s m args below meth c s₁ B hml hv
  obtain ⟨rfl, -⟩ := hv
  have hx := B.exec
  have hb := B.bytes
  have hr := B.returns
  have hts := atoms_spec (ws := (Cond.code yX12_isVelocity cX12_isVelocity 2 (some .boolean) :: wsM)) B.pre
  have hown : s.vm.findClass RX12 = some m.cls := findClass_of_methodNamed B.named
  have hlocks := B.notSynchronized
  have hl := lv_entry ([.int a, .int b]) (n := 2) (Nat.le_of_ble_eq_true rfl)
  rw [lg_entry_eq]
  generalize (lg_sl ([.int a, .int b]) ++ List.replicate (2 - (lg_sl ([.int a, .int b])).length) Slot.unset).toArray = ls at hl ⊢
  have hl : lv_has ls 2 [(0, .int a), (1, .int b)] := hl
  refine lv_iload_n hx hb dX12_isVelocity_0 rfl (lv_at hl 0 rfl) ?_
  refine lv_sipush (v := (-999)) hx hb dX12_isVelocity_1 (by decide) ?_
  refine lv_sipush (v := 999) hx hb dX12_isVelocity_4 (by decide) ?_
  refine m_stat (As := [.int a, .int (-999), .int 999]) (rest := []) ⟨hx, hb, hml, hown, hts⟩ (m_in l a (-999) 999) (cwS 3 hts (gmS qM_52 qM_53 qM_35 qM_27) rfl rfl rfl (by decide +kernel) ⟨Nat.le_of_ble_eq_true rfl, Nat.le_of_ble_eq_true rfl⟩) rfl hl.1 rfl (lv_room (Nat.le_of_ble_eq_true rfl)) dX12_isVelocity_7 ⟨Nat.zero_le _, Nat.zero_le _⟩ (fun r1 hq => ?_)
  have hr1 : r1 = 0 ∨ r1 = 1 := by rw [hq]; split; exact .inr rfl; exact .inl rfl
  refine lv_if_eq (tgt := 30) hx hb dX12_isVelocity_10 (by decide) (fun c2 => ?_) (fun c2 => ?_)
  · refine lv_iconst (v := 0) hx hb dX12_isVelocity_30 (by decide) ?_
    exact W.zret (v := 0) hx hb hr rfl (fun t ht hW => ⟨0, rfl, (.inl rfl), ht⟩) (fun _ h => absurd h List.not_mem_nil) dX12_isVelocity_31
  · refine lv_iload_n hx hb dX12_isVelocity_13 rfl (lv_at hl 1 rfl) ?_
    refine lv_sipush (v := (-999)) hx hb dX12_isVelocity_14 (by decide) ?_
    refine lv_sipush (v := 999) hx hb dX12_isVelocity_17 (by decide) ?_
    refine m_stat (As := [.int b, .int (-999), .int 999]) (rest := []) ⟨hx, hb, hml, hown, hts⟩ (m_in l b (-999) 999) (cwS 3 hts (gmS qM_52 qM_53 qM_35 qM_27) rfl rfl rfl (by decide +kernel) ⟨Nat.le_of_ble_eq_true rfl, Nat.le_of_ble_eq_true rfl⟩) rfl hl.1 rfl (lv_room (Nat.le_of_ble_eq_true rfl)) dX12_isVelocity_20 ⟨Nat.zero_le _, Nat.zero_le _⟩ (fun r3 hq => ?_)
    have hr3 : r3 = 0 ∨ r3 = 1 := by rw [hq]; split; exact .inr rfl; exact .inl rfl
    refine lv_if_eq (tgt := 30) hx hb dX12_isVelocity_23 (by decide) (fun c4 => ?_) (fun c4 => ?_)
    · refine lv_iconst (v := 0) hx hb dX12_isVelocity_30 (by decide) ?_
      exact W.zret (v := 0) hx hb hr rfl (fun t ht hW => ⟨0, rfl, (.inl rfl), ht⟩) (fun _ h => absurd h List.not_mem_nil) dX12_isVelocity_31
    · refine lv_iconst (v := 1) hx hb dX12_isVelocity_26 (by decide) ?_
      refine lv_goto (tgt := 31) hx hb dX12_isVelocity_27 (by decide) ?_
      exact W.zret (v := 1) hx hb hr rfl (fun t ht hW => ⟨1, rfl, (.inr rfl), ht⟩) (fun _ h => absurd h List.not_mem_nil) dX12_isVelocity_31
set_option maxHeartbeats 4000000 in
set_option maxRecDepth 100000 in
theorem n_isBlock (l : Launch) (D : va_G) (cI cJ cZ : ClassId) (ad : Nat → Nat) (S : MS) (a b : Int32) (h20 : S.1 20 = 0) (hp : ∀ k, S.2.1 10 k = 0) : mCi l yX12_isBlock (Cond.code yX12_isBlock cX12_isBlock 3 (some .boolean) :: wsM) 3 43 D cI cJ cZ ad S [.int a, .int b] (fun r S1 => r = 0 ∧ S1 = S) := by
  intro sz
  refine Met.ofW (cc := cX12_isBlock) (maxL := 3) (ret := (some .boolean)) (by decide) rfl ?_
  intro p e s m args below meth c s₁ B hml hv
  obtain ⟨rfl, hsz, hP, hK, hD0, hR⟩ := hv
  have hx := B.exec
  have hb := B.bytes
  have hr := B.returns
  have hts := atoms_spec (ws := (Cond.code yX12_isBlock cX12_isBlock 3 (some .boolean) :: wsM)) B.pre
  have hown : s.vm.findClass RX12 = some m.cls := findClass_of_methodNamed B.named
  have hlocks := B.notSynchronized
  subst hsz
  have hD := hD0.self (sz := s.heap.size)
  generalize hAe : va_A (MW cI cJ cZ ad S) s.heap.size = A at hD ⊢
  have hA : ∀ q : Nat, s.heap.size ≤ q → A q := fun q h => by rw [← hAe]; exact Or.inr h
  have G : mG D cI cJ cZ ad A s.heap s.heap [] S := ⟨hP, hD, va_S.rf⟩
  have E : mE p c cX12_isBlock s m ([.ref (ad 0), .int a, .int b] : List Value).toArray (Cond.code yX12_isBlock cX12_isBlock 3 (some .boolean) :: wsM) D cI cJ cZ := ⟨hx, hb, hts, hown, hK, fun w h => .tail _ (iM_x h)⟩
  have hl := lv_entry ([.ref (ad 0), .int a, .int b]) (n := 3) (Nat.le_of_ble_eq_true rfl)
  rw [lg_entry_eq]
  generalize (lg_sl ([.ref (ad 0), .int a, .int b]) ++ List.replicate (3 - (lg_sl ([.ref (ad 0), .int a, .int b])).length) Slot.unset).toArray = ls at hl ⊢
  have hl : lv_has ls 3 [(0, .ref (ad 0)), (1, .int a), (2, .int b)] := hl
  have hh : True := trivial
  refine lv_aload_n hx hb dX12_isBlock_0 rfl (lv_at hl 0 rfl) ?_
  refine lv_iload_n hx hb dX12_isBlock_1 rfl (lv_at hl 1 rfl) ?_
  refine m_calli (As := [.int a]) (rest := []) E G hA hR hml (n_isTime l D cI cJ cZ ad S a h20 hp) (cwV 1 hts (gmV qM_334 qM_335 qM_336 qM_35 qM_309) rfl rfl rfl (by decide +kernel) ⟨Nat.le_of_ble_eq_true rfl, Nat.le_of_ble_eq_true rfl⟩) rfl hl.1 rfl (lv_room (Nat.le_of_ble_eq_true rfl)) dX12_isBlock_2 ⟨Nat.zero_le _, Nat.zero_le _⟩ (fun r1 S2 H locs hq G => ?_)
  obtain ⟨hq1, hq2⟩ := hq
  rw [hq2] at G
  refine lv_to (y := 0) hq1 ?_
  refine lv_if_eq (tgt := 26) hx hb dX12_isBlock_5 (by decide) (fun c3 => ?_) (fun c3 => absurd (by decide +kernel) c3)
  refine lv_iconst (v := 0) hx hb dX12_isBlock_26 (by decide) ?_
  exact W.zret (v := 0) hx hb hr rfl (fun t ht hW => ⟨⟨0, S, rfl, ⟨rfl, rfl⟩, ⟨by rw [ht]; exact G.1, va_K.moved hW.alike hK, G.2.1⟩⟩, G.2.2.F ht⟩) G.2.2.2.2 dX12_isBlock_27
set_option maxHeartbeats 4000000 in
set_option maxRecDepth 100000 in
theorem n_micAt (l : Launch) (D : va_G) (cI cJ cZ : ClassId) (ad : Nat → Nat) (S : MS) (x y : Int32) (h20 : S.1 20 = 0) (hp : ∀ k, S.2.1 10 k = 0) : mCi l yX12_micAt (Cond.code yX12_micAt cX12_micAt 3 (some .int) :: wsM) 3 43 D cI cJ cZ ad S [.int x, .int y] (fun r S1 => r = 0 ∧ S1 = mi S 0 1) := by
  intro sz
  refine Met.ofW (cc := cX12_micAt) (maxL := 3) (ret := (some .int)) (by decide) rfl ?_
  intro p e s m args below meth c s₁ B hml hv
  obtain ⟨rfl, hsz, hP, hK, hD0, hR⟩ := hv
  have hx := B.exec
  have hb := B.bytes
  have hr := B.returns
  have hts := atoms_spec (ws := (Cond.code yX12_micAt cX12_micAt 3 (some .int) :: wsM)) B.pre
  have hown : s.vm.findClass RX12 = some m.cls := findClass_of_methodNamed B.named
  have hlocks := B.notSynchronized
  subst hsz
  have hD := hD0.self (sz := s.heap.size)
  generalize hAe : va_A (MW cI cJ cZ ad S) s.heap.size = A at hD ⊢
  have hA : ∀ q : Nat, s.heap.size ≤ q → A q := fun q h => by rw [← hAe]; exact Or.inr h
  have G : mG D cI cJ cZ ad A s.heap s.heap [] S := ⟨hP, hD, va_S.rf⟩
  have E : mE p c cX12_micAt s m ([.ref (ad 0), .int x, .int y] : List Value).toArray (Cond.code yX12_micAt cX12_micAt 3 (some .int) :: wsM) D cI cJ cZ := ⟨hx, hb, hts, hown, hK, fun w h => .tail _ (iM_x h)⟩
  have hl := lv_entry ([.ref (ad 0), .int x, .int y]) (n := 3) (Nat.le_of_ble_eq_true rfl)
  rw [lg_entry_eq]
  generalize (lg_sl ([.ref (ad 0), .int x, .int y]) ++ List.replicate (3 - (lg_sl ([.ref (ad 0), .int x, .int y])).length) Slot.unset).toArray = ls at hl ⊢
  have hl : lv_has ls 3 [(0, .ref (ad 0)), (1, .int x), (2, .int y)] := hl
  have hh : True := trivial
  refine lv_aload_n hx hb dX12_micAt_0 rfl (lv_at hl 0 rfl) ?_
  refine lv_aload_n hx hb dX12_micAt_1 rfl (lv_at hl 0 rfl) ?_
  refine lv_iload_n hx hb dX12_micAt_2 rfl (lv_at hl 1 rfl) ?_
  refine m_calli (As := [.int x]) (rest := [.ref (ad 0)]) E G hA hR hml (n_isMic l D cI cJ cZ ad S x h20 hp) (cwV 1 hts (gmV qM_316 qM_317 qM_318 qM_35 qM_306) rfl rfl rfl (by decide +kernel) ⟨Nat.le_of_ble_eq_true rfl, Nat.le_of_ble_eq_true rfl⟩) rfl hl.1 rfl (lv_room (Nat.le_of_ble_eq_true rfl)) dX12_micAt_3 ⟨Nat.zero_le _, Nat.zero_le _⟩ (fun r1 S2 H locs hq G => ?_)
  obtain ⟨hq1, hq2⟩ := hq
  rw [hq2] at G
  refine lv_to (y := 0) hq1 ?_
  refine m_calli (As := [.int 0]) (rest := []) E G hA hR hml (n_mayAsk l D cI cJ cZ ad S 0 h20) (cwV 1 hts (gmV qM_319 qM_320 qM_321 qM_35 qM_304) rfl rfl rfl (by decide +kernel) ⟨Nat.le_of_ble_eq_true rfl, Nat.le_of_ble_eq_true rfl⟩) rfl hl.1 rfl (lv_room (Nat.le_of_ble_eq_true rfl)) dX12_micAt_6 ⟨Nat.zero_le _, Nat.zero_le _⟩ (fun r3 S4 H locs hq G => ?_)
  obtain ⟨hq1, hq2⟩ := hq
  rw [hq2] at G
  refine lv_to (y := 0) hq1 ?_
  refine lv_if_ne (tgt := 14) hx hb dX12_micAt_9 (by decide) (fun c5 => absurd (by decide +kernel) c5) (fun c5 => ?_)
  refine lv_iconst (v := 0) hx hb dX12_micAt_12 (by decide) ?_
  exact W.iret (v := 0) hx hb hr (fun t ht hW => ⟨⟨0, (mi S 0 1), rfl, ⟨rfl, rfl⟩, ⟨by rw [ht]; exact G.1, va_K.moved hW.alike hK, G.2.1⟩⟩, G.2.2.F ht⟩) G.2.2.2.2 dX12_micAt_13
set_option maxHeartbeats 4000000 in
set_option maxRecDepth 100000 in
theorem n_isMuted (l : Launch) (D : va_G) (cI cJ cZ : ClassId) (ad : Nat → Nat) (S : MS) (x : Int32) (h20 : S.1 20 = 0) (hp : ∀ k, S.2.1 10 k = 0) : mCi l yX12_isMuted (Cond.code yX12_isMuted cX12_isMuted 2 (some .boolean) :: wsM) 3 43 D cI cJ cZ ad S [.int x] (fun r S1 => r = 0 ∧ S1 = mi S 0 1) := by
  intro sz
  refine Met.ofW (cc := cX12_isMuted) (maxL := 2) (ret := (some .boolean)) (by decide) rfl ?_
  intro p e s m args below meth c s₁ B hml hv
  obtain ⟨rfl, hsz, hP, hK, hD0, hR⟩ := hv
  have hx := B.exec
  have hb := B.bytes
  have hr := B.returns
  have hts := atoms_spec (ws := (Cond.code yX12_isMuted cX12_isMuted 2 (some .boolean) :: wsM)) B.pre
  have hown : s.vm.findClass RX12 = some m.cls := findClass_of_methodNamed B.named
  have hlocks := B.notSynchronized
  subst hsz
  have hD := hD0.self (sz := s.heap.size)
  generalize hAe : va_A (MW cI cJ cZ ad S) s.heap.size = A at hD ⊢
  have hA : ∀ q : Nat, s.heap.size ≤ q → A q := fun q h => by rw [← hAe]; exact Or.inr h
  have G : mG D cI cJ cZ ad A s.heap s.heap [] S := ⟨hP, hD, va_S.rf⟩
  have E : mE p c cX12_isMuted s m ([.ref (ad 0), .int x] : List Value).toArray (Cond.code yX12_isMuted cX12_isMuted 2 (some .boolean) :: wsM) D cI cJ cZ := ⟨hx, hb, hts, hown, hK, fun w h => .tail _ (iM_x h)⟩
  have hl := lv_entry ([.ref (ad 0), .int x]) (n := 2) (Nat.le_of_ble_eq_true rfl)
  rw [lg_entry_eq]
  generalize (lg_sl ([.ref (ad 0), .int x]) ++ List.replicate (2 - (lg_sl ([.ref (ad 0), .int x])).length) Slot.unset).toArray = ls at hl ⊢
  have hl : lv_has ls 2 [(0, .ref (ad 0)), (1, .int x)] := hl
  have hh : True := trivial
  refine lv_aload_n hx hb dX12_isMuted_0 rfl (lv_at hl 0 rfl) ?_
  refine lv_aload_n hx hb dX12_isMuted_1 rfl (lv_at hl 0 rfl) ?_
  refine lv_iload_n hx hb dX12_isMuted_2 rfl (lv_at hl 1 rfl) ?_
  refine m_calli (As := [.int x]) (rest := [.ref (ad 0)]) E G hA hR hml (n_isMic l D cI cJ cZ ad S x h20 hp) (cwV 1 hts (gmV qM_316 qM_317 qM_318 qM_35 qM_306) rfl rfl rfl (by decide +kernel) ⟨Nat.le_of_ble_eq_true rfl, Nat.le_of_ble_eq_true rfl⟩) rfl hl.1 rfl (lv_room (Nat.le_of_ble_eq_true rfl)) dX12_isMuted_3 ⟨Nat.zero_le _, Nat.zero_le _⟩ (fun r1 S2 H locs hq G => ?_)
  obtain ⟨hq1, hq2⟩ := hq
  rw [hq2] at G
  refine lv_to (y := 0) hq1 ?_
  refine m_calli (As := [.int 0]) (rest := []) E G hA hR hml (n_mayAsk l D cI cJ cZ ad S 0 h20) (cwV 1 hts (gmV qM_319 qM_320 qM_321 qM_35 qM_304) rfl rfl rfl (by decide +kernel) ⟨Nat.le_of_ble_eq_true rfl, Nat.le_of_ble_eq_true rfl⟩) rfl hl.1 rfl (lv_room (Nat.le_of_ble_eq_true rfl)) dX12_isMuted_6 ⟨Nat.zero_le _, Nat.zero_le _⟩ (fun r3 S4 H locs hq G => ?_)
  obtain ⟨hq1, hq2⟩ := hq
  rw [hq2] at G
  refine lv_to (y := 0) hq1 ?_
  refine lv_if_eq (tgt := 28) hx hb dX12_isMuted_9 (by decide) (fun c5 => ?_) (fun c5 => absurd (by decide +kernel) c5)
  refine lv_iconst (v := 0) hx hb dX12_isMuted_28 (by decide) ?_
  exact W.zret (v := 0) hx hb hr rfl (fun t ht hW => ⟨⟨0, (mi S 0 1), rfl, ⟨rfl, rfl⟩, ⟨by rw [ht]; exact G.1, va_K.moved hW.alike hK, G.2.1⟩⟩, G.2.2.F ht⟩) G.2.2.2.2 dX12_isMuted_29
set_option maxHeartbeats 4000000 in
set_option maxRecDepth 100000 in
theorem n_cellAt (l : Launch) (D : va_G) (cI cJ cZ : ClassId) (ad : Nat → Nat) (S : MS) (x y : Int32) (h20 : S.1 20 = 0) (hp : ∀ k, S.2.1 10 k = 0) : mCi l yX12_cellAt (Cond.code yX12_cellAt cX12_cellAt 3 (some .int) :: wsM) 3 43 D cI cJ cZ ad S [.int x, .int y] (fun r S1 => r = 0 ∧ S1 = mi S 0 1) := by
  intro sz
  refine Met.ofW (cc := cX12_cellAt) (maxL := 3) (ret := (some .int)) (by decide) rfl ?_
  intro p e s m args below meth c s₁ B hml hv
  obtain ⟨rfl, hsz, hP, hK, hD0, hR⟩ := hv
  have hx := B.exec
  have hb := B.bytes
  have hr := B.returns
  have hts := atoms_spec (ws := (Cond.code yX12_cellAt cX12_cellAt 3 (some .int) :: wsM)) B.pre
  have hown : s.vm.findClass RX12 = some m.cls := findClass_of_methodNamed B.named
  have hlocks := B.notSynchronized
  subst hsz
  have hD := hD0.self (sz := s.heap.size)
  generalize hAe : va_A (MW cI cJ cZ ad S) s.heap.size = A at hD ⊢
  have hA : ∀ q : Nat, s.heap.size ≤ q → A q := fun q h => by rw [← hAe]; exact Or.inr h
  have G : mG D cI cJ cZ ad A s.heap s.heap [] S := ⟨hP, hD, va_S.rf⟩
  have E : mE p c cX12_cellAt s m ([.ref (ad 0), .int x, .int y] : List Value).toArray (Cond.code yX12_cellAt cX12_cellAt 3 (some .int) :: wsM) D cI cJ cZ := ⟨hx, hb, hts, hown, hK, fun w h => .tail _ (iM_x h)⟩
  have hl := lv_entry ([.ref (ad 0), .int x, .int y]) (n := 3) (Nat.le_of_ble_eq_true rfl)
  rw [lg_entry_eq]
  generalize (lg_sl ([.ref (ad 0), .int x, .int y]) ++ List.replicate (3 - (lg_sl ([.ref (ad 0), .int x, .int y])).length) Slot.unset).toArray = ls at hl ⊢
  have hl : lv_has ls 3 [(0, .ref (ad 0)), (1, .int x), (2, .int y)] := hl
  have hh : True := trivial
  refine lv_aload_n hx hb dX12_cellAt_0 rfl (lv_at hl 0 rfl) ?_
  refine lv_aload_n hx hb dX12_cellAt_1 rfl (lv_at hl 0 rfl) ?_
  refine lv_iload_n hx hb dX12_cellAt_2 rfl (lv_at hl 1 rfl) ?_
  refine m_calli (As := [.int x]) (rest := [.ref (ad 0)]) E G hA hR hml (n_isCell l D cI cJ cZ ad S x h20 hp) (cwV 1 hts (gmV qM_326 qM_327 qM_328 qM_35 qM_307) rfl rfl rfl (by decide +kernel) ⟨Nat.le_of_ble_eq_true rfl, Nat.le_of_ble_eq_true rfl⟩) rfl hl.1 rfl (lv_room (Nat.le_of_ble_eq_true rfl)) dX12_cellAt_3 ⟨Nat.zero_le _, Nat.zero_le _⟩ (fun r1 S2 H locs hq G => ?_)
  obtain ⟨hq1, hq2⟩ := hq
  rw [hq2] at G
  refine lv_to (y := 0) hq1 ?_
  refine m_calli (As := [.int 0]) (rest := []) E G hA hR hml (n_mayAsk l D cI cJ cZ ad S 0 h20) (cwV 1 hts (gmV qM_319 qM_320 qM_321 qM_35 qM_304) rfl rfl rfl (by decide +kernel) ⟨Nat.le_of_ble_eq_true rfl, Nat.le_of_ble_eq_true rfl⟩) rfl hl.1 rfl (lv_room (Nat.le_of_ble_eq_true rfl)) dX12_cellAt_6 ⟨Nat.zero_le _, Nat.zero_le _⟩ (fun r3 S4 H locs hq G => ?_)
  obtain ⟨hq1, hq2⟩ := hq
  rw [hq2] at G
  refine lv_to (y := 0) hq1 ?_
  refine lv_if_ne (tgt := 14) hx hb dX12_cellAt_9 (by decide) (fun c5 => absurd (by decide +kernel) c5) (fun c5 => ?_)
  refine lv_iconst (v := 0) hx hb dX12_cellAt_12 (by decide) ?_
  exact W.iret (v := 0) hx hb hr (fun t ht hW => ⟨⟨0, (mi S 0 1), rfl, ⟨rfl, rfl⟩, ⟨by rw [ht]; exact G.1, va_K.moved hW.alike hK, G.2.1⟩⟩, G.2.2.F ht⟩) G.2.2.2.2 dX12_cellAt_13
set_option maxHeartbeats 4000000 in
set_option maxRecDepth 100000 in
theorem n_sourceAt (l : Launch) (D : va_G) (cI cJ cZ : ClassId) (ad : Nat → Nat) (S : MS) (x y z : Int32) (h20 : S.1 20 = 0) (hp : ∀ k, S.2.1 10 k = 0) : mCi l yX12_sourceAt (Cond.code yX12_sourceAt cX12_sourceAt 4 (some .int) :: wsM) 3 43 D cI cJ cZ ad S [.int x, .int y, .int z] (fun r S1 => r = 0 ∧ S1 = mi S 0 1) := by
  intro sz
  refine Met.ofW (cc := cX12_sourceAt) (maxL := 4) (ret := (some .int)) (by decide) rfl ?_
  intro p e s m args below meth c s₁ B hml hv
  obtain ⟨rfl, hsz, hP, hK, hD0, hR⟩ := hv
  have hx := B.exec
  have hb := B.bytes
  have hr := B.returns
  have hts := atoms_spec (ws := (Cond.code yX12_sourceAt cX12_sourceAt 4 (some .int) :: wsM)) B.pre
  have hown : s.vm.findClass RX12 = some m.cls := findClass_of_methodNamed B.named
  have hlocks := B.notSynchronized
  subst hsz
  have hD := hD0.self (sz := s.heap.size)
  generalize hAe : va_A (MW cI cJ cZ ad S) s.heap.size = A at hD ⊢
  have hA : ∀ q : Nat, s.heap.size ≤ q → A q := fun q h => by rw [← hAe]; exact Or.inr h
  have G : mG D cI cJ cZ ad A s.heap s.heap [] S := ⟨hP, hD, va_S.rf⟩
  have E : mE p c cX12_sourceAt s m ([.ref (ad 0), .int x, .int y, .int z] : List Value).toArray (Cond.code yX12_sourceAt cX12_sourceAt 4 (some .int) :: wsM) D cI cJ cZ := ⟨hx, hb, hts, hown, hK, fun w h => .tail _ (iM_x h)⟩
  have hl := lv_entry ([.ref (ad 0), .int x, .int y, .int z]) (n := 4) (Nat.le_of_ble_eq_true rfl)
  rw [lg_entry_eq]
  generalize (lg_sl ([.ref (ad 0), .int x, .int y, .int z]) ++ List.replicate (4 - (lg_sl ([.ref (ad 0), .int x, .int y, .int z])).length) Slot.unset).toArray = ls at hl ⊢
  have hl : lv_has ls 4 [(0, .ref (ad 0)), (1, .int x), (2, .int y), (3, .int z)] := hl
  have hh : True := trivial
  refine lv_aload_n hx hb dX12_sourceAt_0 rfl (lv_at hl 0 rfl) ?_
  refine lv_aload_n hx hb dX12_sourceAt_1 rfl (lv_at hl 0 rfl) ?_
  refine lv_iload_n hx hb dX12_sourceAt_2 rfl (lv_at hl 1 rfl) ?_
  refine m_calli (As := [.int x]) (rest := [.ref (ad 0)]) E G hA hR hml (n_isSource l D cI cJ cZ ad S x h20 hp) (cwV 1 hts (gmV qM_331 qM_332 qM_333 qM_35 qM_308) rfl rfl rfl (by decide +kernel) ⟨Nat.le_of_ble_eq_true rfl, Nat.le_of_ble_eq_true rfl⟩) rfl hl.1 rfl (lv_room (Nat.le_of_ble_eq_true rfl)) dX12_sourceAt_3 ⟨Nat.zero_le _, Nat.zero_le _⟩ (fun r1 S2 H locs hq G => ?_)
  obtain ⟨hq1, hq2⟩ := hq
  rw [hq2] at G
  refine lv_to (y := 0) hq1 ?_
  refine m_calli (As := [.int 0]) (rest := []) E G hA hR hml (n_mayAsk l D cI cJ cZ ad S 0 h20) (cwV 1 hts (gmV qM_319 qM_320 qM_321 qM_35 qM_304) rfl rfl rfl (by decide +kernel) ⟨Nat.le_of_ble_eq_true rfl, Nat.le_of_ble_eq_true rfl⟩) rfl hl.1 rfl (lv_room (Nat.le_of_ble_eq_true rfl)) dX12_sourceAt_6 ⟨Nat.zero_le _, Nat.zero_le _⟩ (fun r3 S4 H locs hq G => ?_)
  obtain ⟨hq1, hq2⟩ := hq
  rw [hq2] at G
  refine lv_to (y := 0) hq1 ?_
  refine lv_if_ne (tgt := 14) hx hb dX12_sourceAt_9 (by decide) (fun c5 => absurd (by decide +kernel) c5) (fun c5 => ?_)
  refine lv_iconst (v := 0) hx hb dX12_sourceAt_12 (by decide) ?_
  exact W.iret (v := 0) hx hb hr (fun t ht hW => ⟨⟨0, (mi S 0 1), rfl, ⟨rfl, rfl⟩, ⟨by rw [ht]; exact G.1, va_K.moved hW.alike hK, G.2.1⟩⟩, G.2.2.F ht⟩) G.2.2.2.2 dX12_sourceAt_13
set_option maxHeartbeats 4000000 in
set_option maxRecDepth 100000 in
theorem n_isOn (l : Launch) (D : va_G) (cI cJ cZ : ClassId) (ad : Nat → Nat) (S : MS) (x : Int32) (h20 : S.1 20 = 0) (hp : ∀ k, S.2.1 10 k = 0) : mCi l yX12_isOn (Cond.code yX12_isOn cX12_isOn 2 (some .boolean) :: wsM) 3 43 D cI cJ cZ ad S [.int x] (fun r S1 => r = 0 ∧ S1 = mi S 0 1) := by
  intro sz
  refine Met.ofW (cc := cX12_isOn) (maxL := 2) (ret := (some .boolean)) (by decide) rfl ?_
  intro p e s m args below meth c s₁ B hml hv
  obtain ⟨rfl, hsz, hP, hK, hD0, hR⟩ := hv
  have hx := B.exec
  have hb := B.bytes
  have hr := B.returns
  have hts := atoms_spec (ws := (Cond.code yX12_isOn cX12_isOn 2 (some .boolean) :: wsM)) B.pre
  have hown : s.vm.findClass RX12 = some m.cls := findClass_of_methodNamed B.named
  have hlocks := B.notSynchronized
  subst hsz
  have hD := hD0.self (sz := s.heap.size)
  generalize hAe : va_A (MW cI cJ cZ ad S) s.heap.size = A at hD ⊢
  have hA : ∀ q : Nat, s.heap.size ≤ q → A q := fun q h => by rw [← hAe]; exact Or.inr h
  have G : mG D cI cJ cZ ad A s.heap s.heap [] S := ⟨hP, hD, va_S.rf⟩
  have E : mE p c cX12_isOn s m ([.ref (ad 0), .int x] : List Value).toArray (Cond.code yX12_isOn cX12_isOn 2 (some .boolean) :: wsM) D cI cJ cZ := ⟨hx, hb, hts, hown, hK, fun w h => .tail _ (iM_x h)⟩
  have hl := lv_entry ([.ref (ad 0), .int x]) (n := 2) (Nat.le_of_ble_eq_true rfl)
  rw [lg_entry_eq]
  generalize (lg_sl ([.ref (ad 0), .int x]) ++ List.replicate (2 - (lg_sl ([.ref (ad 0), .int x])).length) Slot.unset).toArray = ls at hl ⊢
  have hl : lv_has ls 2 [(0, .ref (ad 0)), (1, .int x)] := hl
  have hh : True := trivial
  refine lv_aload_n hx hb dX12_isOn_0 rfl (lv_at hl 0 rfl) ?_
  refine lv_aload_n hx hb dX12_isOn_1 rfl (lv_at hl 0 rfl) ?_
  refine lv_iload_n hx hb dX12_isOn_2 rfl (lv_at hl 1 rfl) ?_
  refine m_calli (As := [.int x]) (rest := [.ref (ad 0)]) E G hA hR hml (n_isSource l D cI cJ cZ ad S x h20 hp) (cwV 1 hts (gmV qM_331 qM_332 qM_333 qM_35 qM_308) rfl rfl rfl (by decide +kernel) ⟨Nat.le_of_ble_eq_true rfl, Nat.le_of_ble_eq_true rfl⟩) rfl hl.1 rfl (lv_room (Nat.le_of_ble_eq_true rfl)) dX12_isOn_3 ⟨Nat.zero_le _, Nat.zero_le _⟩ (fun r1 S2 H locs hq G => ?_)
  obtain ⟨hq1, hq2⟩ := hq
  rw [hq2] at G
  refine lv_to (y := 0) hq1 ?_
  refine m_calli (As := [.int 0]) (rest := []) E G hA hR hml (n_mayAsk l D cI cJ cZ ad S 0 h20) (cwV 1 hts (gmV qM_319 qM_320 qM_321 qM_35 qM_304) rfl rfl rfl (by decide +kernel) ⟨Nat.le_of_ble_eq_true rfl, Nat.le_of_ble_eq_true rfl⟩) rfl hl.1 rfl (lv_room (Nat.le_of_ble_eq_true rfl)) dX12_isOn_6 ⟨Nat.zero_le _, Nat.zero_le _⟩ (fun r3 S4 H locs hq G => ?_)
  obtain ⟨hq1, hq2⟩ := hq
  rw [hq2] at G
  refine lv_to (y := 0) hq1 ?_
  refine lv_if_eq (tgt := 29) hx hb dX12_isOn_9 (by decide) (fun c5 => ?_) (fun c5 => absurd (by decide +kernel) c5)
  refine lv_iconst (v := 0) hx hb dX12_isOn_29 (by decide) ?_
  exact W.zret (v := 0) hx hb hr rfl (fun t ht hW => ⟨⟨0, (mi S 0 1), rfl, ⟨rfl, rfl⟩, ⟨by rw [ht]; exact G.1, va_K.moved hW.alike hK, G.2.1⟩⟩, G.2.2.F ht⟩) G.2.2.2.2 dX12_isOn_30
set_option maxHeartbeats 4000000 in
set_option maxRecDepth 100000 in
theorem n_waveAt (l : Launch) (D : va_G) (cI cJ cZ : ClassId) (ad : Nat → Nat) (S : MS) (x y : Int32) (h20 : S.1 20 = 0) (hp : ∀ k, S.2.1 10 k = 0) : mCi l yX12_waveAt (Cond.code yX12_waveAt cX12_waveAt 3 (some .int) :: wsM) 3 43 D cI cJ cZ ad S [.int x, .int y] (fun r S1 => r = 0 ∧ S1 = mi S 0 1) := by
  intro sz
  refine Met.ofW (cc := cX12_waveAt) (maxL := 3) (ret := (some .int)) (by decide) rfl ?_
  intro p e s m args below meth c s₁ B hml hv
  obtain ⟨rfl, hsz, hP, hK, hD0, hR⟩ := hv
  have hx := B.exec
  have hb := B.bytes
  have hr := B.returns
  have hts := atoms_spec (ws := (Cond.code yX12_waveAt cX12_waveAt 3 (some .int) :: wsM)) B.pre
  have hown : s.vm.findClass RX12 = some m.cls := findClass_of_methodNamed B.named
  have hlocks := B.notSynchronized
  subst hsz
  have hD := hD0.self (sz := s.heap.size)
  generalize hAe : va_A (MW cI cJ cZ ad S) s.heap.size = A at hD ⊢
  have hA : ∀ q : Nat, s.heap.size ≤ q → A q := fun q h => by rw [← hAe]; exact Or.inr h
  have G : mG D cI cJ cZ ad A s.heap s.heap [] S := ⟨hP, hD, va_S.rf⟩
  have E : mE p c cX12_waveAt s m ([.ref (ad 0), .int x, .int y] : List Value).toArray (Cond.code yX12_waveAt cX12_waveAt 3 (some .int) :: wsM) D cI cJ cZ := ⟨hx, hb, hts, hown, hK, fun w h => .tail _ (iM_x h)⟩
  have hl := lv_entry ([.ref (ad 0), .int x, .int y]) (n := 3) (Nat.le_of_ble_eq_true rfl)
  rw [lg_entry_eq]
  generalize (lg_sl ([.ref (ad 0), .int x, .int y]) ++ List.replicate (3 - (lg_sl ([.ref (ad 0), .int x, .int y])).length) Slot.unset).toArray = ls at hl ⊢
  have hl : lv_has ls 3 [(0, .ref (ad 0)), (1, .int x), (2, .int y)] := hl
  have hh : True := trivial
  refine lv_aload_n hx hb dX12_waveAt_0 rfl (lv_at hl 0 rfl) ?_
  refine lv_aload_n hx hb dX12_waveAt_1 rfl (lv_at hl 0 rfl) ?_
  refine lv_iload_n hx hb dX12_waveAt_2 rfl (lv_at hl 1 rfl) ?_
  refine m_calli (As := [.int x]) (rest := [.ref (ad 0)]) E G hA hR hml (n_isSource l D cI cJ cZ ad S x h20 hp) (cwV 1 hts (gmV qM_331 qM_332 qM_333 qM_35 qM_308) rfl rfl rfl (by decide +kernel) ⟨Nat.le_of_ble_eq_true rfl, Nat.le_of_ble_eq_true rfl⟩) rfl hl.1 rfl (lv_room (Nat.le_of_ble_eq_true rfl)) dX12_waveAt_3 ⟨Nat.zero_le _, Nat.zero_le _⟩ (fun r1 S2 H locs hq G => ?_)
  obtain ⟨hq1, hq2⟩ := hq
  rw [hq2] at G
  refine lv_to (y := 0) hq1 ?_
  refine m_calli (As := [.int 0]) (rest := []) E G hA hR hml (n_mayAsk l D cI cJ cZ ad S 0 h20) (cwV 1 hts (gmV qM_319 qM_320 qM_321 qM_35 qM_304) rfl rfl rfl (by decide +kernel) ⟨Nat.le_of_ble_eq_true rfl, Nat.le_of_ble_eq_true rfl⟩) rfl hl.1 rfl (lv_room (Nat.le_of_ble_eq_true rfl)) dX12_waveAt_6 ⟨Nat.zero_le _, Nat.zero_le _⟩ (fun r3 S4 H locs hq G => ?_)
  obtain ⟨hq1, hq2⟩ := hq
  rw [hq2] at G
  refine lv_to (y := 0) hq1 ?_
  refine lv_if_ne (tgt := 14) hx hb dX12_waveAt_9 (by decide) (fun c5 => absurd (by decide +kernel) c5) (fun c5 => ?_)
  refine lv_iconst (v := 0) hx hb dX12_waveAt_12 (by decide) ?_
  exact W.iret (v := 0) hx hb hr (fun t ht hW => ⟨⟨0, (mi S 0 1), rfl, ⟨rfl, rfl⟩, ⟨by rw [ht]; exact G.1, va_K.moved hW.alike hK, G.2.1⟩⟩, G.2.2.F ht⟩) G.2.2.2.2 dX12_waveAt_13
set_option maxHeartbeats 4000000 in
set_option maxRecDepth 100000 in
theorem n_delay (l : Launch) (D : va_G) (cI cJ cZ : ClassId) (ad : Nat → Nat) (S : MS) (x y : Int32) (h20 : S.1 20 = 0) (hp : ∀ k, S.2.1 10 k = 0) : mCi l yX12_delay (Cond.code yX12_delay cX12_delay 3 (some .int) :: wsM) 3 43 D cI cJ cZ ad S [.int x, .int y] (fun r S1 => r = 0 ∧ S1 = mi S 0 1) := by
  intro sz
  refine Met.ofW (cc := cX12_delay) (maxL := 3) (ret := (some .int)) (by decide) rfl ?_
  intro p e s m args below meth c s₁ B hml hv
  obtain ⟨rfl, hsz, hP, hK, hD0, hR⟩ := hv
  have hx := B.exec
  have hb := B.bytes
  have hr := B.returns
  have hts := atoms_spec (ws := (Cond.code yX12_delay cX12_delay 3 (some .int) :: wsM)) B.pre
  have hown : s.vm.findClass RX12 = some m.cls := findClass_of_methodNamed B.named
  have hlocks := B.notSynchronized
  subst hsz
  have hD := hD0.self (sz := s.heap.size)
  generalize hAe : va_A (MW cI cJ cZ ad S) s.heap.size = A at hD ⊢
  have hA : ∀ q : Nat, s.heap.size ≤ q → A q := fun q h => by rw [← hAe]; exact Or.inr h
  have G : mG D cI cJ cZ ad A s.heap s.heap [] S := ⟨hP, hD, va_S.rf⟩
  have E : mE p c cX12_delay s m ([.ref (ad 0), .int x, .int y] : List Value).toArray (Cond.code yX12_delay cX12_delay 3 (some .int) :: wsM) D cI cJ cZ := ⟨hx, hb, hts, hown, hK, fun w h => .tail _ (iM_x h)⟩
  have hl := lv_entry ([.ref (ad 0), .int x, .int y]) (n := 3) (Nat.le_of_ble_eq_true rfl)
  rw [lg_entry_eq]
  generalize (lg_sl ([.ref (ad 0), .int x, .int y]) ++ List.replicate (3 - (lg_sl ([.ref (ad 0), .int x, .int y])).length) Slot.unset).toArray = ls at hl ⊢
  have hl : lv_has ls 3 [(0, .ref (ad 0)), (1, .int x), (2, .int y)] := hl
  have hh : True := trivial
  refine lv_aload_n hx hb dX12_delay_0 rfl (lv_at hl 0 rfl) ?_
  refine lv_aload_n hx hb dX12_delay_1 rfl (lv_at hl 0 rfl) ?_
  refine lv_iload_n hx hb dX12_delay_2 rfl (lv_at hl 1 rfl) ?_
  refine m_calli (As := [.int x]) (rest := [.ref (ad 0)]) E G hA hR hml (n_isMic l D cI cJ cZ ad S x h20 hp) (cwV 1 hts (gmV qM_316 qM_317 qM_318 qM_35 qM_306) rfl rfl rfl (by decide +kernel) ⟨Nat.le_of_ble_eq_true rfl, Nat.le_of_ble_eq_true rfl⟩) rfl hl.1 rfl (lv_room (Nat.le_of_ble_eq_true rfl)) dX12_delay_3 ⟨Nat.zero_le _, Nat.zero_le _⟩ (fun r1 S2 H locs hq G => ?_)
  obtain ⟨hq1, hq2⟩ := hq
  rw [hq2] at G
  refine lv_to (y := 0) hq1 ?_
  refine lv_if_eq (tgt := 21) hx hb dX12_delay_6 (by decide) (fun c3 => ?_) (fun c3 => absurd (by decide +kernel) c3)
  refine lv_iconst (v := 0) hx hb dX12_delay_21 (by decide) ?_
  refine m_calli (As := [.int 0]) (rest := []) E G hA hR hml (n_mayAsk l D cI cJ cZ ad S 0 h20) (cwV 1 hts (gmV qM_319 qM_320 qM_321 qM_35 qM_304) rfl rfl rfl (by decide +kernel) ⟨Nat.le_of_ble_eq_true rfl, Nat.le_of_ble_eq_true rfl⟩) rfl hl.1 rfl (lv_room (Nat.le_of_ble_eq_true rfl)) dX12_delay_22 ⟨Nat.zero_le _, Nat.zero_le _⟩ (fun r4 S5 H locs hq G => ?_)
  obtain ⟨hq1, hq2⟩ := hq
  rw [hq2] at G
  refine lv_to (y := 0) hq1 ?_
  refine lv_if_eq (tgt := 42) hx hb dX12_delay_25 (by decide) (fun c6 => ?_) (fun c6 => absurd (by decide +kernel) c6)
  refine lv_iconst (v := 0) hx hb dX12_delay_42 (by decide) ?_
  exact W.iret (v := 0) hx hb hr (fun t ht hW => ⟨⟨0, (mi S 0 1), rfl, ⟨rfl, rfl⟩, ⟨by rw [ht]; exact G.1, va_K.moved hW.alike hK, G.2.1⟩⟩, G.2.2.F ht⟩) G.2.2.2.2 dX12_delay_43
set_option maxHeartbeats 4000000 in
set_option maxRecDepth 100000 in
theorem n_delayTo (l : Launch) (D : va_G) (cI cJ cZ : ClassId) (ad : Nat → Nat) (S : MS) (x y z : Int32) (h20 : S.1 20 = 0) (hp : ∀ k, S.2.1 10 k = 0) : mCi l yX12_delayTo (Cond.code yX12_delayTo cX12_delayTo 4 (some .int) :: wsM) 3 43 D cI cJ cZ ad S [.int x, .int y, .int z] (fun r S1 => r = 0 ∧ S1 = mi S 0 1) := by
  intro sz
  refine Met.ofW (cc := cX12_delayTo) (maxL := 4) (ret := (some .int)) (by decide) rfl ?_
  intro p e s m args below meth c s₁ B hml hv
  obtain ⟨rfl, hsz, hP, hK, hD0, hR⟩ := hv
  have hx := B.exec
  have hb := B.bytes
  have hr := B.returns
  have hts := atoms_spec (ws := (Cond.code yX12_delayTo cX12_delayTo 4 (some .int) :: wsM)) B.pre
  have hown : s.vm.findClass RX12 = some m.cls := findClass_of_methodNamed B.named
  have hlocks := B.notSynchronized
  subst hsz
  have hD := hD0.self (sz := s.heap.size)
  generalize hAe : va_A (MW cI cJ cZ ad S) s.heap.size = A at hD ⊢
  have hA : ∀ q : Nat, s.heap.size ≤ q → A q := fun q h => by rw [← hAe]; exact Or.inr h
  have G : mG D cI cJ cZ ad A s.heap s.heap [] S := ⟨hP, hD, va_S.rf⟩
  have E : mE p c cX12_delayTo s m ([.ref (ad 0), .int x, .int y, .int z] : List Value).toArray (Cond.code yX12_delayTo cX12_delayTo 4 (some .int) :: wsM) D cI cJ cZ := ⟨hx, hb, hts, hown, hK, fun w h => .tail _ (iM_x h)⟩
  have hl := lv_entry ([.ref (ad 0), .int x, .int y, .int z]) (n := 4) (Nat.le_of_ble_eq_true rfl)
  rw [lg_entry_eq]
  generalize (lg_sl ([.ref (ad 0), .int x, .int y, .int z]) ++ List.replicate (4 - (lg_sl ([.ref (ad 0), .int x, .int y, .int z])).length) Slot.unset).toArray = ls at hl ⊢
  have hl : lv_has ls 4 [(0, .ref (ad 0)), (1, .int x), (2, .int y), (3, .int z)] := hl
  have hh : True := trivial
  refine lv_aload_n hx hb dX12_delayTo_0 rfl (lv_at hl 0 rfl) ?_
  refine lv_aload_n hx hb dX12_delayTo_1 rfl (lv_at hl 0 rfl) ?_
  refine lv_iload_n hx hb dX12_delayTo_2 rfl (lv_at hl 1 rfl) ?_
  refine m_calli (As := [.int x]) (rest := [.ref (ad 0)]) E G hA hR hml (n_isMic l D cI cJ cZ ad S x h20 hp) (cwV 1 hts (gmV qM_316 qM_317 qM_318 qM_35 qM_306) rfl rfl rfl (by decide +kernel) ⟨Nat.le_of_ble_eq_true rfl, Nat.le_of_ble_eq_true rfl⟩) rfl hl.1 rfl (lv_room (Nat.le_of_ble_eq_true rfl)) dX12_delayTo_3 ⟨Nat.zero_le _, Nat.zero_le _⟩ (fun r1 S2 H locs hq G => ?_)
  obtain ⟨hq1, hq2⟩ := hq
  rw [hq2] at G
  refine lv_to (y := 0) hq1 ?_
  refine m_calli (As := [.int 0]) (rest := []) E G hA hR hml (n_mayAsk l D cI cJ cZ ad S 0 h20) (cwV 1 hts (gmV qM_319 qM_320 qM_321 qM_35 qM_304) rfl rfl rfl (by decide +kernel) ⟨Nat.le_of_ble_eq_true rfl, Nat.le_of_ble_eq_true rfl⟩) rfl hl.1 rfl (lv_room (Nat.le_of_ble_eq_true rfl)) dX12_delayTo_6 ⟨Nat.zero_le _, Nat.zero_le _⟩ (fun r3 S4 H locs hq G => ?_)
  obtain ⟨hq1, hq2⟩ := hq
  rw [hq2] at G
  refine lv_to (y := 0) hq1 ?_
  refine lv_if_ne (tgt := 14) hx hb dX12_delayTo_9 (by decide) (fun c5 => absurd (by decide +kernel) c5) (fun c5 => ?_)
  refine lv_iconst (v := 0) hx hb dX12_delayTo_12 (by decide) ?_
  exact W.iret (v := 0) hx hb hr (fun t ht hW => ⟨⟨0, (mi S 0 1), rfl, ⟨rfl, rfl⟩, ⟨by rw [ht]; exact G.1, va_K.moved hW.alike hK, G.2.1⟩⟩, G.2.2.F ht⟩) G.2.2.2.2 dX12_delayTo_13
set_option maxHeartbeats 4000000 in
set_option maxRecDepth 100000 in
theorem n_spread (l : Launch) (D : va_G) (cI cJ cZ : ClassId) (ad : Nat → Nat) (S : MS) (x : Int32) (h20 : S.1 20 = 0) (hp : ∀ k, S.2.1 10 k = 0) : mCi l yX12_spread (Cond.code yX12_spread cX12_spread 5 (some .int) :: wsM) 3 43 D cI cJ cZ ad S [.int x] (fun r S1 => r = 0 ∧ S1 = mi S 0 1) := by
  intro sz
  refine Met.ofW (cc := cX12_spread) (maxL := 5) (ret := (some .int)) (by decide) rfl ?_
  intro p e s m args below meth c s₁ B hml hv
  obtain ⟨rfl, hsz, hP, hK, hD0, hR⟩ := hv
  have hx := B.exec
  have hb := B.bytes
  have hr := B.returns
  have hts := atoms_spec (ws := (Cond.code yX12_spread cX12_spread 5 (some .int) :: wsM)) B.pre
  have hown : s.vm.findClass RX12 = some m.cls := findClass_of_methodNamed B.named
  have hlocks := B.notSynchronized
  subst hsz
  have hD := hD0.self (sz := s.heap.size)
  generalize hAe : va_A (MW cI cJ cZ ad S) s.heap.size = A at hD ⊢
  have hA : ∀ q : Nat, s.heap.size ≤ q → A q := fun q h => by rw [← hAe]; exact Or.inr h
  have G : mG D cI cJ cZ ad A s.heap s.heap [] S := ⟨hP, hD, va_S.rf⟩
  have E : mE p c cX12_spread s m ([.ref (ad 0), .int x] : List Value).toArray (Cond.code yX12_spread cX12_spread 5 (some .int) :: wsM) D cI cJ cZ := ⟨hx, hb, hts, hown, hK, fun w h => .tail _ (iM_x h)⟩
  have hl := lv_entry ([.ref (ad 0), .int x]) (n := 5) (Nat.le_of_ble_eq_true rfl)
  rw [lg_entry_eq]
  generalize (lg_sl ([.ref (ad 0), .int x]) ++ List.replicate (5 - (lg_sl ([.ref (ad 0), .int x])).length) Slot.unset).toArray = ls at hl ⊢
  have hl : lv_has ls 5 [(0, .ref (ad 0)), (1, .int x)] := hl
  have hh : True := trivial
  refine lv_aload_n hx hb dX12_spread_0 rfl (lv_at hl 0 rfl) ?_
  refine lv_aload_n hx hb dX12_spread_1 rfl (lv_at hl 0 rfl) ?_
  refine lv_iload_n hx hb dX12_spread_2 rfl (lv_at hl 1 rfl) ?_
  refine m_calli (As := [.int x]) (rest := [.ref (ad 0)]) E G hA hR hml (n_isCell l D cI cJ cZ ad S x h20 hp) (cwV 1 hts (gmV qM_326 qM_327 qM_328 qM_35 qM_307) rfl rfl rfl (by decide +kernel) ⟨Nat.le_of_ble_eq_true rfl, Nat.le_of_ble_eq_true rfl⟩) rfl hl.1 rfl (lv_room (Nat.le_of_ble_eq_true rfl)) dX12_spread_3 ⟨Nat.zero_le _, Nat.zero_le _⟩ (fun r1 S2 H locs hq G => ?_)
  obtain ⟨hq1, hq2⟩ := hq
  rw [hq2] at G
  refine lv_to (y := 0) hq1 ?_
  refine m_calli (As := [.int 0]) (rest := []) E G hA hR hml (n_mayAsk l D cI cJ cZ ad S 0 h20) (cwV 1 hts (gmV qM_319 qM_320 qM_321 qM_35 qM_304) rfl rfl rfl (by decide +kernel) ⟨Nat.le_of_ble_eq_true rfl, Nat.le_of_ble_eq_true rfl⟩) rfl hl.1 rfl (lv_room (Nat.le_of_ble_eq_true rfl)) dX12_spread_6 ⟨Nat.zero_le _, Nat.zero_le _⟩ (fun r3 S4 H locs hq G => ?_)
  obtain ⟨hq1, hq2⟩ := hq
  rw [hq2] at G
  refine lv_to (y := 0) hq1 ?_
  refine lv_if_eq (tgt := 19) hx hb dX12_spread_9 (by decide) (fun c5 => ?_) (fun c5 => absurd (by decide +kernel) c5)
  refine lv_iconst (v := 0) hx hb dX12_spread_19 (by decide) ?_
  exact W.iret (v := 0) hx hb hr (fun t ht hW => ⟨⟨0, (mi S 0 1), rfl, ⟨rfl, rfl⟩, ⟨by rw [ht]; exact G.1, va_K.moved hW.alike hK, G.2.1⟩⟩, G.2.2.F ht⟩) G.2.2.2.2 dX12_spread_20
set_option maxHeartbeats 4000000 in
set_option maxRecDepth 100000 in
theorem n_window (l : Launch) (D : va_G) (cI cJ cZ : ClassId) (ad : Nat → Nat) (S : MS) (x : Int32) (h20 : S.1 20 = 0) (hp : ∀ k, S.2.1 10 k = 0) : mCi l yX12_window (Cond.code yX12_window cX12_window 2 (some .int) :: wsM) 3 43 D cI cJ cZ ad S [.int x] (fun r S1 => r = 0 ∧ S1 = mi S 0 1) := by
  intro sz
  refine Met.ofW (cc := cX12_window) (maxL := 2) (ret := (some .int)) (by decide) rfl ?_
  intro p e s m args below meth c s₁ B hml hv
  obtain ⟨rfl, hsz, hP, hK, hD0, hR⟩ := hv
  have hx := B.exec
  have hb := B.bytes
  have hr := B.returns
  have hts := atoms_spec (ws := (Cond.code yX12_window cX12_window 2 (some .int) :: wsM)) B.pre
  have hown : s.vm.findClass RX12 = some m.cls := findClass_of_methodNamed B.named
  have hlocks := B.notSynchronized
  subst hsz
  have hD := hD0.self (sz := s.heap.size)
  generalize hAe : va_A (MW cI cJ cZ ad S) s.heap.size = A at hD ⊢
  have hA : ∀ q : Nat, s.heap.size ≤ q → A q := fun q h => by rw [← hAe]; exact Or.inr h
  have G : mG D cI cJ cZ ad A s.heap s.heap [] S := ⟨hP, hD, va_S.rf⟩
  have E : mE p c cX12_window s m ([.ref (ad 0), .int x] : List Value).toArray (Cond.code yX12_window cX12_window 2 (some .int) :: wsM) D cI cJ cZ := ⟨hx, hb, hts, hown, hK, fun w h => .tail _ (iM_x h)⟩
  have hl := lv_entry ([.ref (ad 0), .int x]) (n := 2) (Nat.le_of_ble_eq_true rfl)
  rw [lg_entry_eq]
  generalize (lg_sl ([.ref (ad 0), .int x]) ++ List.replicate (2 - (lg_sl ([.ref (ad 0), .int x])).length) Slot.unset).toArray = ls at hl ⊢
  have hl : lv_has ls 2 [(0, .ref (ad 0)), (1, .int x)] := hl
  have hh : True := trivial
  refine lv_aload_n hx hb dX12_window_0 rfl (lv_at hl 0 rfl) ?_
  refine lv_aload_n hx hb dX12_window_1 rfl (lv_at hl 0 rfl) ?_
  refine lv_iload_n hx hb dX12_window_2 rfl (lv_at hl 1 rfl) ?_
  refine m_calli (As := [.int x]) (rest := [.ref (ad 0)]) E G hA hR hml (n_isCell l D cI cJ cZ ad S x h20 hp) (cwV 1 hts (gmV qM_326 qM_327 qM_328 qM_35 qM_307) rfl rfl rfl (by decide +kernel) ⟨Nat.le_of_ble_eq_true rfl, Nat.le_of_ble_eq_true rfl⟩) rfl hl.1 rfl (lv_room (Nat.le_of_ble_eq_true rfl)) dX12_window_3 ⟨Nat.zero_le _, Nat.zero_le _⟩ (fun r1 S2 H locs hq G => ?_)
  obtain ⟨hq1, hq2⟩ := hq
  rw [hq2] at G
  refine lv_to (y := 0) hq1 ?_
  refine m_calli (As := [.int 0]) (rest := []) E G hA hR hml (n_mayAsk l D cI cJ cZ ad S 0 h20) (cwV 1 hts (gmV qM_319 qM_320 qM_321 qM_35 qM_304) rfl rfl rfl (by decide +kernel) ⟨Nat.le_of_ble_eq_true rfl, Nat.le_of_ble_eq_true rfl⟩) rfl hl.1 rfl (lv_room (Nat.le_of_ble_eq_true rfl)) dX12_window_6 ⟨Nat.zero_le _, Nat.zero_le _⟩ (fun r3 S4 H locs hq G => ?_)
  obtain ⟨hq1, hq2⟩ := hq
  rw [hq2] at G
  refine lv_to (y := 0) hq1 ?_
  refine lv_if_ne (tgt := 14) hx hb dX12_window_9 (by decide) (fun c5 => absurd (by decide +kernel) c5) (fun c5 => ?_)
  refine lv_iconst (v := 0) hx hb dX12_window_12 (by decide) ?_
  exact W.iret (v := 0) hx hb hr (fun t ht hW => ⟨⟨0, (mi S 0 1), rfl, ⟨rfl, rfl⟩, ⟨by rw [ht]; exact G.1, va_K.moved hW.alike hK, G.2.1⟩⟩, G.2.2.F ht⟩) G.2.2.2.2 dX12_window_13
set_option maxHeartbeats 4000000 in
set_option maxRecDepth 100000 in
theorem n_sample (l : Launch) (D : va_G) (cI cJ cZ : ClassId) (ad : Nat → Nat) (S : MS) (x y : Int32) (h20 : S.1 20 = 0) (hp : ∀ k, S.2.1 10 k = 0) : mCi l yX12_sample (Cond.code yX12_sample cX12_sample 3 (some .int) :: wsM) 3 43 D cI cJ cZ ad S [.int x, .int y] (fun r S1 => r = 0 ∧ S1 = mi S 0 1) := by
  intro sz
  refine Met.ofW (cc := cX12_sample) (maxL := 3) (ret := (some .int)) (by decide) rfl ?_
  intro p e s m args below meth c s₁ B hml hv
  obtain ⟨rfl, hsz, hP, hK, hD0, hR⟩ := hv
  have hx := B.exec
  have hb := B.bytes
  have hr := B.returns
  have hts := atoms_spec (ws := (Cond.code yX12_sample cX12_sample 3 (some .int) :: wsM)) B.pre
  have hown : s.vm.findClass RX12 = some m.cls := findClass_of_methodNamed B.named
  have hlocks := B.notSynchronized
  subst hsz
  have hD := hD0.self (sz := s.heap.size)
  generalize hAe : va_A (MW cI cJ cZ ad S) s.heap.size = A at hD ⊢
  have hA : ∀ q : Nat, s.heap.size ≤ q → A q := fun q h => by rw [← hAe]; exact Or.inr h
  have G : mG D cI cJ cZ ad A s.heap s.heap [] S := ⟨hP, hD, va_S.rf⟩
  have E : mE p c cX12_sample s m ([.ref (ad 0), .int x, .int y] : List Value).toArray (Cond.code yX12_sample cX12_sample 3 (some .int) :: wsM) D cI cJ cZ := ⟨hx, hb, hts, hown, hK, fun w h => .tail _ (iM_x h)⟩
  have hl := lv_entry ([.ref (ad 0), .int x, .int y]) (n := 3) (Nat.le_of_ble_eq_true rfl)
  rw [lg_entry_eq]
  generalize (lg_sl ([.ref (ad 0), .int x, .int y]) ++ List.replicate (3 - (lg_sl ([.ref (ad 0), .int x, .int y])).length) Slot.unset).toArray = ls at hl ⊢
  have hl : lv_has ls 3 [(0, .ref (ad 0)), (1, .int x), (2, .int y)] := hl
  have hh : True := trivial
  refine lv_aload_n hx hb dX12_sample_0 rfl (lv_at hl 0 rfl) ?_
  refine lv_aload_n hx hb dX12_sample_1 rfl (lv_at hl 0 rfl) ?_
  refine lv_iload_n hx hb dX12_sample_2 rfl (lv_at hl 1 rfl) ?_
  refine m_calli (As := [.int x]) (rest := [.ref (ad 0)]) E G hA hR hml (n_isMic l D cI cJ cZ ad S x h20 hp) (cwV 1 hts (gmV qM_316 qM_317 qM_318 qM_35 qM_306) rfl rfl rfl (by decide +kernel) ⟨Nat.le_of_ble_eq_true rfl, Nat.le_of_ble_eq_true rfl⟩) rfl hl.1 rfl (lv_room (Nat.le_of_ble_eq_true rfl)) dX12_sample_3 ⟨Nat.zero_le _, Nat.zero_le _⟩ (fun r1 S2 H locs hq G => ?_)
  obtain ⟨hq1, hq2⟩ := hq
  rw [hq2] at G
  refine lv_to (y := 0) hq1 ?_
  refine m_calli (As := [.int 0]) (rest := []) E G hA hR hml (n_mayAsk l D cI cJ cZ ad S 0 h20) (cwV 1 hts (gmV qM_319 qM_320 qM_321 qM_35 qM_304) rfl rfl rfl (by decide +kernel) ⟨Nat.le_of_ble_eq_true rfl, Nat.le_of_ble_eq_true rfl⟩) rfl hl.1 rfl (lv_room (Nat.le_of_ble_eq_true rfl)) dX12_sample_6 ⟨Nat.zero_le _, Nat.zero_le _⟩ (fun r3 S4 H locs hq G => ?_)
  obtain ⟨hq1, hq2⟩ := hq
  rw [hq2] at G
  refine lv_to (y := 0) hq1 ?_
  refine lv_if_ne (tgt := 14) hx hb dX12_sample_9 (by decide) (fun c5 => absurd (by decide +kernel) c5) (fun c5 => ?_)
  refine lv_iconst (v := 0) hx hb dX12_sample_12 (by decide) ?_
  exact W.iret (v := 0) hx hb hr (fun t ht hW => ⟨⟨0, (mi S 0 1), rfl, ⟨rfl, rfl⟩, ⟨by rw [ht]; exact G.1, va_K.moved hW.alike hK, G.2.1⟩⟩, G.2.2.F ht⟩) G.2.2.2.2 dX12_sample_13
set_option maxHeartbeats 4000000 in
set_option maxRecDepth 100000 in
theorem n_beam (l : Launch) (D : va_G) (cI cJ cZ : ClassId) (ad : Nat → Nat) (S : MS) (x y : Int32) (h20 : S.1 20 = 0) (hp : ∀ k, S.2.1 10 k = 0) : mCi l yX12_beam (Cond.code yX12_beam cX12_beam 3 (some .int) :: wsM) 3 43 D cI cJ cZ ad S [.int x, .int y] (fun r S1 => r = 0 ∧ S1 = mi S 0 1) := by
  intro sz
  refine Met.ofW (cc := cX12_beam) (maxL := 3) (ret := (some .int)) (by decide) rfl ?_
  intro p e s m args below meth c s₁ B hml hv
  obtain ⟨rfl, hsz, hP, hK, hD0, hR⟩ := hv
  have hx := B.exec
  have hb := B.bytes
  have hr := B.returns
  have hts := atoms_spec (ws := (Cond.code yX12_beam cX12_beam 3 (some .int) :: wsM)) B.pre
  have hown : s.vm.findClass RX12 = some m.cls := findClass_of_methodNamed B.named
  have hlocks := B.notSynchronized
  subst hsz
  have hD := hD0.self (sz := s.heap.size)
  generalize hAe : va_A (MW cI cJ cZ ad S) s.heap.size = A at hD ⊢
  have hA : ∀ q : Nat, s.heap.size ≤ q → A q := fun q h => by rw [← hAe]; exact Or.inr h
  have G : mG D cI cJ cZ ad A s.heap s.heap [] S := ⟨hP, hD, va_S.rf⟩
  have E : mE p c cX12_beam s m ([.ref (ad 0), .int x, .int y] : List Value).toArray (Cond.code yX12_beam cX12_beam 3 (some .int) :: wsM) D cI cJ cZ := ⟨hx, hb, hts, hown, hK, fun w h => .tail _ (iM_x h)⟩
  have hl := lv_entry ([.ref (ad 0), .int x, .int y]) (n := 3) (Nat.le_of_ble_eq_true rfl)
  rw [lg_entry_eq]
  generalize (lg_sl ([.ref (ad 0), .int x, .int y]) ++ List.replicate (3 - (lg_sl ([.ref (ad 0), .int x, .int y])).length) Slot.unset).toArray = ls at hl ⊢
  have hl : lv_has ls 3 [(0, .ref (ad 0)), (1, .int x), (2, .int y)] := hl
  have hh : True := trivial
  refine lv_aload_n hx hb dX12_beam_0 rfl (lv_at hl 0 rfl) ?_
  refine lv_aload_n hx hb dX12_beam_1 rfl (lv_at hl 0 rfl) ?_
  refine lv_iload_n hx hb dX12_beam_2 rfl (lv_at hl 1 rfl) ?_
  refine m_calli (As := [.int x]) (rest := [.ref (ad 0)]) E G hA hR hml (n_isCell l D cI cJ cZ ad S x h20 hp) (cwV 1 hts (gmV qM_326 qM_327 qM_328 qM_35 qM_307) rfl rfl rfl (by decide +kernel) ⟨Nat.le_of_ble_eq_true rfl, Nat.le_of_ble_eq_true rfl⟩) rfl hl.1 rfl (lv_room (Nat.le_of_ble_eq_true rfl)) dX12_beam_3 ⟨Nat.zero_le _, Nat.zero_le _⟩ (fun r1 S2 H locs hq G => ?_)
  obtain ⟨hq1, hq2⟩ := hq
  rw [hq2] at G
  refine lv_to (y := 0) hq1 ?_
  refine m_calli (As := [.int 0]) (rest := []) E G hA hR hml (n_mayAsk l D cI cJ cZ ad S 0 h20) (cwV 1 hts (gmV qM_319 qM_320 qM_321 qM_35 qM_304) rfl rfl rfl (by decide +kernel) ⟨Nat.le_of_ble_eq_true rfl, Nat.le_of_ble_eq_true rfl⟩) rfl hl.1 rfl (lv_room (Nat.le_of_ble_eq_true rfl)) dX12_beam_6 ⟨Nat.zero_le _, Nat.zero_le _⟩ (fun r3 S4 H locs hq G => ?_)
  obtain ⟨hq1, hq2⟩ := hq
  rw [hq2] at G
  refine lv_to (y := 0) hq1 ?_
  refine lv_if_ne (tgt := 14) hx hb dX12_beam_9 (by decide) (fun c5 => absurd (by decide +kernel) c5) (fun c5 => ?_)
  refine lv_iconst (v := 0) hx hb dX12_beam_12 (by decide) ?_
  exact W.iret (v := 0) hx hb hr (fun t ht hW => ⟨⟨0, (mi S 0 1), rfl, ⟨rfl, rfl⟩, ⟨by rw [ht]; exact G.1, va_K.moved hW.alike hK, G.2.1⟩⟩, G.2.2.F ht⟩) G.2.2.2.2 dX12_beam_13
set_option maxHeartbeats 4000000 in
set_option maxRecDepth 100000 in
theorem n_power (l : Launch) (D : va_G) (cI cJ cZ : ClassId) (ad : Nat → Nat) (S : MS) (x : Int32) (h20 : S.1 20 = 0) (hp : ∀ k, S.2.1 10 k = 0) : mCl l yX12_power (Cond.code yX12_power cX12_power 2 (some .long) :: wsM) 3 43 D cI cJ cZ ad S [.int x] (fun r S1 => r = 0 ∧ S1 = mi S 0 1) := by
  intro sz
  refine Met.ofW (cc := cX12_power) (maxL := 2) (ret := (some .long)) (by decide) rfl ?_
  intro p e s m args below meth c s₁ B hml hv
  obtain ⟨rfl, hsz, hP, hK, hD0, hR⟩ := hv
  have hx := B.exec
  have hb := B.bytes
  have hr := B.returns
  have hts := atoms_spec (ws := (Cond.code yX12_power cX12_power 2 (some .long) :: wsM)) B.pre
  have hown : s.vm.findClass RX12 = some m.cls := findClass_of_methodNamed B.named
  have hlocks := B.notSynchronized
  subst hsz
  have hD := hD0.self (sz := s.heap.size)
  generalize hAe : va_A (MW cI cJ cZ ad S) s.heap.size = A at hD ⊢
  have hA : ∀ q : Nat, s.heap.size ≤ q → A q := fun q h => by rw [← hAe]; exact Or.inr h
  have G : mG D cI cJ cZ ad A s.heap s.heap [] S := ⟨hP, hD, va_S.rf⟩
  have E : mE p c cX12_power s m ([.ref (ad 0), .int x] : List Value).toArray (Cond.code yX12_power cX12_power 2 (some .long) :: wsM) D cI cJ cZ := ⟨hx, hb, hts, hown, hK, fun w h => .tail _ (iM_x h)⟩
  have hl := lv_entry ([.ref (ad 0), .int x]) (n := 2) (Nat.le_of_ble_eq_true rfl)
  rw [lg_entry_eq]
  generalize (lg_sl ([.ref (ad 0), .int x]) ++ List.replicate (2 - (lg_sl ([.ref (ad 0), .int x])).length) Slot.unset).toArray = ls at hl ⊢
  have hl : lv_has ls 2 [(0, .ref (ad 0)), (1, .int x)] := hl
  have hh : True := trivial
  refine lv_aload_n hx hb dX12_power_0 rfl (lv_at hl 0 rfl) ?_
  refine lv_aload_n hx hb dX12_power_1 rfl (lv_at hl 0 rfl) ?_
  refine lv_iload_n hx hb dX12_power_2 rfl (lv_at hl 1 rfl) ?_
  refine m_calli (As := [.int x]) (rest := [.ref (ad 0)]) E G hA hR hml (n_isCell l D cI cJ cZ ad S x h20 hp) (cwV 1 hts (gmV qM_326 qM_327 qM_328 qM_35 qM_307) rfl rfl rfl (by decide +kernel) ⟨Nat.le_of_ble_eq_true rfl, Nat.le_of_ble_eq_true rfl⟩) rfl hl.1 rfl (lv_room (Nat.le_of_ble_eq_true rfl)) dX12_power_3 ⟨Nat.zero_le _, Nat.zero_le _⟩ (fun r1 S2 H locs hq G => ?_)
  obtain ⟨hq1, hq2⟩ := hq
  rw [hq2] at G
  refine lv_to (y := 0) hq1 ?_
  refine m_calli (As := [.int 0]) (rest := []) E G hA hR hml (n_mayAsk l D cI cJ cZ ad S 0 h20) (cwV 1 hts (gmV qM_319 qM_320 qM_321 qM_35 qM_304) rfl rfl rfl (by decide +kernel) ⟨Nat.le_of_ble_eq_true rfl, Nat.le_of_ble_eq_true rfl⟩) rfl hl.1 rfl (lv_room (Nat.le_of_ble_eq_true rfl)) dX12_power_6 ⟨Nat.zero_le _, Nat.zero_le _⟩ (fun r3 S4 H locs hq G => ?_)
  obtain ⟨hq1, hq2⟩ := hq
  rw [hq2] at G
  refine lv_to (y := 0) hq1 ?_
  refine lv_if_eq (tgt := 24) hx hb dX12_power_9 (by decide) (fun c5 => ?_) (fun c5 => absurd (by decide +kernel) c5)
  refine lv_lconst (v := 0) hx hb dX12_power_24 (by decide) ?_
  exact W.lret (v := 0) hx hb hr (fun t ht hW => ⟨⟨0, (mi S 0 1), rfl, ⟨rfl, rfl⟩, ⟨by rw [ht]; exact G.1, va_K.moved hW.alike hK, G.2.1⟩⟩, G.2.2.F ht⟩) G.2.2.2.2 dX12_power_25
set_option maxHeartbeats 4000000 in
set_option maxRecDepth 100000 in
theorem n_powerAt (l : Launch) (D : va_G) (cI cJ cZ : ClassId) (ad : Nat → Nat) (S : MS) (x y : Int32) (h20 : S.1 20 = 0) (hp : ∀ k, S.2.1 10 k = 0) : mCl l yX12_powerAt (Cond.code yX12_powerAt cX12_powerAt 3 (some .long) :: wsM) 3 43 D cI cJ cZ ad S [.int x, .int y] (fun r S1 => r = 0 ∧ S1 = mi S 0 1) := by
  intro sz
  refine Met.ofW (cc := cX12_powerAt) (maxL := 3) (ret := (some .long)) (by decide) rfl ?_
  intro p e s m args below meth c s₁ B hml hv
  obtain ⟨rfl, hsz, hP, hK, hD0, hR⟩ := hv
  have hx := B.exec
  have hb := B.bytes
  have hr := B.returns
  have hts := atoms_spec (ws := (Cond.code yX12_powerAt cX12_powerAt 3 (some .long) :: wsM)) B.pre
  have hown : s.vm.findClass RX12 = some m.cls := findClass_of_methodNamed B.named
  have hlocks := B.notSynchronized
  subst hsz
  have hD := hD0.self (sz := s.heap.size)
  generalize hAe : va_A (MW cI cJ cZ ad S) s.heap.size = A at hD ⊢
  have hA : ∀ q : Nat, s.heap.size ≤ q → A q := fun q h => by rw [← hAe]; exact Or.inr h
  have G : mG D cI cJ cZ ad A s.heap s.heap [] S := ⟨hP, hD, va_S.rf⟩
  have E : mE p c cX12_powerAt s m ([.ref (ad 0), .int x, .int y] : List Value).toArray (Cond.code yX12_powerAt cX12_powerAt 3 (some .long) :: wsM) D cI cJ cZ := ⟨hx, hb, hts, hown, hK, fun w h => .tail _ (iM_x h)⟩
  have hl := lv_entry ([.ref (ad 0), .int x, .int y]) (n := 3) (Nat.le_of_ble_eq_true rfl)
  rw [lg_entry_eq]
  generalize (lg_sl ([.ref (ad 0), .int x, .int y]) ++ List.replicate (3 - (lg_sl ([.ref (ad 0), .int x, .int y])).length) Slot.unset).toArray = ls at hl ⊢
  have hl : lv_has ls 3 [(0, .ref (ad 0)), (1, .int x), (2, .int y)] := hl
  have hh : True := trivial
  refine lv_aload_n hx hb dX12_powerAt_0 rfl (lv_at hl 0 rfl) ?_
  refine lv_iload_n hx hb dX12_powerAt_1 rfl (lv_at hl 1 rfl) ?_
  refine lv_iload_n hx hb dX12_powerAt_2 rfl (lv_at hl 2 rfl) ?_
  refine m_stat (As := [.int x, .int y]) (rest := [.ref (ad 0)]) ⟨hx, hb, hml, hown, hts⟩ (m_isPoint l x y) (cwS 2 hts (gmS qM_343 qM_344 qM_35 qM_341) rfl rfl rfl (by decide +kernel) ⟨Nat.le_of_ble_eq_true rfl, Nat.le_of_ble_eq_true rfl⟩) rfl hl.1 rfl (lv_room (Nat.le_of_ble_eq_true rfl)) dX12_powerAt_3 ⟨Nat.zero_le _, Nat.zero_le _⟩ (fun r1 hq => ?_)
  refine m_calli (As := [.int r1]) (rest := []) E G hA hR hml (n_mayAsk l D cI cJ cZ ad S r1 h20) (cwV 1 hts (gmV qM_319 qM_320 qM_321 qM_35 qM_304) rfl rfl rfl (by decide +kernel) ⟨Nat.le_of_ble_eq_true rfl, Nat.le_of_ble_eq_true rfl⟩) rfl hl.1 rfl (lv_room (Nat.le_of_ble_eq_true rfl)) dX12_powerAt_6 ⟨Nat.zero_le _, Nat.zero_le _⟩ (fun r2 S3 H locs hq G => ?_)
  obtain ⟨hq1, hq2⟩ := hq
  rw [hq2] at G
  refine lv_to (y := 0) hq1 ?_
  refine lv_if_ne (tgt := 14) hx hb dX12_powerAt_9 (by decide) (fun c4 => absurd (by decide +kernel) c4) (fun c4 => ?_)
  refine lv_lconst (v := 0) hx hb dX12_powerAt_12 (by decide) ?_
  exact W.lret (v := 0) hx hb hr (fun t ht hW => ⟨⟨0, (mi S 0 1), rfl, ⟨rfl, rfl⟩, ⟨by rw [ht]; exact G.1, va_K.moved hW.alike hK, G.2.1⟩⟩, G.2.2.F ht⟩) G.2.2.2.2 dX12_powerAt_13
set_option maxHeartbeats 4000000 in
set_option maxRecDepth 100000 in
theorem n_best (l : Launch) (D : va_G) (cI cJ cZ : ClassId) (ad : Nat → Nat) (S : MS) (h20 : S.1 20 = 0) (hp : ∀ k, S.2.1 10 k = 0) : mCi l yX12_best (Cond.code yX12_best cX12_best 1 (some .int) :: wsM) 2 21 D cI cJ cZ ad S [] (fun r S1 => r = 0 ∧ S1 = mi S 0 1) := by
  intro sz
  refine Met.ofW (cc := cX12_best) (maxL := 1) (ret := (some .int)) (by decide) rfl ?_
  intro p e s m args below meth c s₁ B hml hv
  obtain ⟨rfl, hsz, hP, hK, hD0, hR⟩ := hv
  have hx := B.exec
  have hb := B.bytes
  have hr := B.returns
  have hts := atoms_spec (ws := (Cond.code yX12_best cX12_best 1 (some .int) :: wsM)) B.pre
  have hown : s.vm.findClass RX12 = some m.cls := findClass_of_methodNamed B.named
  have hlocks := B.notSynchronized
  subst hsz
  have hD := hD0.self (sz := s.heap.size)
  generalize hAe : va_A (MW cI cJ cZ ad S) s.heap.size = A at hD ⊢
  have hA : ∀ q : Nat, s.heap.size ≤ q → A q := fun q h => by rw [← hAe]; exact Or.inr h
  have G : mG D cI cJ cZ ad A s.heap s.heap [] S := ⟨hP, hD, va_S.rf⟩
  have E : mE p c cX12_best s m ([.ref (ad 0)] : List Value).toArray (Cond.code yX12_best cX12_best 1 (some .int) :: wsM) D cI cJ cZ := ⟨hx, hb, hts, hown, hK, fun w h => .tail _ (iM_x h)⟩
  have hl := lv_entry ([.ref (ad 0)]) (n := 1) (Nat.le_of_ble_eq_true rfl)
  rw [lg_entry_eq]
  generalize (lg_sl ([.ref (ad 0)]) ++ List.replicate (1 - (lg_sl ([.ref (ad 0)])).length) Slot.unset).toArray = ls at hl ⊢
  have hl : lv_has ls 1 [(0, .ref (ad 0))] := hl
  have hh : True := trivial
  refine lv_aload_n hx hb dX12_best_0 rfl (lv_at hl 0 rfl) ?_
  refine lv_iconst (v := 1) hx hb dX12_best_1 (by decide) ?_
  refine m_calli (As := [.int 1]) (rest := []) E G hA hR hml (n_mayAsk l D cI cJ cZ ad S 1 h20) (cwV 1 hts (gmV qM_319 qM_320 qM_321 qM_35 qM_304) rfl rfl rfl (by decide +kernel) ⟨Nat.le_of_ble_eq_true rfl, Nat.le_of_ble_eq_true rfl⟩) rfl hl.1 rfl (lv_room (Nat.le_of_ble_eq_true rfl)) dX12_best_2 ⟨Nat.zero_le _, Nat.zero_le _⟩ (fun r1 S2 H locs hq G => ?_)
  obtain ⟨hq1, hq2⟩ := hq
  rw [hq2] at G
  refine lv_to (y := 0) hq1 ?_
  refine lv_if_eq (tgt := 19) hx hb dX12_best_5 (by decide) (fun c3 => ?_) (fun c3 => absurd (by decide +kernel) c3)
  refine lv_iconst (v := 0) hx hb dX12_best_19 (by decide) ?_
  exact W.iret (v := 0) hx hb hr (fun t ht hW => ⟨⟨0, (mi S 0 1), rfl, ⟨rfl, rfl⟩, ⟨by rw [ht]; exact G.1, va_K.moved hW.alike hK, G.2.1⟩⟩, G.2.2.F ht⟩) G.2.2.2.2 dX12_best_20
set_option maxHeartbeats 4000000 in
set_option maxRecDepth 100000 in
theorem n_bestPower (l : Launch) (D : va_G) (cI cJ cZ : ClassId) (ad : Nat → Nat) (S : MS) (h20 : S.1 20 = 0) (hp : ∀ k, S.2.1 10 k = 0) : mCl l yX12_bestPower (Cond.code yX12_bestPower cX12_bestPower 1 (some .long) :: wsM) 2 21 D cI cJ cZ ad S [] (fun r S1 => r = 0 ∧ S1 = mi S 0 1) := by
  intro sz
  refine Met.ofW (cc := cX12_bestPower) (maxL := 1) (ret := (some .long)) (by decide) rfl ?_
  intro p e s m args below meth c s₁ B hml hv
  obtain ⟨rfl, hsz, hP, hK, hD0, hR⟩ := hv
  have hx := B.exec
  have hb := B.bytes
  have hr := B.returns
  have hts := atoms_spec (ws := (Cond.code yX12_bestPower cX12_bestPower 1 (some .long) :: wsM)) B.pre
  have hown : s.vm.findClass RX12 = some m.cls := findClass_of_methodNamed B.named
  have hlocks := B.notSynchronized
  subst hsz
  have hD := hD0.self (sz := s.heap.size)
  generalize hAe : va_A (MW cI cJ cZ ad S) s.heap.size = A at hD ⊢
  have hA : ∀ q : Nat, s.heap.size ≤ q → A q := fun q h => by rw [← hAe]; exact Or.inr h
  have G : mG D cI cJ cZ ad A s.heap s.heap [] S := ⟨hP, hD, va_S.rf⟩
  have E : mE p c cX12_bestPower s m ([.ref (ad 0)] : List Value).toArray (Cond.code yX12_bestPower cX12_bestPower 1 (some .long) :: wsM) D cI cJ cZ := ⟨hx, hb, hts, hown, hK, fun w h => .tail _ (iM_x h)⟩
  have hl := lv_entry ([.ref (ad 0)]) (n := 1) (Nat.le_of_ble_eq_true rfl)
  rw [lg_entry_eq]
  generalize (lg_sl ([.ref (ad 0)]) ++ List.replicate (1 - (lg_sl ([.ref (ad 0)])).length) Slot.unset).toArray = ls at hl ⊢
  have hl : lv_has ls 1 [(0, .ref (ad 0))] := hl
  have hh : True := trivial
  refine lv_aload_n hx hb dX12_bestPower_0 rfl (lv_at hl 0 rfl) ?_
  refine lv_iconst (v := 1) hx hb dX12_bestPower_1 (by decide) ?_
  refine m_calli (As := [.int 1]) (rest := []) E G hA hR hml (n_mayAsk l D cI cJ cZ ad S 1 h20) (cwV 1 hts (gmV qM_319 qM_320 qM_321 qM_35 qM_304) rfl rfl rfl (by decide +kernel) ⟨Nat.le_of_ble_eq_true rfl, Nat.le_of_ble_eq_true rfl⟩) rfl hl.1 rfl (lv_room (Nat.le_of_ble_eq_true rfl)) dX12_bestPower_2 ⟨Nat.zero_le _, Nat.zero_le _⟩ (fun r1 S2 H locs hq G => ?_)
  obtain ⟨hq1, hq2⟩ := hq
  rw [hq2] at G
  refine lv_to (y := 0) hq1 ?_
  refine lv_if_eq (tgt := 24) hx hb dX12_bestPower_5 (by decide) (fun c3 => ?_) (fun c3 => absurd (by decide +kernel) c3)
  refine lv_lconst (v := 0) hx hb dX12_bestPower_24 (by decide) ?_
  exact W.lret (v := 0) hx hb hr (fun t ht hW => ⟨⟨0, (mi S 0 1), rfl, ⟨rfl, rfl⟩, ⟨by rw [ht]; exact G.1, va_K.moved hW.alike hK, G.2.1⟩⟩, G.2.2.F ht⟩) G.2.2.2.2 dX12_bestPower_25
set_option maxHeartbeats 4000000 in
set_option maxRecDepth 100000 in
theorem n_meanPower (l : Launch) (D : va_G) (cI cJ cZ : ClassId) (ad : Nat → Nat) (S : MS) (h20 : S.1 20 = 0) (hp : ∀ k, S.2.1 10 k = 0) : mCl l yX12_meanPower (Cond.code yX12_meanPower cX12_meanPower 4 (some .long) :: wsM) 2 21 D cI cJ cZ ad S [] (fun r S1 => r = 0 ∧ S1 = mi S 0 1) := by
  intro sz
  refine Met.ofW (cc := cX12_meanPower) (maxL := 4) (ret := (some .long)) (by decide) rfl ?_
  intro p e s m args below meth c s₁ B hml hv
  obtain ⟨rfl, hsz, hP, hK, hD0, hR⟩ := hv
  have hx := B.exec
  have hb := B.bytes
  have hr := B.returns
  have hts := atoms_spec (ws := (Cond.code yX12_meanPower cX12_meanPower 4 (some .long) :: wsM)) B.pre
  have hown : s.vm.findClass RX12 = some m.cls := findClass_of_methodNamed B.named
  have hlocks := B.notSynchronized
  subst hsz
  have hD := hD0.self (sz := s.heap.size)
  generalize hAe : va_A (MW cI cJ cZ ad S) s.heap.size = A at hD ⊢
  have hA : ∀ q : Nat, s.heap.size ≤ q → A q := fun q h => by rw [← hAe]; exact Or.inr h
  have G : mG D cI cJ cZ ad A s.heap s.heap [] S := ⟨hP, hD, va_S.rf⟩
  have E : mE p c cX12_meanPower s m ([.ref (ad 0)] : List Value).toArray (Cond.code yX12_meanPower cX12_meanPower 4 (some .long) :: wsM) D cI cJ cZ := ⟨hx, hb, hts, hown, hK, fun w h => .tail _ (iM_x h)⟩
  have hl := lv_entry ([.ref (ad 0)]) (n := 4) (Nat.le_of_ble_eq_true rfl)
  rw [lg_entry_eq]
  generalize (lg_sl ([.ref (ad 0)]) ++ List.replicate (4 - (lg_sl ([.ref (ad 0)])).length) Slot.unset).toArray = ls at hl ⊢
  have hl : lv_has ls 4 [(0, .ref (ad 0))] := hl
  have hh : True := trivial
  refine lv_aload_n hx hb dX12_meanPower_0 rfl (lv_at hl 0 rfl) ?_
  refine lv_iconst (v := 1) hx hb dX12_meanPower_1 (by decide) ?_
  refine m_calli (As := [.int 1]) (rest := []) E G hA hR hml (n_mayAsk l D cI cJ cZ ad S 1 h20) (cwV 1 hts (gmV qM_319 qM_320 qM_321 qM_35 qM_304) rfl rfl rfl (by decide +kernel) ⟨Nat.le_of_ble_eq_true rfl, Nat.le_of_ble_eq_true rfl⟩) rfl hl.1 rfl (lv_room (Nat.le_of_ble_eq_true rfl)) dX12_meanPower_2 ⟨Nat.zero_le _, Nat.zero_le _⟩ (fun r1 S2 H locs hq G => ?_)
  obtain ⟨hq1, hq2⟩ := hq
  rw [hq2] at G
  refine lv_to (y := 0) hq1 ?_
  refine lv_if_ne (tgt := 10) hx hb dX12_meanPower_5 (by decide) (fun c3 => absurd (by decide +kernel) c3) (fun c3 => ?_)
  refine lv_lconst (v := 0) hx hb dX12_meanPower_8 (by decide) ?_
  exact W.lret (v := 0) hx hb hr (fun t ht hW => ⟨⟨0, (mi S 0 1), rfl, ⟨rfl, rfl⟩, ⟨by rw [ht]; exact G.1, va_K.moved hW.alike hK, G.2.1⟩⟩, G.2.2.F ht⟩) G.2.2.2.2 dX12_meanPower_9
set_option maxHeartbeats 4000000 in
set_option maxRecDepth 100000 in
theorem n_peaks (l : Launch) (D : va_G) (cI cJ cZ : ClassId) (ad : Nat → Nat) (S : MS) (h20 : S.1 20 = 0) (hp : ∀ k, S.2.1 10 k = 0) : mCi l yX12_peaks (Cond.code yX12_peaks cX12_peaks 3 (some .int) :: wsM) 2 21 D cI cJ cZ ad S [] (fun r S1 => r = 0 ∧ S1 = mi S 0 1) := by
  intro sz
  refine Met.ofW (cc := cX12_peaks) (maxL := 3) (ret := (some .int)) (by decide) rfl ?_
  intro p e s m args below meth c s₁ B hml hv
  obtain ⟨rfl, hsz, hP, hK, hD0, hR⟩ := hv
  have hx := B.exec
  have hb := B.bytes
  have hr := B.returns
  have hts := atoms_spec (ws := (Cond.code yX12_peaks cX12_peaks 3 (some .int) :: wsM)) B.pre
  have hown : s.vm.findClass RX12 = some m.cls := findClass_of_methodNamed B.named
  have hlocks := B.notSynchronized
  subst hsz
  have hD := hD0.self (sz := s.heap.size)
  generalize hAe : va_A (MW cI cJ cZ ad S) s.heap.size = A at hD ⊢
  have hA : ∀ q : Nat, s.heap.size ≤ q → A q := fun q h => by rw [← hAe]; exact Or.inr h
  have G : mG D cI cJ cZ ad A s.heap s.heap [] S := ⟨hP, hD, va_S.rf⟩
  have E : mE p c cX12_peaks s m ([.ref (ad 0)] : List Value).toArray (Cond.code yX12_peaks cX12_peaks 3 (some .int) :: wsM) D cI cJ cZ := ⟨hx, hb, hts, hown, hK, fun w h => .tail _ (iM_x h)⟩
  have hl := lv_entry ([.ref (ad 0)]) (n := 3) (Nat.le_of_ble_eq_true rfl)
  rw [lg_entry_eq]
  generalize (lg_sl ([.ref (ad 0)]) ++ List.replicate (3 - (lg_sl ([.ref (ad 0)])).length) Slot.unset).toArray = ls at hl ⊢
  have hl : lv_has ls 3 [(0, .ref (ad 0))] := hl
  have hh : True := trivial
  refine lv_aload_n hx hb dX12_peaks_0 rfl (lv_at hl 0 rfl) ?_
  refine lv_iconst (v := 1) hx hb dX12_peaks_1 (by decide) ?_
  refine m_calli (As := [.int 1]) (rest := []) E G hA hR hml (n_mayAsk l D cI cJ cZ ad S 1 h20) (cwV 1 hts (gmV qM_319 qM_320 qM_321 qM_35 qM_304) rfl rfl rfl (by decide +kernel) ⟨Nat.le_of_ble_eq_true rfl, Nat.le_of_ble_eq_true rfl⟩) rfl hl.1 rfl (lv_room (Nat.le_of_ble_eq_true rfl)) dX12_peaks_2 ⟨Nat.zero_le _, Nat.zero_le _⟩ (fun r1 S2 H locs hq G => ?_)
  obtain ⟨hq1, hq2⟩ := hq
  rw [hq2] at G
  refine lv_to (y := 0) hq1 ?_
  refine lv_if_ne (tgt := 10) hx hb dX12_peaks_5 (by decide) (fun c3 => absurd (by decide +kernel) c3) (fun c3 => ?_)
  refine lv_iconst (v := 0) hx hb dX12_peaks_8 (by decide) ?_
  exact W.iret (v := 0) hx hb hr (fun t ht hW => ⟨⟨0, (mi S 0 1), rfl, ⟨rfl, rfl⟩, ⟨by rw [ht]; exact G.1, va_K.moved hW.alike hK, G.2.1⟩⟩, G.2.2.F ht⟩) G.2.2.2.2 dX12_peaks_9
set_option maxHeartbeats 4000000 in
set_option maxRecDepth 100000 in
theorem n_peakAt (l : Launch) (D : va_G) (cI cJ cZ : ClassId) (ad : Nat → Nat) (S : MS) (x : Int32) (h20 : S.1 20 = 0) (hp : ∀ k, S.2.1 10 k = 0) : mCi l yX12_peakAt (Cond.code yX12_peakAt cX12_peakAt 5 (some .int) :: wsM) 2 21 D cI cJ cZ ad S [.int x] (fun r S1 => r = 0 ∧ S1 = mi S 0 1) := by
  intro sz
  refine Met.ofW (cc := cX12_peakAt) (maxL := 5) (ret := (some .int)) (by decide) rfl ?_
  intro p e s m args below meth c s₁ B hml hv
  obtain ⟨rfl, hsz, hP, hK, hD0, hR⟩ := hv
  have hx := B.exec
  have hb := B.bytes
  have hr := B.returns
  have hts := atoms_spec (ws := (Cond.code yX12_peakAt cX12_peakAt 5 (some .int) :: wsM)) B.pre
  have hown : s.vm.findClass RX12 = some m.cls := findClass_of_methodNamed B.named
  have hlocks := B.notSynchronized
  subst hsz
  have hD := hD0.self (sz := s.heap.size)
  generalize hAe : va_A (MW cI cJ cZ ad S) s.heap.size = A at hD ⊢
  have hA : ∀ q : Nat, s.heap.size ≤ q → A q := fun q h => by rw [← hAe]; exact Or.inr h
  have G : mG D cI cJ cZ ad A s.heap s.heap [] S := ⟨hP, hD, va_S.rf⟩
  have E : mE p c cX12_peakAt s m ([.ref (ad 0), .int x] : List Value).toArray (Cond.code yX12_peakAt cX12_peakAt 5 (some .int) :: wsM) D cI cJ cZ := ⟨hx, hb, hts, hown, hK, fun w h => .tail _ (iM_x h)⟩
  have hl := lv_entry ([.ref (ad 0), .int x]) (n := 5) (Nat.le_of_ble_eq_true rfl)
  rw [lg_entry_eq]
  generalize (lg_sl ([.ref (ad 0), .int x]) ++ List.replicate (5 - (lg_sl ([.ref (ad 0), .int x])).length) Slot.unset).toArray = ls at hl ⊢
  have hl : lv_has ls 5 [(0, .ref (ad 0)), (1, .int x)] := hl
  have hh : True := trivial
  refine lv_aload_n hx hb dX12_peakAt_0 rfl (lv_at hl 0 rfl) ?_
  refine lv_iconst (v := 1) hx hb dX12_peakAt_1 (by decide) ?_
  refine m_calli (As := [.int 1]) (rest := []) E G hA hR hml (n_mayAsk l D cI cJ cZ ad S 1 h20) (cwV 1 hts (gmV qM_319 qM_320 qM_321 qM_35 qM_304) rfl rfl rfl (by decide +kernel) ⟨Nat.le_of_ble_eq_true rfl, Nat.le_of_ble_eq_true rfl⟩) rfl hl.1 rfl (lv_room (Nat.le_of_ble_eq_true rfl)) dX12_peakAt_2 ⟨Nat.zero_le _, Nat.zero_le _⟩ (fun r1 S2 H locs hq G => ?_)
  obtain ⟨hq1, hq2⟩ := hq
  rw [hq2] at G
  refine lv_to (y := 0) hq1 ?_
  refine lv_if_ne (tgt := 10) hx hb dX12_peakAt_5 (by decide) (fun c3 => absurd (by decide +kernel) c3) (fun c3 => ?_)
  refine lv_iconst (v := 0) hx hb dX12_peakAt_8 (by decide) ?_
  exact W.iret (v := 0) hx hb hr (fun t ht hW => ⟨⟨0, (mi S 0 1), rfl, ⟨rfl, rfl⟩, ⟨by rw [ht]; exact G.1, va_K.moved hW.alike hK, G.2.1⟩⟩, G.2.2.F ht⟩) G.2.2.2.2 dX12_peakAt_9
set_option maxHeartbeats 4000000 in
set_option maxRecDepth 100000 in
theorem n_isPeak (l : Launch) (D : va_G) (cI cJ cZ : ClassId) (ad : Nat → Nat) (S : MS) (x : Int32) (h20 : S.1 20 = 0) (hp : ∀ k, S.2.1 10 k = 0) : mCi l yX12_isPeak (Cond.code yX12_isPeak cX12_isPeak 2 (some .boolean) :: wsM) 3 43 D cI cJ cZ ad S [.int x] (fun r S1 => r = 0 ∧ S1 = mi S 0 1) := by
  intro sz
  refine Met.ofW (cc := cX12_isPeak) (maxL := 2) (ret := (some .boolean)) (by decide) rfl ?_
  intro p e s m args below meth c s₁ B hml hv
  obtain ⟨rfl, hsz, hP, hK, hD0, hR⟩ := hv
  have hx := B.exec
  have hb := B.bytes
  have hr := B.returns
  have hts := atoms_spec (ws := (Cond.code yX12_isPeak cX12_isPeak 2 (some .boolean) :: wsM)) B.pre
  have hown : s.vm.findClass RX12 = some m.cls := findClass_of_methodNamed B.named
  have hlocks := B.notSynchronized
  subst hsz
  have hD := hD0.self (sz := s.heap.size)
  generalize hAe : va_A (MW cI cJ cZ ad S) s.heap.size = A at hD ⊢
  have hA : ∀ q : Nat, s.heap.size ≤ q → A q := fun q h => by rw [← hAe]; exact Or.inr h
  have G : mG D cI cJ cZ ad A s.heap s.heap [] S := ⟨hP, hD, va_S.rf⟩
  have E : mE p c cX12_isPeak s m ([.ref (ad 0), .int x] : List Value).toArray (Cond.code yX12_isPeak cX12_isPeak 2 (some .boolean) :: wsM) D cI cJ cZ := ⟨hx, hb, hts, hown, hK, fun w h => .tail _ (iM_x h)⟩
  have hl := lv_entry ([.ref (ad 0), .int x]) (n := 2) (Nat.le_of_ble_eq_true rfl)
  rw [lg_entry_eq]
  generalize (lg_sl ([.ref (ad 0), .int x]) ++ List.replicate (2 - (lg_sl ([.ref (ad 0), .int x])).length) Slot.unset).toArray = ls at hl ⊢
  have hl : lv_has ls 2 [(0, .ref (ad 0)), (1, .int x)] := hl
  have hh : True := trivial
  refine lv_aload_n hx hb dX12_isPeak_0 rfl (lv_at hl 0 rfl) ?_
  refine lv_aload_n hx hb dX12_isPeak_1 rfl (lv_at hl 0 rfl) ?_
  refine lv_iload_n hx hb dX12_isPeak_2 rfl (lv_at hl 1 rfl) ?_
  refine m_calli (As := [.int x]) (rest := [.ref (ad 0)]) E G hA hR hml (n_isCell l D cI cJ cZ ad S x h20 hp) (cwV 1 hts (gmV qM_326 qM_327 qM_328 qM_35 qM_307) rfl rfl rfl (by decide +kernel) ⟨Nat.le_of_ble_eq_true rfl, Nat.le_of_ble_eq_true rfl⟩) rfl hl.1 rfl (lv_room (Nat.le_of_ble_eq_true rfl)) dX12_isPeak_3 ⟨Nat.zero_le _, Nat.zero_le _⟩ (fun r1 S2 H locs hq G => ?_)
  obtain ⟨hq1, hq2⟩ := hq
  rw [hq2] at G
  refine lv_to (y := 0) hq1 ?_
  refine m_calli (As := [.int 0]) (rest := []) E G hA hR hml (n_mayAsk l D cI cJ cZ ad S 0 h20) (cwV 1 hts (gmV qM_319 qM_320 qM_321 qM_35 qM_304) rfl rfl rfl (by decide +kernel) ⟨Nat.le_of_ble_eq_true rfl, Nat.le_of_ble_eq_true rfl⟩) rfl hl.1 rfl (lv_room (Nat.le_of_ble_eq_true rfl)) dX12_isPeak_6 ⟨Nat.zero_le _, Nat.zero_le _⟩ (fun r3 S4 H locs hq G => ?_)
  obtain ⟨hq1, hq2⟩ := hq
  rw [hq2] at G
  refine lv_to (y := 0) hq1 ?_
  refine lv_if_ne (tgt := 14) hx hb dX12_isPeak_9 (by decide) (fun c5 => absurd (by decide +kernel) c5) (fun c5 => ?_)
  refine lv_iconst (v := 0) hx hb dX12_isPeak_12 (by decide) ?_
  exact W.zret (v := 0) hx hb hr rfl (fun t ht hW => ⟨⟨0, (mi S 0 1), rfl, ⟨rfl, rfl⟩, ⟨by rw [ht]; exact G.1, va_K.moved hW.alike hK, G.2.1⟩⟩, G.2.2.F ht⟩) G.2.2.2.2 dX12_isPeak_13
set_option maxHeartbeats 4000000 in
set_option maxRecDepth 100000 in
theorem n_zonePower (l : Launch) (D : va_G) (cI cJ cZ : ClassId) (ad : Nat → Nat) (S : MS) (x : Int32) (h20 : S.1 20 = 0) (hp : ∀ k, S.2.1 10 k = 0) : mCl l yX12_zonePower (Cond.code yX12_zonePower cX12_zonePower 5 (some .long) :: wsM) 3 43 D cI cJ cZ ad S [.int x] (fun r S1 => r = 0 ∧ S1 = mi S 0 1) := by
  intro sz
  refine Met.ofW (cc := cX12_zonePower) (maxL := 5) (ret := (some .long)) (by decide) rfl ?_
  intro p e s m args below meth c s₁ B hml hv
  obtain ⟨rfl, hsz, hP, hK, hD0, hR⟩ := hv
  have hx := B.exec
  have hb := B.bytes
  have hr := B.returns
  have hts := atoms_spec (ws := (Cond.code yX12_zonePower cX12_zonePower 5 (some .long) :: wsM)) B.pre
  have hown : s.vm.findClass RX12 = some m.cls := findClass_of_methodNamed B.named
  have hlocks := B.notSynchronized
  subst hsz
  have hD := hD0.self (sz := s.heap.size)
  generalize hAe : va_A (MW cI cJ cZ ad S) s.heap.size = A at hD ⊢
  have hA : ∀ q : Nat, s.heap.size ≤ q → A q := fun q h => by rw [← hAe]; exact Or.inr h
  have G : mG D cI cJ cZ ad A s.heap s.heap [] S := ⟨hP, hD, va_S.rf⟩
  have E : mE p c cX12_zonePower s m ([.ref (ad 0), .int x] : List Value).toArray (Cond.code yX12_zonePower cX12_zonePower 5 (some .long) :: wsM) D cI cJ cZ := ⟨hx, hb, hts, hown, hK, fun w h => .tail _ (iM_x h)⟩
  have hl := lv_entry ([.ref (ad 0), .int x]) (n := 5) (Nat.le_of_ble_eq_true rfl)
  rw [lg_entry_eq]
  generalize (lg_sl ([.ref (ad 0), .int x]) ++ List.replicate (5 - (lg_sl ([.ref (ad 0), .int x])).length) Slot.unset).toArray = ls at hl ⊢
  have hl : lv_has ls 5 [(0, .ref (ad 0)), (1, .int x)] := hl
  have hh : True := trivial
  refine lv_aload_n hx hb dX12_zonePower_0 rfl (lv_at hl 0 rfl) ?_
  refine lv_aload_n hx hb dX12_zonePower_1 rfl (lv_at hl 0 rfl) ?_
  refine lv_iload_n hx hb dX12_zonePower_2 rfl (lv_at hl 1 rfl) ?_
  refine m_calli (As := [.int x]) (rest := [.ref (ad 0)]) E G hA hR hml (n_isZone l D cI cJ cZ ad S x h20 hp) (cwV 1 hts (gmV qM_440 qM_441 qM_442 qM_35 qM_437) rfl rfl rfl (by decide +kernel) ⟨Nat.le_of_ble_eq_true rfl, Nat.le_of_ble_eq_true rfl⟩) rfl hl.1 rfl (lv_room (Nat.le_of_ble_eq_true rfl)) dX12_zonePower_3 ⟨Nat.zero_le _, Nat.zero_le _⟩ (fun r1 S2 H locs hq G => ?_)
  obtain ⟨hq1, hq2⟩ := hq
  rw [hq2] at G
  refine lv_to (y := 0) hq1 ?_
  refine m_calli (As := [.int 0]) (rest := []) E G hA hR hml (n_mayAsk l D cI cJ cZ ad S 0 h20) (cwV 1 hts (gmV qM_319 qM_320 qM_321 qM_35 qM_304) rfl rfl rfl (by decide +kernel) ⟨Nat.le_of_ble_eq_true rfl, Nat.le_of_ble_eq_true rfl⟩) rfl hl.1 rfl (lv_room (Nat.le_of_ble_eq_true rfl)) dX12_zonePower_6 ⟨Nat.zero_le _, Nat.zero_le _⟩ (fun r3 S4 H locs hq G => ?_)
  obtain ⟨hq1, hq2⟩ := hq
  rw [hq2] at G
  refine lv_to (y := 0) hq1 ?_
  refine lv_if_ne (tgt := 14) hx hb dX12_zonePower_9 (by decide) (fun c5 => absurd (by decide +kernel) c5) (fun c5 => ?_)
  refine lv_lconst (v := 0) hx hb dX12_zonePower_12 (by decide) ?_
  exact W.lret (v := 0) hx hb hr (fun t ht hW => ⟨⟨0, (mi S 0 1), rfl, ⟨rfl, rfl⟩, ⟨by rw [ht]; exact G.1, va_K.moved hW.alike hK, G.2.1⟩⟩, G.2.2.F ht⟩) G.2.2.2.2 dX12_zonePower_13
set_option maxHeartbeats 4000000 in
set_option maxRecDepth 100000 in
theorem n_zoneBest (l : Launch) (D : va_G) (cI cJ cZ : ClassId) (ad : Nat → Nat) (S : MS) (x : Int32) (h20 : S.1 20 = 0) (hp : ∀ k, S.2.1 10 k = 0) : mCi l yX12_zoneBest (Cond.code yX12_zoneBest cX12_zoneBest 4 (some .int) :: wsM) 3 43 D cI cJ cZ ad S [.int x] (fun r S1 => r = 0 ∧ S1 = mi S 0 1) := by
  intro sz
  refine Met.ofW (cc := cX12_zoneBest) (maxL := 4) (ret := (some .int)) (by decide) rfl ?_
  intro p e s m args below meth c s₁ B hml hv
  obtain ⟨rfl, hsz, hP, hK, hD0, hR⟩ := hv
  have hx := B.exec
  have hb := B.bytes
  have hr := B.returns
  have hts := atoms_spec (ws := (Cond.code yX12_zoneBest cX12_zoneBest 4 (some .int) :: wsM)) B.pre
  have hown : s.vm.findClass RX12 = some m.cls := findClass_of_methodNamed B.named
  have hlocks := B.notSynchronized
  subst hsz
  have hD := hD0.self (sz := s.heap.size)
  generalize hAe : va_A (MW cI cJ cZ ad S) s.heap.size = A at hD ⊢
  have hA : ∀ q : Nat, s.heap.size ≤ q → A q := fun q h => by rw [← hAe]; exact Or.inr h
  have G : mG D cI cJ cZ ad A s.heap s.heap [] S := ⟨hP, hD, va_S.rf⟩
  have E : mE p c cX12_zoneBest s m ([.ref (ad 0), .int x] : List Value).toArray (Cond.code yX12_zoneBest cX12_zoneBest 4 (some .int) :: wsM) D cI cJ cZ := ⟨hx, hb, hts, hown, hK, fun w h => .tail _ (iM_x h)⟩
  have hl := lv_entry ([.ref (ad 0), .int x]) (n := 4) (Nat.le_of_ble_eq_true rfl)
  rw [lg_entry_eq]
  generalize (lg_sl ([.ref (ad 0), .int x]) ++ List.replicate (4 - (lg_sl ([.ref (ad 0), .int x])).length) Slot.unset).toArray = ls at hl ⊢
  have hl : lv_has ls 4 [(0, .ref (ad 0)), (1, .int x)] := hl
  have hh : True := trivial
  refine lv_aload_n hx hb dX12_zoneBest_0 rfl (lv_at hl 0 rfl) ?_
  refine lv_aload_n hx hb dX12_zoneBest_1 rfl (lv_at hl 0 rfl) ?_
  refine lv_iload_n hx hb dX12_zoneBest_2 rfl (lv_at hl 1 rfl) ?_
  refine m_calli (As := [.int x]) (rest := [.ref (ad 0)]) E G hA hR hml (n_isZone l D cI cJ cZ ad S x h20 hp) (cwV 1 hts (gmV qM_440 qM_441 qM_442 qM_35 qM_437) rfl rfl rfl (by decide +kernel) ⟨Nat.le_of_ble_eq_true rfl, Nat.le_of_ble_eq_true rfl⟩) rfl hl.1 rfl (lv_room (Nat.le_of_ble_eq_true rfl)) dX12_zoneBest_3 ⟨Nat.zero_le _, Nat.zero_le _⟩ (fun r1 S2 H locs hq G => ?_)
  obtain ⟨hq1, hq2⟩ := hq
  rw [hq2] at G
  refine lv_to (y := 0) hq1 ?_
  refine m_calli (As := [.int 0]) (rest := []) E G hA hR hml (n_mayAsk l D cI cJ cZ ad S 0 h20) (cwV 1 hts (gmV qM_319 qM_320 qM_321 qM_35 qM_304) rfl rfl rfl (by decide +kernel) ⟨Nat.le_of_ble_eq_true rfl, Nat.le_of_ble_eq_true rfl⟩) rfl hl.1 rfl (lv_room (Nat.le_of_ble_eq_true rfl)) dX12_zoneBest_6 ⟨Nat.zero_le _, Nat.zero_le _⟩ (fun r3 S4 H locs hq G => ?_)
  obtain ⟨hq1, hq2⟩ := hq
  rw [hq2] at G
  refine lv_to (y := 0) hq1 ?_
  refine lv_if_ne (tgt := 14) hx hb dX12_zoneBest_9 (by decide) (fun c5 => absurd (by decide +kernel) c5) (fun c5 => ?_)
  refine lv_iconst (v := 0) hx hb dX12_zoneBest_12 (by decide) ?_
  exact W.iret (v := 0) hx hb hr (fun t ht hW => ⟨⟨0, (mi S 0 1), rfl, ⟨rfl, rfl⟩, ⟨by rw [ht]; exact G.1, va_K.moved hW.alike hK, G.2.1⟩⟩, G.2.2.F ht⟩) G.2.2.2.2 dX12_zoneBest_13
set_option maxHeartbeats 4000000 in
set_option maxRecDepth 100000 in
theorem n_alias (l : Launch) (D : va_G) (cI cJ cZ : ClassId) (ad : Nat → Nat) (S : MS) (x y z : Int32) (h20 : S.1 20 = 0) (hp : ∀ k, S.2.1 10 k = 0) : mCi l yX12_alias (Cond.code yX12_alias cX12_alias 4 (some .int) :: wsM) 3 43 D cI cJ cZ ad S [.int x, .int y, .int z] (fun r S1 => r = 0 ∧ S1 = mi S 0 1) := by
  intro sz
  refine Met.ofW (cc := cX12_alias) (maxL := 4) (ret := (some .int)) (by decide) rfl ?_
  intro p e s m args below meth c s₁ B hml hv
  obtain ⟨rfl, hsz, hP, hK, hD0, hR⟩ := hv
  have hx := B.exec
  have hb := B.bytes
  have hr := B.returns
  have hts := atoms_spec (ws := (Cond.code yX12_alias cX12_alias 4 (some .int) :: wsM)) B.pre
  have hown : s.vm.findClass RX12 = some m.cls := findClass_of_methodNamed B.named
  have hlocks := B.notSynchronized
  subst hsz
  have hD := hD0.self (sz := s.heap.size)
  generalize hAe : va_A (MW cI cJ cZ ad S) s.heap.size = A at hD ⊢
  have hA : ∀ q : Nat, s.heap.size ≤ q → A q := fun q h => by rw [← hAe]; exact Or.inr h
  have G : mG D cI cJ cZ ad A s.heap s.heap [] S := ⟨hP, hD, va_S.rf⟩
  have E : mE p c cX12_alias s m ([.ref (ad 0), .int x, .int y, .int z] : List Value).toArray (Cond.code yX12_alias cX12_alias 4 (some .int) :: wsM) D cI cJ cZ := ⟨hx, hb, hts, hown, hK, fun w h => .tail _ (iM_x h)⟩
  have hl := lv_entry ([.ref (ad 0), .int x, .int y, .int z]) (n := 4) (Nat.le_of_ble_eq_true rfl)
  rw [lg_entry_eq]
  generalize (lg_sl ([.ref (ad 0), .int x, .int y, .int z]) ++ List.replicate (4 - (lg_sl ([.ref (ad 0), .int x, .int y, .int z])).length) Slot.unset).toArray = ls at hl ⊢
  have hl : lv_has ls 4 [(0, .ref (ad 0)), (1, .int x), (2, .int y), (3, .int z)] := hl
  have hh : True := trivial
  refine lv_aload_n hx hb dX12_alias_0 rfl (lv_at hl 0 rfl) ?_
  refine lv_aload_n hx hb dX12_alias_1 rfl (lv_at hl 0 rfl) ?_
  refine lv_iload_n hx hb dX12_alias_2 rfl (lv_at hl 1 rfl) ?_
  refine m_calli (As := [.int x]) (rest := [.ref (ad 0)]) E G hA hR hml (n_isCell l D cI cJ cZ ad S x h20 hp) (cwV 1 hts (gmV qM_326 qM_327 qM_328 qM_35 qM_307) rfl rfl rfl (by decide +kernel) ⟨Nat.le_of_ble_eq_true rfl, Nat.le_of_ble_eq_true rfl⟩) rfl hl.1 rfl (lv_room (Nat.le_of_ble_eq_true rfl)) dX12_alias_3 ⟨Nat.zero_le _, Nat.zero_le _⟩ (fun r1 S2 H locs hq G => ?_)
  obtain ⟨hq1, hq2⟩ := hq
  rw [hq2] at G
  refine lv_to (y := 0) hq1 ?_
  refine lv_if_eq (tgt := 21) hx hb dX12_alias_6 (by decide) (fun c3 => ?_) (fun c3 => absurd (by decide +kernel) c3)
  refine lv_iconst (v := 0) hx hb dX12_alias_21 (by decide) ?_
  refine m_calli (As := [.int 0]) (rest := []) E G hA hR hml (n_mayAsk l D cI cJ cZ ad S 0 h20) (cwV 1 hts (gmV qM_319 qM_320 qM_321 qM_35 qM_304) rfl rfl rfl (by decide +kernel) ⟨Nat.le_of_ble_eq_true rfl, Nat.le_of_ble_eq_true rfl⟩) rfl hl.1 rfl (lv_room (Nat.le_of_ble_eq_true rfl)) dX12_alias_22 ⟨Nat.zero_le _, Nat.zero_le _⟩ (fun r4 S5 H locs hq G => ?_)
  obtain ⟨hq1, hq2⟩ := hq
  rw [hq2] at G
  refine lv_to (y := 0) hq1 ?_
  refine lv_if_ne (tgt := 30) hx hb dX12_alias_25 (by decide) (fun c6 => absurd (by decide +kernel) c6) (fun c6 => ?_)
  refine lv_iconst (v := 0) hx hb dX12_alias_28 (by decide) ?_
  exact W.iret (v := 0) hx hb hr (fun t ht hW => ⟨⟨0, (mi S 0 1), rfl, ⟨rfl, rfl⟩, ⟨by rw [ht]; exact G.1, va_K.moved hW.alike hK, G.2.1⟩⟩, G.2.2.F ht⟩) G.2.2.2.2 dX12_alias_29
set_option maxHeartbeats 4000000 in
set_option maxRecDepth 100000 in
theorem n_isAlias (l : Launch) (D : va_G) (cI cJ cZ : ClassId) (ad : Nat → Nat) (S : MS) (x y z : Int32) (h20 : S.1 20 = 0) (hp : ∀ k, S.2.1 10 k = 0) : mCi l yX12_isAlias (Cond.code yX12_isAlias cX12_isAlias 4 (some .boolean) :: wsM) 3 43 D cI cJ cZ ad S [.int x, .int y, .int z] (fun r S1 => r = 0 ∧ S1 = mi S 0 1) := by
  intro sz
  refine Met.ofW (cc := cX12_isAlias) (maxL := 4) (ret := (some .boolean)) (by decide) rfl ?_
  intro p e s m args below meth c s₁ B hml hv
  obtain ⟨rfl, hsz, hP, hK, hD0, hR⟩ := hv
  have hx := B.exec
  have hb := B.bytes
  have hr := B.returns
  have hts := atoms_spec (ws := (Cond.code yX12_isAlias cX12_isAlias 4 (some .boolean) :: wsM)) B.pre
  have hown : s.vm.findClass RX12 = some m.cls := findClass_of_methodNamed B.named
  have hlocks := B.notSynchronized
  subst hsz
  have hD := hD0.self (sz := s.heap.size)
  generalize hAe : va_A (MW cI cJ cZ ad S) s.heap.size = A at hD ⊢
  have hA : ∀ q : Nat, s.heap.size ≤ q → A q := fun q h => by rw [← hAe]; exact Or.inr h
  have G : mG D cI cJ cZ ad A s.heap s.heap [] S := ⟨hP, hD, va_S.rf⟩
  have E : mE p c cX12_isAlias s m ([.ref (ad 0), .int x, .int y, .int z] : List Value).toArray (Cond.code yX12_isAlias cX12_isAlias 4 (some .boolean) :: wsM) D cI cJ cZ := ⟨hx, hb, hts, hown, hK, fun w h => .tail _ (iM_x h)⟩
  have hl := lv_entry ([.ref (ad 0), .int x, .int y, .int z]) (n := 4) (Nat.le_of_ble_eq_true rfl)
  rw [lg_entry_eq]
  generalize (lg_sl ([.ref (ad 0), .int x, .int y, .int z]) ++ List.replicate (4 - (lg_sl ([.ref (ad 0), .int x, .int y, .int z])).length) Slot.unset).toArray = ls at hl ⊢
  have hl : lv_has ls 4 [(0, .ref (ad 0)), (1, .int x), (2, .int y), (3, .int z)] := hl
  have hh : True := trivial
  refine lv_aload_n hx hb dX12_isAlias_0 rfl (lv_at hl 0 rfl) ?_
  refine lv_aload_n hx hb dX12_isAlias_1 rfl (lv_at hl 0 rfl) ?_
  refine lv_iload_n hx hb dX12_isAlias_2 rfl (lv_at hl 1 rfl) ?_
  refine m_calli (As := [.int x]) (rest := [.ref (ad 0)]) E G hA hR hml (n_isCell l D cI cJ cZ ad S x h20 hp) (cwV 1 hts (gmV qM_326 qM_327 qM_328 qM_35 qM_307) rfl rfl rfl (by decide +kernel) ⟨Nat.le_of_ble_eq_true rfl, Nat.le_of_ble_eq_true rfl⟩) rfl hl.1 rfl (lv_room (Nat.le_of_ble_eq_true rfl)) dX12_isAlias_3 ⟨Nat.zero_le _, Nat.zero_le _⟩ (fun r1 S2 H locs hq G => ?_)
  obtain ⟨hq1, hq2⟩ := hq
  rw [hq2] at G
  refine lv_to (y := 0) hq1 ?_
  refine m_calli (As := [.int 0]) (rest := []) E G hA hR hml (n_mayAsk l D cI cJ cZ ad S 0 h20) (cwV 1 hts (gmV qM_319 qM_320 qM_321 qM_35 qM_304) rfl rfl rfl (by decide +kernel) ⟨Nat.le_of_ble_eq_true rfl, Nat.le_of_ble_eq_true rfl⟩) rfl hl.1 rfl (lv_room (Nat.le_of_ble_eq_true rfl)) dX12_isAlias_6 ⟨Nat.zero_le _, Nat.zero_le _⟩ (fun r3 S4 H locs hq G => ?_)
  obtain ⟨hq1, hq2⟩ := hq
  rw [hq2] at G
  refine lv_to (y := 0) hq1 ?_
  refine lv_if_ne (tgt := 14) hx hb dX12_isAlias_9 (by decide) (fun c5 => absurd (by decide +kernel) c5) (fun c5 => ?_)
  refine lv_iconst (v := 0) hx hb dX12_isAlias_12 (by decide) ?_
  exact W.zret (v := 0) hx hb hr rfl (fun t ht hW => ⟨⟨0, (mi S 0 1), rfl, ⟨rfl, rfl⟩, ⟨by rw [ht]; exact G.1, va_K.moved hW.alike hK, G.2.1⟩⟩, G.2.2.F ht⟩) G.2.2.2.2 dX12_isAlias_13
set_option maxHeartbeats 4000000 in
set_option maxRecDepth 100000 in
theorem n_aliases (l : Launch) (D : va_G) (cI cJ cZ : ClassId) (ad : Nat → Nat) (S : MS) (x y : Int32) (h20 : S.1 20 = 0) (hp : ∀ k, S.2.1 10 k = 0) : mCi l yX12_aliases (Cond.code yX12_aliases cX12_aliases 6 (some .int) :: wsM) 3 42 D cI cJ cZ ad S [.int x, .int y] (fun r S1 => r = 0 ∧ S1 = mi S 0 1) := by
  intro sz
  refine Met.ofW (cc := cX12_aliases) (maxL := 6) (ret := (some .int)) (by decide) rfl ?_
  intro p e s m args below meth c s₁ B hml hv
  obtain ⟨rfl, hsz, hP, hK, hD0, hR⟩ := hv
  have hx := B.exec
  have hb := B.bytes
  have hr := B.returns
  have hts := atoms_spec (ws := (Cond.code yX12_aliases cX12_aliases 6 (some .int) :: wsM)) B.pre
  have hown : s.vm.findClass RX12 = some m.cls := findClass_of_methodNamed B.named
  have hlocks := B.notSynchronized
  subst hsz
  have hD := hD0.self (sz := s.heap.size)
  generalize hAe : va_A (MW cI cJ cZ ad S) s.heap.size = A at hD ⊢
  have hA : ∀ q : Nat, s.heap.size ≤ q → A q := fun q h => by rw [← hAe]; exact Or.inr h
  have G : mG D cI cJ cZ ad A s.heap s.heap [] S := ⟨hP, hD, va_S.rf⟩
  have E : mE p c cX12_aliases s m ([.ref (ad 0), .int x, .int y] : List Value).toArray (Cond.code yX12_aliases cX12_aliases 6 (some .int) :: wsM) D cI cJ cZ := ⟨hx, hb, hts, hown, hK, fun w h => .tail _ (iM_x h)⟩
  have hl := lv_entry ([.ref (ad 0), .int x, .int y]) (n := 6) (Nat.le_of_ble_eq_true rfl)
  rw [lg_entry_eq]
  generalize (lg_sl ([.ref (ad 0), .int x, .int y]) ++ List.replicate (6 - (lg_sl ([.ref (ad 0), .int x, .int y])).length) Slot.unset).toArray = ls at hl ⊢
  have hl : lv_has ls 6 [(0, .ref (ad 0)), (1, .int x), (2, .int y)] := hl
  have hh : True := trivial
  refine lv_aload_n hx hb dX12_aliases_0 rfl (lv_at hl 0 rfl) ?_
  refine lv_iload_n hx hb dX12_aliases_1 rfl (lv_at hl 1 rfl) ?_
  refine m_stat (As := [.int x]) (rest := [.ref (ad 0)]) ⟨hx, hb, hml, hown, hts⟩ (m_isPeriod l x) (cwS 1 hts (gmS qM_386 qM_387 qM_35 qM_310) rfl rfl rfl (by decide +kernel) ⟨Nat.le_of_ble_eq_true rfl, Nat.le_of_ble_eq_true rfl⟩) rfl hl.1 rfl (lv_room (Nat.le_of_ble_eq_true rfl)) dX12_aliases_2 ⟨Nat.zero_le _, Nat.zero_le _⟩ (fun r1 hq => ?_)
  refine lv_if_eq (tgt := 19) hx hb dX12_aliases_5 (by decide) (fun c2 => ?_) (fun c2 => ?_)
  · refine lv_iconst (v := 0) hx hb dX12_aliases_19 (by decide) ?_
    refine m_calli (As := [.int 0]) (rest := []) E G hA hR hml (n_mayAsk l D cI cJ cZ ad S 0 h20) (cwV 1 hts (gmV qM_319 qM_320 qM_321 qM_35 qM_304) rfl rfl rfl (by decide +kernel) ⟨Nat.le_of_ble_eq_true rfl, Nat.le_of_ble_eq_true rfl⟩) rfl hl.1 rfl (lv_room (Nat.le_of_ble_eq_true rfl)) dX12_aliases_20 ⟨Nat.zero_le _, Nat.zero_le _⟩ (fun r3 S4 H locs hq G => ?_)
    obtain ⟨hq1, hq2⟩ := hq
    rw [hq2] at G
    refine lv_to (y := 0) hq1 ?_
    refine lv_if_ne (tgt := 28) hx hb dX12_aliases_23 (by decide) (fun c5 => absurd (by decide +kernel) c5) (fun c5 => ?_)
    refine lv_iconst (v := 0) hx hb dX12_aliases_26 (by decide) ?_
    exact W.iret (v := 0) hx hb hr (fun t ht hW => ⟨⟨0, (mi S 0 1), rfl, ⟨rfl, rfl⟩, ⟨by rw [ht]; exact G.1, va_K.moved hW.alike hK, G.2.1⟩⟩, G.2.2.F ht⟩) G.2.2.2.2 dX12_aliases_27
  · refine lv_iload_n hx hb dX12_aliases_8 rfl (lv_at hl 2 rfl) ?_
    refine m_stat (As := [.int y]) (rest := [.ref (ad 0)]) ⟨hx, hb, hml, hown, hts⟩ (m_isShare l y) (cwS 1 hts (gmS qM_394 qM_395 qM_35 qM_392) rfl rfl rfl (by decide +kernel) ⟨Nat.le_of_ble_eq_true rfl, Nat.le_of_ble_eq_true rfl⟩) rfl hl.1 rfl (lv_room (Nat.le_of_ble_eq_true rfl)) dX12_aliases_9 ⟨Nat.zero_le _, Nat.zero_le _⟩ (fun r6 hq => ?_)
    refine lv_if_eq (tgt := 19) hx hb dX12_aliases_12 (by decide) (fun c7 => ?_) (fun c7 => ?_)
    · refine lv_iconst (v := 0) hx hb dX12_aliases_19 (by decide) ?_
      refine m_calli (As := [.int 0]) (rest := []) E G hA hR hml (n_mayAsk l D cI cJ cZ ad S 0 h20) (cwV 1 hts (gmV qM_319 qM_320 qM_321 qM_35 qM_304) rfl rfl rfl (by decide +kernel) ⟨Nat.le_of_ble_eq_true rfl, Nat.le_of_ble_eq_true rfl⟩) rfl hl.1 rfl (lv_room (Nat.le_of_ble_eq_true rfl)) dX12_aliases_20 ⟨Nat.zero_le _, Nat.zero_le _⟩ (fun r8 S9 H locs hq G => ?_)
      obtain ⟨hq1, hq2⟩ := hq
      rw [hq2] at G
      refine lv_to (y := 0) hq1 ?_
      refine lv_if_ne (tgt := 28) hx hb dX12_aliases_23 (by decide) (fun c10 => absurd (by decide +kernel) c10) (fun c10 => ?_)
      refine lv_iconst (v := 0) hx hb dX12_aliases_26 (by decide) ?_
      exact W.iret (v := 0) hx hb hr (fun t ht hW => ⟨⟨0, (mi S 0 1), rfl, ⟨rfl, rfl⟩, ⟨by rw [ht]; exact G.1, va_K.moved hW.alike hK, G.2.1⟩⟩, G.2.2.F ht⟩) G.2.2.2.2 dX12_aliases_27
    · refine lv_iconst (v := 1) hx hb dX12_aliases_15 (by decide) ?_
      refine lv_goto (tgt := 20) hx hb dX12_aliases_16 (by decide) ?_
      refine m_calli (As := [.int 1]) (rest := []) E G hA hR hml (n_mayAsk l D cI cJ cZ ad S 1 h20) (cwV 1 hts (gmV qM_319 qM_320 qM_321 qM_35 qM_304) rfl rfl rfl (by decide +kernel) ⟨Nat.le_of_ble_eq_true rfl, Nat.le_of_ble_eq_true rfl⟩) rfl hl.1 rfl (lv_room (Nat.le_of_ble_eq_true rfl)) dX12_aliases_20 ⟨Nat.zero_le _, Nat.zero_le _⟩ (fun r11 S12 H locs hq G => ?_)
      obtain ⟨hq1, hq2⟩ := hq
      rw [hq2] at G
      refine lv_to (y := 0) hq1 ?_
      refine lv_if_ne (tgt := 28) hx hb dX12_aliases_23 (by decide) (fun c13 => absurd (by decide +kernel) c13) (fun c13 => ?_)
      refine lv_iconst (v := 0) hx hb dX12_aliases_26 (by decide) ?_
      exact W.iret (v := 0) hx hb hr (fun t ht hW => ⟨⟨0, (mi S 0 1), rfl, ⟨rfl, rfl⟩, ⟨by rw [ht]; exact G.1, va_K.moved hW.alike hK, G.2.1⟩⟩, G.2.2.F ht⟩) G.2.2.2.2 dX12_aliases_27
set_option maxHeartbeats 4000000 in
set_option maxRecDepth 100000 in
theorem n_blockPower (l : Launch) (D : va_G) (cI cJ cZ : ClassId) (ad : Nat → Nat) (S : MS) (x y z : Int32) (h20 : S.1 20 = 0) (hp : ∀ k, S.2.1 10 k = 0) : mCl l yX12_blockPower (Cond.code yX12_blockPower cX12_blockPower 4 (some .long) :: wsM) 3 43 D cI cJ cZ ad S [.int x, .int y, .int z] (fun r S1 => r = 0 ∧ S1 = mi S 0 1) := by
  intro sz
  refine Met.ofW (cc := cX12_blockPower) (maxL := 4) (ret := (some .long)) (by decide) rfl ?_
  intro p e s m args below meth c s₁ B hml hv
  obtain ⟨rfl, hsz, hP, hK, hD0, hR⟩ := hv
  have hx := B.exec
  have hb := B.bytes
  have hr := B.returns
  have hts := atoms_spec (ws := (Cond.code yX12_blockPower cX12_blockPower 4 (some .long) :: wsM)) B.pre
  have hown : s.vm.findClass RX12 = some m.cls := findClass_of_methodNamed B.named
  have hlocks := B.notSynchronized
  subst hsz
  have hD := hD0.self (sz := s.heap.size)
  generalize hAe : va_A (MW cI cJ cZ ad S) s.heap.size = A at hD ⊢
  have hA : ∀ q : Nat, s.heap.size ≤ q → A q := fun q h => by rw [← hAe]; exact Or.inr h
  have G : mG D cI cJ cZ ad A s.heap s.heap [] S := ⟨hP, hD, va_S.rf⟩
  have E : mE p c cX12_blockPower s m ([.ref (ad 0), .int x, .int y, .int z] : List Value).toArray (Cond.code yX12_blockPower cX12_blockPower 4 (some .long) :: wsM) D cI cJ cZ := ⟨hx, hb, hts, hown, hK, fun w h => .tail _ (iM_x h)⟩
  have hl := lv_entry ([.ref (ad 0), .int x, .int y, .int z]) (n := 4) (Nat.le_of_ble_eq_true rfl)
  rw [lg_entry_eq]
  generalize (lg_sl ([.ref (ad 0), .int x, .int y, .int z]) ++ List.replicate (4 - (lg_sl ([.ref (ad 0), .int x, .int y, .int z])).length) Slot.unset).toArray = ls at hl ⊢
  have hl : lv_has ls 4 [(0, .ref (ad 0)), (1, .int x), (2, .int y), (3, .int z)] := hl
  have hh : True := trivial
  refine lv_aload_n hx hb dX12_blockPower_0 rfl (lv_at hl 0 rfl) ?_
  refine lv_aload_n hx hb dX12_blockPower_1 rfl (lv_at hl 0 rfl) ?_
  refine lv_iload_n hx hb dX12_blockPower_2 rfl (lv_at hl 1 rfl) ?_
  refine m_calli (As := [.int x]) (rest := [.ref (ad 0)]) E G hA hR hml (n_isCell l D cI cJ cZ ad S x h20 hp) (cwV 1 hts (gmV qM_326 qM_327 qM_328 qM_35 qM_307) rfl rfl rfl (by decide +kernel) ⟨Nat.le_of_ble_eq_true rfl, Nat.le_of_ble_eq_true rfl⟩) rfl hl.1 rfl (lv_room (Nat.le_of_ble_eq_true rfl)) dX12_blockPower_3 ⟨Nat.zero_le _, Nat.zero_le _⟩ (fun r1 S2 H locs hq G => ?_)
  obtain ⟨hq1, hq2⟩ := hq
  rw [hq2] at G
  refine lv_to (y := 0) hq1 ?_
  refine m_calli (As := [.int 0]) (rest := []) E G hA hR hml (n_mayAsk l D cI cJ cZ ad S 0 h20) (cwV 1 hts (gmV qM_319 qM_320 qM_321 qM_35 qM_304) rfl rfl rfl (by decide +kernel) ⟨Nat.le_of_ble_eq_true rfl, Nat.le_of_ble_eq_true rfl⟩) rfl hl.1 rfl (lv_room (Nat.le_of_ble_eq_true rfl)) dX12_blockPower_6 ⟨Nat.zero_le _, Nat.zero_le _⟩ (fun r3 S4 H locs hq G => ?_)
  obtain ⟨hq1, hq2⟩ := hq
  rw [hq2] at G
  refine lv_to (y := 0) hq1 ?_
  refine lv_if_ne (tgt := 14) hx hb dX12_blockPower_9 (by decide) (fun c5 => absurd (by decide +kernel) c5) (fun c5 => ?_)
  refine lv_lconst (v := 0) hx hb dX12_blockPower_12 (by decide) ?_
  exact W.lret (v := 0) hx hb hr (fun t ht hW => ⟨⟨0, (mi S 0 1), rfl, ⟨rfl, rfl⟩, ⟨by rw [ht]; exact G.1, va_K.moved hW.alike hK, G.2.1⟩⟩, G.2.2.F ht⟩) G.2.2.2.2 dX12_blockPower_13
set_option maxHeartbeats 4000000 in
set_option maxRecDepth 100000 in
theorem n_blockBest (l : Launch) (D : va_G) (cI cJ cZ : ClassId) (ad : Nat → Nat) (S : MS) (x y : Int32) (h20 : S.1 20 = 0) (hp : ∀ k, S.2.1 10 k = 0) : mCi l yX12_blockBest (Cond.code yX12_blockBest cX12_blockBest 3 (some .int) :: wsM) 4 65 D cI cJ cZ ad S [.int x, .int y] (fun r S1 => r = 0 ∧ S1 = mi S 0 1) := by
  intro sz
  refine Met.ofW (cc := cX12_blockBest) (maxL := 3) (ret := (some .int)) (by decide) rfl ?_
  intro p e s m args below meth c s₁ B hml hv
  obtain ⟨rfl, hsz, hP, hK, hD0, hR⟩ := hv
  have hx := B.exec
  have hb := B.bytes
  have hr := B.returns
  have hts := atoms_spec (ws := (Cond.code yX12_blockBest cX12_blockBest 3 (some .int) :: wsM)) B.pre
  have hown : s.vm.findClass RX12 = some m.cls := findClass_of_methodNamed B.named
  have hlocks := B.notSynchronized
  subst hsz
  have hD := hD0.self (sz := s.heap.size)
  generalize hAe : va_A (MW cI cJ cZ ad S) s.heap.size = A at hD ⊢
  have hA : ∀ q : Nat, s.heap.size ≤ q → A q := fun q h => by rw [← hAe]; exact Or.inr h
  have G : mG D cI cJ cZ ad A s.heap s.heap [] S := ⟨hP, hD, va_S.rf⟩
  have E : mE p c cX12_blockBest s m ([.ref (ad 0), .int x, .int y] : List Value).toArray (Cond.code yX12_blockBest cX12_blockBest 3 (some .int) :: wsM) D cI cJ cZ := ⟨hx, hb, hts, hown, hK, fun w h => .tail _ (iM_x h)⟩
  have hl := lv_entry ([.ref (ad 0), .int x, .int y]) (n := 3) (Nat.le_of_ble_eq_true rfl)
  rw [lg_entry_eq]
  generalize (lg_sl ([.ref (ad 0), .int x, .int y]) ++ List.replicate (3 - (lg_sl ([.ref (ad 0), .int x, .int y])).length) Slot.unset).toArray = ls at hl ⊢
  have hl : lv_has ls 3 [(0, .ref (ad 0)), (1, .int x), (2, .int y)] := hl
  have hh : True := trivial
  refine lv_aload_n hx hb dX12_blockBest_0 rfl (lv_at hl 0 rfl) ?_
  refine lv_aload_n hx hb dX12_blockBest_1 rfl (lv_at hl 0 rfl) ?_
  refine lv_iload_n hx hb dX12_blockBest_2 rfl (lv_at hl 1 rfl) ?_
  refine lv_iload_n hx hb dX12_blockBest_3 rfl (lv_at hl 2 rfl) ?_
  refine m_calli (As := [.int x, .int y]) (rest := [.ref (ad 0)]) E G hA hR hml (n_isBlock l D cI cJ cZ ad S x y h20 hp) (cwV 2 hts (gmV qM_403 qM_404 qM_405 qM_35 qM_401) rfl rfl rfl (by decide +kernel) ⟨Nat.le_of_ble_eq_true rfl, Nat.le_of_ble_eq_true rfl⟩) rfl hl.1 rfl (lv_room (Nat.le_of_ble_eq_true rfl)) dX12_blockBest_4 ⟨Nat.zero_le _, Nat.zero_le _⟩ (fun r1 S2 H locs hq G => ?_)
  obtain ⟨hq1, hq2⟩ := hq
  rw [hq2] at G
  refine lv_to (y := 0) hq1 ?_
  refine m_calli (As := [.int 0]) (rest := []) E G hA hR hml (n_mayAsk l D cI cJ cZ ad S 0 h20) (cwV 1 hts (gmV qM_319 qM_320 qM_321 qM_35 qM_304) rfl rfl rfl (by decide +kernel) ⟨Nat.le_of_ble_eq_true rfl, Nat.le_of_ble_eq_true rfl⟩) rfl hl.1 rfl (lv_room (Nat.le_of_ble_eq_true rfl)) dX12_blockBest_7 ⟨Nat.zero_le _, Nat.zero_le _⟩ (fun r3 S4 H locs hq G => ?_)
  obtain ⟨hq1, hq2⟩ := hq
  rw [hq2] at G
  refine lv_to (y := 0) hq1 ?_
  refine lv_if_eq (tgt := 22) hx hb dX12_blockBest_10 (by decide) (fun c5 => ?_) (fun c5 => absurd (by decide +kernel) c5)
  refine lv_iconst (v := 0) hx hb dX12_blockBest_22 (by decide) ?_
  exact W.iret (v := 0) hx hb hr (fun t ht hW => ⟨⟨0, (mi S 0 1), rfl, ⟨rfl, rfl⟩, ⟨by rw [ht]; exact G.1, va_K.moved hW.alike hK, G.2.1⟩⟩, G.2.2.F ht⟩) G.2.2.2.2 dX12_blockBest_23
set_option maxHeartbeats 4000000 in
set_option maxRecDepth 100000 in
theorem n_path (l : Launch) (D : va_G) (cI cJ cZ : ClassId) (ad : Nat → Nat) (S : MS) (x : Int32) (h20 : S.1 20 = 0) (hp : ∀ k, S.2.1 10 k = 0) : mCi l yX12_path (Cond.code yX12_path cX12_path 6 (some .int) :: wsM) 2 22 D cI cJ cZ ad S [.int x] (fun r S1 => r = 0 ∧ S1 = mi S 0 1) := by
  intro sz
  refine Met.ofW (cc := cX12_path) (maxL := 6) (ret := (some .int)) (by decide) rfl ?_
  intro p e s m args below meth c s₁ B hml hv
  obtain ⟨rfl, hsz, hP, hK, hD0, hR⟩ := hv
  have hx := B.exec
  have hb := B.bytes
  have hr := B.returns
  have hts := atoms_spec (ws := (Cond.code yX12_path cX12_path 6 (some .int) :: wsM)) B.pre
  have hown : s.vm.findClass RX12 = some m.cls := findClass_of_methodNamed B.named
  have hlocks := B.notSynchronized
  subst hsz
  have hD := hD0.self (sz := s.heap.size)
  generalize hAe : va_A (MW cI cJ cZ ad S) s.heap.size = A at hD ⊢
  have hA : ∀ q : Nat, s.heap.size ≤ q → A q := fun q h => by rw [← hAe]; exact Or.inr h
  have G : mG D cI cJ cZ ad A s.heap s.heap [] S := ⟨hP, hD, va_S.rf⟩
  have E : mE p c cX12_path s m ([.ref (ad 0), .int x] : List Value).toArray (Cond.code yX12_path cX12_path 6 (some .int) :: wsM) D cI cJ cZ := ⟨hx, hb, hts, hown, hK, fun w h => .tail _ (iM_x h)⟩
  have hl := lv_entry ([.ref (ad 0), .int x]) (n := 6) (Nat.le_of_ble_eq_true rfl)
  rw [lg_entry_eq]
  generalize (lg_sl ([.ref (ad 0), .int x]) ++ List.replicate (6 - (lg_sl ([.ref (ad 0), .int x])).length) Slot.unset).toArray = ls at hl ⊢
  have hl : lv_has ls 6 [(0, .ref (ad 0)), (1, .int x)] := hl
  have hh : True := trivial
  refine lv_aload_n hx hb dX12_path_0 rfl (lv_at hl 0 rfl) ?_
  refine lv_iload_n hx hb dX12_path_1 rfl (lv_at hl 1 rfl) ?_
  refine lv_iconst (v := 4) hx hb dX12_path_2 (by decide) ?_
  refine lv_aload_n hx hb dX12_path_3 rfl (lv_at hl 0 rfl) ?_
  refine m_get E G 10 (v := .ref (ad 10)) (by decide) (.tail _ qM_7) rfl dX12_path_4 rfl ?_
  refine lv_iconst (v := 2) hx hb dX12_path_7 (by decide) ?_
  refine m_iald E G 10 2 (n := 131) (k := 2) rfl rfl (by decide) (by decide) dX12_path_8 ?_
  refine lv_to (y := 0) (hp _) ?_
  refine m_stat (As := [.int x, .int 4, .int 0]) (rest := [.ref (ad 0)]) ⟨hx, hb, hml, hown, hts⟩ (m_in l x 4 0) (cwS 3 hts (gmS qM_52 qM_53 qM_35 qM_27) rfl rfl rfl (by decide +kernel) ⟨Nat.le_of_ble_eq_true rfl, Nat.le_of_ble_eq_true rfl⟩) rfl hl.1 rfl (lv_room (Nat.le_of_ble_eq_true rfl)) dX12_path_9 ⟨Nat.zero_le _, Nat.zero_le _⟩ (fun r1 hq => ?_)
  obtain rfl : r1 = 0 := hq.trans (m_noin (by decide +kernel))
  refine m_calli (As := [.int 0]) (rest := []) E G hA hR hml (n_mayAsk l D cI cJ cZ ad S 0 h20) (cwV 1 hts (gmV qM_319 qM_320 qM_321 qM_35 qM_304) rfl rfl rfl (by decide +kernel) ⟨Nat.le_of_ble_eq_true rfl, Nat.le_of_ble_eq_true rfl⟩) rfl hl.1 rfl (lv_room (Nat.le_of_ble_eq_true rfl)) dX12_path_12 ⟨Nat.zero_le _, Nat.zero_le _⟩ (fun r2 S3 H locs hq G => ?_)
  obtain ⟨hq1, hq2⟩ := hq
  rw [hq2] at G
  refine lv_to (y := 0) hq1 ?_
  refine lv_if_ne (tgt := 20) hx hb dX12_path_15 (by decide) (fun c4 => absurd (by decide +kernel) c4) (fun c4 => ?_)
  refine lv_iconst (v := 0) hx hb dX12_path_18 (by decide) ?_
  exact W.iret (v := 0) hx hb hr (fun t ht hW => ⟨⟨0, (mi S 0 1), rfl, ⟨rfl, rfl⟩, ⟨by rw [ht]; exact G.1, va_K.moved hW.alike hK, G.2.1⟩⟩, G.2.2.F ht⟩) G.2.2.2.2 dX12_path_19
set_option maxHeartbeats 4000000 in
set_option maxRecDepth 100000 in
theorem n_trackScore (l : Launch) (D : va_G) (cI cJ cZ : ClassId) (ad : Nat → Nat) (S : MS) (x : Int32) (h20 : S.1 20 = 0) (hp : ∀ k, S.2.1 10 k = 0) : mCl l yX12_trackScore (Cond.code yX12_trackScore cX12_trackScore 2 (some .long) :: wsM) 3 43 D cI cJ cZ ad S [.int x] (fun r S1 => r = 0 ∧ S1 = mi S 0 1) := by
  intro sz
  refine Met.ofW (cc := cX12_trackScore) (maxL := 2) (ret := (some .long)) (by decide) rfl ?_
  intro p e s m args below meth c s₁ B hml hv
  obtain ⟨rfl, hsz, hP, hK, hD0, hR⟩ := hv
  have hx := B.exec
  have hb := B.bytes
  have hr := B.returns
  have hts := atoms_spec (ws := (Cond.code yX12_trackScore cX12_trackScore 2 (some .long) :: wsM)) B.pre
  have hown : s.vm.findClass RX12 = some m.cls := findClass_of_methodNamed B.named
  have hlocks := B.notSynchronized
  subst hsz
  have hD := hD0.self (sz := s.heap.size)
  generalize hAe : va_A (MW cI cJ cZ ad S) s.heap.size = A at hD ⊢
  have hA : ∀ q : Nat, s.heap.size ≤ q → A q := fun q h => by rw [← hAe]; exact Or.inr h
  have G : mG D cI cJ cZ ad A s.heap s.heap [] S := ⟨hP, hD, va_S.rf⟩
  have E : mE p c cX12_trackScore s m ([.ref (ad 0), .int x] : List Value).toArray (Cond.code yX12_trackScore cX12_trackScore 2 (some .long) :: wsM) D cI cJ cZ := ⟨hx, hb, hts, hown, hK, fun w h => .tail _ (iM_x h)⟩
  have hl := lv_entry ([.ref (ad 0), .int x]) (n := 2) (Nat.le_of_ble_eq_true rfl)
  rw [lg_entry_eq]
  generalize (lg_sl ([.ref (ad 0), .int x]) ++ List.replicate (2 - (lg_sl ([.ref (ad 0), .int x])).length) Slot.unset).toArray = ls at hl ⊢
  have hl : lv_has ls 2 [(0, .ref (ad 0)), (1, .int x)] := hl
  have hh : True := trivial
  refine lv_aload_n hx hb dX12_trackScore_0 rfl (lv_at hl 0 rfl) ?_
  refine lv_aload_n hx hb dX12_trackScore_1 rfl (lv_at hl 0 rfl) ?_
  refine lv_iload_n hx hb dX12_trackScore_2 rfl (lv_at hl 1 rfl) ?_
  refine m_calli (As := [.int x]) (rest := [.ref (ad 0)]) E G hA hR hml (n_isLength l D cI cJ cZ ad S x h20 hp) (cwV 1 hts (gmV qM_430 qM_431 qM_432 qM_35 qM_428) rfl rfl rfl (by decide +kernel) ⟨Nat.le_of_ble_eq_true rfl, Nat.le_of_ble_eq_true rfl⟩) rfl hl.1 rfl (lv_room (Nat.le_of_ble_eq_true rfl)) dX12_trackScore_3 ⟨Nat.zero_le _, Nat.zero_le _⟩ (fun r1 S2 H locs hq G => ?_)
  obtain ⟨hq1, hq2⟩ := hq
  rw [hq2] at G
  refine lv_to (y := 0) hq1 ?_
  refine m_calli (As := [.int 0]) (rest := []) E G hA hR hml (n_mayAsk l D cI cJ cZ ad S 0 h20) (cwV 1 hts (gmV qM_319 qM_320 qM_321 qM_35 qM_304) rfl rfl rfl (by decide +kernel) ⟨Nat.le_of_ble_eq_true rfl, Nat.le_of_ble_eq_true rfl⟩) rfl hl.1 rfl (lv_room (Nat.le_of_ble_eq_true rfl)) dX12_trackScore_6 ⟨Nat.zero_le _, Nat.zero_le _⟩ (fun r3 S4 H locs hq G => ?_)
  obtain ⟨hq1, hq2⟩ := hq
  rw [hq2] at G
  refine lv_to (y := 0) hq1 ?_
  refine lv_if_ne (tgt := 14) hx hb dX12_trackScore_9 (by decide) (fun c5 => absurd (by decide +kernel) c5) (fun c5 => ?_)
  refine lv_lconst (v := 0) hx hb dX12_trackScore_12 (by decide) ?_
  exact W.lret (v := 0) hx hb hr (fun t ht hW => ⟨⟨0, (mi S 0 1), rfl, ⟨rfl, rfl⟩, ⟨by rw [ht]; exact G.1, va_K.moved hW.alike hK, G.2.1⟩⟩, G.2.2.F ht⟩) G.2.2.2.2 dX12_trackScore_13
set_option maxHeartbeats 4000000 in
set_option maxRecDepth 100000 in
theorem n_trackCell (l : Launch) (D : va_G) (cI cJ cZ : ClassId) (ad : Nat → Nat) (S : MS) (x y : Int32) (h20 : S.1 20 = 0) (hp : ∀ k, S.2.1 10 k = 0) : mCi l yX12_trackCell (Cond.code yX12_trackCell cX12_trackCell 5 (some .int) :: wsM) 3 43 D cI cJ cZ ad S [.int x, .int y] (fun r S1 => r = 0 ∧ S1 = mi S 0 1) := by
  intro sz
  refine Met.ofW (cc := cX12_trackCell) (maxL := 5) (ret := (some .int)) (by decide) rfl ?_
  intro p e s m args below meth c s₁ B hml hv
  obtain ⟨rfl, hsz, hP, hK, hD0, hR⟩ := hv
  have hx := B.exec
  have hb := B.bytes
  have hr := B.returns
  have hts := atoms_spec (ws := (Cond.code yX12_trackCell cX12_trackCell 5 (some .int) :: wsM)) B.pre
  have hown : s.vm.findClass RX12 = some m.cls := findClass_of_methodNamed B.named
  have hlocks := B.notSynchronized
  subst hsz
  have hD := hD0.self (sz := s.heap.size)
  generalize hAe : va_A (MW cI cJ cZ ad S) s.heap.size = A at hD ⊢
  have hA : ∀ q : Nat, s.heap.size ≤ q → A q := fun q h => by rw [← hAe]; exact Or.inr h
  have G : mG D cI cJ cZ ad A s.heap s.heap [] S := ⟨hP, hD, va_S.rf⟩
  have E : mE p c cX12_trackCell s m ([.ref (ad 0), .int x, .int y] : List Value).toArray (Cond.code yX12_trackCell cX12_trackCell 5 (some .int) :: wsM) D cI cJ cZ := ⟨hx, hb, hts, hown, hK, fun w h => .tail _ (iM_x h)⟩
  have hl := lv_entry ([.ref (ad 0), .int x, .int y]) (n := 5) (Nat.le_of_ble_eq_true rfl)
  rw [lg_entry_eq]
  generalize (lg_sl ([.ref (ad 0), .int x, .int y]) ++ List.replicate (5 - (lg_sl ([.ref (ad 0), .int x, .int y])).length) Slot.unset).toArray = ls at hl ⊢
  have hl : lv_has ls 5 [(0, .ref (ad 0)), (1, .int x), (2, .int y)] := hl
  have hh : True := trivial
  refine lv_aload_n hx hb dX12_trackCell_0 rfl (lv_at hl 0 rfl) ?_
  refine lv_aload_n hx hb dX12_trackCell_1 rfl (lv_at hl 0 rfl) ?_
  refine lv_iload_n hx hb dX12_trackCell_2 rfl (lv_at hl 1 rfl) ?_
  refine m_calli (As := [.int x]) (rest := [.ref (ad 0)]) E G hA hR hml (n_isLength l D cI cJ cZ ad S x h20 hp) (cwV 1 hts (gmV qM_430 qM_431 qM_432 qM_35 qM_428) rfl rfl rfl (by decide +kernel) ⟨Nat.le_of_ble_eq_true rfl, Nat.le_of_ble_eq_true rfl⟩) rfl hl.1 rfl (lv_room (Nat.le_of_ble_eq_true rfl)) dX12_trackCell_3 ⟨Nat.zero_le _, Nat.zero_le _⟩ (fun r1 S2 H locs hq G => ?_)
  obtain ⟨hq1, hq2⟩ := hq
  rw [hq2] at G
  refine lv_to (y := 0) hq1 ?_
  refine lv_if_eq (tgt := 24) hx hb dX12_trackCell_6 (by decide) (fun c3 => ?_) (fun c3 => absurd (by decide +kernel) c3)
  refine lv_iconst (v := 1) hx hb dX12_trackCell_24 (by decide) ?_
  refine lv_goto (tgt := 29) hx hb dX12_trackCell_25 (by decide) ?_
  refine m_calli (As := [.int 1]) (rest := []) E G hA hR hml (n_mayAsk l D cI cJ cZ ad S 1 h20) (cwV 1 hts (gmV qM_319 qM_320 qM_321 qM_35 qM_304) rfl rfl rfl (by decide +kernel) ⟨Nat.le_of_ble_eq_true rfl, Nat.le_of_ble_eq_true rfl⟩) rfl hl.1 rfl (lv_room (Nat.le_of_ble_eq_true rfl)) dX12_trackCell_29 ⟨Nat.zero_le _, Nat.zero_le _⟩ (fun r4 S5 H locs hq G => ?_)
  obtain ⟨hq1, hq2⟩ := hq
  rw [hq2] at G
  refine lv_to (y := 0) hq1 ?_
  refine lv_if_ne (tgt := 37) hx hb dX12_trackCell_32 (by decide) (fun c6 => absurd (by decide +kernel) c6) (fun c6 => ?_)
  refine lv_iconst (v := 0) hx hb dX12_trackCell_35 (by decide) ?_
  exact W.iret (v := 0) hx hb hr (fun t ht hW => ⟨⟨0, (mi S 0 1), rfl, ⟨rfl, rfl⟩, ⟨by rw [ht]; exact G.1, va_K.moved hW.alike hK, G.2.1⟩⟩, G.2.2.F ht⟩) G.2.2.2.2 dX12_trackCell_36
set_option maxHeartbeats 4000000 in
set_option maxRecDepth 100000 in
theorem n_movingPower (l : Launch) (D : va_G) (cI cJ cZ : ClassId) (ad : Nat → Nat) (S : MS) (x y z : Int32) (h20 : S.1 20 = 0) (hp : ∀ k, S.2.1 10 k = 0) : mCl l yX12_movingPower (Cond.code yX12_movingPower cX12_movingPower 4 (some .long) :: wsM) 3 43 D cI cJ cZ ad S [.int x, .int y, .int z] (fun r S1 => r = 0 ∧ S1 = mi S 0 1) := by
  intro sz
  refine Met.ofW (cc := cX12_movingPower) (maxL := 4) (ret := (some .long)) (by decide) rfl ?_
  intro p e s m args below meth c s₁ B hml hv
  obtain ⟨rfl, hsz, hP, hK, hD0, hR⟩ := hv
  have hx := B.exec
  have hb := B.bytes
  have hr := B.returns
  have hts := atoms_spec (ws := (Cond.code yX12_movingPower cX12_movingPower 4 (some .long) :: wsM)) B.pre
  have hown : s.vm.findClass RX12 = some m.cls := findClass_of_methodNamed B.named
  have hlocks := B.notSynchronized
  subst hsz
  have hD := hD0.self (sz := s.heap.size)
  generalize hAe : va_A (MW cI cJ cZ ad S) s.heap.size = A at hD ⊢
  have hA : ∀ q : Nat, s.heap.size ≤ q → A q := fun q h => by rw [← hAe]; exact Or.inr h
  have G : mG D cI cJ cZ ad A s.heap s.heap [] S := ⟨hP, hD, va_S.rf⟩
  have E : mE p c cX12_movingPower s m ([.ref (ad 0), .int x, .int y, .int z] : List Value).toArray (Cond.code yX12_movingPower cX12_movingPower 4 (some .long) :: wsM) D cI cJ cZ := ⟨hx, hb, hts, hown, hK, fun w h => .tail _ (iM_x h)⟩
  have hl := lv_entry ([.ref (ad 0), .int x, .int y, .int z]) (n := 4) (Nat.le_of_ble_eq_true rfl)
  rw [lg_entry_eq]
  generalize (lg_sl ([.ref (ad 0), .int x, .int y, .int z]) ++ List.replicate (4 - (lg_sl ([.ref (ad 0), .int x, .int y, .int z])).length) Slot.unset).toArray = ls at hl ⊢
  have hl : lv_has ls 4 [(0, .ref (ad 0)), (1, .int x), (2, .int y), (3, .int z)] := hl
  have hh : True := trivial
  refine lv_aload_n hx hb dX12_movingPower_0 rfl (lv_at hl 0 rfl) ?_
  refine lv_aload_n hx hb dX12_movingPower_1 rfl (lv_at hl 0 rfl) ?_
  refine lv_iload_n hx hb dX12_movingPower_2 rfl (lv_at hl 1 rfl) ?_
  refine m_calli (As := [.int x]) (rest := [.ref (ad 0)]) E G hA hR hml (n_isCell l D cI cJ cZ ad S x h20 hp) (cwV 1 hts (gmV qM_326 qM_327 qM_328 qM_35 qM_307) rfl rfl rfl (by decide +kernel) ⟨Nat.le_of_ble_eq_true rfl, Nat.le_of_ble_eq_true rfl⟩) rfl hl.1 rfl (lv_room (Nat.le_of_ble_eq_true rfl)) dX12_movingPower_3 ⟨Nat.zero_le _, Nat.zero_le _⟩ (fun r1 S2 H locs hq G => ?_)
  obtain ⟨hq1, hq2⟩ := hq
  rw [hq2] at G
  refine lv_to (y := 0) hq1 ?_
  refine m_calli (As := [.int 0]) (rest := []) E G hA hR hml (n_mayAsk l D cI cJ cZ ad S 0 h20) (cwV 1 hts (gmV qM_319 qM_320 qM_321 qM_35 qM_304) rfl rfl rfl (by decide +kernel) ⟨Nat.le_of_ble_eq_true rfl, Nat.le_of_ble_eq_true rfl⟩) rfl hl.1 rfl (lv_room (Nat.le_of_ble_eq_true rfl)) dX12_movingPower_6 ⟨Nat.zero_le _, Nat.zero_le _⟩ (fun r3 S4 H locs hq G => ?_)
  obtain ⟨hq1, hq2⟩ := hq
  rw [hq2] at G
  refine lv_to (y := 0) hq1 ?_
  refine lv_if_ne (tgt := 14) hx hb dX12_movingPower_9 (by decide) (fun c5 => absurd (by decide +kernel) c5) (fun c5 => ?_)
  refine lv_lconst (v := 0) hx hb dX12_movingPower_12 (by decide) ?_
  exact W.lret (v := 0) hx hb hr (fun t ht hW => ⟨⟨0, (mi S 0 1), rfl, ⟨rfl, rfl⟩, ⟨by rw [ht]; exact G.1, va_K.moved hW.alike hK, G.2.1⟩⟩, G.2.2.F ht⟩) G.2.2.2.2 dX12_movingPower_13
set_option maxHeartbeats 4000000 in
set_option maxRecDepth 100000 in
theorem n_bestVelocity (l : Launch) (D : va_G) (cI cJ cZ : ClassId) (ad : Nat → Nat) (S : MS) (x y z : Int32) (h20 : S.1 20 = 0) (hp : ∀ k, S.2.1 10 k = 0) : mCi l yX12_bestVelocity (Cond.code yX12_bestVelocity cX12_bestVelocity 11 (some .int) :: wsM) 3 43 D cI cJ cZ ad S [.int x, .int y, .int z] (fun r S1 => r = 0 ∧ S1 = mi S 0 1) := by
  intro sz
  refine Met.ofW (cc := cX12_bestVelocity) (maxL := 11) (ret := (some .int)) (by decide) rfl ?_
  intro p e s m args below meth c s₁ B hml hv
  obtain ⟨rfl, hsz, hP, hK, hD0, hR⟩ := hv
  have hx := B.exec
  have hb := B.bytes
  have hr := B.returns
  have hts := atoms_spec (ws := (Cond.code yX12_bestVelocity cX12_bestVelocity 11 (some .int) :: wsM)) B.pre
  have hown : s.vm.findClass RX12 = some m.cls := findClass_of_methodNamed B.named
  have hlocks := B.notSynchronized
  subst hsz
  have hD := hD0.self (sz := s.heap.size)
  generalize hAe : va_A (MW cI cJ cZ ad S) s.heap.size = A at hD ⊢
  have hA : ∀ q : Nat, s.heap.size ≤ q → A q := fun q h => by rw [← hAe]; exact Or.inr h
  have G : mG D cI cJ cZ ad A s.heap s.heap [] S := ⟨hP, hD, va_S.rf⟩
  have E : mE p c cX12_bestVelocity s m ([.ref (ad 0), .int x, .int y, .int z] : List Value).toArray (Cond.code yX12_bestVelocity cX12_bestVelocity 11 (some .int) :: wsM) D cI cJ cZ := ⟨hx, hb, hts, hown, hK, fun w h => .tail _ (iM_x h)⟩
  have hl := lv_entry ([.ref (ad 0), .int x, .int y, .int z]) (n := 11) (Nat.le_of_ble_eq_true rfl)
  rw [lg_entry_eq]
  generalize (lg_sl ([.ref (ad 0), .int x, .int y, .int z]) ++ List.replicate (11 - (lg_sl ([.ref (ad 0), .int x, .int y, .int z])).length) Slot.unset).toArray = ls at hl ⊢
  have hl : lv_has ls 11 [(0, .ref (ad 0)), (1, .int x), (2, .int y), (3, .int z)] := hl
  have hh : True := trivial
  refine lv_aload_n hx hb dX12_bestVelocity_0 rfl (lv_at hl 0 rfl) ?_
  refine lv_aload_n hx hb dX12_bestVelocity_1 rfl (lv_at hl 0 rfl) ?_
  refine lv_iload_n hx hb dX12_bestVelocity_2 rfl (lv_at hl 1 rfl) ?_
  refine m_calli (As := [.int x]) (rest := [.ref (ad 0)]) E G hA hR hml (n_isCell l D cI cJ cZ ad S x h20 hp) (cwV 1 hts (gmV qM_326 qM_327 qM_328 qM_35 qM_307) rfl rfl rfl (by decide +kernel) ⟨Nat.le_of_ble_eq_true rfl, Nat.le_of_ble_eq_true rfl⟩) rfl hl.1 rfl (lv_room (Nat.le_of_ble_eq_true rfl)) dX12_bestVelocity_3 ⟨Nat.zero_le _, Nat.zero_le _⟩ (fun r1 S2 H locs hq G => ?_)
  obtain ⟨hq1, hq2⟩ := hq
  rw [hq2] at G
  refine lv_to (y := 0) hq1 ?_
  refine m_calli (As := [.int 0]) (rest := []) E G hA hR hml (n_mayAsk l D cI cJ cZ ad S 0 h20) (cwV 1 hts (gmV qM_319 qM_320 qM_321 qM_35 qM_304) rfl rfl rfl (by decide +kernel) ⟨Nat.le_of_ble_eq_true rfl, Nat.le_of_ble_eq_true rfl⟩) rfl hl.1 rfl (lv_room (Nat.le_of_ble_eq_true rfl)) dX12_bestVelocity_6 ⟨Nat.zero_le _, Nat.zero_le _⟩ (fun r3 S4 H locs hq G => ?_)
  obtain ⟨hq1, hq2⟩ := hq
  rw [hq2] at G
  refine lv_to (y := 0) hq1 ?_
  refine lv_if_ne (tgt := 14) hx hb dX12_bestVelocity_9 (by decide) (fun c5 => absurd (by decide +kernel) c5) (fun c5 => ?_)
  refine lv_iconst (v := 0) hx hb dX12_bestVelocity_12 (by decide) ?_
  exact W.iret (v := 0) hx hb hr (fun t ht hW => ⟨⟨0, (mi S 0 1), rfl, ⟨rfl, rfl⟩, ⟨by rw [ht]; exact G.1, va_K.moved hW.alike hK, G.2.1⟩⟩, G.2.2.F ht⟩) G.2.2.2.2 dX12_bestVelocity_13
set_option maxHeartbeats 4000000 in
set_option maxRecDepth 100000 in
theorem n_correlation (l : Launch) (D : va_G) (cI cJ cZ : ClassId) (ad : Nat → Nat) (S : MS) (x y z : Int32) (h20 : S.1 20 = 0) (hp : ∀ k, S.2.1 10 k = 0) : mCl l yX12_correlation (Cond.code yX12_correlation cX12_correlation 4 (some .long) :: wsM) 3 43 D cI cJ cZ ad S [.int x, .int y, .int z] (fun r S1 => r = 0 ∧ S1 = mi S 0 1) := by
  intro sz
  refine Met.ofW (cc := cX12_correlation) (maxL := 4) (ret := (some .long)) (by decide) rfl ?_
  intro p e s m args below meth c s₁ B hml hv
  obtain ⟨rfl, hsz, hP, hK, hD0, hR⟩ := hv
  have hx := B.exec
  have hb := B.bytes
  have hr := B.returns
  have hts := atoms_spec (ws := (Cond.code yX12_correlation cX12_correlation 4 (some .long) :: wsM)) B.pre
  have hown : s.vm.findClass RX12 = some m.cls := findClass_of_methodNamed B.named
  have hlocks := B.notSynchronized
  subst hsz
  have hD := hD0.self (sz := s.heap.size)
  generalize hAe : va_A (MW cI cJ cZ ad S) s.heap.size = A at hD ⊢
  have hA : ∀ q : Nat, s.heap.size ≤ q → A q := fun q h => by rw [← hAe]; exact Or.inr h
  have G : mG D cI cJ cZ ad A s.heap s.heap [] S := ⟨hP, hD, va_S.rf⟩
  have E : mE p c cX12_correlation s m ([.ref (ad 0), .int x, .int y, .int z] : List Value).toArray (Cond.code yX12_correlation cX12_correlation 4 (some .long) :: wsM) D cI cJ cZ := ⟨hx, hb, hts, hown, hK, fun w h => .tail _ (iM_x h)⟩
  have hl := lv_entry ([.ref (ad 0), .int x, .int y, .int z]) (n := 4) (Nat.le_of_ble_eq_true rfl)
  rw [lg_entry_eq]
  generalize (lg_sl ([.ref (ad 0), .int x, .int y, .int z]) ++ List.replicate (4 - (lg_sl ([.ref (ad 0), .int x, .int y, .int z])).length) Slot.unset).toArray = ls at hl ⊢
  have hl : lv_has ls 4 [(0, .ref (ad 0)), (1, .int x), (2, .int y), (3, .int z)] := hl
  have hh : True := trivial
  refine lv_aload_n hx hb dX12_correlation_0 rfl (lv_at hl 0 rfl) ?_
  refine lv_aload_n hx hb dX12_correlation_1 rfl (lv_at hl 0 rfl) ?_
  refine lv_iload_n hx hb dX12_correlation_2 rfl (lv_at hl 1 rfl) ?_
  refine m_calli (As := [.int x]) (rest := [.ref (ad 0)]) E G hA hR hml (n_isMic l D cI cJ cZ ad S x h20 hp) (cwV 1 hts (gmV qM_316 qM_317 qM_318 qM_35 qM_306) rfl rfl rfl (by decide +kernel) ⟨Nat.le_of_ble_eq_true rfl, Nat.le_of_ble_eq_true rfl⟩) rfl hl.1 rfl (lv_room (Nat.le_of_ble_eq_true rfl)) dX12_correlation_3 ⟨Nat.zero_le _, Nat.zero_le _⟩ (fun r1 S2 H locs hq G => ?_)
  obtain ⟨hq1, hq2⟩ := hq
  rw [hq2] at G
  refine lv_to (y := 0) hq1 ?_
  refine lv_if_eq (tgt := 21) hx hb dX12_correlation_6 (by decide) (fun c3 => ?_) (fun c3 => absurd (by decide +kernel) c3)
  refine lv_iconst (v := 0) hx hb dX12_correlation_21 (by decide) ?_
  refine m_calli (As := [.int 0]) (rest := []) E G hA hR hml (n_mayAsk l D cI cJ cZ ad S 0 h20) (cwV 1 hts (gmV qM_319 qM_320 qM_321 qM_35 qM_304) rfl rfl rfl (by decide +kernel) ⟨Nat.le_of_ble_eq_true rfl, Nat.le_of_ble_eq_true rfl⟩) rfl hl.1 rfl (lv_room (Nat.le_of_ble_eq_true rfl)) dX12_correlation_22 ⟨Nat.zero_le _, Nat.zero_le _⟩ (fun r4 S5 H locs hq G => ?_)
  obtain ⟨hq1, hq2⟩ := hq
  rw [hq2] at G
  refine lv_to (y := 0) hq1 ?_
  refine lv_if_ne (tgt := 30) hx hb dX12_correlation_25 (by decide) (fun c6 => absurd (by decide +kernel) c6) (fun c6 => ?_)
  refine lv_lconst (v := 0) hx hb dX12_correlation_28 (by decide) ?_
  exact W.lret (v := 0) hx hb hr (fun t ht hW => ⟨⟨0, (mi S 0 1), rfl, ⟨rfl, rfl⟩, ⟨by rw [ht]; exact G.1, va_K.moved hW.alike hK, G.2.1⟩⟩, G.2.2.F ht⟩) G.2.2.2.2 dX12_correlation_29
set_option maxHeartbeats 4000000 in
set_option maxRecDepth 100000 in
theorem n_bestLag (l : Launch) (D : va_G) (cI cJ cZ : ClassId) (ad : Nat → Nat) (S : MS) (x y z : Int32) (h20 : S.1 20 = 0) (hp : ∀ k, S.2.1 10 k = 0) : mCi l yX12_bestLag (Cond.code yX12_bestLag cX12_bestLag 6 (some .int) :: wsM) 3 43 D cI cJ cZ ad S [.int x, .int y, .int z] (fun r S1 => r = 0 ∧ S1 = mi S 0 1) := by
  intro sz
  refine Met.ofW (cc := cX12_bestLag) (maxL := 6) (ret := (some .int)) (by decide) rfl ?_
  intro p e s m args below meth c s₁ B hml hv
  obtain ⟨rfl, hsz, hP, hK, hD0, hR⟩ := hv
  have hx := B.exec
  have hb := B.bytes
  have hr := B.returns
  have hts := atoms_spec (ws := (Cond.code yX12_bestLag cX12_bestLag 6 (some .int) :: wsM)) B.pre
  have hown : s.vm.findClass RX12 = some m.cls := findClass_of_methodNamed B.named
  have hlocks := B.notSynchronized
  subst hsz
  have hD := hD0.self (sz := s.heap.size)
  generalize hAe : va_A (MW cI cJ cZ ad S) s.heap.size = A at hD ⊢
  have hA : ∀ q : Nat, s.heap.size ≤ q → A q := fun q h => by rw [← hAe]; exact Or.inr h
  have G : mG D cI cJ cZ ad A s.heap s.heap [] S := ⟨hP, hD, va_S.rf⟩
  have E : mE p c cX12_bestLag s m ([.ref (ad 0), .int x, .int y, .int z] : List Value).toArray (Cond.code yX12_bestLag cX12_bestLag 6 (some .int) :: wsM) D cI cJ cZ := ⟨hx, hb, hts, hown, hK, fun w h => .tail _ (iM_x h)⟩
  have hl := lv_entry ([.ref (ad 0), .int x, .int y, .int z]) (n := 6) (Nat.le_of_ble_eq_true rfl)
  rw [lg_entry_eq]
  generalize (lg_sl ([.ref (ad 0), .int x, .int y, .int z]) ++ List.replicate (6 - (lg_sl ([.ref (ad 0), .int x, .int y, .int z])).length) Slot.unset).toArray = ls at hl ⊢
  have hl : lv_has ls 6 [(0, .ref (ad 0)), (1, .int x), (2, .int y), (3, .int z)] := hl
  have hh : True := trivial
  refine lv_aload_n hx hb dX12_bestLag_0 rfl (lv_at hl 0 rfl) ?_
  refine lv_aload_n hx hb dX12_bestLag_1 rfl (lv_at hl 0 rfl) ?_
  refine lv_iload_n hx hb dX12_bestLag_2 rfl (lv_at hl 1 rfl) ?_
  refine m_calli (As := [.int x]) (rest := [.ref (ad 0)]) E G hA hR hml (n_isMic l D cI cJ cZ ad S x h20 hp) (cwV 1 hts (gmV qM_316 qM_317 qM_318 qM_35 qM_306) rfl rfl rfl (by decide +kernel) ⟨Nat.le_of_ble_eq_true rfl, Nat.le_of_ble_eq_true rfl⟩) rfl hl.1 rfl (lv_room (Nat.le_of_ble_eq_true rfl)) dX12_bestLag_3 ⟨Nat.zero_le _, Nat.zero_le _⟩ (fun r1 S2 H locs hq G => ?_)
  obtain ⟨hq1, hq2⟩ := hq
  rw [hq2] at G
  refine lv_to (y := 0) hq1 ?_
  refine lv_if_eq (tgt := 21) hx hb dX12_bestLag_6 (by decide) (fun c3 => ?_) (fun c3 => absurd (by decide +kernel) c3)
  refine lv_iconst (v := 0) hx hb dX12_bestLag_21 (by decide) ?_
  refine m_calli (As := [.int 0]) (rest := []) E G hA hR hml (n_mayAsk l D cI cJ cZ ad S 0 h20) (cwV 1 hts (gmV qM_319 qM_320 qM_321 qM_35 qM_304) rfl rfl rfl (by decide +kernel) ⟨Nat.le_of_ble_eq_true rfl, Nat.le_of_ble_eq_true rfl⟩) rfl hl.1 rfl (lv_room (Nat.le_of_ble_eq_true rfl)) dX12_bestLag_22 ⟨Nat.zero_le _, Nat.zero_le _⟩ (fun r4 S5 H locs hq G => ?_)
  obtain ⟨hq1, hq2⟩ := hq
  rw [hq2] at G
  refine lv_to (y := 0) hq1 ?_
  refine lv_if_ne (tgt := 30) hx hb dX12_bestLag_25 (by decide) (fun c6 => absurd (by decide +kernel) c6) (fun c6 => ?_)
  refine lv_iconst (v := 0) hx hb dX12_bestLag_28 (by decide) ?_
  exact W.iret (v := 0) hx hb hr (fun t ht hW => ⟨⟨0, (mi S 0 1), rfl, ⟨rfl, rfl⟩, ⟨by rw [ht]; exact G.1, va_K.moved hW.alike hK, G.2.1⟩⟩, G.2.2.F ht⟩) G.2.2.2.2 dX12_bestLag_29
set_option maxHeartbeats 4000000 in
set_option maxRecDepth 100000 in
theorem n_level (l : Launch) (D : va_G) (cI cJ cZ : ClassId) (ad : Nat → Nat) (S : MS) (x : Int32) (h20 : S.1 20 = 0) (hp : ∀ k, S.2.1 10 k = 0) : mCl l yX12_level (Cond.code yX12_level cX12_level 2 (some .long) :: wsM) 3 43 D cI cJ cZ ad S [.int x] (fun r S1 => r = 0 ∧ S1 = mi S 0 1) := by
  intro sz
  refine Met.ofW (cc := cX12_level) (maxL := 2) (ret := (some .long)) (by decide) rfl ?_
  intro p e s m args below meth c s₁ B hml hv
  obtain ⟨rfl, hsz, hP, hK, hD0, hR⟩ := hv
  have hx := B.exec
  have hb := B.bytes
  have hr := B.returns
  have hts := atoms_spec (ws := (Cond.code yX12_level cX12_level 2 (some .long) :: wsM)) B.pre
  have hown : s.vm.findClass RX12 = some m.cls := findClass_of_methodNamed B.named
  have hlocks := B.notSynchronized
  subst hsz
  have hD := hD0.self (sz := s.heap.size)
  generalize hAe : va_A (MW cI cJ cZ ad S) s.heap.size = A at hD ⊢
  have hA : ∀ q : Nat, s.heap.size ≤ q → A q := fun q h => by rw [← hAe]; exact Or.inr h
  have G : mG D cI cJ cZ ad A s.heap s.heap [] S := ⟨hP, hD, va_S.rf⟩
  have E : mE p c cX12_level s m ([.ref (ad 0), .int x] : List Value).toArray (Cond.code yX12_level cX12_level 2 (some .long) :: wsM) D cI cJ cZ := ⟨hx, hb, hts, hown, hK, fun w h => .tail _ (iM_x h)⟩
  have hl := lv_entry ([.ref (ad 0), .int x]) (n := 2) (Nat.le_of_ble_eq_true rfl)
  rw [lg_entry_eq]
  generalize (lg_sl ([.ref (ad 0), .int x]) ++ List.replicate (2 - (lg_sl ([.ref (ad 0), .int x])).length) Slot.unset).toArray = ls at hl ⊢
  have hl : lv_has ls 2 [(0, .ref (ad 0)), (1, .int x)] := hl
  have hh : True := trivial
  refine lv_aload_n hx hb dX12_level_0 rfl (lv_at hl 0 rfl) ?_
  refine lv_aload_n hx hb dX12_level_1 rfl (lv_at hl 0 rfl) ?_
  refine lv_iload_n hx hb dX12_level_2 rfl (lv_at hl 1 rfl) ?_
  refine m_calli (As := [.int x]) (rest := [.ref (ad 0)]) E G hA hR hml (n_isMic l D cI cJ cZ ad S x h20 hp) (cwV 1 hts (gmV qM_316 qM_317 qM_318 qM_35 qM_306) rfl rfl rfl (by decide +kernel) ⟨Nat.le_of_ble_eq_true rfl, Nat.le_of_ble_eq_true rfl⟩) rfl hl.1 rfl (lv_room (Nat.le_of_ble_eq_true rfl)) dX12_level_3 ⟨Nat.zero_le _, Nat.zero_le _⟩ (fun r1 S2 H locs hq G => ?_)
  obtain ⟨hq1, hq2⟩ := hq
  rw [hq2] at G
  refine lv_to (y := 0) hq1 ?_
  refine m_calli (As := [.int 0]) (rest := []) E G hA hR hml (n_mayAsk l D cI cJ cZ ad S 0 h20) (cwV 1 hts (gmV qM_319 qM_320 qM_321 qM_35 qM_304) rfl rfl rfl (by decide +kernel) ⟨Nat.le_of_ble_eq_true rfl, Nat.le_of_ble_eq_true rfl⟩) rfl hl.1 rfl (lv_room (Nat.le_of_ble_eq_true rfl)) dX12_level_6 ⟨Nat.zero_le _, Nat.zero_le _⟩ (fun r3 S4 H locs hq G => ?_)
  obtain ⟨hq1, hq2⟩ := hq
  rw [hq2] at G
  refine lv_to (y := 0) hq1 ?_
  refine lv_if_eq (tgt := 20) hx hb dX12_level_9 (by decide) (fun c5 => ?_) (fun c5 => absurd (by decide +kernel) c5)
  refine lv_lconst (v := 0) hx hb dX12_level_20 (by decide) ?_
  exact W.lret (v := 0) hx hb hr (fun t ht hW => ⟨⟨0, (mi S 0 1), rfl, ⟨rfl, rfl⟩, ⟨by rw [ht]; exact G.1, va_K.moved hW.alike hK, G.2.1⟩⟩, G.2.2.F ht⟩) G.2.2.2.2 dX12_level_21
set_option maxHeartbeats 4000000 in
set_option maxRecDepth 100000 in
theorem n_loudest (l : Launch) (D : va_G) (cI cJ cZ : ClassId) (ad : Nat → Nat) (S : MS) (x : Int32) (h20 : S.1 20 = 0) (hp : ∀ k, S.2.1 10 k = 0) : mCi l yX12_loudest (Cond.code yX12_loudest cX12_loudest 5 (some .int) :: wsM) 3 43 D cI cJ cZ ad S [.int x] (fun r S1 => r = 0 ∧ S1 = mi S 0 1) := by
  intro sz
  refine Met.ofW (cc := cX12_loudest) (maxL := 5) (ret := (some .int)) (by decide) rfl ?_
  intro p e s m args below meth c s₁ B hml hv
  obtain ⟨rfl, hsz, hP, hK, hD0, hR⟩ := hv
  have hx := B.exec
  have hb := B.bytes
  have hr := B.returns
  have hts := atoms_spec (ws := (Cond.code yX12_loudest cX12_loudest 5 (some .int) :: wsM)) B.pre
  have hown : s.vm.findClass RX12 = some m.cls := findClass_of_methodNamed B.named
  have hlocks := B.notSynchronized
  subst hsz
  have hD := hD0.self (sz := s.heap.size)
  generalize hAe : va_A (MW cI cJ cZ ad S) s.heap.size = A at hD ⊢
  have hA : ∀ q : Nat, s.heap.size ≤ q → A q := fun q h => by rw [← hAe]; exact Or.inr h
  have G : mG D cI cJ cZ ad A s.heap s.heap [] S := ⟨hP, hD, va_S.rf⟩
  have E : mE p c cX12_loudest s m ([.ref (ad 0), .int x] : List Value).toArray (Cond.code yX12_loudest cX12_loudest 5 (some .int) :: wsM) D cI cJ cZ := ⟨hx, hb, hts, hown, hK, fun w h => .tail _ (iM_x h)⟩
  have hl := lv_entry ([.ref (ad 0), .int x]) (n := 5) (Nat.le_of_ble_eq_true rfl)
  rw [lg_entry_eq]
  generalize (lg_sl ([.ref (ad 0), .int x]) ++ List.replicate (5 - (lg_sl ([.ref (ad 0), .int x])).length) Slot.unset).toArray = ls at hl ⊢
  have hl : lv_has ls 5 [(0, .ref (ad 0)), (1, .int x)] := hl
  have hh : True := trivial
  refine lv_aload_n hx hb dX12_loudest_0 rfl (lv_at hl 0 rfl) ?_
  refine lv_aload_n hx hb dX12_loudest_1 rfl (lv_at hl 0 rfl) ?_
  refine lv_iload_n hx hb dX12_loudest_2 rfl (lv_at hl 1 rfl) ?_
  refine m_calli (As := [.int x]) (rest := [.ref (ad 0)]) E G hA hR hml (n_isMic l D cI cJ cZ ad S x h20 hp) (cwV 1 hts (gmV qM_316 qM_317 qM_318 qM_35 qM_306) rfl rfl rfl (by decide +kernel) ⟨Nat.le_of_ble_eq_true rfl, Nat.le_of_ble_eq_true rfl⟩) rfl hl.1 rfl (lv_room (Nat.le_of_ble_eq_true rfl)) dX12_loudest_3 ⟨Nat.zero_le _, Nat.zero_le _⟩ (fun r1 S2 H locs hq G => ?_)
  obtain ⟨hq1, hq2⟩ := hq
  rw [hq2] at G
  refine lv_to (y := 0) hq1 ?_
  refine m_calli (As := [.int 0]) (rest := []) E G hA hR hml (n_mayAsk l D cI cJ cZ ad S 0 h20) (cwV 1 hts (gmV qM_319 qM_320 qM_321 qM_35 qM_304) rfl rfl rfl (by decide +kernel) ⟨Nat.le_of_ble_eq_true rfl, Nat.le_of_ble_eq_true rfl⟩) rfl hl.1 rfl (lv_room (Nat.le_of_ble_eq_true rfl)) dX12_loudest_6 ⟨Nat.zero_le _, Nat.zero_le _⟩ (fun r3 S4 H locs hq G => ?_)
  obtain ⟨hq1, hq2⟩ := hq
  rw [hq2] at G
  refine lv_to (y := 0) hq1 ?_
  refine lv_if_ne (tgt := 14) hx hb dX12_loudest_9 (by decide) (fun c5 => absurd (by decide +kernel) c5) (fun c5 => ?_)
  refine lv_iconst (v := 0) hx hb dX12_loudest_12 (by decide) ?_
  exact W.iret (v := 0) hx hb hr (fun t ht hW => ⟨⟨0, (mi S 0 1), rfl, ⟨rfl, rfl⟩, ⟨by rw [ht]; exact G.1, va_K.moved hW.alike hK, G.2.1⟩⟩, G.2.2.F ht⟩) G.2.2.2.2 dX12_loudest_13
set_option maxHeartbeats 4000000 in
set_option maxRecDepth 100000 in
theorem n_writeMap (l : Launch) (D : va_G) (cI cJ cZ : ClassId) (ad : Nat → Nat) (S : MS) (h20 : S.1 20 = 0) (hp : ∀ k, S.2.1 10 k = 0) : mCi l yX12_writeMap (Cond.code yX12_writeMap cX12_writeMap 4 (some .int) :: wsM) 2 21 D cI cJ cZ ad S [] (fun r S1 => r = 0 ∧ S1 = mi S 0 1) := by
  intro sz
  refine Met.ofW (cc := cX12_writeMap) (maxL := 4) (ret := (some .int)) (by decide) rfl ?_
  intro p e s m args below meth c s₁ B hml hv
  obtain ⟨rfl, hsz, hP, hK, hD0, hR⟩ := hv
  have hx := B.exec
  have hb := B.bytes
  have hr := B.returns
  have hts := atoms_spec (ws := (Cond.code yX12_writeMap cX12_writeMap 4 (some .int) :: wsM)) B.pre
  have hown : s.vm.findClass RX12 = some m.cls := findClass_of_methodNamed B.named
  have hlocks := B.notSynchronized
  subst hsz
  have hD := hD0.self (sz := s.heap.size)
  generalize hAe : va_A (MW cI cJ cZ ad S) s.heap.size = A at hD ⊢
  have hA : ∀ q : Nat, s.heap.size ≤ q → A q := fun q h => by rw [← hAe]; exact Or.inr h
  have G : mG D cI cJ cZ ad A s.heap s.heap [] S := ⟨hP, hD, va_S.rf⟩
  have E : mE p c cX12_writeMap s m ([.ref (ad 0)] : List Value).toArray (Cond.code yX12_writeMap cX12_writeMap 4 (some .int) :: wsM) D cI cJ cZ := ⟨hx, hb, hts, hown, hK, fun w h => .tail _ (iM_x h)⟩
  have hl := lv_entry ([.ref (ad 0)]) (n := 4) (Nat.le_of_ble_eq_true rfl)
  rw [lg_entry_eq]
  generalize (lg_sl ([.ref (ad 0)]) ++ List.replicate (4 - (lg_sl ([.ref (ad 0)])).length) Slot.unset).toArray = ls at hl ⊢
  have hl : lv_has ls 4 [(0, .ref (ad 0))] := hl
  have hh : True := trivial
  refine lv_aload_n hx hb dX12_writeMap_0 rfl (lv_at hl 0 rfl) ?_
  refine lv_iconst (v := 1) hx hb dX12_writeMap_1 (by decide) ?_
  refine m_calli (As := [.int 1]) (rest := []) E G hA hR hml (n_mayAsk l D cI cJ cZ ad S 1 h20) (cwV 1 hts (gmV qM_319 qM_320 qM_321 qM_35 qM_304) rfl rfl rfl (by decide +kernel) ⟨Nat.le_of_ble_eq_true rfl, Nat.le_of_ble_eq_true rfl⟩) rfl hl.1 rfl (lv_room (Nat.le_of_ble_eq_true rfl)) dX12_writeMap_2 ⟨Nat.zero_le _, Nat.zero_le _⟩ (fun r1 S2 H locs hq G => ?_)
  obtain ⟨hq1, hq2⟩ := hq
  rw [hq2] at G
  refine lv_to (y := 0) hq1 ?_
  refine lv_if_ne (tgt := 10) hx hb dX12_writeMap_5 (by decide) (fun c3 => absurd (by decide +kernel) c3) (fun c3 => ?_)
  refine lv_iconst (v := 0) hx hb dX12_writeMap_8 (by decide) ?_
  exact W.iret (v := 0) hx hb hr (fun t ht hW => ⟨⟨0, (mi S 0 1), rfl, ⟨rfl, rfl⟩, ⟨by rw [ht]; exact G.1, va_K.moved hW.alike hK, G.2.1⟩⟩, G.2.2.F ht⟩) G.2.2.2.2 dX12_writeMap_9
set_option maxHeartbeats 4000000 in
set_option maxRecDepth 100000 in
theorem n_pointBest (l : Launch) (D : va_G) (cI cJ cZ : ClassId) (ad : Nat → Nat) (S : MS) (x y : Int32) (h20 : S.1 20 = 0) (hp : ∀ k, S.2.1 10 k = 0) : mCi l yX12_pointBest (Cond.code yX12_pointBest cX12_pointBest 3 (some .int) :: wsM) 3 43 D cI cJ cZ ad S [.int x, .int y] (fun r S1 => r = 0 ∧ S1 = mi S 0 1) := by
  intro sz
  refine Met.ofW (cc := cX12_pointBest) (maxL := 3) (ret := (some .int)) (by decide) rfl ?_
  intro p e s m args below meth c s₁ B hml hv
  obtain ⟨rfl, hsz, hP, hK, hD0, hR⟩ := hv
  have hx := B.exec
  have hb := B.bytes
  have hr := B.returns
  have hts := atoms_spec (ws := (Cond.code yX12_pointBest cX12_pointBest 3 (some .int) :: wsM)) B.pre
  have hown : s.vm.findClass RX12 = some m.cls := findClass_of_methodNamed B.named
  have hlocks := B.notSynchronized
  subst hsz
  have hD := hD0.self (sz := s.heap.size)
  generalize hAe : va_A (MW cI cJ cZ ad S) s.heap.size = A at hD ⊢
  have hA : ∀ q : Nat, s.heap.size ≤ q → A q := fun q h => by rw [← hAe]; exact Or.inr h
  have G : mG D cI cJ cZ ad A s.heap s.heap [] S := ⟨hP, hD, va_S.rf⟩
  have E : mE p c cX12_pointBest s m ([.ref (ad 0), .int x, .int y] : List Value).toArray (Cond.code yX12_pointBest cX12_pointBest 3 (some .int) :: wsM) D cI cJ cZ := ⟨hx, hb, hts, hown, hK, fun w h => .tail _ (iM_x h)⟩
  have hl := lv_entry ([.ref (ad 0), .int x, .int y]) (n := 3) (Nat.le_of_ble_eq_true rfl)
  rw [lg_entry_eq]
  generalize (lg_sl ([.ref (ad 0), .int x, .int y]) ++ List.replicate (3 - (lg_sl ([.ref (ad 0), .int x, .int y])).length) Slot.unset).toArray = ls at hl ⊢
  have hl : lv_has ls 3 [(0, .ref (ad 0)), (1, .int x), (2, .int y)] := hl
  have hh : True := trivial
  refine lv_aload_n hx hb dX12_pointBest_0 rfl (lv_at hl 0 rfl) ?_
  refine lv_aload_n hx hb dX12_pointBest_1 rfl (lv_at hl 0 rfl) ?_
  refine lv_iload_n hx hb dX12_pointBest_2 rfl (lv_at hl 1 rfl) ?_
  refine m_calli (As := [.int x]) (rest := [.ref (ad 0)]) E G hA hR hml (n_isCell l D cI cJ cZ ad S x h20 hp) (cwV 1 hts (gmV qM_326 qM_327 qM_328 qM_35 qM_307) rfl rfl rfl (by decide +kernel) ⟨Nat.le_of_ble_eq_true rfl, Nat.le_of_ble_eq_true rfl⟩) rfl hl.1 rfl (lv_room (Nat.le_of_ble_eq_true rfl)) dX12_pointBest_3 ⟨Nat.zero_le _, Nat.zero_le _⟩ (fun r1 S2 H locs hq G => ?_)
  obtain ⟨hq1, hq2⟩ := hq
  rw [hq2] at G
  refine lv_to (y := 0) hq1 ?_
  refine m_calli (As := [.int 0]) (rest := []) E G hA hR hml (n_mayAsk l D cI cJ cZ ad S 0 h20) (cwV 1 hts (gmV qM_319 qM_320 qM_321 qM_35 qM_304) rfl rfl rfl (by decide +kernel) ⟨Nat.le_of_ble_eq_true rfl, Nat.le_of_ble_eq_true rfl⟩) rfl hl.1 rfl (lv_room (Nat.le_of_ble_eq_true rfl)) dX12_pointBest_6 ⟨Nat.zero_le _, Nat.zero_le _⟩ (fun r3 S4 H locs hq G => ?_)
  obtain ⟨hq1, hq2⟩ := hq
  rw [hq2] at G
  refine lv_to (y := 0) hq1 ?_
  refine lv_if_ne (tgt := 14) hx hb dX12_pointBest_9 (by decide) (fun c5 => absurd (by decide +kernel) c5) (fun c5 => ?_)
  refine lv_iconst (v := 0) hx hb dX12_pointBest_12 (by decide) ?_
  exact W.iret (v := 0) hx hb hr (fun t ht hW => ⟨⟨0, (mi S 0 1), rfl, ⟨rfl, rfl⟩, ⟨by rw [ht]; exact G.1, va_K.moved hW.alike hK, G.2.1⟩⟩, G.2.2.F ht⟩) G.2.2.2.2 dX12_pointBest_13
set_option maxHeartbeats 4000000 in
set_option maxRecDepth 100000 in
theorem n_pointPower (l : Launch) (D : va_G) (cI cJ cZ : ClassId) (ad : Nat → Nat) (S : MS) (x y z : Int32) (h20 : S.1 20 = 0) (hp : ∀ k, S.2.1 10 k = 0) : mCl l yX12_pointPower (Cond.code yX12_pointPower cX12_pointPower 4 (some .long) :: wsM) 3 43 D cI cJ cZ ad S [.int x, .int y, .int z] (fun r S1 => r = 0 ∧ S1 = mi S 0 1) := by
  intro sz
  refine Met.ofW (cc := cX12_pointPower) (maxL := 4) (ret := (some .long)) (by decide) rfl ?_
  intro p e s m args below meth c s₁ B hml hv
  obtain ⟨rfl, hsz, hP, hK, hD0, hR⟩ := hv
  have hx := B.exec
  have hb := B.bytes
  have hr := B.returns
  have hts := atoms_spec (ws := (Cond.code yX12_pointPower cX12_pointPower 4 (some .long) :: wsM)) B.pre
  have hown : s.vm.findClass RX12 = some m.cls := findClass_of_methodNamed B.named
  have hlocks := B.notSynchronized
  subst hsz
  have hD := hD0.self (sz := s.heap.size)
  generalize hAe : va_A (MW cI cJ cZ ad S) s.heap.size = A at hD ⊢
  have hA : ∀ q : Nat, s.heap.size ≤ q → A q := fun q h => by rw [← hAe]; exact Or.inr h
  have G : mG D cI cJ cZ ad A s.heap s.heap [] S := ⟨hP, hD, va_S.rf⟩
  have E : mE p c cX12_pointPower s m ([.ref (ad 0), .int x, .int y, .int z] : List Value).toArray (Cond.code yX12_pointPower cX12_pointPower 4 (some .long) :: wsM) D cI cJ cZ := ⟨hx, hb, hts, hown, hK, fun w h => .tail _ (iM_x h)⟩
  have hl := lv_entry ([.ref (ad 0), .int x, .int y, .int z]) (n := 4) (Nat.le_of_ble_eq_true rfl)
  rw [lg_entry_eq]
  generalize (lg_sl ([.ref (ad 0), .int x, .int y, .int z]) ++ List.replicate (4 - (lg_sl ([.ref (ad 0), .int x, .int y, .int z])).length) Slot.unset).toArray = ls at hl ⊢
  have hl : lv_has ls 4 [(0, .ref (ad 0)), (1, .int x), (2, .int y), (3, .int z)] := hl
  have hh : True := trivial
  refine lv_aload_n hx hb dX12_pointPower_0 rfl (lv_at hl 0 rfl) ?_
  refine lv_aload_n hx hb dX12_pointPower_1 rfl (lv_at hl 0 rfl) ?_
  refine lv_iload_n hx hb dX12_pointPower_2 rfl (lv_at hl 1 rfl) ?_
  refine m_calli (As := [.int x]) (rest := [.ref (ad 0)]) E G hA hR hml (n_isCell l D cI cJ cZ ad S x h20 hp) (cwV 1 hts (gmV qM_326 qM_327 qM_328 qM_35 qM_307) rfl rfl rfl (by decide +kernel) ⟨Nat.le_of_ble_eq_true rfl, Nat.le_of_ble_eq_true rfl⟩) rfl hl.1 rfl (lv_room (Nat.le_of_ble_eq_true rfl)) dX12_pointPower_3 ⟨Nat.zero_le _, Nat.zero_le _⟩ (fun r1 S2 H locs hq G => ?_)
  obtain ⟨hq1, hq2⟩ := hq
  rw [hq2] at G
  refine lv_to (y := 0) hq1 ?_
  refine lv_if_eq (tgt := 21) hx hb dX12_pointPower_6 (by decide) (fun c3 => ?_) (fun c3 => absurd (by decide +kernel) c3)
  refine lv_iconst (v := 0) hx hb dX12_pointPower_21 (by decide) ?_
  refine m_calli (As := [.int 0]) (rest := []) E G hA hR hml (n_mayAsk l D cI cJ cZ ad S 0 h20) (cwV 1 hts (gmV qM_319 qM_320 qM_321 qM_35 qM_304) rfl rfl rfl (by decide +kernel) ⟨Nat.le_of_ble_eq_true rfl, Nat.le_of_ble_eq_true rfl⟩) rfl hl.1 rfl (lv_room (Nat.le_of_ble_eq_true rfl)) dX12_pointPower_22 ⟨Nat.zero_le _, Nat.zero_le _⟩ (fun r4 S5 H locs hq G => ?_)
  obtain ⟨hq1, hq2⟩ := hq
  rw [hq2] at G
  refine lv_to (y := 0) hq1 ?_
  refine lv_if_ne (tgt := 30) hx hb dX12_pointPower_25 (by decide) (fun c6 => absurd (by decide +kernel) c6) (fun c6 => ?_)
  refine lv_lconst (v := 0) hx hb dX12_pointPower_28 (by decide) ?_
  exact W.lret (v := 0) hx hb hr (fun t ht hW => ⟨⟨0, (mi S 0 1), rfl, ⟨rfl, rfl⟩, ⟨by rw [ht]; exact G.1, va_K.moved hW.alike hK, G.2.1⟩⟩, G.2.2.F ht⟩) G.2.2.2.2 dX12_pointPower_29
set_option maxHeartbeats 4000000 in
set_option maxRecDepth 100000 in
theorem n_bestWithout (l : Launch) (D : va_G) (cI cJ cZ : ClassId) (ad : Nat → Nat) (S : MS) (x : Int32) (h20 : S.1 20 = 0) (hp : ∀ k, S.2.1 10 k = 0) : mCi l yX12_bestWithout (Cond.code yX12_bestWithout cX12_bestWithout 2 (some .int) :: wsM) 3 43 D cI cJ cZ ad S [.int x] (fun r S1 => r = 0 ∧ S1 = mi S 0 1) := by
  intro sz
  refine Met.ofW (cc := cX12_bestWithout) (maxL := 2) (ret := (some .int)) (by decide) rfl ?_
  intro p e s m args below meth c s₁ B hml hv
  obtain ⟨rfl, hsz, hP, hK, hD0, hR⟩ := hv
  have hx := B.exec
  have hb := B.bytes
  have hr := B.returns
  have hts := atoms_spec (ws := (Cond.code yX12_bestWithout cX12_bestWithout 2 (some .int) :: wsM)) B.pre
  have hown : s.vm.findClass RX12 = some m.cls := findClass_of_methodNamed B.named
  have hlocks := B.notSynchronized
  subst hsz
  have hD := hD0.self (sz := s.heap.size)
  generalize hAe : va_A (MW cI cJ cZ ad S) s.heap.size = A at hD ⊢
  have hA : ∀ q : Nat, s.heap.size ≤ q → A q := fun q h => by rw [← hAe]; exact Or.inr h
  have G : mG D cI cJ cZ ad A s.heap s.heap [] S := ⟨hP, hD, va_S.rf⟩
  have E : mE p c cX12_bestWithout s m ([.ref (ad 0), .int x] : List Value).toArray (Cond.code yX12_bestWithout cX12_bestWithout 2 (some .int) :: wsM) D cI cJ cZ := ⟨hx, hb, hts, hown, hK, fun w h => .tail _ (iM_x h)⟩
  have hl := lv_entry ([.ref (ad 0), .int x]) (n := 2) (Nat.le_of_ble_eq_true rfl)
  rw [lg_entry_eq]
  generalize (lg_sl ([.ref (ad 0), .int x]) ++ List.replicate (2 - (lg_sl ([.ref (ad 0), .int x])).length) Slot.unset).toArray = ls at hl ⊢
  have hl : lv_has ls 2 [(0, .ref (ad 0)), (1, .int x)] := hl
  have hh : True := trivial
  refine lv_aload_n hx hb dX12_bestWithout_0 rfl (lv_at hl 0 rfl) ?_
  refine lv_aload_n hx hb dX12_bestWithout_1 rfl (lv_at hl 0 rfl) ?_
  refine lv_iload_n hx hb dX12_bestWithout_2 rfl (lv_at hl 1 rfl) ?_
  refine m_calli (As := [.int x]) (rest := [.ref (ad 0)]) E G hA hR hml (n_isMic l D cI cJ cZ ad S x h20 hp) (cwV 1 hts (gmV qM_316 qM_317 qM_318 qM_35 qM_306) rfl rfl rfl (by decide +kernel) ⟨Nat.le_of_ble_eq_true rfl, Nat.le_of_ble_eq_true rfl⟩) rfl hl.1 rfl (lv_room (Nat.le_of_ble_eq_true rfl)) dX12_bestWithout_3 ⟨Nat.zero_le _, Nat.zero_le _⟩ (fun r1 S2 H locs hq G => ?_)
  obtain ⟨hq1, hq2⟩ := hq
  rw [hq2] at G
  refine lv_to (y := 0) hq1 ?_
  refine m_calli (As := [.int 0]) (rest := []) E G hA hR hml (n_mayAsk l D cI cJ cZ ad S 0 h20) (cwV 1 hts (gmV qM_319 qM_320 qM_321 qM_35 qM_304) rfl rfl rfl (by decide +kernel) ⟨Nat.le_of_ble_eq_true rfl, Nat.le_of_ble_eq_true rfl⟩) rfl hl.1 rfl (lv_room (Nat.le_of_ble_eq_true rfl)) dX12_bestWithout_6 ⟨Nat.zero_le _, Nat.zero_le _⟩ (fun r3 S4 H locs hq G => ?_)
  obtain ⟨hq1, hq2⟩ := hq
  rw [hq2] at G
  refine lv_to (y := 0) hq1 ?_
  refine lv_if_ne (tgt := 14) hx hb dX12_bestWithout_9 (by decide) (fun c5 => absurd (by decide +kernel) c5) (fun c5 => ?_)
  refine lv_iconst (v := 0) hx hb dX12_bestWithout_12 (by decide) ?_
  exact W.iret (v := 0) hx hb hr (fun t ht hW => ⟨⟨0, (mi S 0 1), rfl, ⟨rfl, rfl⟩, ⟨by rw [ht]; exact G.1, va_K.moved hW.alike hK, G.2.1⟩⟩, G.2.2.F ht⟩) G.2.2.2.2 dX12_bestWithout_13
set_option maxHeartbeats 4000000 in
set_option maxRecDepth 100000 in
theorem n_bestIfOff (l : Launch) (D : va_G) (cI cJ cZ : ClassId) (ad : Nat → Nat) (S : MS) (x : Int32) (h20 : S.1 20 = 0) (hp : ∀ k, S.2.1 10 k = 0) : mCi l yX12_bestIfOff (Cond.code yX12_bestIfOff cX12_bestIfOff 2 (some .int) :: wsM) 3 43 D cI cJ cZ ad S [.int x] (fun r S1 => r = 0 ∧ S1 = mi S 0 1) := by
  intro sz
  refine Met.ofW (cc := cX12_bestIfOff) (maxL := 2) (ret := (some .int)) (by decide) rfl ?_
  intro p e s m args below meth c s₁ B hml hv
  obtain ⟨rfl, hsz, hP, hK, hD0, hR⟩ := hv
  have hx := B.exec
  have hb := B.bytes
  have hr := B.returns
  have hts := atoms_spec (ws := (Cond.code yX12_bestIfOff cX12_bestIfOff 2 (some .int) :: wsM)) B.pre
  have hown : s.vm.findClass RX12 = some m.cls := findClass_of_methodNamed B.named
  have hlocks := B.notSynchronized
  subst hsz
  have hD := hD0.self (sz := s.heap.size)
  generalize hAe : va_A (MW cI cJ cZ ad S) s.heap.size = A at hD ⊢
  have hA : ∀ q : Nat, s.heap.size ≤ q → A q := fun q h => by rw [← hAe]; exact Or.inr h
  have G : mG D cI cJ cZ ad A s.heap s.heap [] S := ⟨hP, hD, va_S.rf⟩
  have E : mE p c cX12_bestIfOff s m ([.ref (ad 0), .int x] : List Value).toArray (Cond.code yX12_bestIfOff cX12_bestIfOff 2 (some .int) :: wsM) D cI cJ cZ := ⟨hx, hb, hts, hown, hK, fun w h => .tail _ (iM_x h)⟩
  have hl := lv_entry ([.ref (ad 0), .int x]) (n := 2) (Nat.le_of_ble_eq_true rfl)
  rw [lg_entry_eq]
  generalize (lg_sl ([.ref (ad 0), .int x]) ++ List.replicate (2 - (lg_sl ([.ref (ad 0), .int x])).length) Slot.unset).toArray = ls at hl ⊢
  have hl : lv_has ls 2 [(0, .ref (ad 0)), (1, .int x)] := hl
  have hh : True := trivial
  refine lv_aload_n hx hb dX12_bestIfOff_0 rfl (lv_at hl 0 rfl) ?_
  refine lv_aload_n hx hb dX12_bestIfOff_1 rfl (lv_at hl 0 rfl) ?_
  refine lv_iload_n hx hb dX12_bestIfOff_2 rfl (lv_at hl 1 rfl) ?_
  refine m_calli (As := [.int x]) (rest := [.ref (ad 0)]) E G hA hR hml (n_isSource l D cI cJ cZ ad S x h20 hp) (cwV 1 hts (gmV qM_331 qM_332 qM_333 qM_35 qM_308) rfl rfl rfl (by decide +kernel) ⟨Nat.le_of_ble_eq_true rfl, Nat.le_of_ble_eq_true rfl⟩) rfl hl.1 rfl (lv_room (Nat.le_of_ble_eq_true rfl)) dX12_bestIfOff_3 ⟨Nat.zero_le _, Nat.zero_le _⟩ (fun r1 S2 H locs hq G => ?_)
  obtain ⟨hq1, hq2⟩ := hq
  rw [hq2] at G
  refine lv_to (y := 0) hq1 ?_
  refine m_calli (As := [.int 0]) (rest := []) E G hA hR hml (n_mayAsk l D cI cJ cZ ad S 0 h20) (cwV 1 hts (gmV qM_319 qM_320 qM_321 qM_35 qM_304) rfl rfl rfl (by decide +kernel) ⟨Nat.le_of_ble_eq_true rfl, Nat.le_of_ble_eq_true rfl⟩) rfl hl.1 rfl (lv_room (Nat.le_of_ble_eq_true rfl)) dX12_bestIfOff_6 ⟨Nat.zero_le _, Nat.zero_le _⟩ (fun r3 S4 H locs hq G => ?_)
  obtain ⟨hq1, hq2⟩ := hq
  rw [hq2] at G
  refine lv_to (y := 0) hq1 ?_
  refine lv_if_ne (tgt := 14) hx hb dX12_bestIfOff_9 (by decide) (fun c5 => absurd (by decide +kernel) c5) (fun c5 => ?_)
  refine lv_iconst (v := 0) hx hb dX12_bestIfOff_12 (by decide) ?_
  exact W.iret (v := 0) hx hb hr (fun t ht hW => ⟨⟨0, (mi S 0 1), rfl, ⟨rfl, rfl⟩, ⟨by rw [ht]; exact G.1, va_K.moved hW.alike hK, G.2.1⟩⟩, G.2.2.F ht⟩) G.2.2.2.2 dX12_bestIfOff_13
set_option maxHeartbeats 4000000 in
set_option maxRecDepth 100000 in
theorem n_mute (l : Launch) (D : va_G) (cI cJ cZ : ClassId) (ad : Nat → Nat) (S : MS) (x y : Int32) (h20 : S.1 20 = 0) (hp : ∀ k, S.2.1 10 k = 0) : mCi l yX12_mute (Cond.code yX12_mute cX12_mute 3 (some .boolean) :: wsM) 3 43 D cI cJ cZ ad S [.int x, .int y] (fun r S1 => r = 0 ∧ S1 = mi S 0 1) := by
  intro sz
  refine Met.ofW (cc := cX12_mute) (maxL := 3) (ret := (some .boolean)) (by decide) rfl ?_
  intro p e s m args below meth c s₁ B hml hv
  obtain ⟨rfl, hsz, hP, hK, hD0, hR⟩ := hv
  have hx := B.exec
  have hb := B.bytes
  have hr := B.returns
  have hts := atoms_spec (ws := (Cond.code yX12_mute cX12_mute 3 (some .boolean) :: wsM)) B.pre
  have hown : s.vm.findClass RX12 = some m.cls := findClass_of_methodNamed B.named
  have hlocks := B.notSynchronized
  subst hsz
  have hD := hD0.self (sz := s.heap.size)
  generalize hAe : va_A (MW cI cJ cZ ad S) s.heap.size = A at hD ⊢
  have hA : ∀ q : Nat, s.heap.size ≤ q → A q := fun q h => by rw [← hAe]; exact Or.inr h
  have G : mG D cI cJ cZ ad A s.heap s.heap [] S := ⟨hP, hD, va_S.rf⟩
  have E : mE p c cX12_mute s m ([.ref (ad 0), .int x, .int y] : List Value).toArray (Cond.code yX12_mute cX12_mute 3 (some .boolean) :: wsM) D cI cJ cZ := ⟨hx, hb, hts, hown, hK, fun w h => .tail _ (iM_x h)⟩
  have hl := lv_entry ([.ref (ad 0), .int x, .int y]) (n := 3) (Nat.le_of_ble_eq_true rfl)
  rw [lg_entry_eq]
  generalize (lg_sl ([.ref (ad 0), .int x, .int y]) ++ List.replicate (3 - (lg_sl ([.ref (ad 0), .int x, .int y])).length) Slot.unset).toArray = ls at hl ⊢
  have hl : lv_has ls 3 [(0, .ref (ad 0)), (1, .int x), (2, .int y)] := hl
  have hh : True := trivial
  refine lv_aload_n hx hb dX12_mute_0 rfl (lv_at hl 0 rfl) ?_
  refine lv_aload_n hx hb dX12_mute_1 rfl (lv_at hl 0 rfl) ?_
  refine lv_iload_n hx hb dX12_mute_2 rfl (lv_at hl 1 rfl) ?_
  refine m_calli (As := [.int x]) (rest := [.ref (ad 0)]) E G hA hR hml (n_isMic l D cI cJ cZ ad S x h20 hp) (cwV 1 hts (gmV qM_316 qM_317 qM_318 qM_35 qM_306) rfl rfl rfl (by decide +kernel) ⟨Nat.le_of_ble_eq_true rfl, Nat.le_of_ble_eq_true rfl⟩) rfl hl.1 rfl (lv_room (Nat.le_of_ble_eq_true rfl)) dX12_mute_3 ⟨Nat.zero_le _, Nat.zero_le _⟩ (fun r1 S2 H locs hq G => ?_)
  obtain ⟨hq1, hq2⟩ := hq
  rw [hq2] at G
  refine lv_to (y := 0) hq1 ?_
  refine m_calli (As := [.int 0]) (rest := []) E G hA hR hml (n_mayAsk l D cI cJ cZ ad S 0 h20) (cwV 1 hts (gmV qM_319 qM_320 qM_321 qM_35 qM_304) rfl rfl rfl (by decide +kernel) ⟨Nat.le_of_ble_eq_true rfl, Nat.le_of_ble_eq_true rfl⟩) rfl hl.1 rfl (lv_room (Nat.le_of_ble_eq_true rfl)) dX12_mute_6 ⟨Nat.zero_le _, Nat.zero_le _⟩ (fun r3 S4 H locs hq G => ?_)
  obtain ⟨hq1, hq2⟩ := hq
  rw [hq2] at G
  refine lv_to (y := 0) hq1 ?_
  refine lv_if_eq (tgt := 36) hx hb dX12_mute_9 (by decide) (fun c5 => ?_) (fun c5 => absurd (by decide +kernel) c5)
  refine lv_iconst (v := 0) hx hb dX12_mute_36 (by decide) ?_
  exact W.zret (v := 0) hx hb hr rfl (fun t ht hW => ⟨⟨0, (mi S 0 1), rfl, ⟨rfl, rfl⟩, ⟨by rw [ht]; exact G.1, va_K.moved hW.alike hK, G.2.1⟩⟩, G.2.2.F ht⟩) G.2.2.2.2 dX12_mute_37
set_option maxHeartbeats 4000000 in
set_option maxRecDepth 100000 in
theorem n_setWeight (l : Launch) (D : va_G) (cI cJ cZ : ClassId) (ad : Nat → Nat) (S : MS) (x y : Int32) (h20 : S.1 20 = 0) (hp : ∀ k, S.2.1 10 k = 0) : mCi l yX12_setWeight (Cond.code yX12_setWeight cX12_setWeight 3 (some .int) :: wsM) 3 43 D cI cJ cZ ad S [.int x, .int y] (fun r S1 => r = 0 ∧ S1 = mi S 0 1) := by
  intro sz
  refine Met.ofW (cc := cX12_setWeight) (maxL := 3) (ret := (some .int)) (by decide) rfl ?_
  intro p e s m args below meth c s₁ B hml hv
  obtain ⟨rfl, hsz, hP, hK, hD0, hR⟩ := hv
  have hx := B.exec
  have hb := B.bytes
  have hr := B.returns
  have hts := atoms_spec (ws := (Cond.code yX12_setWeight cX12_setWeight 3 (some .int) :: wsM)) B.pre
  have hown : s.vm.findClass RX12 = some m.cls := findClass_of_methodNamed B.named
  have hlocks := B.notSynchronized
  subst hsz
  have hD := hD0.self (sz := s.heap.size)
  generalize hAe : va_A (MW cI cJ cZ ad S) s.heap.size = A at hD ⊢
  have hA : ∀ q : Nat, s.heap.size ≤ q → A q := fun q h => by rw [← hAe]; exact Or.inr h
  have G : mG D cI cJ cZ ad A s.heap s.heap [] S := ⟨hP, hD, va_S.rf⟩
  have E : mE p c cX12_setWeight s m ([.ref (ad 0), .int x, .int y] : List Value).toArray (Cond.code yX12_setWeight cX12_setWeight 3 (some .int) :: wsM) D cI cJ cZ := ⟨hx, hb, hts, hown, hK, fun w h => .tail _ (iM_x h)⟩
  have hl := lv_entry ([.ref (ad 0), .int x, .int y]) (n := 3) (Nat.le_of_ble_eq_true rfl)
  rw [lg_entry_eq]
  generalize (lg_sl ([.ref (ad 0), .int x, .int y]) ++ List.replicate (3 - (lg_sl ([.ref (ad 0), .int x, .int y])).length) Slot.unset).toArray = ls at hl ⊢
  have hl : lv_has ls 3 [(0, .ref (ad 0)), (1, .int x), (2, .int y)] := hl
  have hh : True := trivial
  refine lv_aload_n hx hb dX12_setWeight_0 rfl (lv_at hl 0 rfl) ?_
  refine lv_aload_n hx hb dX12_setWeight_1 rfl (lv_at hl 0 rfl) ?_
  refine lv_iload_n hx hb dX12_setWeight_2 rfl (lv_at hl 1 rfl) ?_
  refine m_calli (As := [.int x]) (rest := [.ref (ad 0)]) E G hA hR hml (n_isMic l D cI cJ cZ ad S x h20 hp) (cwV 1 hts (gmV qM_316 qM_317 qM_318 qM_35 qM_306) rfl rfl rfl (by decide +kernel) ⟨Nat.le_of_ble_eq_true rfl, Nat.le_of_ble_eq_true rfl⟩) rfl hl.1 rfl (lv_room (Nat.le_of_ble_eq_true rfl)) dX12_setWeight_3 ⟨Nat.zero_le _, Nat.zero_le _⟩ (fun r1 S2 H locs hq G => ?_)
  obtain ⟨hq1, hq2⟩ := hq
  rw [hq2] at G
  refine lv_to (y := 0) hq1 ?_
  refine m_calli (As := [.int 0]) (rest := []) E G hA hR hml (n_mayAsk l D cI cJ cZ ad S 0 h20) (cwV 1 hts (gmV qM_319 qM_320 qM_321 qM_35 qM_304) rfl rfl rfl (by decide +kernel) ⟨Nat.le_of_ble_eq_true rfl, Nat.le_of_ble_eq_true rfl⟩) rfl hl.1 rfl (lv_room (Nat.le_of_ble_eq_true rfl)) dX12_setWeight_6 ⟨Nat.zero_le _, Nat.zero_le _⟩ (fun r3 S4 H locs hq G => ?_)
  obtain ⟨hq1, hq2⟩ := hq
  rw [hq2] at G
  refine lv_to (y := 0) hq1 ?_
  refine lv_if_ne (tgt := 14) hx hb dX12_setWeight_9 (by decide) (fun c5 => absurd (by decide +kernel) c5) (fun c5 => ?_)
  refine lv_iconst (v := 0) hx hb dX12_setWeight_12 (by decide) ?_
  exact W.iret (v := 0) hx hb hr (fun t ht hW => ⟨⟨0, (mi S 0 1), rfl, ⟨rfl, rfl⟩, ⟨by rw [ht]; exact G.1, va_K.moved hW.alike hK, G.2.1⟩⟩, G.2.2.F ht⟩) G.2.2.2.2 dX12_setWeight_13
set_option maxHeartbeats 4000000 in
set_option maxRecDepth 100000 in
theorem n_setOn (l : Launch) (D : va_G) (cI cJ cZ : ClassId) (ad : Nat → Nat) (S : MS) (x y : Int32) (h20 : S.1 20 = 0) (hp : ∀ k, S.2.1 10 k = 0) : mCi l yX12_setOn (Cond.code yX12_setOn cX12_setOn 4 (some .boolean) :: wsM) 3 43 D cI cJ cZ ad S [.int x, .int y] (fun r S1 => r = 0 ∧ S1 = mi S 0 1) := by
  intro sz
  refine Met.ofW (cc := cX12_setOn) (maxL := 4) (ret := (some .boolean)) (by decide) rfl ?_
  intro p e s m args below meth c s₁ B hml hv
  obtain ⟨rfl, hsz, hP, hK, hD0, hR⟩ := hv
  have hx := B.exec
  have hb := B.bytes
  have hr := B.returns
  have hts := atoms_spec (ws := (Cond.code yX12_setOn cX12_setOn 4 (some .boolean) :: wsM)) B.pre
  have hown : s.vm.findClass RX12 = some m.cls := findClass_of_methodNamed B.named
  have hlocks := B.notSynchronized
  subst hsz
  have hD := hD0.self (sz := s.heap.size)
  generalize hAe : va_A (MW cI cJ cZ ad S) s.heap.size = A at hD ⊢
  have hA : ∀ q : Nat, s.heap.size ≤ q → A q := fun q h => by rw [← hAe]; exact Or.inr h
  have G : mG D cI cJ cZ ad A s.heap s.heap [] S := ⟨hP, hD, va_S.rf⟩
  have E : mE p c cX12_setOn s m ([.ref (ad 0), .int x, .int y] : List Value).toArray (Cond.code yX12_setOn cX12_setOn 4 (some .boolean) :: wsM) D cI cJ cZ := ⟨hx, hb, hts, hown, hK, fun w h => .tail _ (iM_x h)⟩
  have hl := lv_entry ([.ref (ad 0), .int x, .int y]) (n := 4) (Nat.le_of_ble_eq_true rfl)
  rw [lg_entry_eq]
  generalize (lg_sl ([.ref (ad 0), .int x, .int y]) ++ List.replicate (4 - (lg_sl ([.ref (ad 0), .int x, .int y])).length) Slot.unset).toArray = ls at hl ⊢
  have hl : lv_has ls 4 [(0, .ref (ad 0)), (1, .int x), (2, .int y)] := hl
  have hh : True := trivial
  refine lv_aload_n hx hb dX12_setOn_0 rfl (lv_at hl 0 rfl) ?_
  refine lv_aload_n hx hb dX12_setOn_1 rfl (lv_at hl 0 rfl) ?_
  refine lv_iload_n hx hb dX12_setOn_2 rfl (lv_at hl 1 rfl) ?_
  refine m_calli (As := [.int x]) (rest := [.ref (ad 0)]) E G hA hR hml (n_isSource l D cI cJ cZ ad S x h20 hp) (cwV 1 hts (gmV qM_331 qM_332 qM_333 qM_35 qM_308) rfl rfl rfl (by decide +kernel) ⟨Nat.le_of_ble_eq_true rfl, Nat.le_of_ble_eq_true rfl⟩) rfl hl.1 rfl (lv_room (Nat.le_of_ble_eq_true rfl)) dX12_setOn_3 ⟨Nat.zero_le _, Nat.zero_le _⟩ (fun r1 S2 H locs hq G => ?_)
  obtain ⟨hq1, hq2⟩ := hq
  rw [hq2] at G
  refine lv_to (y := 0) hq1 ?_
  refine m_calli (As := [.int 0]) (rest := []) E G hA hR hml (n_mayAsk l D cI cJ cZ ad S 0 h20) (cwV 1 hts (gmV qM_319 qM_320 qM_321 qM_35 qM_304) rfl rfl rfl (by decide +kernel) ⟨Nat.le_of_ble_eq_true rfl, Nat.le_of_ble_eq_true rfl⟩) rfl hl.1 rfl (lv_room (Nat.le_of_ble_eq_true rfl)) dX12_setOn_6 ⟨Nat.zero_le _, Nat.zero_le _⟩ (fun r3 S4 H locs hq G => ?_)
  obtain ⟨hq1, hq2⟩ := hq
  rw [hq2] at G
  refine lv_to (y := 0) hq1 ?_
  refine lv_if_ne (tgt := 14) hx hb dX12_setOn_9 (by decide) (fun c5 => absurd (by decide +kernel) c5) (fun c5 => ?_)
  refine lv_iconst (v := 0) hx hb dX12_setOn_12 (by decide) ?_
  exact W.zret (v := 0) hx hb hr rfl (fun t ht hW => ⟨⟨0, (mi S 0 1), rfl, ⟨rfl, rfl⟩, ⟨by rw [ht]; exact G.1, va_K.moved hW.alike hK, G.2.1⟩⟩, G.2.2.F ht⟩) G.2.2.2.2 dX12_setOn_13
set_option maxHeartbeats 4000000 in
set_option maxRecDepth 100000 in
theorem n_moveSource (l : Launch) (D : va_G) (cI cJ cZ : ClassId) (ad : Nat → Nat) (S : MS) (x y z : Int32) (h20 : S.1 20 = 0) (hp : ∀ k, S.2.1 10 k = 0) : mCi l yX12_moveSource (Cond.code yX12_moveSource cX12_moveSource 4 (some .int) :: wsM) 3 43 D cI cJ cZ ad S [.int x, .int y, .int z] (fun r S1 => r = 0 ∧ S1 = mi S 0 1) := by
  intro sz
  refine Met.ofW (cc := cX12_moveSource) (maxL := 4) (ret := (some .int)) (by decide) rfl ?_
  intro p e s m args below meth c s₁ B hml hv
  obtain ⟨rfl, hsz, hP, hK, hD0, hR⟩ := hv
  have hx := B.exec
  have hb := B.bytes
  have hr := B.returns
  have hts := atoms_spec (ws := (Cond.code yX12_moveSource cX12_moveSource 4 (some .int) :: wsM)) B.pre
  have hown : s.vm.findClass RX12 = some m.cls := findClass_of_methodNamed B.named
  have hlocks := B.notSynchronized
  subst hsz
  have hD := hD0.self (sz := s.heap.size)
  generalize hAe : va_A (MW cI cJ cZ ad S) s.heap.size = A at hD ⊢
  have hA : ∀ q : Nat, s.heap.size ≤ q → A q := fun q h => by rw [← hAe]; exact Or.inr h
  have G : mG D cI cJ cZ ad A s.heap s.heap [] S := ⟨hP, hD, va_S.rf⟩
  have E : mE p c cX12_moveSource s m ([.ref (ad 0), .int x, .int y, .int z] : List Value).toArray (Cond.code yX12_moveSource cX12_moveSource 4 (some .int) :: wsM) D cI cJ cZ := ⟨hx, hb, hts, hown, hK, fun w h => .tail _ (iM_x h)⟩
  have hl := lv_entry ([.ref (ad 0), .int x, .int y, .int z]) (n := 4) (Nat.le_of_ble_eq_true rfl)
  rw [lg_entry_eq]
  generalize (lg_sl ([.ref (ad 0), .int x, .int y, .int z]) ++ List.replicate (4 - (lg_sl ([.ref (ad 0), .int x, .int y, .int z])).length) Slot.unset).toArray = ls at hl ⊢
  have hl : lv_has ls 4 [(0, .ref (ad 0)), (1, .int x), (2, .int y), (3, .int z)] := hl
  have hh : True := trivial
  refine lv_aload_n hx hb dX12_moveSource_0 rfl (lv_at hl 0 rfl) ?_
  refine lv_aload_n hx hb dX12_moveSource_1 rfl (lv_at hl 0 rfl) ?_
  refine lv_iload_n hx hb dX12_moveSource_2 rfl (lv_at hl 1 rfl) ?_
  refine m_calli (As := [.int x]) (rest := [.ref (ad 0)]) E G hA hR hml (n_isSource l D cI cJ cZ ad S x h20 hp) (cwV 1 hts (gmV qM_331 qM_332 qM_333 qM_35 qM_308) rfl rfl rfl (by decide +kernel) ⟨Nat.le_of_ble_eq_true rfl, Nat.le_of_ble_eq_true rfl⟩) rfl hl.1 rfl (lv_room (Nat.le_of_ble_eq_true rfl)) dX12_moveSource_3 ⟨Nat.zero_le _, Nat.zero_le _⟩ (fun r1 S2 H locs hq G => ?_)
  obtain ⟨hq1, hq2⟩ := hq
  rw [hq2] at G
  refine lv_to (y := 0) hq1 ?_
  refine m_calli (As := [.int 0]) (rest := []) E G hA hR hml (n_mayAsk l D cI cJ cZ ad S 0 h20) (cwV 1 hts (gmV qM_319 qM_320 qM_321 qM_35 qM_304) rfl rfl rfl (by decide +kernel) ⟨Nat.le_of_ble_eq_true rfl, Nat.le_of_ble_eq_true rfl⟩) rfl hl.1 rfl (lv_room (Nat.le_of_ble_eq_true rfl)) dX12_moveSource_6 ⟨Nat.zero_le _, Nat.zero_le _⟩ (fun r3 S4 H locs hq G => ?_)
  obtain ⟨hq1, hq2⟩ := hq
  rw [hq2] at G
  refine lv_to (y := 0) hq1 ?_
  refine lv_if_ne (tgt := 14) hx hb dX12_moveSource_9 (by decide) (fun c5 => absurd (by decide +kernel) c5) (fun c5 => ?_)
  refine lv_iconst (v := 0) hx hb dX12_moveSource_12 (by decide) ?_
  exact W.iret (v := 0) hx hb hr (fun t ht hW => ⟨⟨0, (mi S 0 1), rfl, ⟨rfl, rfl⟩, ⟨by rw [ht]; exact G.1, va_K.moved hW.alike hK, G.2.1⟩⟩, G.2.2.F ht⟩) G.2.2.2.2 dX12_moveSource_13
set_option maxHeartbeats 4000000 in
set_option maxRecDepth 100000 in
theorem n_setVelocity (l : Launch) (D : va_G) (cI cJ cZ : ClassId) (ad : Nat → Nat) (S : MS) (x y z : Int32) (h20 : S.1 20 = 0) (hp : ∀ k, S.2.1 10 k = 0) : mCi l yX12_setVelocity (Cond.code yX12_setVelocity cX12_setVelocity 4 (some .int) :: wsM) 3 43 D cI cJ cZ ad S [.int x, .int y, .int z] (fun r S1 => r = 0 ∧ S1 = mi S 0 1) := by
  intro sz
  refine Met.ofW (cc := cX12_setVelocity) (maxL := 4) (ret := (some .int)) (by decide) rfl ?_
  intro p e s m args below meth c s₁ B hml hv
  obtain ⟨rfl, hsz, hP, hK, hD0, hR⟩ := hv
  have hx := B.exec
  have hb := B.bytes
  have hr := B.returns
  have hts := atoms_spec (ws := (Cond.code yX12_setVelocity cX12_setVelocity 4 (some .int) :: wsM)) B.pre
  have hown : s.vm.findClass RX12 = some m.cls := findClass_of_methodNamed B.named
  have hlocks := B.notSynchronized
  subst hsz
  have hD := hD0.self (sz := s.heap.size)
  generalize hAe : va_A (MW cI cJ cZ ad S) s.heap.size = A at hD ⊢
  have hA : ∀ q : Nat, s.heap.size ≤ q → A q := fun q h => by rw [← hAe]; exact Or.inr h
  have G : mG D cI cJ cZ ad A s.heap s.heap [] S := ⟨hP, hD, va_S.rf⟩
  have E : mE p c cX12_setVelocity s m ([.ref (ad 0), .int x, .int y, .int z] : List Value).toArray (Cond.code yX12_setVelocity cX12_setVelocity 4 (some .int) :: wsM) D cI cJ cZ := ⟨hx, hb, hts, hown, hK, fun w h => .tail _ (iM_x h)⟩
  have hl := lv_entry ([.ref (ad 0), .int x, .int y, .int z]) (n := 4) (Nat.le_of_ble_eq_true rfl)
  rw [lg_entry_eq]
  generalize (lg_sl ([.ref (ad 0), .int x, .int y, .int z]) ++ List.replicate (4 - (lg_sl ([.ref (ad 0), .int x, .int y, .int z])).length) Slot.unset).toArray = ls at hl ⊢
  have hl : lv_has ls 4 [(0, .ref (ad 0)), (1, .int x), (2, .int y), (3, .int z)] := hl
  have hh : True := trivial
  refine lv_aload_n hx hb dX12_setVelocity_0 rfl (lv_at hl 0 rfl) ?_
  refine lv_aload_n hx hb dX12_setVelocity_1 rfl (lv_at hl 0 rfl) ?_
  refine lv_iload_n hx hb dX12_setVelocity_2 rfl (lv_at hl 1 rfl) ?_
  refine m_calli (As := [.int x]) (rest := [.ref (ad 0)]) E G hA hR hml (n_isSource l D cI cJ cZ ad S x h20 hp) (cwV 1 hts (gmV qM_331 qM_332 qM_333 qM_35 qM_308) rfl rfl rfl (by decide +kernel) ⟨Nat.le_of_ble_eq_true rfl, Nat.le_of_ble_eq_true rfl⟩) rfl hl.1 rfl (lv_room (Nat.le_of_ble_eq_true rfl)) dX12_setVelocity_3 ⟨Nat.zero_le _, Nat.zero_le _⟩ (fun r1 S2 H locs hq G => ?_)
  obtain ⟨hq1, hq2⟩ := hq
  rw [hq2] at G
  refine lv_to (y := 0) hq1 ?_
  refine m_calli (As := [.int 0]) (rest := []) E G hA hR hml (n_mayAsk l D cI cJ cZ ad S 0 h20) (cwV 1 hts (gmV qM_319 qM_320 qM_321 qM_35 qM_304) rfl rfl rfl (by decide +kernel) ⟨Nat.le_of_ble_eq_true rfl, Nat.le_of_ble_eq_true rfl⟩) rfl hl.1 rfl (lv_room (Nat.le_of_ble_eq_true rfl)) dX12_setVelocity_6 ⟨Nat.zero_le _, Nat.zero_le _⟩ (fun r3 S4 H locs hq G => ?_)
  obtain ⟨hq1, hq2⟩ := hq
  rw [hq2] at G
  refine lv_to (y := 0) hq1 ?_
  refine lv_if_ne (tgt := 14) hx hb dX12_setVelocity_9 (by decide) (fun c5 => absurd (by decide +kernel) c5) (fun c5 => ?_)
  refine lv_iconst (v := 0) hx hb dX12_setVelocity_12 (by decide) ?_
  exact W.iret (v := 0) hx hb hr (fun t ht hW => ⟨⟨0, (mi S 0 1), rfl, ⟨rfl, rfl⟩, ⟨by rw [ht]; exact G.1, va_K.moved hW.alike hK, G.2.1⟩⟩, G.2.2.F ht⟩) G.2.2.2.2 dX12_setVelocity_13
set_option maxHeartbeats 4000000 in
set_option maxRecDepth 100000 in
theorem n_cleaned (l : Launch) (D : va_G) (cI cJ cZ : ClassId) (ad : Nat → Nat) (S : MS) (h20 : S.1 20 = 0) (hp : ∀ k, S.2.1 10 k = 0) : mCi l yX12_cleaned (Cond.code yX12_cleaned cX12_cleaned 1 (some .int) :: wsM) 2 21 D cI cJ cZ ad S [] (fun r S1 => r = 0 ∧ S1 = mi S 0 1) := by
  intro sz
  refine Met.ofW (cc := cX12_cleaned) (maxL := 1) (ret := (some .int)) (by decide) rfl ?_
  intro p e s m args below meth c s₁ B hml hv
  obtain ⟨rfl, hsz, hP, hK, hD0, hR⟩ := hv
  have hx := B.exec
  have hb := B.bytes
  have hr := B.returns
  have hts := atoms_spec (ws := (Cond.code yX12_cleaned cX12_cleaned 1 (some .int) :: wsM)) B.pre
  have hown : s.vm.findClass RX12 = some m.cls := findClass_of_methodNamed B.named
  have hlocks := B.notSynchronized
  subst hsz
  have hD := hD0.self (sz := s.heap.size)
  generalize hAe : va_A (MW cI cJ cZ ad S) s.heap.size = A at hD ⊢
  have hA : ∀ q : Nat, s.heap.size ≤ q → A q := fun q h => by rw [← hAe]; exact Or.inr h
  have G : mG D cI cJ cZ ad A s.heap s.heap [] S := ⟨hP, hD, va_S.rf⟩
  have E : mE p c cX12_cleaned s m ([.ref (ad 0)] : List Value).toArray (Cond.code yX12_cleaned cX12_cleaned 1 (some .int) :: wsM) D cI cJ cZ := ⟨hx, hb, hts, hown, hK, fun w h => .tail _ (iM_x h)⟩
  have hl := lv_entry ([.ref (ad 0)]) (n := 1) (Nat.le_of_ble_eq_true rfl)
  rw [lg_entry_eq]
  generalize (lg_sl ([.ref (ad 0)]) ++ List.replicate (1 - (lg_sl ([.ref (ad 0)])).length) Slot.unset).toArray = ls at hl ⊢
  have hl : lv_has ls 1 [(0, .ref (ad 0))] := hl
  have hh : True := trivial
  refine lv_aload_n hx hb dX12_cleaned_0 rfl (lv_at hl 0 rfl) ?_
  refine lv_iconst (v := 1) hx hb dX12_cleaned_1 (by decide) ?_
  refine m_calli (As := [.int 1]) (rest := []) E G hA hR hml (n_mayAsk l D cI cJ cZ ad S 1 h20) (cwV 1 hts (gmV qM_319 qM_320 qM_321 qM_35 qM_304) rfl rfl rfl (by decide +kernel) ⟨Nat.le_of_ble_eq_true rfl, Nat.le_of_ble_eq_true rfl⟩) rfl hl.1 rfl (lv_room (Nat.le_of_ble_eq_true rfl)) dX12_cleaned_2 ⟨Nat.zero_le _, Nat.zero_le _⟩ (fun r1 S2 H locs hq G => ?_)
  obtain ⟨hq1, hq2⟩ := hq
  rw [hq2] at G
  refine lv_to (y := 0) hq1 ?_
  refine lv_if_eq (tgt := 17) hx hb dX12_cleaned_5 (by decide) (fun c3 => ?_) (fun c3 => absurd (by decide +kernel) c3)
  refine lv_iconst (v := 0) hx hb dX12_cleaned_17 (by decide) ?_
  exact W.iret (v := 0) hx hb hr (fun t ht hW => ⟨⟨0, (mi S 0 1), rfl, ⟨rfl, rfl⟩, ⟨by rw [ht]; exact G.1, va_K.moved hW.alike hK, G.2.1⟩⟩, G.2.2.F ht⟩) G.2.2.2.2 dX12_cleaned_18
set_option maxHeartbeats 4000000 in
set_option maxRecDepth 100000 in
theorem n_save (l : Launch) (D : va_G) (cI cJ cZ : ClassId) (ad : Nat → Nat) (S : MS) (x : Int32) (h20 : S.1 20 = 0) (hp : ∀ k, S.2.1 10 k = 0) : mCi l yX12_save (Cond.code yX12_save cX12_save 2 (some .int) :: wsM) 2 22 D cI cJ cZ ad S [.int x] (fun r S1 => r = 0 ∧ S1 = mi S 0 1) := by
  intro sz
  refine Met.ofW (cc := cX12_save) (maxL := 2) (ret := (some .int)) (by decide) rfl ?_
  intro p e s m args below meth c s₁ B hml hv
  obtain ⟨rfl, hsz, hP, hK, hD0, hR⟩ := hv
  have hx := B.exec
  have hb := B.bytes
  have hr := B.returns
  have hts := atoms_spec (ws := (Cond.code yX12_save cX12_save 2 (some .int) :: wsM)) B.pre
  have hown : s.vm.findClass RX12 = some m.cls := findClass_of_methodNamed B.named
  have hlocks := B.notSynchronized
  subst hsz
  have hD := hD0.self (sz := s.heap.size)
  generalize hAe : va_A (MW cI cJ cZ ad S) s.heap.size = A at hD ⊢
  have hA : ∀ q : Nat, s.heap.size ≤ q → A q := fun q h => by rw [← hAe]; exact Or.inr h
  have G : mG D cI cJ cZ ad A s.heap s.heap [] S := ⟨hP, hD, va_S.rf⟩
  have E : mE p c cX12_save s m ([.ref (ad 0), .int x] : List Value).toArray (Cond.code yX12_save cX12_save 2 (some .int) :: wsM) D cI cJ cZ := ⟨hx, hb, hts, hown, hK, fun w h => .tail _ (iM_x h)⟩
  have hl := lv_entry ([.ref (ad 0), .int x]) (n := 2) (Nat.le_of_ble_eq_true rfl)
  rw [lg_entry_eq]
  generalize (lg_sl ([.ref (ad 0), .int x]) ++ List.replicate (2 - (lg_sl ([.ref (ad 0), .int x])).length) Slot.unset).toArray = ls at hl ⊢
  have hl : lv_has ls 2 [(0, .ref (ad 0)), (1, .int x)] := hl
  have hh : True := trivial
  refine lv_aload_n hx hb dX12_save_0 rfl (lv_at hl 0 rfl) ?_
  refine lv_iload_n hx hb dX12_save_1 rfl (lv_at hl 1 rfl) ?_
  refine lv_iconst (v := 0) hx hb dX12_save_2 (by decide) ?_
  refine lv_iconst (v := 1) hx hb dX12_save_3 (by decide) ?_
  refine m_stat (As := [.int x, .int 0, .int 1]) (rest := [.ref (ad 0)]) ⟨hx, hb, hml, hown, hts⟩ (m_in l x 0 1) (cwS 3 hts (gmS qM_52 qM_53 qM_35 qM_27) rfl rfl rfl (by decide +kernel) ⟨Nat.le_of_ble_eq_true rfl, Nat.le_of_ble_eq_true rfl⟩) rfl hl.1 rfl (lv_room (Nat.le_of_ble_eq_true rfl)) dX12_save_4 ⟨Nat.zero_le _, Nat.zero_le _⟩ (fun r1 hq => ?_)
  refine m_calli (As := [.int r1]) (rest := []) E G hA hR hml (n_mayAsk l D cI cJ cZ ad S r1 h20) (cwV 1 hts (gmV qM_319 qM_320 qM_321 qM_35 qM_304) rfl rfl rfl (by decide +kernel) ⟨Nat.le_of_ble_eq_true rfl, Nat.le_of_ble_eq_true rfl⟩) rfl hl.1 rfl (lv_room (Nat.le_of_ble_eq_true rfl)) dX12_save_7 ⟨Nat.zero_le _, Nat.zero_le _⟩ (fun r2 S3 H locs hq G => ?_)
  obtain ⟨hq1, hq2⟩ := hq
  rw [hq2] at G
  refine lv_to (y := 0) hq1 ?_
  refine lv_if_ne (tgt := 15) hx hb dX12_save_10 (by decide) (fun c4 => absurd (by decide +kernel) c4) (fun c4 => ?_)
  refine lv_iconst (v := 0) hx hb dX12_save_13 (by decide) ?_
  exact W.iret (v := 0) hx hb hr (fun t ht hW => ⟨⟨0, (mi S 0 1), rfl, ⟨rfl, rfl⟩, ⟨by rw [ht]; exact G.1, va_K.moved hW.alike hK, G.2.1⟩⟩, G.2.2.F ht⟩) G.2.2.2.2 dX12_save_14
set_option maxHeartbeats 4000000 in
set_option maxRecDepth 100000 in
theorem n_clean (l : Launch) (D : va_G) (cI cJ cZ : ClassId) (ad : Nat → Nat) (S : MS) (x : Int32) (h20 : S.1 20 = 0) (hp : ∀ k, S.2.1 10 k = 0) : mCi l yX12_clean (Cond.code yX12_clean cX12_clean 6 (some .int) :: wsM) 1 0 D cI cJ cZ ad S [.int x] (fun r S1 => r = 0 ∧ S1 = mi S 0 1) := by
  intro sz
  refine Met.ofW (cc := cX12_clean) (maxL := 6) (ret := (some .int)) (by decide) rfl ?_
  intro p e s m args below meth c s₁ B hml hv
  obtain ⟨rfl, hsz, hP, hK, hD0, hR⟩ := hv
  have hx := B.exec
  have hb := B.bytes
  have hr := B.returns
  have hts := atoms_spec (ws := (Cond.code yX12_clean cX12_clean 6 (some .int) :: wsM)) B.pre
  have hown : s.vm.findClass RX12 = some m.cls := findClass_of_methodNamed B.named
  have hlocks := B.notSynchronized
  subst hsz
  have hD := hD0.self (sz := s.heap.size)
  generalize hAe : va_A (MW cI cJ cZ ad S) s.heap.size = A at hD ⊢
  have hA : ∀ q : Nat, s.heap.size ≤ q → A q := fun q h => by rw [← hAe]; exact Or.inr h
  have G : mG D cI cJ cZ ad A s.heap s.heap [] S := ⟨hP, hD, va_S.rf⟩
  have E : mE p c cX12_clean s m ([.ref (ad 0), .int x] : List Value).toArray (Cond.code yX12_clean cX12_clean 6 (some .int) :: wsM) D cI cJ cZ := ⟨hx, hb, hts, hown, hK, fun w h => .tail _ (iM_x h)⟩
  have hl := lv_entry ([.ref (ad 0), .int x]) (n := 6) (Nat.le_of_ble_eq_true rfl)
  rw [lg_entry_eq]
  generalize (lg_sl ([.ref (ad 0), .int x]) ++ List.replicate (6 - (lg_sl ([.ref (ad 0), .int x])).length) Slot.unset).toArray = ls at hl ⊢
  have hl : lv_has ls 6 [(0, .ref (ad 0)), (1, .int x)] := hl
  have hh : True := trivial
  refine lv_aload_n hx hb dX12_clean_0 rfl (lv_at hl 0 rfl) ?_
  refine lv_aload_n hx hb dX12_clean_1 rfl (lv_at hl 0 rfl) ?_
  refine m_get E G 20 (v := .int (S.1 20)) (by decide) (.tail _ qM_193) rfl dX12_clean_2 rfl ?_
  refine lv_to (y := 0) h20 ?_
  refine lv_if_eq (tgt := 15) hx hb dX12_clean_5 (by decide) (fun c1 => ?_) (fun c1 => absurd (by decide +kernel) c1)
  refine lv_iconst (v := 1) hx hb dX12_clean_15 (by decide) ?_
  refine lv_goto (tgt := 34) hx hb dX12_clean_16 (by decide) ?_
  refine m_put E G 0 (by decide) (.tail _ qM_26) (mw_i0 _ _ _ _ _ 1) dX12_clean_34 ⟨rfl, rfl, rfl⟩ rfl rfl (fun H locs G => ?_)
  refine lv_aload_n hx hb dX12_clean_37 rfl (lv_at hl 0 rfl) ?_
  refine m_get E G 0 (v := .int 1) (by decide) (.tail _ qM_26) rfl dX12_clean_38 rfl ?_
  refine lv_if_le (tgt := 46) hx hb dX12_clean_41 (by decide) (fun c2 => absurd c2 (by decide +kernel)) (fun c2 => ?_)
  refine lv_iconst (v := 0) hx hb dX12_clean_44 (by decide) ?_
  exact W.iret (v := 0) hx hb hr (fun t ht hW => ⟨⟨0, (mi S 0 1), rfl, ⟨rfl, rfl⟩, ⟨by rw [ht]; exact G.1, va_K.moved hW.alike hK, G.2.1⟩⟩, G.2.2.F ht⟩) G.2.2.2.2 dX12_clean_45
