set_option maxHeartbeats 4000000 in
set_option maxRecDepth 100000 in
theorem r_isWord_p (l : Launch) (D : va_G) (cI cJ cZ : ClassId) (ad : Nat → Nat) (S : MS) (wd : Nat) (h5 : S.1 5 = 1) : mCi l yX12_isWord (Cond.code yX12_isWord cX12_isWord 3 (some .boolean) :: wsM) 1 0 D cI cJ cZ ad S [.ref wd] (fun r S1 => r = 0 ∧ S1 = S) := by
  intro sz
  refine Met.ofW (cc := cX12_isWord) (maxL := 3) (ret := (some .boolean)) (by decide) rfl ?_
  intro p e s m args below meth c s₁ B hml hv
  obtain ⟨rfl, hsz, hP, hK, hD0, hR⟩ := hv
  have hx := B.exec
  have hb := B.bytes
  have hr := B.returns
  have hts := atoms_spec (ws := (Cond.code yX12_isWord cX12_isWord 3 (some .boolean) :: wsM)) B.pre
  have hown : s.vm.findClass RX12 = some m.cls := findClass_of_methodNamed B.named
  have hlocks := B.notSynchronized
  subst hsz
  have hD := hD0.self (sz := s.heap.size)
  generalize hAe : va_A (MW cI cJ cZ ad S) s.heap.size = A at hD ⊢
  have hA : ∀ q : Nat, s.heap.size ≤ q → A q := fun q h => by rw [← hAe]; exact Or.inr h
  have G : mG D cI cJ cZ ad A s.heap s.heap [] S := ⟨hP, hD, va_S.rf⟩
  have E : mE p c cX12_isWord s m ([.ref (ad 0), .ref wd] : List Value).toArray (Cond.code yX12_isWord cX12_isWord 3 (some .boolean) :: wsM) D cI cJ cZ := ⟨hx, hb, hts, hown, hK, fun w h => .tail _ (iM_x h)⟩
  have hl := lv_entry ([.ref (ad 0), .ref wd]) (n := 3) (Nat.le_of_ble_eq_true rfl)
  rw [lg_entry_eq]
  generalize (lg_sl ([.ref (ad 0), .ref wd]) ++ List.replicate (3 - (lg_sl ([.ref (ad 0), .ref wd])).length) Slot.unset).toArray = ls at hl ⊢
  have hl : lv_has ls 3 [(0, .ref (ad 0)), (1, .ref wd)] := hl
  have hh : True := trivial
  refine lv_aload_n hx hb dX12_isWord_0 rfl (lv_at hl 0 rfl) ?_
  refine m_get E G 5 (v := .int (S.1 5)) (by decide) (.tail _ qM_38) rfl dX12_isWord_1 rfl ?_
  refine lv_to (y := 1) h5 ?_
  refine lv_if_gt (tgt := 31) hx hb dX12_isWord_4 (by decide) (fun c1 => ?_) (fun c1 => absurd (by decide +kernel) c1)
  refine lv_iconst (v := 0) hx hb dX12_isWord_31 (by decide) ?_
  exact W.zret (v := 0) hx hb hr rfl (fun t ht hW => ⟨⟨0, S, rfl, ⟨rfl, rfl⟩, ⟨by rw [ht]; exact G.1, va_K.moved hW.alike hK, G.2.1⟩⟩, G.2.2.F ht⟩) G.2.2.2.2 dX12_isWord_32
set_option maxHeartbeats 4000000 in
set_option maxRecDepth 100000 in
theorem r_takes_p (l : Launch) (D : va_G) (cI cJ cZ : ClassId) (ad : Nat → Nat) (S : MS) (wd : Nat) (h5 : S.1 5 = 1) : mCi l yX12_takes (Cond.code yX12_takes cX12_takes 3 (some .boolean) :: wsM) 2 22 D cI cJ cZ ad S [.ref wd] (fun r S1 => r = 0 ∧ S1 = S) := by
  intro sz
  refine Met.ofW (cc := cX12_takes) (maxL := 3) (ret := (some .boolean)) (by decide) rfl ?_
  intro p e s m args below meth c s₁ B hml hv
  obtain ⟨rfl, hsz, hP, hK, hD0, hR⟩ := hv
  have hx := B.exec
  have hb := B.bytes
  have hr := B.returns
  have hts := atoms_spec (ws := (Cond.code yX12_takes cX12_takes 3 (some .boolean) :: wsM)) B.pre
  have hown : s.vm.findClass RX12 = some m.cls := findClass_of_methodNamed B.named
  have hlocks := B.notSynchronized
  subst hsz
  have hD := hD0.self (sz := s.heap.size)
  generalize hAe : va_A (MW cI cJ cZ ad S) s.heap.size = A at hD ⊢
  have hA : ∀ q : Nat, s.heap.size ≤ q → A q := fun q h => by rw [← hAe]; exact Or.inr h
  have G : mG D cI cJ cZ ad A s.heap s.heap [] S := ⟨hP, hD, va_S.rf⟩
  have E : mE p c cX12_takes s m ([.ref (ad 0), .ref wd] : List Value).toArray (Cond.code yX12_takes cX12_takes 3 (some .boolean) :: wsM) D cI cJ cZ := ⟨hx, hb, hts, hown, hK, fun w h => .tail _ (iM_x h)⟩
  have hl := lv_entry ([.ref (ad 0), .ref wd]) (n := 3) (Nat.le_of_ble_eq_true rfl)
  rw [lg_entry_eq]
  generalize (lg_sl ([.ref (ad 0), .ref wd]) ++ List.replicate (3 - (lg_sl ([.ref (ad 0), .ref wd])).length) Slot.unset).toArray = ls at hl ⊢
  have hl : lv_has ls 3 [(0, .ref (ad 0)), (1, .ref wd)] := hl
  have hh : True := trivial
  refine lv_aload_n hx hb dX12_takes_0 rfl (lv_at hl 0 rfl) ?_
  refine lv_aload_n hx hb dX12_takes_1 rfl (lv_at hl 1 rfl) ?_
  refine m_calli (As := [.ref wd]) (rest := []) E G hA hR hml (r_isWord_p l D cI cJ cZ ad S wd h5) (cwV 1 hts (gmV qM_108 qM_109 qM_110 qM_35 qM_57) rfl rfl rfl (by decide +kernel) ⟨Nat.le_of_ble_eq_true rfl, Nat.le_of_ble_eq_true rfl⟩) rfl hl.1 rfl (lv_room (Nat.le_of_ble_eq_true rfl)) dX12_takes_2 ⟨Nat.zero_le _, Nat.zero_le _⟩ (fun r1 S2 H locs hq G => ?_)
  obtain ⟨hq1, hq2⟩ := hq
  rw [hq2] at G
  refine lv_to (y := 0) hq1 ?_
  refine lv_istore_n (lv' := [(2, .int 0), (0, .ref (ad 0)), (1, .ref wd)]) hx hb dX12_takes_5 rfl hl (by decide) rfl (fun ls hl => ?_)
  refine lv_iload_n hx hb dX12_takes_6 rfl (lv_at hl 0 rfl) ?_
  refine lv_if_eq (tgt := 14) hx hb dX12_takes_7 (by decide) (fun c3 => ?_) (fun c3 => absurd (by decide +kernel) c3)
  refine lv_iload_n hx hb dX12_takes_14 rfl (lv_at hl 0 rfl) ?_
  exact W.zret (v := 0) hx hb hr rfl (fun t ht hW => ⟨⟨0, S, rfl, ⟨rfl, rfl⟩, ⟨by rw [ht]; exact G.1, va_K.moved hW.alike hK, G.2.1⟩⟩, G.2.2.F ht⟩) G.2.2.2.2 dX12_takes_15
set_option maxHeartbeats 4000000 in
set_option maxRecDepth 100000 in
theorem r_faults_p (l : Launch) (D : va_G) (cI cJ cZ : ClassId) (ad : Nat → Nat) (S : MS) (v : Int32) (h5 : S.1 5 = 1) : mCv l yX12_faults (Cond.code yX12_faults cX12_faults 2 none :: wsM) 1 0 D cI cJ cZ ad S [.int v] (fun S1 => S1 = S) := by
  intro sz
  refine Met.ofW (cc := cX12_faults) (maxL := 2) (ret := none) (by decide) rfl ?_
  intro p e s m args below meth c s₁ B hml hv
  obtain ⟨rfl, hsz, hP, hK, hD0, hR⟩ := hv
  have hx := B.exec
  have hb := B.bytes
  have hr := B.returns
  have hts := atoms_spec (ws := (Cond.code yX12_faults cX12_faults 2 none :: wsM)) B.pre
  have hown : s.vm.findClass RX12 = some m.cls := findClass_of_methodNamed B.named
  have hlocks := B.notSynchronized
  subst hsz
  have hD := hD0.self (sz := s.heap.size)
  generalize hAe : va_A (MW cI cJ cZ ad S) s.heap.size = A at hD ⊢
  have hA : ∀ q : Nat, s.heap.size ≤ q → A q := fun q h => by rw [← hAe]; exact Or.inr h
  have G : mG D cI cJ cZ ad A s.heap s.heap [] S := ⟨hP, hD, va_S.rf⟩
  have E : mE p c cX12_faults s m ([.ref (ad 0), .int v] : List Value).toArray (Cond.code yX12_faults cX12_faults 2 none :: wsM) D cI cJ cZ := ⟨hx, hb, hts, hown, hK, fun w h => .tail _ (iM_x h)⟩
  have hl := lv_entry ([.ref (ad 0), .int v]) (n := 2) (Nat.le_of_ble_eq_true rfl)
  rw [lg_entry_eq]
  generalize (lg_sl ([.ref (ad 0), .int v]) ++ List.replicate (2 - (lg_sl ([.ref (ad 0), .int v])).length) Slot.unset).toArray = ls at hl ⊢
  have hl : lv_has ls 2 [(0, .ref (ad 0)), (1, .int v)] := hl
  have hh : True := trivial
  refine lv_aload_n hx hb dX12_faults_0 rfl (lv_at hl 0 rfl) ?_
  refine m_get E G 5 (v := .int (S.1 5)) (by decide) (.tail _ qM_38) rfl dX12_faults_1 rfl ?_
  refine lv_to (y := 1) h5 ?_
  refine lv_if_le (tgt := 8) hx hb dX12_faults_4 (by decide) (fun c1 => absurd c1 (by decide +kernel)) (fun c1 => ?_)
  exact W.vret hx hb hr (fun t ht hW => ⟨⟨S, rfl, rfl, ⟨by rw [ht]; exact G.1, va_K.moved hW.alike hK, G.2.1⟩⟩, G.2.2.F ht⟩) G.2.2.2.2 dX12_faults_7
set_option maxHeartbeats 4000000 in
set_option maxRecDepth 100000 in
theorem r_keyword_p (l : Launch) (D : va_G) (cI cJ cZ : ClassId) (ad : Nat → Nat) (S : MS) (wd : Nat) (h5 : S.1 5 = 1) : mCv l yX12_keyword (Cond.code yX12_keyword cX12_keyword 2 none :: wsM) 3 44 D cI cJ cZ ad S [.ref wd] (fun S1 => S1 = S) := by
  intro sz
  refine Met.ofW (cc := cX12_keyword) (maxL := 2) (ret := none) (by decide) rfl ?_
  intro p e s m args below meth c s₁ B hml hv
  obtain ⟨rfl, hsz, hP, hK, hD0, hR⟩ := hv
  have hx := B.exec
  have hb := B.bytes
  have hr := B.returns
  have hts := atoms_spec (ws := (Cond.code yX12_keyword cX12_keyword 2 none :: wsM)) B.pre
  have hown : s.vm.findClass RX12 = some m.cls := findClass_of_methodNamed B.named
  have hlocks := B.notSynchronized
  subst hsz
  have hD := hD0.self (sz := s.heap.size)
  generalize hAe : va_A (MW cI cJ cZ ad S) s.heap.size = A at hD ⊢
  have hA : ∀ q : Nat, s.heap.size ≤ q → A q := fun q h => by rw [← hAe]; exact Or.inr h
  have G : mG D cI cJ cZ ad A s.heap s.heap [] S := ⟨hP, hD, va_S.rf⟩
  have E : mE p c cX12_keyword s m ([.ref (ad 0), .ref wd] : List Value).toArray (Cond.code yX12_keyword cX12_keyword 2 none :: wsM) D cI cJ cZ := ⟨hx, hb, hts, hown, hK, fun w h => .tail _ (iM_x h)⟩
  have hl := lv_entry ([.ref (ad 0), .ref wd]) (n := 2) (Nat.le_of_ble_eq_true rfl)
  rw [lg_entry_eq]
  generalize (lg_sl ([.ref (ad 0), .ref wd]) ++ List.replicate (2 - (lg_sl ([.ref (ad 0), .ref wd])).length) Slot.unset).toArray = ls at hl ⊢
  have hl : lv_has ls 2 [(0, .ref (ad 0)), (1, .ref wd)] := hl
  have hh : True := trivial
  refine lv_aload_n hx hb dX12_keyword_0 rfl (lv_at hl 0 rfl) ?_
  refine lv_aload_n hx hb dX12_keyword_1 rfl (lv_at hl 1 rfl) ?_
  refine m_calli (As := [.ref wd]) (rest := []) E G hA hR hml (r_takes_p l D cI cJ cZ ad S wd h5) (cwV 1 hts (gmV qM_115 qM_116 qM_117 qM_35 qM_107) rfl rfl rfl (by decide +kernel) ⟨Nat.le_of_ble_eq_true rfl, Nat.le_of_ble_eq_true rfl⟩) rfl hl.1 rfl (lv_room (Nat.le_of_ble_eq_true rfl)) dX12_keyword_2 ⟨Nat.zero_le _, Nat.zero_le _⟩ (fun r1 S2 H locs hq G => ?_)
  obtain ⟨hq1, hq2⟩ := hq
  rw [hq2] at G
  refine lv_to (y := 0) hq1 ?_
  refine lv_if_ne (tgt := 13) hx hb dX12_keyword_5 (by decide) (fun c3 => absurd (by decide +kernel) c3) (fun c3 => ?_)
  refine lv_aload_n hx hb dX12_keyword_8 rfl (lv_at hl 0 rfl) ?_
  refine lv_iconst (v := 1) hx hb dX12_keyword_9 (by decide) ?_
  refine m_callv (As := [.int 1]) (rest := []) E G hA hR hml (r_faults_p l D cI cJ cZ ad S 1 h5) (cwV 1 hts (gmV qM_118 qM_119 qM_120 qM_35 qM_42) rfl rfl rfl (by decide +kernel) ⟨Nat.le_of_ble_eq_true rfl, Nat.le_of_ble_eq_true rfl⟩) rfl hl.1 rfl (lv_room (Nat.le_of_ble_eq_true rfl)) dX12_keyword_10 ⟨Nat.zero_le _, Nat.zero_le _⟩ (fun S5 H locs hq G => ?_)
  rw [hq] at G
  exact W.vret hx hb hr (fun t ht hW => ⟨⟨S, rfl, rfl, ⟨by rw [ht]; exact G.1, va_K.moved hW.alike hK, G.2.1⟩⟩, G.2.2.F ht⟩) G.2.2.2.2 dX12_keyword_13
set_option maxHeartbeats 4000000 in
set_option maxRecDepth 100000 in
theorem r_nextToken_p (l : Launch) (D : va_G) (cI cJ cZ : ClassId) (ad : Nat → Nat) (S : MS) (h5 : S.1 5 = 1) : mCv l yX12_nextToken (Cond.code yX12_nextToken cX12_nextToken 1 none :: wsM) 1 0 D cI cJ cZ ad S [] (fun S1 => S1 = S) := by
  intro sz
  refine Met.ofW (cc := cX12_nextToken) (maxL := 1) (ret := none) (by decide) rfl ?_
  intro p e s m args below meth c s₁ B hml hv
  obtain ⟨rfl, hsz, hP, hK, hD0, hR⟩ := hv
  have hx := B.exec
  have hb := B.bytes
  have hr := B.returns
  have hts := atoms_spec (ws := (Cond.code yX12_nextToken cX12_nextToken 1 none :: wsM)) B.pre
  have hown : s.vm.findClass RX12 = some m.cls := findClass_of_methodNamed B.named
  have hlocks := B.notSynchronized
  subst hsz
  have hD := hD0.self (sz := s.heap.size)
  generalize hAe : va_A (MW cI cJ cZ ad S) s.heap.size = A at hD ⊢
  have hA : ∀ q : Nat, s.heap.size ≤ q → A q := fun q h => by rw [← hAe]; exact Or.inr h
  have G : mG D cI cJ cZ ad A s.heap s.heap [] S := ⟨hP, hD, va_S.rf⟩
  have E : mE p c cX12_nextToken s m ([.ref (ad 0)] : List Value).toArray (Cond.code yX12_nextToken cX12_nextToken 1 none :: wsM) D cI cJ cZ := ⟨hx, hb, hts, hown, hK, fun w h => .tail _ (iM_x h)⟩
  have hl := lv_entry ([.ref (ad 0)]) (n := 1) (Nat.le_of_ble_eq_true rfl)
  rw [lg_entry_eq]
  generalize (lg_sl ([.ref (ad 0)]) ++ List.replicate (1 - (lg_sl ([.ref (ad 0)])).length) Slot.unset).toArray = ls at hl ⊢
  have hl : lv_has ls 1 [(0, .ref (ad 0))] := hl
  have hh : True := trivial
  refine lv_aload_n hx hb dX12_nextToken_0 rfl (lv_at hl 0 rfl) ?_
  refine m_get E G 5 (v := .int (S.1 5)) (by decide) (.tail _ qM_38) rfl dX12_nextToken_1 rfl ?_
  refine lv_to (y := 1) h5 ?_
  refine lv_if_le (tgt := 8) hx hb dX12_nextToken_4 (by decide) (fun c1 => absurd c1 (by decide +kernel)) (fun c1 => ?_)
  exact W.vret hx hb hr (fun t ht hW => ⟨⟨S, rfl, rfl, ⟨by rw [ht]; exact G.1, va_K.moved hW.alike hK, G.2.1⟩⟩, G.2.2.F ht⟩) G.2.2.2.2 dX12_nextToken_7
set_option maxHeartbeats 4000000 in
set_option maxRecDepth 100000 in
theorem r_look_p (l : Launch) (D : va_G) (cI cJ cZ : ClassId) (ad : Nat → Nat) (S : MS) (a b : Int32) (h5 : S.1 5 = 1) : mCi l yX12_look (Cond.code yX12_look cX12_look 3 (some .int) :: wsM) 1 0 D cI cJ cZ ad S [.int a, .int b] (fun r S1 => r = a ∧ S1 = S) := by
  intro sz
  refine Met.ofW (cc := cX12_look) (maxL := 3) (ret := (some .int)) (by decide) rfl ?_
  intro p e s m args below meth c s₁ B hml hv
  obtain ⟨rfl, hsz, hP, hK, hD0, hR⟩ := hv
  have hx := B.exec
  have hb := B.bytes
  have hr := B.returns
  have hts := atoms_spec (ws := (Cond.code yX12_look cX12_look 3 (some .int) :: wsM)) B.pre
  have hown : s.vm.findClass RX12 = some m.cls := findClass_of_methodNamed B.named
  have hlocks := B.notSynchronized
  subst hsz
  have hD := hD0.self (sz := s.heap.size)
  generalize hAe : va_A (MW cI cJ cZ ad S) s.heap.size = A at hD ⊢
  have hA : ∀ q : Nat, s.heap.size ≤ q → A q := fun q h => by rw [← hAe]; exact Or.inr h
  have G : mG D cI cJ cZ ad A s.heap s.heap [] S := ⟨hP, hD, va_S.rf⟩
  have E : mE p c cX12_look s m ([.ref (ad 0), .int a, .int b] : List Value).toArray (Cond.code yX12_look cX12_look 3 (some .int) :: wsM) D cI cJ cZ := ⟨hx, hb, hts, hown, hK, fun w h => .tail _ (iM_x h)⟩
  have hl := lv_entry ([.ref (ad 0), .int a, .int b]) (n := 3) (Nat.le_of_ble_eq_true rfl)
  rw [lg_entry_eq]
  generalize (lg_sl ([.ref (ad 0), .int a, .int b]) ++ List.replicate (3 - (lg_sl ([.ref (ad 0), .int a, .int b])).length) Slot.unset).toArray = ls at hl ⊢
  have hl : lv_has ls 3 [(0, .ref (ad 0)), (1, .int a), (2, .int b)] := hl
  have hh : True := trivial
  refine lv_aload_n hx hb dX12_look_0 rfl (lv_at hl 0 rfl) ?_
  refine m_get E G 5 (v := .int (S.1 5)) (by decide) (.tail _ qM_38) rfl dX12_look_1 rfl ?_
  refine lv_to (y := 1) h5 ?_
  refine lv_if_le (tgt := 9) hx hb dX12_look_4 (by decide) (fun c1 => absurd c1 (by decide +kernel)) (fun c1 => ?_)
  refine lv_iload_n hx hb dX12_look_7 rfl (lv_at hl 1 rfl) ?_
  exact W.iret (v := a) hx hb hr (fun t ht hW => ⟨⟨a, S, rfl, ⟨rfl, rfl⟩, ⟨by rw [ht]; exact G.1, va_K.moved hW.alike hK, G.2.1⟩⟩, G.2.2.F ht⟩) G.2.2.2.2 dX12_look_8
set_option maxHeartbeats 4000000 in
set_option maxRecDepth 100000 in
theorem r_number_p (l : Launch) (D : va_G) (cI cJ cZ : ClassId) (ad : Nat → Nat) (S : MS) (a b : Int32) (h5 : S.1 5 = 1) : mCi l yX12_number (Cond.code yX12_number cX12_number 4 (some .int) :: wsM) 2 22 D cI cJ cZ ad S [.int a, .int b] (fun r S1 => r = a ∧ S1 = S) := by
  intro sz
  refine Met.ofW (cc := cX12_number) (maxL := 4) (ret := (some .int)) (by decide) rfl ?_
  intro p e s m args below meth c s₁ B hml hv
  obtain ⟨rfl, hsz, hP, hK, hD0, hR⟩ := hv
  have hx := B.exec
  have hb := B.bytes
  have hr := B.returns
  have hts := atoms_spec (ws := (Cond.code yX12_number cX12_number 4 (some .int) :: wsM)) B.pre
  have hown : s.vm.findClass RX12 = some m.cls := findClass_of_methodNamed B.named
  have hlocks := B.notSynchronized
  subst hsz
  have hD := hD0.self (sz := s.heap.size)
  generalize hAe : va_A (MW cI cJ cZ ad S) s.heap.size = A at hD ⊢
  have hA : ∀ q : Nat, s.heap.size ≤ q → A q := fun q h => by rw [← hAe]; exact Or.inr h
  have G : mG D cI cJ cZ ad A s.heap s.heap [] S := ⟨hP, hD, va_S.rf⟩
  have E : mE p c cX12_number s m ([.ref (ad 0), .int a, .int b] : List Value).toArray (Cond.code yX12_number cX12_number 4 (some .int) :: wsM) D cI cJ cZ := ⟨hx, hb, hts, hown, hK, fun w h => .tail _ (iM_x h)⟩
  have hl := lv_entry ([.ref (ad 0), .int a, .int b]) (n := 4) (Nat.le_of_ble_eq_true rfl)
  rw [lg_entry_eq]
  generalize (lg_sl ([.ref (ad 0), .int a, .int b]) ++ List.replicate (4 - (lg_sl ([.ref (ad 0), .int a, .int b])).length) Slot.unset).toArray = ls at hl ⊢
  have hl : lv_has ls 4 [(0, .ref (ad 0)), (1, .int a), (2, .int b)] := hl
  have hh : True := trivial
  refine lv_aload_n hx hb dX12_number_0 rfl (lv_at hl 0 rfl) ?_
  refine lv_iload_n hx hb dX12_number_1 rfl (lv_at hl 1 rfl) ?_
  refine lv_iload_n hx hb dX12_number_2 rfl (lv_at hl 2 rfl) ?_
  refine m_calli (As := [.int a, .int b]) (rest := []) E G hA hR hml (r_look_p l D cI cJ cZ ad S a b h5) (cwV 2 hts (gmV qM_123 qM_124 qM_125 qM_35 qM_121) rfl rfl rfl (by decide +kernel) ⟨Nat.le_of_ble_eq_true rfl, Nat.le_of_ble_eq_true rfl⟩) rfl hl.1 rfl (lv_room (Nat.le_of_ble_eq_true rfl)) dX12_number_3 ⟨Nat.zero_le _, Nat.zero_le _⟩ (fun r1 S2 H locs hq G => ?_)
  obtain ⟨hq1, hq2⟩ := hq
  rw [hq2] at G
  refine lv_to (y := a) hq1 ?_
  refine lv_istore_n (lv' := [(3, .int a), (0, .ref (ad 0)), (1, .int a), (2, .int b)]) hx hb dX12_number_6 rfl hl (by decide) rfl (fun ls hl => ?_)
  refine lv_aload_n hx hb dX12_number_7 rfl (lv_at hl 1 rfl) ?_
  refine m_callv (As := []) (rest := []) E G hA hR hml (r_nextToken_p l D cI cJ cZ ad S h5) (cwV 0 hts (gmV qM_111 qM_112 qM_113 qM_35 qM_45) rfl rfl rfl (by decide +kernel) ⟨Nat.le_of_ble_eq_true rfl, Nat.le_of_ble_eq_true rfl⟩) rfl hl.1 rfl (lv_room (Nat.le_of_ble_eq_true rfl)) dX12_number_8 ⟨Nat.zero_le _, Nat.zero_le _⟩ (fun S4 H locs hq G => ?_)
  rw [hq] at G
  refine lv_iload_n hx hb dX12_number_11 rfl (lv_at hl 0 rfl) ?_
  exact W.iret (v := a) hx hb hr (fun t ht hW => ⟨⟨a, S, rfl, ⟨rfl, rfl⟩, ⟨by rw [ht]; exact G.1, va_K.moved hW.alike hK, G.2.1⟩⟩, G.2.2.F ht⟩) G.2.2.2.2 dX12_number_12
set_option maxHeartbeats 4000000 in
set_option maxRecDepth 100000 in
theorem r_gauge_p (l : Launch) (D : va_G) (cI cJ cZ : ClassId) (ad : Nat → Nat) (S : MS) (wd : Nat) (a b : Int32) (h5 : S.1 5 = 1) : mCi l yX12_gauge (Cond.code yX12_gauge cX12_gauge 4 (some .int) :: wsM) 4 65 D cI cJ cZ ad S [.ref wd, .int a, .int b] (fun r S1 => r = a ∧ S1 = S) := by
  intro sz
  refine Met.ofW (cc := cX12_gauge) (maxL := 4) (ret := (some .int)) (by decide) rfl ?_
  intro p e s m args below meth c s₁ B hml hv
  obtain ⟨rfl, hsz, hP, hK, hD0, hR⟩ := hv
  have hx := B.exec
  have hb := B.bytes
  have hr := B.returns
  have hts := atoms_spec (ws := (Cond.code yX12_gauge cX12_gauge 4 (some .int) :: wsM)) B.pre
  have hown : s.vm.findClass RX12 = some m.cls := findClass_of_methodNamed B.named
  have hlocks := B.notSynchronized
  subst hsz
  have hD := hD0.self (sz := s.heap.size)
  generalize hAe : va_A (MW cI cJ cZ ad S) s.heap.size = A at hD ⊢
  have hA : ∀ q : Nat, s.heap.size ≤ q → A q := fun q h => by rw [← hAe]; exact Or.inr h
  have G : mG D cI cJ cZ ad A s.heap s.heap [] S := ⟨hP, hD, va_S.rf⟩
  have E : mE p c cX12_gauge s m ([.ref (ad 0), .ref wd, .int a, .int b] : List Value).toArray (Cond.code yX12_gauge cX12_gauge 4 (some .int) :: wsM) D cI cJ cZ := ⟨hx, hb, hts, hown, hK, fun w h => .tail _ (iM_x h)⟩
  have hl := lv_entry ([.ref (ad 0), .ref wd, .int a, .int b]) (n := 4) (Nat.le_of_ble_eq_true rfl)
  rw [lg_entry_eq]
  generalize (lg_sl ([.ref (ad 0), .ref wd, .int a, .int b]) ++ List.replicate (4 - (lg_sl ([.ref (ad 0), .ref wd, .int a, .int b])).length) Slot.unset).toArray = ls at hl ⊢
  have hl : lv_has ls 4 [(0, .ref (ad 0)), (1, .ref wd), (2, .int a), (3, .int b)] := hl
  have hh : True := trivial
  refine lv_aload_n hx hb dX12_gauge_0 rfl (lv_at hl 0 rfl) ?_
  refine lv_aload_n hx hb dX12_gauge_1 rfl (lv_at hl 1 rfl) ?_
  refine m_callv (As := [.ref wd]) (rest := []) E G hA hR hml (r_keyword_p l D cI cJ cZ ad S wd h5) (cwV 1 hts (gmV qM_127 qM_128 qM_129 qM_35 qM_114) rfl rfl rfl (by decide +kernel) ⟨Nat.le_of_ble_eq_true rfl, Nat.le_of_ble_eq_true rfl⟩) rfl hl.1 rfl (lv_room (Nat.le_of_ble_eq_true rfl)) dX12_gauge_2 ⟨Nat.zero_le _, Nat.zero_le _⟩ (fun S2 H locs hq G => ?_)
  rw [hq] at G
  refine lv_aload_n hx hb dX12_gauge_5 rfl (lv_at hl 0 rfl) ?_
  refine lv_iload_n hx hb dX12_gauge_6 rfl (lv_at hl 2 rfl) ?_
  refine lv_iload_n hx hb dX12_gauge_7 rfl (lv_at hl 3 rfl) ?_
  refine m_calli (As := [.int a, .int b]) (rest := []) E G hA hR hml (r_number_p l D cI cJ cZ ad S a b h5) (cwV 2 hts (gmV qM_130 qM_131 qM_132 qM_35 qM_122) rfl rfl rfl (by decide +kernel) ⟨Nat.le_of_ble_eq_true rfl, Nat.le_of_ble_eq_true rfl⟩) rfl hl.1 rfl (lv_room (Nat.le_of_ble_eq_true rfl)) dX12_gauge_8 ⟨Nat.zero_le _, Nat.zero_le _⟩ (fun r3 S4 H locs hq G => ?_)
  obtain ⟨hq1, hq2⟩ := hq
  rw [hq2] at G
  refine lv_to (y := a) hq1 ?_
  exact W.iret (v := a) hx hb hr (fun t ht hW => ⟨⟨a, S, rfl, ⟨rfl, rfl⟩, ⟨by rw [ht]; exact G.1, va_K.moved hW.alike hK, G.2.1⟩⟩, G.2.2.F ht⟩) G.2.2.2.2 dX12_gauge_11
set_option maxHeartbeats 4000000 in
set_option maxRecDepth 100000 in
theorem r_isSignHere_p (l : Launch) (D : va_G) (cI cJ cZ : ClassId) (ad : Nat → Nat) (S : MS) (v : Int32) (h5 : S.1 5 = 1) : mCi l yX12_isSignHere (Cond.code yX12_isSignHere cX12_isSignHere 2 (some .boolean) :: wsM) 1 0 D cI cJ cZ ad S [.int v] (fun r S1 => r = 0 ∧ S1 = S) := by
  intro sz
  refine Met.ofW (cc := cX12_isSignHere) (maxL := 2) (ret := (some .boolean)) (by decide) rfl ?_
  intro p e s m args below meth c s₁ B hml hv
  obtain ⟨rfl, hsz, hP, hK, hD0, hR⟩ := hv
  have hx := B.exec
  have hb := B.bytes
  have hr := B.returns
  have hts := atoms_spec (ws := (Cond.code yX12_isSignHere cX12_isSignHere 2 (some .boolean) :: wsM)) B.pre
  have hown : s.vm.findClass RX12 = some m.cls := findClass_of_methodNamed B.named
  have hlocks := B.notSynchronized
  subst hsz
  have hD := hD0.self (sz := s.heap.size)
  generalize hAe : va_A (MW cI cJ cZ ad S) s.heap.size = A at hD ⊢
  have hA : ∀ q : Nat, s.heap.size ≤ q → A q := fun q h => by rw [← hAe]; exact Or.inr h
  have G : mG D cI cJ cZ ad A s.heap s.heap [] S := ⟨hP, hD, va_S.rf⟩
  have E : mE p c cX12_isSignHere s m ([.ref (ad 0), .int v] : List Value).toArray (Cond.code yX12_isSignHere cX12_isSignHere 2 (some .boolean) :: wsM) D cI cJ cZ := ⟨hx, hb, hts, hown, hK, fun w h => .tail _ (iM_x h)⟩
  have hl := lv_entry ([.ref (ad 0), .int v]) (n := 2) (Nat.le_of_ble_eq_true rfl)
  rw [lg_entry_eq]
  generalize (lg_sl ([.ref (ad 0), .int v]) ++ List.replicate (2 - (lg_sl ([.ref (ad 0), .int v])).length) Slot.unset).toArray = ls at hl ⊢
  have hl : lv_has ls 2 [(0, .ref (ad 0)), (1, .int v)] := hl
  have hh : True := trivial
  refine lv_aload_n hx hb dX12_isSignHere_0 rfl (lv_at hl 0 rfl) ?_
  refine m_get E G 5 (v := .int (S.1 5)) (by decide) (.tail _ qM_38) rfl dX12_isSignHere_1 rfl ?_
  refine lv_to (y := 1) h5 ?_
  refine lv_if_ne (tgt := 27) hx hb dX12_isSignHere_4 (by decide) (fun c1 => ?_) (fun c1 => absurd c1 (by decide +kernel))
  refine lv_iconst (v := 0) hx hb dX12_isSignHere_27 (by decide) ?_
  exact W.zret (v := 0) hx hb hr rfl (fun t ht hW => ⟨⟨0, S, rfl, ⟨rfl, rfl⟩, ⟨by rw [ht]; exact G.1, va_K.moved hW.alike hK, G.2.1⟩⟩, G.2.2.F ht⟩) G.2.2.2.2 dX12_isSignHere_28
set_option maxHeartbeats 4000000 in
set_option maxRecDepth 100000 in
theorem r_byteAt_0 (l : Launch) (D : va_G) (cI cJ cZ : ClassId) (ad : Nat → Nat) (S : MS) (h3 : S.1 3 = 0) : mCi l yX12_byteAt (Cond.code yX12_byteAt cX12_byteAt 2 (some .int) :: wsM) 1 0 D cI cJ cZ ad S [.int 0] (fun r S1 => r = -1 ∧ S1 = S) := by
  intro sz
  refine Met.ofW (cc := cX12_byteAt) (maxL := 2) (ret := (some .int)) (by decide) rfl ?_
  intro p e s m args below meth c s₁ B hml hv
  obtain ⟨rfl, hsz, hP, hK, hD0, hR⟩ := hv
  have hx := B.exec
  have hb := B.bytes
  have hr := B.returns
  have hts := atoms_spec (ws := (Cond.code yX12_byteAt cX12_byteAt 2 (some .int) :: wsM)) B.pre
  have hown : s.vm.findClass RX12 = some m.cls := findClass_of_methodNamed B.named
  have hlocks := B.notSynchronized
  subst hsz
  have hD := hD0.self (sz := s.heap.size)
  generalize hAe : va_A (MW cI cJ cZ ad S) s.heap.size = A at hD ⊢
  have hA : ∀ q : Nat, s.heap.size ≤ q → A q := fun q h => by rw [← hAe]; exact Or.inr h
  have G : mG D cI cJ cZ ad A s.heap s.heap [] S := ⟨hP, hD, va_S.rf⟩
  have E : mE p c cX12_byteAt s m ([.ref (ad 0), .int 0] : List Value).toArray (Cond.code yX12_byteAt cX12_byteAt 2 (some .int) :: wsM) D cI cJ cZ := ⟨hx, hb, hts, hown, hK, fun w h => .tail _ (iM_x h)⟩
  have hl := lv_entry ([.ref (ad 0), .int 0]) (n := 2) (Nat.le_of_ble_eq_true rfl)
  rw [lg_entry_eq]
  generalize (lg_sl ([.ref (ad 0), .int 0]) ++ List.replicate (2 - (lg_sl ([.ref (ad 0), .int 0])).length) Slot.unset).toArray = ls at hl ⊢
  have hl : lv_has ls 2 [(0, .ref (ad 0)), (1, .int 0)] := hl
  have hh : True := trivial
  refine lv_iload_n hx hb dX12_byteAt_0 rfl (lv_at hl 1 rfl) ?_
  refine lv_aload_n hx hb dX12_byteAt_1 rfl (lv_at hl 0 rfl) ?_
  refine m_get E G 3 (v := .int (S.1 3)) (by decide) (.tail _ qM_41) rfl dX12_byteAt_2 rfl ?_
  refine lv_to (y := 0) h3 ?_
  refine lv_icmp_ge (tgt := 17) hx hb dX12_byteAt_5 (by decide) (fun c1 => ?_) (fun c1 => absurd (by decide +kernel) c1)
  refine lv_iconst (v := (-1)) hx hb dX12_byteAt_17 (by decide) ?_
  exact W.iret (v := (-1)) hx hb hr (fun t ht hW => ⟨⟨(-1), S, rfl, ⟨rfl, rfl⟩, ⟨by rw [ht]; exact G.1, va_K.moved hW.alike hK, G.2.1⟩⟩, G.2.2.F ht⟩) G.2.2.2.2 dX12_byteAt_18
set_option maxHeartbeats 4000000 in
set_option maxRecDepth 100000 in
theorem r_nextToken_0 (l : Launch) (D : va_G) (cI cJ cZ : ClassId) (ad : Nat → Nat) (S : MS) (h3 : S.1 3 = 0) (h4 : S.1 4 = 0) (h5 : S.1 5 = 0) : mCv l yX12_nextToken (Cond.code yX12_nextToken cX12_nextToken 1 none :: wsM) 2 21 D cI cJ cZ ad S [] (fun S1 => S1 = mi (mi S 8 0) 7 1) := by
  intro sz
  refine Met.ofW (cc := cX12_nextToken) (maxL := 1) (ret := none) (by decide) rfl ?_
  intro p e s m args below meth c s₁ B hml hv
  obtain ⟨rfl, hsz, hP, hK, hD0, hR⟩ := hv
  have hx := B.exec
  have hb := B.bytes
  have hr := B.returns
  have hts := atoms_spec (ws := (Cond.code yX12_nextToken cX12_nextToken 1 none :: wsM)) B.pre
  have hown : s.vm.findClass RX12 = some m.cls := findClass_of_methodNamed B.named
  have hlocks := B.notSynchronized
  subst hsz
  have hD := hD0.self (sz := s.heap.size)
  generalize hAe : va_A (MW cI cJ cZ ad S) s.heap.size = A at hD ⊢
  have hA : ∀ q : Nat, s.heap.size ≤ q → A q := fun q h => by rw [← hAe]; exact Or.inr h
  have G : mG D cI cJ cZ ad A s.heap s.heap [] S := ⟨hP, hD, va_S.rf⟩
  have E : mE p c cX12_nextToken s m ([.ref (ad 0)] : List Value).toArray (Cond.code yX12_nextToken cX12_nextToken 1 none :: wsM) D cI cJ cZ := ⟨hx, hb, hts, hown, hK, fun w h => .tail _ (iM_x h)⟩
  have hl := lv_entry ([.ref (ad 0)]) (n := 1) (Nat.le_of_ble_eq_true rfl)
  rw [lg_entry_eq]
  generalize (lg_sl ([.ref (ad 0)]) ++ List.replicate (1 - (lg_sl ([.ref (ad 0)])).length) Slot.unset).toArray = ls at hl ⊢
  have hl : lv_has ls 1 [(0, .ref (ad 0))] := hl
  have hh : True := trivial
  refine lv_aload_n hx hb dX12_nextToken_0 rfl (lv_at hl 0 rfl) ?_
  refine m_get E G 5 (v := .int (S.1 5)) (by decide) (.tail _ qM_38) rfl dX12_nextToken_1 rfl ?_
  refine lv_to (y := 0) h5 ?_
  refine lv_if_le (tgt := 8) hx hb dX12_nextToken_4 (by decide) (fun c1 => ?_) (fun c1 => absurd (by decide +kernel) c1)
  refine lv_aload_n hx hb dX12_nextToken_8 rfl (lv_at hl 0 rfl) ?_
  refine lv_aload_n hx hb dX12_nextToken_9 rfl (lv_at hl 0 rfl) ?_
  refine m_get E G 4 (v := .int (S.1 4)) (by decide) (.tail _ qM_46) rfl dX12_nextToken_10 rfl ?_
  refine lv_to (y := 0) h4 ?_
  refine m_calli (As := [.int 0]) (rest := []) E G hA hR hml (r_byteAt_0 l D cI cJ cZ ad S h3) (cwV 1 hts (gmV qM_49 qM_50 qM_51 qM_35 qM_40) rfl rfl rfl (by decide +kernel) ⟨Nat.le_of_ble_eq_true rfl, Nat.le_of_ble_eq_true rfl⟩) rfl hl.1 rfl (lv_room (Nat.le_of_ble_eq_true rfl)) dX12_nextToken_13 ⟨Nat.zero_le _, Nat.zero_le _⟩ (fun r2 S3 H locs hq G => ?_)
  obtain ⟨hq1, hq2⟩ := hq
  rw [hq2] at G
  refine lv_to (y := (-1)) hq1 ?_
  refine lv_bipush (v := 32) hx hb dX12_nextToken_16 (by decide) ?_
  refine lv_icmp_ne (tgt := 34) hx hb dX12_nextToken_18 (by decide) (fun c4 => ?_) (fun c4 => absurd c4 (by decide +kernel))
  refine lv_aload_n hx hb dX12_nextToken_34 rfl (lv_at hl 0 rfl) ?_
  refine lv_aload_n hx hb dX12_nextToken_35 rfl (lv_at hl 0 rfl) ?_
  refine m_get E G 4 (v := .int (S.1 4)) (by decide) (.tail _ qM_46) rfl dX12_nextToken_36 rfl ?_
  refine lv_to (y := 0) h4 ?_
  refine m_put E G 8 (by decide) (.tail _ qM_43) (mw_i8 _ _ _ _ _ 0) dX12_nextToken_39 ⟨rfl, rfl, rfl⟩ rfl rfl (fun H locs G => ?_)
  refine lv_aload_n hx hb dX12_nextToken_42 rfl (lv_at hl 0 rfl) ?_
  refine m_get E G 4 (v := .int (S.1 4)) (by decide) (.tail _ qM_46) rfl dX12_nextToken_43 rfl ?_
  refine lv_to (y := 0) h4 ?_
  refine lv_aload_n hx hb dX12_nextToken_46 rfl (lv_at hl 0 rfl) ?_
  refine m_get E G 3 (v := .int (S.1 3)) (by decide) (.tail _ qM_41) rfl dX12_nextToken_47 rfl ?_
  refine lv_to (y := 0) h3 ?_
  refine lv_icmp_ne (tgt := 61) hx hb dX12_nextToken_50 (by decide) (fun c5 => absurd (by decide +kernel) c5) (fun c5 => ?_)
  refine lv_aload_n hx hb dX12_nextToken_53 rfl (lv_at hl 0 rfl) ?_
  refine lv_iconst (v := 1) hx hb dX12_nextToken_54 (by decide) ?_
  refine m_put E G 7 (by decide) (.tail _ qM_47) (mw_i7 _ _ _ _ _ 1) dX12_nextToken_55 ⟨rfl, rfl, rfl⟩ rfl rfl (fun H locs G => ?_)
  refine lv_goto (tgt := 292) hx hb dX12_nextToken_58 (by decide) ?_
  exact W.vret hx hb hr (fun t ht hW => ⟨⟨(mi (mi S 8 0) 7 1), rfl, rfl, ⟨by rw [ht]; exact G.1, va_K.moved hW.alike hK, G.2.1⟩⟩, G.2.2.F ht⟩) G.2.2.2.2 dX12_nextToken_292
set_option maxHeartbeats 4000000 in
set_option maxRecDepth 100000 in
theorem r_isWord_0 (l : Launch) (D : va_G) (cI cJ cZ : ClassId) (ad : Nat → Nat) (S : MS) (wd : Nat) (h5 : S.1 5 = 0) (h7 : S.1 7 = 1) : mCi l yX12_isWord (Cond.code yX12_isWord cX12_isWord 3 (some .boolean) :: wsM) 1 0 D cI cJ cZ ad S [.ref wd] (fun r S1 => r = 0 ∧ S1 = S) := by
  intro sz
  refine Met.ofW (cc := cX12_isWord) (maxL := 3) (ret := (some .boolean)) (by decide) rfl ?_
  intro p e s m args below meth c s₁ B hml hv
  obtain ⟨rfl, hsz, hP, hK, hD0, hR⟩ := hv
  have hx := B.exec
  have hb := B.bytes
  have hr := B.returns
  have hts := atoms_spec (ws := (Cond.code yX12_isWord cX12_isWord 3 (some .boolean) :: wsM)) B.pre
  have hown : s.vm.findClass RX12 = some m.cls := findClass_of_methodNamed B.named
  have hlocks := B.notSynchronized
  subst hsz
  have hD := hD0.self (sz := s.heap.size)
  generalize hAe : va_A (MW cI cJ cZ ad S) s.heap.size = A at hD ⊢
  have hA : ∀ q : Nat, s.heap.size ≤ q → A q := fun q h => by rw [← hAe]; exact Or.inr h
  have G : mG D cI cJ cZ ad A s.heap s.heap [] S := ⟨hP, hD, va_S.rf⟩
  have E : mE p c cX12_isWord s m ([.ref (ad 0), .ref wd] : List Value).toArray (Cond.code yX12_isWord cX12_isWord 3 (some .boolean) :: wsM) D cI cJ cZ := ⟨hx, hb, hts, hown, hK, fun w h => .tail _ (iM_x h)⟩
  have hl := lv_entry ([.ref (ad 0), .ref wd]) (n := 3) (Nat.le_of_ble_eq_true rfl)
  rw [lg_entry_eq]
  generalize (lg_sl ([.ref (ad 0), .ref wd]) ++ List.replicate (3 - (lg_sl ([.ref (ad 0), .ref wd])).length) Slot.unset).toArray = ls at hl ⊢
  have hl : lv_has ls 3 [(0, .ref (ad 0)), (1, .ref wd)] := hl
  have hh : True := trivial
  refine lv_aload_n hx hb dX12_isWord_0 rfl (lv_at hl 0 rfl) ?_
  refine m_get E G 5 (v := .int (S.1 5)) (by decide) (.tail _ qM_38) rfl dX12_isWord_1 rfl ?_
  refine lv_to (y := 0) h5 ?_
  refine lv_if_gt (tgt := 31) hx hb dX12_isWord_4 (by decide) (fun c1 => absurd c1 (by decide +kernel)) (fun c1 => ?_)
  refine lv_aload_n hx hb dX12_isWord_7 rfl (lv_at hl 0 rfl) ?_
  refine m_get E G 7 (v := .int (S.1 7)) (by decide) (.tail _ qM_47) rfl dX12_isWord_8 rfl ?_
  refine lv_to (y := 1) h7 ?_
  refine lv_iconst (v := 2) hx hb dX12_isWord_11 (by decide) ?_
  refine lv_icmp_ne (tgt := 31) hx hb dX12_isWord_12 (by decide) (fun c2 => ?_) (fun c2 => absurd c2 (by decide +kernel))
  refine lv_iconst (v := 0) hx hb dX12_isWord_31 (by decide) ?_
  exact W.zret (v := 0) hx hb hr rfl (fun t ht hW => ⟨⟨0, S, rfl, ⟨rfl, rfl⟩, ⟨by rw [ht]; exact G.1, va_K.moved hW.alike hK, G.2.1⟩⟩, G.2.2.F ht⟩) G.2.2.2.2 dX12_isWord_32
set_option maxHeartbeats 4000000 in
set_option maxRecDepth 100000 in
theorem r_takes_0 (l : Launch) (D : va_G) (cI cJ cZ : ClassId) (ad : Nat → Nat) (S : MS) (wd : Nat) (h5 : S.1 5 = 0) (h7 : S.1 7 = 1) : mCi l yX12_takes (Cond.code yX12_takes cX12_takes 3 (some .boolean) :: wsM) 2 22 D cI cJ cZ ad S [.ref wd] (fun r S1 => r = 0 ∧ S1 = S) := by
  intro sz
  refine Met.ofW (cc := cX12_takes) (maxL := 3) (ret := (some .boolean)) (by decide) rfl ?_
  intro p e s m args below meth c s₁ B hml hv
  obtain ⟨rfl, hsz, hP, hK, hD0, hR⟩ := hv
  have hx := B.exec
  have hb := B.bytes
  have hr := B.returns
  have hts := atoms_spec (ws := (Cond.code yX12_takes cX12_takes 3 (some .boolean) :: wsM)) B.pre
  have hown : s.vm.findClass RX12 = some m.cls := findClass_of_methodNamed B.named
  have hlocks := B.notSynchronized
  subst hsz
  have hD := hD0.self (sz := s.heap.size)
  generalize hAe : va_A (MW cI cJ cZ ad S) s.heap.size = A at hD ⊢
  have hA : ∀ q : Nat, s.heap.size ≤ q → A q := fun q h => by rw [← hAe]; exact Or.inr h
  have G : mG D cI cJ cZ ad A s.heap s.heap [] S := ⟨hP, hD, va_S.rf⟩
  have E : mE p c cX12_takes s m ([.ref (ad 0), .ref wd] : List Value).toArray (Cond.code yX12_takes cX12_takes 3 (some .boolean) :: wsM) D cI cJ cZ := ⟨hx, hb, hts, hown, hK, fun w h => .tail _ (iM_x h)⟩
  have hl := lv_entry ([.ref (ad 0), .ref wd]) (n := 3) (Nat.le_of_ble_eq_true rfl)
  rw [lg_entry_eq]
  generalize (lg_sl ([.ref (ad 0), .ref wd]) ++ List.replicate (3 - (lg_sl ([.ref (ad 0), .ref wd])).length) Slot.unset).toArray = ls at hl ⊢
  have hl : lv_has ls 3 [(0, .ref (ad 0)), (1, .ref wd)] := hl
  have hh : True := trivial
  refine lv_aload_n hx hb dX12_takes_0 rfl (lv_at hl 0 rfl) ?_
  refine lv_aload_n hx hb dX12_takes_1 rfl (lv_at hl 1 rfl) ?_
  refine m_calli (As := [.ref wd]) (rest := []) E G hA hR hml (r_isWord_0 l D cI cJ cZ ad S wd h5 h7) (cwV 1 hts (gmV qM_108 qM_109 qM_110 qM_35 qM_57) rfl rfl rfl (by decide +kernel) ⟨Nat.le_of_ble_eq_true rfl, Nat.le_of_ble_eq_true rfl⟩) rfl hl.1 rfl (lv_room (Nat.le_of_ble_eq_true rfl)) dX12_takes_2 ⟨Nat.zero_le _, Nat.zero_le _⟩ (fun r1 S2 H locs hq G => ?_)
  obtain ⟨hq1, hq2⟩ := hq
  rw [hq2] at G
  refine lv_to (y := 0) hq1 ?_
  refine lv_istore_n (lv' := [(2, .int 0), (0, .ref (ad 0)), (1, .ref wd)]) hx hb dX12_takes_5 rfl hl (by decide) rfl (fun ls hl => ?_)
  refine lv_iload_n hx hb dX12_takes_6 rfl (lv_at hl 0 rfl) ?_
  refine lv_if_eq (tgt := 14) hx hb dX12_takes_7 (by decide) (fun c3 => ?_) (fun c3 => absurd (by decide +kernel) c3)
  refine lv_iload_n hx hb dX12_takes_14 rfl (lv_at hl 0 rfl) ?_
  exact W.zret (v := 0) hx hb hr rfl (fun t ht hW => ⟨⟨0, S, rfl, ⟨rfl, rfl⟩, ⟨by rw [ht]; exact G.1, va_K.moved hW.alike hK, G.2.1⟩⟩, G.2.2.F ht⟩) G.2.2.2.2 dX12_takes_15
set_option maxHeartbeats 4000000 in
set_option maxRecDepth 100000 in
theorem r_faults_0 (l : Launch) (D : va_G) (cI cJ cZ : ClassId) (ad : Nat → Nat) (S : MS) (h5 : S.1 5 = 0) (h8 : S.1 8 = 0) : mCv l yX12_faults (Cond.code yX12_faults cX12_faults 2 none :: wsM) 1 0 D cI cJ cZ ad S [.int 1] (fun S1 => S1 = mi (mi S 5 1) 6 0) := by
  intro sz
  refine Met.ofW (cc := cX12_faults) (maxL := 2) (ret := none) (by decide) rfl ?_
  intro p e s m args below meth c s₁ B hml hv
  obtain ⟨rfl, hsz, hP, hK, hD0, hR⟩ := hv
  have hx := B.exec
  have hb := B.bytes
  have hr := B.returns
  have hts := atoms_spec (ws := (Cond.code yX12_faults cX12_faults 2 none :: wsM)) B.pre
  have hown : s.vm.findClass RX12 = some m.cls := findClass_of_methodNamed B.named
  have hlocks := B.notSynchronized
  subst hsz
  have hD := hD0.self (sz := s.heap.size)
  generalize hAe : va_A (MW cI cJ cZ ad S) s.heap.size = A at hD ⊢
  have hA : ∀ q : Nat, s.heap.size ≤ q → A q := fun q h => by rw [← hAe]; exact Or.inr h
  have G : mG D cI cJ cZ ad A s.heap s.heap [] S := ⟨hP, hD, va_S.rf⟩
  have E : mE p c cX12_faults s m ([.ref (ad 0), .int 1] : List Value).toArray (Cond.code yX12_faults cX12_faults 2 none :: wsM) D cI cJ cZ := ⟨hx, hb, hts, hown, hK, fun w h => .tail _ (iM_x h)⟩
  have hl := lv_entry ([.ref (ad 0), .int 1]) (n := 2) (Nat.le_of_ble_eq_true rfl)
  rw [lg_entry_eq]
  generalize (lg_sl ([.ref (ad 0), .int 1]) ++ List.replicate (2 - (lg_sl ([.ref (ad 0), .int 1])).length) Slot.unset).toArray = ls at hl ⊢
  have hl : lv_has ls 2 [(0, .ref (ad 0)), (1, .int 1)] := hl
  have hh : True := trivial
  refine lv_aload_n hx hb dX12_faults_0 rfl (lv_at hl 0 rfl) ?_
  refine m_get E G 5 (v := .int (S.1 5)) (by decide) (.tail _ qM_38) rfl dX12_faults_1 rfl ?_
  refine lv_to (y := 0) h5 ?_
  refine lv_if_le (tgt := 8) hx hb dX12_faults_4 (by decide) (fun c1 => ?_) (fun c1 => absurd (by decide +kernel) c1)
  refine lv_aload_n hx hb dX12_faults_8 rfl (lv_at hl 0 rfl) ?_
  refine lv_iload_n hx hb dX12_faults_9 rfl (lv_at hl 1 rfl) ?_
  refine m_put E G 5 (by decide) (.tail _ qM_38) (mw_i5 _ _ _ _ _ 1) dX12_faults_10 ⟨rfl, rfl, rfl⟩ rfl rfl (fun H locs G => ?_)
  refine lv_aload_n hx hb dX12_faults_13 rfl (lv_at hl 0 rfl) ?_
  refine lv_aload_n hx hb dX12_faults_14 rfl (lv_at hl 0 rfl) ?_
  refine m_get E G 8 (v := .int (S.1 8)) (by decide) (.tail _ qM_43) rfl dX12_faults_15 rfl ?_
  refine lv_to (y := 0) h8 ?_
  refine m_put E G 6 (by decide) (.tail _ qM_6) (mw_i6 _ _ _ _ _ 0) dX12_faults_18 ⟨rfl, rfl, rfl⟩ rfl rfl (fun H locs G => ?_)
  exact W.vret hx hb hr (fun t ht hW => ⟨⟨(mi (mi S 5 1) 6 0), rfl, rfl, ⟨by rw [ht]; exact G.1, va_K.moved hW.alike hK, G.2.1⟩⟩, G.2.2.F ht⟩) G.2.2.2.2 dX12_faults_21
set_option maxHeartbeats 4000000 in
set_option maxRecDepth 100000 in
theorem r_keyword_0 (l : Launch) (D : va_G) (cI cJ cZ : ClassId) (ad : Nat → Nat) (S : MS) (wd : Nat) (h5 : S.1 5 = 0) (h7 : S.1 7 = 1) (h8 : S.1 8 = 0) : mCv l yX12_keyword (Cond.code yX12_keyword cX12_keyword 2 none :: wsM) 3 44 D cI cJ cZ ad S [.ref wd] (fun S1 => S1 = mi (mi S 5 1) 6 0) := by
  intro sz
  refine Met.ofW (cc := cX12_keyword) (maxL := 2) (ret := none) (by decide) rfl ?_
  intro p e s m args below meth c s₁ B hml hv
  obtain ⟨rfl, hsz, hP, hK, hD0, hR⟩ := hv
  have hx := B.exec
  have hb := B.bytes
  have hr := B.returns
  have hts := atoms_spec (ws := (Cond.code yX12_keyword cX12_keyword 2 none :: wsM)) B.pre
  have hown : s.vm.findClass RX12 = some m.cls := findClass_of_methodNamed B.named
  have hlocks := B.notSynchronized
  subst hsz
  have hD := hD0.self (sz := s.heap.size)
  generalize hAe : va_A (MW cI cJ cZ ad S) s.heap.size = A at hD ⊢
  have hA : ∀ q : Nat, s.heap.size ≤ q → A q := fun q h => by rw [← hAe]; exact Or.inr h
  have G : mG D cI cJ cZ ad A s.heap s.heap [] S := ⟨hP, hD, va_S.rf⟩
  have E : mE p c cX12_keyword s m ([.ref (ad 0), .ref wd] : List Value).toArray (Cond.code yX12_keyword cX12_keyword 2 none :: wsM) D cI cJ cZ := ⟨hx, hb, hts, hown, hK, fun w h => .tail _ (iM_x h)⟩
  have hl := lv_entry ([.ref (ad 0), .ref wd]) (n := 2) (Nat.le_of_ble_eq_true rfl)
  rw [lg_entry_eq]
  generalize (lg_sl ([.ref (ad 0), .ref wd]) ++ List.replicate (2 - (lg_sl ([.ref (ad 0), .ref wd])).length) Slot.unset).toArray = ls at hl ⊢
  have hl : lv_has ls 2 [(0, .ref (ad 0)), (1, .ref wd)] := hl
  have hh : True := trivial
  refine lv_aload_n hx hb dX12_keyword_0 rfl (lv_at hl 0 rfl) ?_
  refine lv_aload_n hx hb dX12_keyword_1 rfl (lv_at hl 1 rfl) ?_
  refine m_calli (As := [.ref wd]) (rest := []) E G hA hR hml (r_takes_0 l D cI cJ cZ ad S wd h5 h7) (cwV 1 hts (gmV qM_115 qM_116 qM_117 qM_35 qM_107) rfl rfl rfl (by decide +kernel) ⟨Nat.le_of_ble_eq_true rfl, Nat.le_of_ble_eq_true rfl⟩) rfl hl.1 rfl (lv_room (Nat.le_of_ble_eq_true rfl)) dX12_keyword_2 ⟨Nat.zero_le _, Nat.zero_le _⟩ (fun r1 S2 H locs hq G => ?_)
  obtain ⟨hq1, hq2⟩ := hq
  rw [hq2] at G
  refine lv_to (y := 0) hq1 ?_
  refine lv_if_ne (tgt := 13) hx hb dX12_keyword_5 (by decide) (fun c3 => absurd (by decide +kernel) c3) (fun c3 => ?_)
  refine lv_aload_n hx hb dX12_keyword_8 rfl (lv_at hl 0 rfl) ?_
  refine lv_iconst (v := 1) hx hb dX12_keyword_9 (by decide) ?_
  refine m_callv (As := [.int 1]) (rest := []) E G hA hR hml (r_faults_0 l D cI cJ cZ ad S h5 h8) (cwV 1 hts (gmV qM_118 qM_119 qM_120 qM_35 qM_42) rfl rfl rfl (by decide +kernel) ⟨Nat.le_of_ble_eq_true rfl, Nat.le_of_ble_eq_true rfl⟩) rfl hl.1 rfl (lv_room (Nat.le_of_ble_eq_true rfl)) dX12_keyword_10 ⟨Nat.zero_le _, Nat.zero_le _⟩ (fun S5 H locs hq G => ?_)
  rw [hq] at G
  exact W.vret hx hb hr (fun t ht hW => ⟨⟨(mi (mi S 5 1) 6 0), rfl, rfl, ⟨by rw [ht]; exact G.1, va_K.moved hW.alike hK, G.2.1⟩⟩, G.2.2.F ht⟩) G.2.2.2.2 dX12_keyword_13
set_option maxHeartbeats 4000000 in
set_option maxRecDepth 100000 in
theorem r_readFirst_0 (l : Launch) (D : va_G) (cI cJ cZ : ClassId) (ad : Nat → Nat) (S : MS) (h5 : S.1 5 = 0) (h7 : S.1 7 = 1) (h8 : S.1 8 = 0) : mCv l yX12_readFirst (Cond.code yX12_readFirst cX12_readFirst 1 none :: wsM) 5 88 D cI cJ cZ ad S [] (fun S1 => S1.1 5 = 1 ∧ S1.1 0 = S.1 0) := by
  intro sz
  refine Met.ofW (cc := cX12_readFirst) (maxL := 1) (ret := none) (by decide) rfl ?_
  intro p e s m args below meth c s₁ B hml hv
  obtain ⟨rfl, hsz, hP, hK, hD0, hR⟩ := hv
  have hx := B.exec
  have hb := B.bytes
  have hr := B.returns
  have hts := atoms_spec (ws := (Cond.code yX12_readFirst cX12_readFirst 1 none :: wsM)) B.pre
  have hown : s.vm.findClass RX12 = some m.cls := findClass_of_methodNamed B.named
  have hlocks := B.notSynchronized
  subst hsz
  have hD := hD0.self (sz := s.heap.size)
  generalize hAe : va_A (MW cI cJ cZ ad S) s.heap.size = A at hD ⊢
  have hA : ∀ q : Nat, s.heap.size ≤ q → A q := fun q h => by rw [← hAe]; exact Or.inr h
  have G : mG D cI cJ cZ ad A s.heap s.heap [] S := ⟨hP, hD, va_S.rf⟩
  have E : mE p c cX12_readFirst s m ([.ref (ad 0)] : List Value).toArray (Cond.code yX12_readFirst cX12_readFirst 1 none :: wsM) D cI cJ cZ := ⟨hx, hb, hts, hown, hK, fun w h => .tail _ (iM_x h)⟩
  have hl := lv_entry ([.ref (ad 0)]) (n := 1) (Nat.le_of_ble_eq_true rfl)
  rw [lg_entry_eq]
  generalize (lg_sl ([.ref (ad 0)]) ++ List.replicate (1 - (lg_sl ([.ref (ad 0)])).length) Slot.unset).toArray = ls at hl ⊢
  have hl : lv_has ls 1 [(0, .ref (ad 0))] := hl
  have hh : True := trivial
  refine lv_aload_n hx hb dX12_readFirst_0 rfl (lv_at hl 0 rfl) ?_
  obtain ⟨w144, hw144⟩ := hR ("AcousticCameraModel", 144, "camera") (List.mem_of_getElem? (i := 20) rfl)
  refine va_ldcS hx hb hown hw144 dX12_readFirst_1 ?_
  refine m_callv (As := [.ref w144]) (rest := []) E G hA hR hml (r_keyword_0 l D cI cJ cZ ad S w144 h5 h7 h8) (cwV 1 hts (gmV qM_127 qM_128 qM_129 qM_35 qM_114) rfl rfl rfl (by decide +kernel) ⟨Nat.le_of_ble_eq_true rfl, Nat.le_of_ble_eq_true rfl⟩) rfl hl.1 rfl (lv_room (Nat.le_of_ble_eq_true rfl)) dX12_readFirst_3 ⟨Nat.zero_le _, Nat.zero_le _⟩ (fun S2 H locs hq G => ?_)
  rw [hq] at G
  refine lv_aload_n hx hb dX12_readFirst_6 rfl (lv_at hl 0 rfl) ?_
  refine m_get E G 11 (v := .ref (ad 11)) (by decide) (.tail _ qM_8) rfl dX12_readFirst_7 rfl ?_
  refine lv_iconst (v := 0) hx hb dX12_readFirst_10 (by decide) ?_
  refine lv_aload_n hx hb dX12_readFirst_11 rfl (lv_at hl 0 rfl) ?_
  obtain ⟨w146, hw146⟩ := hR ("AcousticCameraModel", 146, "distance") (List.mem_of_getElem? (i := 21) rfl)
  refine va_ldcS hx hb hown hw146 dX12_readFirst_12 ?_
  refine lv_bipush (v := 100) hx hb dX12_readFirst_14 (by decide) ?_
  refine lv_sipush (v := 5000) hx hb dX12_readFirst_16 (by decide) ?_
  refine m_calli (As := [.ref w146, .int 100, .int 5000]) (rest := [.int 0, .ref (ad 11)]) E G hA hR hml (r_gauge_p l D cI cJ cZ ad (mi (mi S 5 1) 6 0) w146 100 5000 rfl) (cwV 3 hts (gmV qM_138 qM_139 qM_140 qM_35 qM_126) rfl rfl rfl (by decide +kernel) ⟨Nat.le_of_ble_eq_true rfl, Nat.le_of_ble_eq_true rfl⟩) rfl hl.1 rfl (lv_room (Nat.le_of_ble_eq_true rfl)) dX12_readFirst_19 ⟨Nat.zero_le _, Nat.zero_le _⟩ (fun r3 S4 H locs hq G => ?_)
  obtain ⟨hq1, hq2⟩ := hq
  rw [hq2] at G
  refine lv_to (y := 100) hq1 ?_
  refine m_iast E G 11 3 (k := 0) rfl (fun _ => rfl) rfl (by decide) (by decide) dX12_readFirst_22 (fun H locs G => ?_)
  refine lv_aload_n hx hb dX12_readFirst_23 rfl (lv_at hl 0 rfl) ?_
  refine m_get E G 11 (v := .ref (ad 11)) (by decide) (.tail _ qM_8) rfl dX12_readFirst_24 rfl ?_
  refine lv_iconst (v := 1) hx hb dX12_readFirst_27 (by decide) ?_
  refine lv_aload_n hx hb dX12_readFirst_28 rfl (lv_at hl 0 rfl) ?_
  obtain ⟨w152, hw152⟩ := hR ("AcousticCameraModel", 152, "step") (List.mem_of_getElem? (i := 22) rfl)
  refine va_ldcS hx hb hown hw152 dX12_readFirst_29 ?_
  refine lv_iconst (v := 1) hx hb dX12_readFirst_31 (by decide) ?_
  refine lv_bipush (v := 99) hx hb dX12_readFirst_32 (by decide) ?_
  refine m_calli (As := [.ref w152, .int 1, .int 99]) (rest := [.int 1, .ref (ad 11)]) E G hA hR hml (r_gauge_p l D cI cJ cZ ad (mf (mi (mi S 5 1) 6 0) 11 (upd ((mi (mi S 5 1) 6 0).2.1 11) 0 100)) w152 1 99 rfl) (cwV 3 hts (gmV qM_138 qM_139 qM_140 qM_35 qM_126) rfl rfl rfl (by decide +kernel) ⟨Nat.le_of_ble_eq_true rfl, Nat.le_of_ble_eq_true rfl⟩) rfl hl.1 rfl (lv_room (Nat.le_of_ble_eq_true rfl)) dX12_readFirst_34 ⟨Nat.zero_le _, Nat.zero_le _⟩ (fun r5 S6 H locs hq G => ?_)
  obtain ⟨hq1, hq2⟩ := hq
  rw [hq2] at G
  refine lv_to (y := 1) hq1 ?_
  refine m_iast E G 11 3 (k := 1) rfl (fun _ => rfl) rfl (by decide) (by decide) dX12_readFirst_37 (fun H locs G => ?_)
  refine lv_aload_n hx hb dX12_readFirst_38 rfl (lv_at hl 0 rfl) ?_
  refine m_get E G 11 (v := .ref (ad 11)) (by decide) (.tail _ qM_8) rfl dX12_readFirst_39 rfl ?_
  refine lv_iconst (v := 2) hx hb dX12_readFirst_42 (by decide) ?_
  refine lv_aload_n hx hb dX12_readFirst_43 rfl (lv_at hl 0 rfl) ?_
  obtain ⟨w154, hw154⟩ := hR ("AcousticCameraModel", 154, "samples") (List.mem_of_getElem? (i := 23) rfl)
  refine va_ldcS hx hb hown hw154 dX12_readFirst_44 ?_
  refine lv_bipush (v := 32) hx hb dX12_readFirst_46 (by decide) ?_
  refine lv_sipush (v := 200) hx hb dX12_readFirst_48 (by decide) ?_
  refine m_calli (As := [.ref w154, .int 32, .int 200]) (rest := [.int 2, .ref (ad 11)]) E G hA hR hml (r_gauge_p l D cI cJ cZ ad (mf (mf (mi (mi S 5 1) 6 0) 11 (upd ((mi (mi S 5 1) 6 0).2.1 11) 0 100)) 11 (upd ((mf (mi (mi S 5 1) 6 0) 11 (upd ((mi (mi S 5 1) 6 0).2.1 11) 0 100)).2.1 11) 1 1)) w154 32 200 rfl) (cwV 3 hts (gmV qM_138 qM_139 qM_140 qM_35 qM_126) rfl rfl rfl (by decide +kernel) ⟨Nat.le_of_ble_eq_true rfl, Nat.le_of_ble_eq_true rfl⟩) rfl hl.1 rfl (lv_room (Nat.le_of_ble_eq_true rfl)) dX12_readFirst_51 ⟨Nat.zero_le _, Nat.zero_le _⟩ (fun r7 S8 H locs hq G => ?_)
  obtain ⟨hq1, hq2⟩ := hq
  rw [hq2] at G
  refine lv_to (y := 32) hq1 ?_
  refine m_iast E G 11 3 (k := 2) rfl (fun _ => rfl) rfl (by decide) (by decide) dX12_readFirst_54 (fun H locs G => ?_)
  refine lv_aload_n hx hb dX12_readFirst_55 rfl (lv_at hl 0 rfl) ?_
  refine m_get E G 11 (v := .ref (ad 11)) (by decide) (.tail _ qM_8) rfl dX12_readFirst_56 rfl ?_
  refine lv_iconst (v := 3) hx hb dX12_readFirst_59 (by decide) ?_
  refine lv_aload_n hx hb dX12_readFirst_60 rfl (lv_at hl 0 rfl) ?_
  obtain ⟨w156, hw156⟩ := hR ("AcousticCameraModel", 156, "limit") (List.mem_of_getElem? (i := 24) rfl)
  refine va_ldcS hx hb hown hw156 dX12_readFirst_61 ?_
  refine lv_iconst (v := 1) hx hb dX12_readFirst_63 (by decide) ?_
  refine lv_sipush (v := 9999) hx hb dX12_readFirst_64 (by decide) ?_
  refine m_calli (As := [.ref w156, .int 1, .int 9999]) (rest := [.int 3, .ref (ad 11)]) E G hA hR hml (r_gauge_p l D cI cJ cZ ad (mf (mf (mf (mi (mi S 5 1) 6 0) 11 (upd ((mi (mi S 5 1) 6 0).2.1 11) 0 100)) 11 (upd ((mf (mi (mi S 5 1) 6 0) 11 (upd ((mi (mi S 5 1) 6 0).2.1 11) 0 100)).2.1 11) 1 1)) 11 (upd ((mf (mf (mi (mi S 5 1) 6 0) 11 (upd ((mi (mi S 5 1) 6 0).2.1 11) 0 100)) 11 (upd ((mf (mi (mi S 5 1) 6 0) 11 (upd ((mi (mi S 5 1) 6 0).2.1 11) 0 100)).2.1 11) 1 1)).2.1 11) 2 32)) w156 1 9999 rfl) (cwV 3 hts (gmV qM_138 qM_139 qM_140 qM_35 qM_126) rfl rfl rfl (by decide +kernel) ⟨Nat.le_of_ble_eq_true rfl, Nat.le_of_ble_eq_true rfl⟩) rfl hl.1 rfl (lv_room (Nat.le_of_ble_eq_true rfl)) dX12_readFirst_67 ⟨Nat.zero_le _, Nat.zero_le _⟩ (fun r9 S10 H locs hq G => ?_)
  obtain ⟨hq1, hq2⟩ := hq
  rw [hq2] at G
  refine lv_to (y := 1) hq1 ?_
  refine m_iast E G 11 3 (k := 3) rfl (fun _ => rfl) rfl (by decide) (by decide) dX12_readFirst_70 (fun H locs G => ?_)
  exact W.vret hx hb hr (fun t ht hW => ⟨⟨(mf (mf (mf (mf (mi (mi S 5 1) 6 0) 11 (upd ((mi (mi S 5 1) 6 0).2.1 11) 0 100)) 11 (upd ((mf (mi (mi S 5 1) 6 0) 11 (upd ((mi (mi S 5 1) 6 0).2.1 11) 0 100)).2.1 11) 1 1)) 11 (upd ((mf (mf (mi (mi S 5 1) 6 0) 11 (upd ((mi (mi S 5 1) 6 0).2.1 11) 0 100)) 11 (upd ((mf (mi (mi S 5 1) 6 0) 11 (upd ((mi (mi S 5 1) 6 0).2.1 11) 0 100)).2.1 11) 1 1)).2.1 11) 2 32)) 11 (upd ((mf (mf (mf (mi (mi S 5 1) 6 0) 11 (upd ((mi (mi S 5 1) 6 0).2.1 11) 0 100)) 11 (upd ((mf (mi (mi S 5 1) 6 0) 11 (upd ((mi (mi S 5 1) 6 0).2.1 11) 0 100)).2.1 11) 1 1)) 11 (upd ((mf (mf (mi (mi S 5 1) 6 0) 11 (upd ((mi (mi S 5 1) 6 0).2.1 11) 0 100)) 11 (upd ((mf (mi (mi S 5 1) 6 0) 11 (upd ((mi (mi S 5 1) 6 0).2.1 11) 0 100)).2.1 11) 1 1)).2.1 11) 2 32)).2.1 11) 3 1)), rfl, ⟨rfl, rfl⟩, ⟨by rw [ht]; exact G.1, va_K.moved hW.alike hK, G.2.1⟩⟩, G.2.2.F ht⟩) G.2.2.2.2 dX12_readFirst_71
set_option maxHeartbeats 4000000 in
set_option maxRecDepth 100000 in
theorem r_loop1 {p : Program} {l : Launch} {e : Env} {R : Room} {s : State} {m : MethodId} {args : Array Value} {below : List Frame} {meth : Method} {c : Code} {cells slots : Nat} {Q : State → Prop} {D : va_G} {A : Nat → Prop} {H0 : Heap} {Ts : List Cond} {cI cJ cZ : ClassId} {ad : Nat → Nat} {f0 : Nat → Int32} (hx : p.tables.exec = Jvm.exec) (hb : c.code = cX12_readText) (E : mE p c cX12_readText s m args Ts D cI cJ cZ) (hl1 : Cond.fieldLink RX12 20 "AcousticCameraModel" "newPlan" "[I" ∈ Ts) (kk : ∀ (S1 : MS) (H1 : Heap) (locs1 : List Loc) (ls1 : Array Slot), S1.1 = f0 → mG D cI cJ cZ ad A H0 H1 locs1 S1 → lv_has ls1 2 [(1, .int (nI 131)), (0, .ref (ad 0))] → W p l e R s m args below meth c H1 locs1 cells slots Q (F0 m 22 ls1 [])) : ∀ (n k : Nat), k + n = 131 → ∀ (S1 : MS) (H1 : Heap) (locs1 : List Loc) (ls : Array Slot), S1.1 = f0 → mG D cI cJ cZ ad A H0 H1 locs1 S1 → lv_has ls 2 [(1, .int (nI k)), (0, .ref (ad 0))] → W p l e R s m args below meth c H1 locs1 cells slots Q (F0 m 2 ls []) := by
  intro n
  induction n with
  | zero =>
    intro k hk S1 H1 locs1 ls hf G hl
    have hk2 : k = 131 := by omega
    subst hk2
    refine lv_iload_n hx hb dX12_readText_2 rfl (lv_at hl 0 rfl) ?_
    refine lv_sipush (v := 131) hx hb dX12_readText_3 (by decide) ?_
    refine lv_icmp_ge (tgt := 22) hx hb dX12_readText_6 (by decide) (fun _ => ?_) (fun h => absurd (by decide +kernel) h)
    exact kk S1 H1 locs1 ls hf G hl
  | succ n ih =>
    intro k hk S1 H1 locs1 ls hf G hl
    refine lv_iload_n hx hb dX12_readText_2 rfl (lv_at hl 0 rfl) ?_
    refine lv_sipush (v := nI 131) hx hb dX12_readText_3 (by decide) ?_
    refine lv_icmp_ge (tgt := 22) hx hb dX12_readText_6 (by decide) (fun h => absurd h (nI_ge (by omega) (by decide))) (fun _ => ?_)
    refine lv_aload_n hx hb dX12_readText_9 rfl (lv_at hl 1 rfl) ?_
    refine m_get E G 11 (v := .ref (ad 11)) (by decide) hl1 rfl dX12_readText_10 rfl ?_
    refine lv_iload_n hx hb dX12_readText_13 rfl (lv_at hl 0 rfl) ?_
    refine lv_iconst (v := 0) hx hb dX12_readText_14 (by decide) ?_
    refine m_iast E G 11 3 (k := k) rfl (fun _ => rfl) rfl (by omega) (by decide) dX12_readText_15 (fun H locs G => ?_)
    refine lv_iinc (v := nI (k + 1)) (lv' := [(1, .int (nI (k + 1))), (0, .ref (ad 0))]) hx hb dX12_readText_16 hl (k := 0) rfl (m_addn rfl rfl) (by decide) rfl (fun ls hl => ?_)
    refine lv_goto (tgt := 2) hx hb dX12_readText_19 (by decide) ?_
    exact ih (k + 1) (by omega) (mf S1 11 (upd (S1.2.1 11) k 0)) H locs ls hf G hl
set_option maxHeartbeats 4000000 in
set_option maxRecDepth 100000 in
theorem r_loop2 {p : Program} {l : Launch} {e : Env} {R : Room} {s : State} {m : MethodId} {args : Array Value} {below : List Frame} {meth : Method} {c : Code} {cells slots : Nat} {Q : State → Prop} {D : va_G} {A : Nat → Prop} {H0 : Heap} {Ts : List Cond} {cI cJ cZ : ClassId} {ad : Nat → Nat} {f0 : Nat → Int32} (hx : p.tables.exec = Jvm.exec) (hb : c.code = cX12_readText) (E : mE p c cX12_readText s m args Ts D cI cJ cZ) (hl1 : Cond.fieldLink RX12 26 "AcousticCameraModel" "draft" "[I" ∈ Ts) (kk : ∀ (S1 : MS) (H1 : Heap) (locs1 : List Loc) (ls1 : Array Slot), S1.1 = f0 → mG D cI cJ cZ ad A H0 H1 locs1 S1 → lv_has ls1 2 [(1, .int (nI 2455)), (0, .ref (ad 0))] → W p l e R s m args below meth c H1 locs1 cells slots Q (F0 m 44 ls1 [])) : ∀ (n k : Nat), k + n = 2455 → ∀ (S1 : MS) (H1 : Heap) (locs1 : List Loc) (ls : Array Slot), S1.1 = f0 → mG D cI cJ cZ ad A H0 H1 locs1 S1 → lv_has ls 2 [(1, .int (nI k)), (0, .ref (ad 0))] → W p l e R s m args below meth c H1 locs1 cells slots Q (F0 m 24 ls []) := by
  intro n
  induction n with
  | zero =>
    intro k hk S1 H1 locs1 ls hf G hl
    have hk2 : k = 2455 := by omega
    subst hk2
    refine lv_iload_n hx hb dX12_readText_24 rfl (lv_at hl 0 rfl) ?_
    refine lv_sipush (v := 2455) hx hb dX12_readText_25 (by decide) ?_
    refine lv_icmp_ge (tgt := 44) hx hb dX12_readText_28 (by decide) (fun _ => ?_) (fun h => absurd (by decide +kernel) h)
    exact kk S1 H1 locs1 ls hf G hl
  | succ n ih =>
    intro k hk S1 H1 locs1 ls hf G hl
    refine lv_iload_n hx hb dX12_readText_24 rfl (lv_at hl 0 rfl) ?_
    refine lv_sipush (v := nI 2455) hx hb dX12_readText_25 (by decide) ?_
    refine lv_icmp_ge (tgt := 44) hx hb dX12_readText_28 (by decide) (fun h => absurd h (nI_ge (by omega) (by decide))) (fun _ => ?_)
    refine lv_aload_n hx hb dX12_readText_31 rfl (lv_at hl 1 rfl) ?_
    refine m_get E G 13 (v := .ref (ad 13)) (by decide) hl1 rfl dX12_readText_32 rfl ?_
    refine lv_iload_n hx hb dX12_readText_35 rfl (lv_at hl 0 rfl) ?_
    refine lv_iconst (v := 0) hx hb dX12_readText_36 (by decide) ?_
    refine m_iast E G 13 5 (k := k) rfl (fun _ => rfl) rfl (by omega) (by decide) dX12_readText_37 (fun H locs G => ?_)
    refine lv_iinc (v := nI (k + 1)) (lv' := [(1, .int (nI (k + 1))), (0, .ref (ad 0))]) hx hb dX12_readText_38 hl (k := 0) rfl (m_addn rfl rfl) (by decide) rfl (fun ls hl => ?_)
    refine lv_goto (tgt := 24) hx hb dX12_readText_41 (by decide) ?_
    exact ih (k + 1) (by omega) (mf S1 13 (upd (S1.2.1 13) k 0)) H locs ls hf G hl
set_option maxHeartbeats 4000000 in
set_option maxRecDepth 100000 in
theorem r_readText_0 (l : Launch) (D : va_G) (cI cJ cZ : ClassId) (ad : Nat → Nat) (S : MS) (h3 : S.1 3 = 0) (h4 : S.1 4 = 0) (h5 : S.1 5 = 0) : mCv l yX12_readText (Cond.code yX12_readText cX12_readText 2 none :: wsM) 6 108 D cI cJ cZ ad S [] (fun S1 => S1.1 5 = 1 ∧ S1.1 0 = S.1 0) := by
  intro sz
  refine Met.ofW (cc := cX12_readText) (maxL := 2) (ret := none) (by decide) rfl ?_
  intro p e s m args below meth c s₁ B hml hv
  obtain ⟨rfl, hsz, hP, hK, hD0, hR⟩ := hv
  have hx := B.exec
  have hb := B.bytes
  have hr := B.returns
  have hts := atoms_spec (ws := (Cond.code yX12_readText cX12_readText 2 none :: wsM)) B.pre
  have hown : s.vm.findClass RX12 = some m.cls := findClass_of_methodNamed B.named
  have hlocks := B.notSynchronized
  subst hsz
  have hD := hD0.self (sz := s.heap.size)
  generalize hAe : va_A (MW cI cJ cZ ad S) s.heap.size = A at hD ⊢
  have hA : ∀ q : Nat, s.heap.size ≤ q → A q := fun q h => by rw [← hAe]; exact Or.inr h
  have G : mG D cI cJ cZ ad A s.heap s.heap [] S := ⟨hP, hD, va_S.rf⟩
  have E : mE p c cX12_readText s m ([.ref (ad 0)] : List Value).toArray (Cond.code yX12_readText cX12_readText 2 none :: wsM) D cI cJ cZ := ⟨hx, hb, hts, hown, hK, fun w h => .tail _ (iM_x h)⟩
  have hl := lv_entry ([.ref (ad 0)]) (n := 2) (Nat.le_of_ble_eq_true rfl)
  rw [lg_entry_eq]
  generalize (lg_sl ([.ref (ad 0)]) ++ List.replicate (2 - (lg_sl ([.ref (ad 0)])).length) Slot.unset).toArray = ls at hl ⊢
  have hl : lv_has ls 2 [(0, .ref (ad 0))] := hl
  have hh : True := trivial
  refine lv_iconst (v := 0) hx hb dX12_readText_0 (by decide) ?_
  refine lv_istore_n (lv' := [(1, .int 0), (0, .ref (ad 0))]) hx hb dX12_readText_1 rfl hl (by decide) rfl (fun ls hl => ?_)
  refine r_loop1 (f0 := S.1) hx hb E (.tail _ qM_8) (fun Sl2 H locs ls hf2 G hl => ?_) 131 0 rfl _ _ _ _ rfl G hl
  have g2_3 : Sl2.1 3 = 0 := (congrFun hf2 3).trans h3
  have g2_4 : Sl2.1 4 = 0 := (congrFun hf2 4).trans h4
  have g2_5 : Sl2.1 5 = 0 := (congrFun hf2 5).trans h5
  have gt2 : Sl2.1 0 = S.1 0 := congrFun hf2 0
  refine lv_iconst (v := 0) hx hb dX12_readText_22 (by decide) ?_
  refine lv_istore_n (lv' := [(1, .int 0), (0, .ref (ad 0))]) hx hb dX12_readText_23 rfl hl (by decide) rfl (fun ls hl => ?_)
  refine r_loop2 (f0 := Sl2.1) hx hb E (.tail _ qM_10) (fun Sl24 H locs ls hf24 G hl => ?_) 2455 0 rfl _ _ _ _ rfl G hl
  have g24_3 : Sl24.1 3 = 0 := (congrFun hf24 3).trans g2_3
  have g24_4 : Sl24.1 4 = 0 := (congrFun hf24 4).trans g2_4
  have g24_5 : Sl24.1 5 = 0 := (congrFun hf24 5).trans g2_5
  have gt24 : Sl24.1 0 = S.1 0 := (congrFun hf24 0).trans gt2
  refine lv_aload_n hx hb dX12_readText_44 rfl (lv_at hl 1 rfl) ?_
  refine m_callv (As := []) (rest := []) E G hA hR hml (r_nextToken_0 l D cI cJ cZ ad Sl24 g24_3 g24_4 g24_5) (cwV 0 hts (gmV qM_111 qM_112 qM_113 qM_35 qM_45) rfl rfl rfl (by decide +kernel) ⟨Nat.le_of_ble_eq_true rfl, Nat.le_of_ble_eq_true rfl⟩) rfl hl.1 rfl (lv_room (Nat.le_of_ble_eq_true rfl)) dX12_readText_45 ⟨Nat.zero_le _, Nat.zero_le _⟩ (fun S2 H locs hq G => ?_)
  rw [hq] at G
  refine lv_aload_n hx hb dX12_readText_48 rfl (lv_at hl 1 rfl) ?_
  refine m_callv (As := []) (rest := []) E G hA hR hml (r_readFirst_0 l D cI cJ cZ ad (mi (mi Sl24 8 0) 7 1) g24_5 rfl rfl) (cwV 0 hts (gmV qM_186 qM_187 qM_188 qM_35 qM_137) rfl rfl rfl (by decide +kernel) ⟨Nat.le_of_ble_eq_true rfl, Nat.le_of_ble_eq_true rfl⟩) rfl hl.1 rfl (lv_room (Nat.le_of_ble_eq_true rfl)) dX12_readText_49 ⟨Nat.zero_le _, Nat.zero_le _⟩ (fun S4 H locs hq G => ?_)
  obtain ⟨hp5, hp0⟩ := hq
  replace hp0 : S4.1 0 = S.1 0 := hp0.trans gt24
  refine lv_aload_n hx hb dX12_readText_52 rfl (lv_at hl 1 rfl) ?_
  refine lv_bipush (v := 59) hx hb dX12_readText_53 (by decide) ?_
  refine m_calli (As := [.int 59]) (rest := []) E G hA hR hml (r_isSignHere_p l D cI cJ cZ ad S4 59 hp5) (cwV 1 hts (gmV qM_134 qM_135 qM_136 qM_35 qM_56) rfl rfl rfl (by decide +kernel) ⟨Nat.le_of_ble_eq_true rfl, Nat.le_of_ble_eq_true rfl⟩) rfl hl.1 rfl (lv_room (Nat.le_of_ble_eq_true rfl)) dX12_readText_55 ⟨Nat.zero_le _, Nat.zero_le _⟩ (fun r5 S6 H locs hq G => ?_)
  obtain ⟨hq1, hq2⟩ := hq
  rw [hq2] at G
  refine lv_to (y := 0) hq1 ?_
  refine lv_if_eq (tgt := 72) hx hb dX12_readText_58 (by decide) (fun c7 => ?_) (fun c7 => absurd (by decide +kernel) c7)
  refine lv_aload_n hx hb dX12_readText_72 rfl (lv_at hl 1 rfl) ?_
  refine m_get E G 5 (v := .int (S4.1 5)) (by decide) (.tail _ qM_38) rfl dX12_readText_73 rfl ?_
  refine lv_to (y := 1) hp5 ?_
  refine lv_if_ne (tgt := 92) hx hb dX12_readText_76 (by decide) (fun c8 => ?_) (fun c8 => absurd c8 (by decide +kernel))
  refine lv_aload_n hx hb dX12_readText_92 rfl (lv_at hl 1 rfl) ?_
  refine m_get E G 11 (v := .ref (ad 11)) (by decide) (.tail _ qM_8) rfl dX12_readText_93 rfl ?_
  refine lv_iconst (v := 4) hx hb dX12_readText_96 (by decide) ?_
  refine m_iald E G 11 3 (n := 131) (k := 4) rfl rfl (by decide) (by decide) dX12_readText_97 ?_
  refine lv_topi (fun v9 ev9 => ?_)
  refine lv_if_eq (tgt := 111) hx hb dX12_readText_98 (by decide) (fun c10 => ?_) (fun c10 => ?_)
  · refine lv_aload_n hx hb dX12_readText_111 rfl (lv_at hl 1 rfl) ?_
    refine lv_iconst (v := 5) hx hb dX12_readText_112 (by decide) ?_
    refine m_callv (As := [.int 5]) (rest := []) E G hA hR hml (r_faults_p l D cI cJ cZ ad S4 5 hp5) (cwV 1 hts (gmV qM_118 qM_119 qM_120 qM_35 qM_42) rfl rfl rfl (by decide +kernel) ⟨Nat.le_of_ble_eq_true rfl, Nat.le_of_ble_eq_true rfl⟩) rfl hl.1 rfl (lv_room (Nat.le_of_ble_eq_true rfl)) dX12_readText_113 ⟨Nat.zero_le _, Nat.zero_le _⟩ (fun S12 H locs hq G => ?_)
    rw [hq] at G
    exact W.vret hx hb hr (fun t ht hW => ⟨⟨S4, rfl, ⟨hp5, hp0⟩, ⟨by rw [ht]; exact G.1, va_K.moved hW.alike hK, G.2.1⟩⟩, G.2.2.F ht⟩) G.2.2.2.2 dX12_readText_116
  · refine lv_aload_n hx hb dX12_readText_101 rfl (lv_at hl 1 rfl) ?_
    refine m_get E G 11 (v := .ref (ad 11)) (by decide) (.tail _ qM_8) rfl dX12_readText_102 rfl ?_
    refine lv_bipush (v := 8) hx hb dX12_readText_105 (by decide) ?_
    refine m_iald E G 11 3 (n := 131) (k := 8) rfl rfl (by decide) (by decide) dX12_readText_107 ?_
    refine lv_topi (fun v13 ev13 => ?_)
    refine lv_if_ne (tgt := 116) hx hb dX12_readText_108 (by decide) (fun c14 => ?_) (fun c14 => ?_)
    · exact W.vret hx hb hr (fun t ht hW => ⟨⟨S4, rfl, ⟨hp5, hp0⟩, ⟨by rw [ht]; exact G.1, va_K.moved hW.alike hK, G.2.1⟩⟩, G.2.2.F ht⟩) G.2.2.2.2 dX12_readText_116
    · refine lv_aload_n hx hb dX12_readText_111 rfl (lv_at hl 1 rfl) ?_
      refine lv_iconst (v := 5) hx hb dX12_readText_112 (by decide) ?_
      refine m_callv (As := [.int 5]) (rest := []) E G hA hR hml (r_faults_p l D cI cJ cZ ad S4 5 hp5) (cwV 1 hts (gmV qM_118 qM_119 qM_120 qM_35 qM_42) rfl rfl rfl (by decide +kernel) ⟨Nat.le_of_ble_eq_true rfl, Nat.le_of_ble_eq_true rfl⟩) rfl hl.1 rfl (lv_room (Nat.le_of_ble_eq_true rfl)) dX12_readText_113 ⟨Nat.zero_le _, Nat.zero_le _⟩ (fun S16 H locs hq G => ?_)
      rw [hq] at G
      exact W.vret hx hb hr (fun t ht hW => ⟨⟨S4, rfl, ⟨hp5, hp0⟩, ⟨by rw [ht]; exact G.1, va_K.moved hW.alike hK, G.2.1⟩⟩, G.2.2.F ht⟩) G.2.2.2.2 dX12_readText_116
set_option maxHeartbeats 4000000 in
set_option maxRecDepth 100000 in
theorem n_load_0 (l : Launch) (D : va_G) (cI cJ cZ : ClassId) (ad : Nat → Nat) (S : MS) (h2 : S.1 2 = 0) : mCi l yX12_load (Cond.code yX12_load cX12_load 4 (some .int) :: wsM) 7 129 D cI cJ cZ ad S [.int 0] (fun r S1 => r = 0 ∧ S1.1 0 = 2) := by
  intro sz
  refine Met.ofW (cc := cX12_load) (maxL := 4) (ret := (some .int)) (by decide) rfl ?_
  intro p e s m args below meth c s₁ B hml hv
  obtain ⟨rfl, hsz, hP, hK, hD0, hR⟩ := hv
  have hx := B.exec
  have hb := B.bytes
  have hr := B.returns
  have hts := atoms_spec (ws := (Cond.code yX12_load cX12_load 4 (some .int) :: wsM)) B.pre
  have hown : s.vm.findClass RX12 = some m.cls := findClass_of_methodNamed B.named
  have hlocks := B.notSynchronized
  subst hsz
  have hD := hD0.self (sz := s.heap.size)
  generalize hAe : va_A (MW cI cJ cZ ad S) s.heap.size = A at hD ⊢
  have hA : ∀ q : Nat, s.heap.size ≤ q → A q := fun q h => by rw [← hAe]; exact Or.inr h
  have G : mG D cI cJ cZ ad A s.heap s.heap [] S := ⟨hP, hD, va_S.rf⟩
  have E : mE p c cX12_load s m ([.ref (ad 0), .int 0] : List Value).toArray (Cond.code yX12_load cX12_load 4 (some .int) :: wsM) D cI cJ cZ := ⟨hx, hb, hts, hown, hK, fun w h => .tail _ (iM_x h)⟩
  have hl := lv_entry ([.ref (ad 0), .int 0]) (n := 4) (Nat.le_of_ble_eq_true rfl)
  rw [lg_entry_eq]
  generalize (lg_sl ([.ref (ad 0), .int 0]) ++ List.replicate (4 - (lg_sl ([.ref (ad 0), .int 0])).length) Slot.unset).toArray = ls at hl ⊢
  have hl : lv_has ls 4 [(0, .ref (ad 0)), (1, .int 0)] := hl
  have hh : True := trivial
  refine lv_aload_n hx hb dX12_load_0 rfl (lv_at hl 0 rfl) ?_
  refine lv_iconst (v := 0) hx hb dX12_load_1 (by decide) ?_
  refine m_put E G 0 (by decide) (.tail _ qM_26) (mw_i0 _ _ _ _ _ 0) dX12_load_2 ⟨rfl, rfl, rfl⟩ rfl rfl (fun H locs G => ?_)
  refine lv_iload_n hx hb dX12_load_5 rfl (lv_at hl 1 rfl) ?_
  refine lv_iconst (v := 0) hx hb dX12_load_6 (by decide) ?_
  refine lv_aload_n hx hb dX12_load_7 rfl (lv_at hl 0 rfl) ?_
  refine m_get E G 2 (v := .int (S.1 2)) (by decide) (.tail _ qM_30) rfl dX12_load_8 rfl ?_
  refine lv_to (y := 0) h2 ?_
  refine m_stat (As := [.int 0, .int 0, .int 0]) (rest := []) ⟨hx, hb, hml, hown, hts⟩ (m_in l 0 0 0) (cwS 3 hts (gmS qM_52 qM_53 qM_35 qM_27) rfl rfl rfl (by decide +kernel) ⟨Nat.le_of_ble_eq_true rfl, Nat.le_of_ble_eq_true rfl⟩) rfl hl.1 rfl (lv_room (Nat.le_of_ble_eq_true rfl)) dX12_load_11 ⟨Nat.zero_le _, Nat.zero_le _⟩ (fun r1 hq => ?_)
  obtain rfl : r1 = 1 := hq.trans (by decide)
  refine lv_if_ne (tgt := 23) hx hb dX12_load_14 (by decide) (fun c2 => ?_) (fun c2 => absurd c2 (by decide +kernel))
  refine lv_aload_n hx hb dX12_load_23 rfl (lv_at hl 0 rfl) ?_
  refine lv_iload_n hx hb dX12_load_24 rfl (lv_at hl 1 rfl) ?_
  refine m_put E G 3 (by decide) (.tail _ qM_41) (mw_i3 _ _ _ _ _ 0) dX12_load_25 ⟨rfl, rfl, rfl⟩ rfl rfl (fun H locs G => ?_)
  refine lv_aload_n hx hb dX12_load_28 rfl (lv_at hl 0 rfl) ?_
  refine lv_iconst (v := 0) hx hb dX12_load_29 (by decide) ?_
  refine m_put E G 2 (by decide) (.tail _ qM_30) (mw_i2 _ _ _ _ _ 0) dX12_load_30 ⟨rfl, rfl, rfl⟩ rfl rfl (fun H locs G => ?_)
  refine lv_aload_n hx hb dX12_load_33 rfl (lv_at hl 0 rfl) ?_
  refine lv_iconst (v := 0) hx hb dX12_load_34 (by decide) ?_
  refine m_put E G 4 (by decide) (.tail _ qM_46) (mw_i4 _ _ _ _ _ 0) dX12_load_35 ⟨rfl, rfl, rfl⟩ rfl rfl (fun H locs G => ?_)
  refine lv_aload_n hx hb dX12_load_38 rfl (lv_at hl 0 rfl) ?_
  refine lv_iconst (v := 0) hx hb dX12_load_39 (by decide) ?_
  refine m_put E G 5 (by decide) (.tail _ qM_38) (mw_i5 _ _ _ _ _ 0) dX12_load_40 ⟨rfl, rfl, rfl⟩ rfl rfl (fun H locs G => ?_)
  refine lv_aload_n hx hb dX12_load_43 rfl (lv_at hl 0 rfl) ?_
  refine lv_iconst (v := (-1)) hx hb dX12_load_44 (by decide) ?_
  refine m_put E G 6 (by decide) (.tail _ qM_6) (mw_i6 _ _ _ _ _ (-1)) dX12_load_45 ⟨rfl, rfl, rfl⟩ rfl rfl (fun H locs G => ?_)
  refine lv_aload_n hx hb dX12_load_48 rfl (lv_at hl 0 rfl) ?_
  refine m_callv (As := []) (rest := []) E G hA hR hml (r_readText_0 l D cI cJ cZ ad (mi (mi (mi (mi (mi (mi S 0 0) 3 0) 2 0) 4 0) 5 0) 6 (-1)) rfl rfl rfl) (cwV 0 hts (gmV qM_198 qM_199 qM_200 qM_35 qM_185) rfl rfl rfl (by decide +kernel) ⟨Nat.le_of_ble_eq_true rfl, Nat.le_of_ble_eq_true rfl⟩) rfl hl.1 rfl (lv_room (Nat.le_of_ble_eq_true rfl)) dX12_load_49 ⟨Nat.zero_le _, Nat.zero_le _⟩ (fun S4 H locs hq G => ?_)
  obtain ⟨hq5, hq0⟩ := hq
  refine lv_aload_n hx hb dX12_load_52 rfl (lv_at hl 0 rfl) ?_
  refine m_get E G 5 (v := .int (S4.1 5)) (by decide) (.tail _ qM_38) rfl dX12_load_53 rfl ?_
  refine lv_to (y := 1) hq5 ?_
  refine lv_if_le (tgt := 65) hx hb dX12_load_56 (by decide) (fun c5 => absurd c5 (by decide +kernel)) (fun c5 => ?_)
  refine lv_aload_n hx hb dX12_load_59 rfl (lv_at hl 0 rfl) ?_
  refine lv_iconst (v := 2) hx hb dX12_load_60 (by decide) ?_
  refine m_calli (As := [.int 2]) (rest := []) E G hA hR hml (m_throwsAt l D cI cJ cZ ad S4 2) (cwV 1 hts (gmV qM_195 qM_196 qM_197 qM_35 qM_28) rfl rfl rfl (by decide +kernel) ⟨Nat.le_of_ble_eq_true rfl, Nat.le_of_ble_eq_true rfl⟩) rfl hl.1 rfl (lv_room (Nat.le_of_ble_eq_true rfl)) dX12_load_61 ⟨Nat.zero_le _, Nat.zero_le _⟩ (fun r6 S7 H locs hq G => ?_)
  obtain ⟨hq1, hq2⟩ := hq
  rw [hq2] at G
  refine lv_to (y := 0) hq1 ?_
  exact W.iret (v := 0) hx hb hr (fun t ht hW => ⟨⟨0, (mi S4 0 2), rfl, ⟨rfl, rfl⟩, ⟨by rw [ht]; exact G.1, va_K.moved hW.alike hK, G.2.1⟩⟩, G.2.2.F ht⟩) G.2.2.2.2 dX12_load_64
