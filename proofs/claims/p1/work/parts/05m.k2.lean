set_option maxHeartbeats 4000000 in
set_option maxRecDepth 100000 in
theorem f_needIndex_0 (l : Launch) (hst : l.stackTraces = false) (D : va_G) (tys : List (ClassId × FieldType)) (ad : Nat → Nat) (N : Nat) (S : Nat → va_E) (x : Int32) : cXv l yX11_needIndex (Cond.code yX11_needIndex cX11_needIndex 2 none :: wsA) 6 81 D tys ad N S [.int x, .int 0] (fun _ => False) (fun E u => E = xIOB ∧ u = S) := by
  intro sz
  refine vx_ofW (cc := cX11_needIndex) (maxL := 2) (ret := none) (by decide) rfl ?_
  intro p e s m args below meth c s₁ B hml htab hv
  obtain ⟨rfl, hsz, hP, hK, hD0, hX⟩ := hv
  have hx := B.exec
  have hb := B.bytes
  have hr := B.returns
  have hts := atoms_spec (ws := (Cond.code yX11_needIndex cX11_needIndex 2 none :: wsA)) B.pre
  have hown : s.vm.findClass RX11 = some m.cls := findClass_of_methodNamed B.named
  have hlocks := B.notSynchronized
  subst hsz
  have hD := hD0.self (sz := s.heap.size)
  generalize hAe : va_A (cW ad N S) s.heap.size = A at hD hX ⊢
  have hA : ∀ q : Nat, s.heap.size ≤ q → A q := fun q h => by rw [← hAe]; exact Or.inr h
  have G : cG D ad N A s.heap s.heap [] S := ⟨hP, hD, va_S.rf⟩
  have E : cE p c cX11_needIndex s m ([.int x, .int 0] : List Value).toArray (Cond.code yX11_needIndex cX11_needIndex 2 none :: wsA) D RX11 tys := ⟨hx, hb, hts, hown, hK⟩
  have hl := lv_entry ([.int x, .int 0]) (n := 2) (Nat.le_of_ble_eq_true rfl)
  rw [lg_entry_eq]
  generalize (lg_sl ([.int x, .int 0]) ++ List.replicate (2 - (lg_sl ([.int x, .int 0])).length) Slot.unset).toArray = ls at hl ⊢
  have hl : lv_has ls 2 [(0, .int x), (1, .int 0)] := hl
  refine lv_iload_n hx hb dX11_needIndex_0 rfl (lv_at hl 0 rfl) ?_
  refine lv_if_lt (tgt := 9) hx hb dX11_needIndex_1 (by decide) (fun c1 => ?_) (fun c1 => ?_)
  · refine vx_throw0 (own := RX11) (cls := xIOB) (names := ["java/lang/RuntimeException", "java/lang/Exception"]) (ik := 103) (ic := 105) (A := A) hx hb hst hown (by decide +kernel) (by decide +kernel) (hts _ (.tail _ qA_693)) (hts _ (.tail _ qA_694)) (vx_hat (B := xB) (fun w h => hts w (.tail _ (iA_25 h))) (by decide +kernel) hX.use) (by decide +kernel) hX.1 hX.2.1 G.2.2 (hl.1.trans hml.symm) dX11_needIndex_9 dX11_needIndex_12 dX11_needIndex_13 dX11_needIndex_16 (fun x hx => (htab x hx).elim) (Nat.le_of_ble_eq_true rfl) (Nat.le_of_ble_eq_true rfl) (Nat.le_of_ble_eq_true rfl) (Nat.le_of_ble_eq_true rfl) hlocks (fun t hvm h1 h2 => ?_) G.2.2.2.2 (Nat.le_refl _) (Nat.le_refl _)
    exact ⟨S, trivial, ⟨⟨rfl, rfl⟩, (c_thrown G hK hvm h1 h2).1⟩, (c_thrown G hK hvm h1 h2).2⟩
  · refine lv_iload_n hx hb dX11_needIndex_4 rfl (lv_at hl 0 rfl) ?_
    refine lv_iload_n hx hb dX11_needIndex_5 rfl (lv_at hl 1 rfl) ?_
    refine lv_icmp_lt (tgt := 17) hx hb dX11_needIndex_6 (by decide) (fun c2 => absurd c2 c1) (fun c2 => ?_)
    refine vx_throw0 (own := RX11) (cls := xIOB) (names := ["java/lang/RuntimeException", "java/lang/Exception"]) (ik := 103) (ic := 105) (A := A) hx hb hst hown (by decide +kernel) (by decide +kernel) (hts _ (.tail _ qA_693)) (hts _ (.tail _ qA_694)) (vx_hat (B := xB) (fun w h => hts w (.tail _ (iA_25 h))) (by decide +kernel) hX.use) (by decide +kernel) hX.1 hX.2.1 G.2.2 (hl.1.trans hml.symm) dX11_needIndex_9 dX11_needIndex_12 dX11_needIndex_13 dX11_needIndex_16 (fun x hx => (htab x hx).elim) (Nat.le_of_ble_eq_true rfl) (Nat.le_of_ble_eq_true rfl) (Nat.le_of_ble_eq_true rfl) (Nat.le_of_ble_eq_true rfl) hlocks (fun t hvm h1 h2 => ?_) G.2.2.2.2 (Nat.le_refl _) (Nat.le_refl _)
    exact ⟨S, trivial, ⟨⟨rfl, rfl⟩, (c_thrown G hK hvm h1 h2).1⟩, (c_thrown G hK hvm h1 h2).2⟩
set_option maxHeartbeats 4000000 in
set_option maxRecDepth 100000 in
theorem f_needIndex_b (l : Launch) (hst : l.stackTraces = false) (D : va_G) (tys : List (ClassId × FieldType)) (ad : Nat → Nat) (N : Nat) (S : Nat → va_E) (x : Int32) (h : ¬ (¬ x < 0 ∧ x < 2)) : cXv l yX11_needIndex (Cond.code yX11_needIndex cX11_needIndex 2 none :: wsA) 6 81 D tys ad N S [.int x, .int 2] (fun _ => False) (fun E u => E = xIOB ∧ u = S) := by
  intro sz
  refine vx_ofW (cc := cX11_needIndex) (maxL := 2) (ret := none) (by decide) rfl ?_
  intro p e s m args below meth c s₁ B hml htab hv
  obtain ⟨rfl, hsz, hP, hK, hD0, hX⟩ := hv
  have hx := B.exec
  have hb := B.bytes
  have hr := B.returns
  have hts := atoms_spec (ws := (Cond.code yX11_needIndex cX11_needIndex 2 none :: wsA)) B.pre
  have hown : s.vm.findClass RX11 = some m.cls := findClass_of_methodNamed B.named
  have hlocks := B.notSynchronized
  subst hsz
  have hD := hD0.self (sz := s.heap.size)
  generalize hAe : va_A (cW ad N S) s.heap.size = A at hD hX ⊢
  have hA : ∀ q : Nat, s.heap.size ≤ q → A q := fun q h => by rw [← hAe]; exact Or.inr h
  have G : cG D ad N A s.heap s.heap [] S := ⟨hP, hD, va_S.rf⟩
  have E : cE p c cX11_needIndex s m ([.int x, .int 2] : List Value).toArray (Cond.code yX11_needIndex cX11_needIndex 2 none :: wsA) D RX11 tys := ⟨hx, hb, hts, hown, hK⟩
  have hl := lv_entry ([.int x, .int 2]) (n := 2) (Nat.le_of_ble_eq_true rfl)
  rw [lg_entry_eq]
  generalize (lg_sl ([.int x, .int 2]) ++ List.replicate (2 - (lg_sl ([.int x, .int 2])).length) Slot.unset).toArray = ls at hl ⊢
  have hl : lv_has ls 2 [(0, .int x), (1, .int 2)] := hl
  refine lv_iload_n hx hb dX11_needIndex_0 rfl (lv_at hl 0 rfl) ?_
  refine lv_if_lt (tgt := 9) hx hb dX11_needIndex_1 (by decide) (fun c1 => ?_) (fun c1 => ?_)
  · refine vx_throw0 (own := RX11) (cls := xIOB) (names := ["java/lang/RuntimeException", "java/lang/Exception"]) (ik := 103) (ic := 105) (A := A) hx hb hst hown (by decide +kernel) (by decide +kernel) (hts _ (.tail _ qA_693)) (hts _ (.tail _ qA_694)) (vx_hat (B := xB) (fun w h => hts w (.tail _ (iA_25 h))) (by decide +kernel) hX.use) (by decide +kernel) hX.1 hX.2.1 G.2.2 (hl.1.trans hml.symm) dX11_needIndex_9 dX11_needIndex_12 dX11_needIndex_13 dX11_needIndex_16 (fun x hx => (htab x hx).elim) (Nat.le_of_ble_eq_true rfl) (Nat.le_of_ble_eq_true rfl) (Nat.le_of_ble_eq_true rfl) (Nat.le_of_ble_eq_true rfl) hlocks (fun t hvm h1 h2 => ?_) G.2.2.2.2 (Nat.le_refl _) (Nat.le_refl _)
    exact ⟨S, trivial, ⟨⟨rfl, rfl⟩, (c_thrown G hK hvm h1 h2).1⟩, (c_thrown G hK hvm h1 h2).2⟩
  · refine lv_iload_n hx hb dX11_needIndex_4 rfl (lv_at hl 0 rfl) ?_
    refine lv_iload_n hx hb dX11_needIndex_5 rfl (lv_at hl 1 rfl) ?_
    refine lv_icmp_lt (tgt := 17) hx hb dX11_needIndex_6 (by decide) (fun c2 => absurd c2 (fun q => h ⟨c1, q⟩)) (fun c2 => ?_)
    refine vx_throw0 (own := RX11) (cls := xIOB) (names := ["java/lang/RuntimeException", "java/lang/Exception"]) (ik := 103) (ic := 105) (A := A) hx hb hst hown (by decide +kernel) (by decide +kernel) (hts _ (.tail _ qA_693)) (hts _ (.tail _ qA_694)) (vx_hat (B := xB) (fun w h => hts w (.tail _ (iA_25 h))) (by decide +kernel) hX.use) (by decide +kernel) hX.1 hX.2.1 G.2.2 (hl.1.trans hml.symm) dX11_needIndex_9 dX11_needIndex_12 dX11_needIndex_13 dX11_needIndex_16 (fun x hx => (htab x hx).elim) (Nat.le_of_ble_eq_true rfl) (Nat.le_of_ble_eq_true rfl) (Nat.le_of_ble_eq_true rfl) (Nat.le_of_ble_eq_true rfl) hlocks (fun t hvm h1 h2 => ?_) G.2.2.2.2 (Nat.le_refl _) (Nat.le_refl _)
    exact ⟨S, trivial, ⟨⟨rfl, rfl⟩, (c_thrown G hK hvm h1 h2).1⟩, (c_thrown G hK hvm h1 h2).2⟩
set_option maxHeartbeats 4000000 in
set_option maxRecDepth 100000 in
theorem f_needIndex_a (l : Launch) (hst : l.stackTraces = false) (D : va_G) (tys : List (ClassId × FieldType)) (ad : Nat → Nat) (N : Nat) (S : Nat → va_E) (x : Int32) (h1 : ¬ x < 0) (h2 : x < 2) : cCv l yX11_needIndex (Cond.code yX11_needIndex cX11_needIndex 2 none :: wsA) 1 0 D tys ad N S [.int x, .int 2] (fun u => u = S) := by
  intro sz
  refine Met.ofW (cc := cX11_needIndex) (maxL := 2) (ret := none) (by decide) rfl ?_
  intro p e s m args below meth c s₁ B hml hv
  obtain ⟨rfl, hsz, hP, hK, hD0, hX⟩ := hv
  have hx := B.exec
  have hb := B.bytes
  have hr := B.returns
  have hts := atoms_spec (ws := (Cond.code yX11_needIndex cX11_needIndex 2 none :: wsA)) B.pre
  have hown : s.vm.findClass RX11 = some m.cls := findClass_of_methodNamed B.named
  have hlocks := B.notSynchronized
  subst hsz
  have hD := hD0.self (sz := s.heap.size)
  generalize hAe : va_A (cW ad N S) s.heap.size = A at hD hX ⊢
  have hA : ∀ q : Nat, s.heap.size ≤ q → A q := fun q h => by rw [← hAe]; exact Or.inr h
  have G : cG D ad N A s.heap s.heap [] S := ⟨hP, hD, va_S.rf⟩
  have E : cE p c cX11_needIndex s m ([.int x, .int 2] : List Value).toArray (Cond.code yX11_needIndex cX11_needIndex 2 none :: wsA) D RX11 tys := ⟨hx, hb, hts, hown, hK⟩
  have hl := lv_entry ([.int x, .int 2]) (n := 2) (Nat.le_of_ble_eq_true rfl)
  rw [lg_entry_eq]
  generalize (lg_sl ([.int x, .int 2]) ++ List.replicate (2 - (lg_sl ([.int x, .int 2])).length) Slot.unset).toArray = ls at hl ⊢
  have hl : lv_has ls 2 [(0, .int x), (1, .int 2)] := hl
  refine lv_iload_n hx hb dX11_needIndex_0 rfl (lv_at hl 0 rfl) ?_
  refine lv_if_lt (tgt := 9) hx hb dX11_needIndex_1 (by decide) (fun c1 => absurd c1 h1) (fun c1 => ?_)
  refine lv_iload_n hx hb dX11_needIndex_4 rfl (lv_at hl 0 rfl) ?_
  refine lv_iload_n hx hb dX11_needIndex_5 rfl (lv_at hl 1 rfl) ?_
  refine lv_icmp_lt (tgt := 17) hx hb dX11_needIndex_6 (by decide) (fun c2 => ?_) (fun c2 => absurd h2 c2)
  exact W.vret hx hb hr (fun t ht hW => ⟨⟨S, rfl, rfl, ⟨by rw [ht]; exact G.1, va_K.moved hW.alike hK, G.2.1⟩⟩, G.2.2.F ht⟩) G.2.2.2.2 dX11_needIndex_17
set_option maxHeartbeats 4000000 in
set_option maxRecDepth 100000 in
theorem f_parseError (l : Launch) (hst : l.stackTraces = false) (D : va_G) (tys : List (ClassId × FieldType)) (ad : Nat → Nat) (N : Nat) (S : Nat → va_E) (cI cJ cZ cMic cSrc cSt cAI cAJ : ClassId) (hN : 1586 ≤ N) (ht0 : tys[0]? = some (cI, .int)) (ht2 : tys[2]? = some (cZ, .boolean)) (hS0 : S 0 = .inr (11, [.ref (ad 1), .ref (ad 6), .ref (ad 7), .ref (ad 22), .ref (ad 66), .ref (ad 154), .ref (ad 242), .ref (ad 336), .ref (ad 430), .ref (ad 431), .ref (ad 432), .ref (ad 433), .ref (ad 434), .ref (ad 477), .ref (ad 478), .ref (ad 656), .int 0, .int 0, .int 0])) (hS6 : S 6 = .inr (3, [.ref (ad 1), .int 0, .int 0, .int (-1)])) : cCi l yX11_parseError (Cond.code yX11_parseError cX11_parseError 1 (some .int) :: wsA) 1 0 D tys ad N S [.ref (ad 0)] (fun r u => r = 0 ∧ u = S) := by
  intro sz
  refine Met.ofW (cc := cX11_parseError) (maxL := 1) (ret := (some .int)) (by decide) rfl ?_
  intro p e s m args below meth c s₁ B hml hv
  obtain ⟨rfl, hsz, hP, hK, hD0, hX⟩ := hv
  have hx := B.exec
  have hb := B.bytes
  have hr := B.returns
  have hts := atoms_spec (ws := (Cond.code yX11_parseError cX11_parseError 1 (some .int) :: wsA)) B.pre
  have hown : s.vm.findClass RX11 = some m.cls := findClass_of_methodNamed B.named
  have hlocks := B.notSynchronized
  subst hsz
  have hD := hD0.self (sz := s.heap.size)
  generalize hAe : va_A (cW ad N S) s.heap.size = A at hD hX ⊢
  have hA : ∀ q : Nat, s.heap.size ≤ q → A q := fun q h => by rw [← hAe]; exact Or.inr h
  have G : cG D ad N A s.heap s.heap [] S := ⟨hP, hD, va_S.rf⟩
  have E : cE p c cX11_parseError s m ([.ref (ad 0)] : List Value).toArray (Cond.code yX11_parseError cX11_parseError 1 (some .int) :: wsA) D RX11 tys := ⟨hx, hb, hts, hown, hK⟩
  have hl := lv_entry ([.ref (ad 0)]) (n := 1) (Nat.le_of_ble_eq_true rfl)
  rw [lg_entry_eq]
  generalize (lg_sl ([.ref (ad 0)]) ++ List.replicate (1 - (lg_sl ([.ref (ad 0)])).length) Slot.unset).toArray = ls at hl ⊢
  have hl : lv_has ls 1 [(0, .ref (ad 0))] := hl
  refine lv_aload_n hx hb dX11_parseError_0 rfl (lv_at hl 0 rfl) ?_
  refine c_get E G 0 1 (Nat.lt_of_lt_of_le (by decide) hN) hS0 rfl (fun w h => .tail _ (iA_23 h)) (by decide) (.tail _ qA_651) rfl rfl dX11_parseError_1 ?_
  refine c_get E G 6 2 (Nat.lt_of_lt_of_le (by decide) hN) hS6 rfl (fun w h => .tail _ (iA_17 h)) (by decide) (.tail _ qA_716) rfl rfl dX11_parseError_4 ?_
  exact W.iret (v := 0) hx hb hr (fun t ht hW => ⟨⟨0, S, rfl, ⟨rfl, rfl⟩, ⟨by rw [ht]; exact G.1, va_K.moved hW.alike hK, G.2.1⟩⟩, G.2.2.F ht⟩) G.2.2.2.2 dX11_parseError_7
set_option maxHeartbeats 4000000 in
set_option maxRecDepth 100000 in
theorem f_errorPosition (l : Launch) (hst : l.stackTraces = false) (D : va_G) (tys : List (ClassId × FieldType)) (ad : Nat → Nat) (N : Nat) (S : Nat → va_E) (cI cJ cZ cMic cSrc cSt cAI cAJ : ClassId) (hN : 1586 ≤ N) (ht0 : tys[0]? = some (cI, .int)) (ht2 : tys[2]? = some (cZ, .boolean)) (hS0 : S 0 = .inr (11, [.ref (ad 1), .ref (ad 6), .ref (ad 7), .ref (ad 22), .ref (ad 66), .ref (ad 154), .ref (ad 242), .ref (ad 336), .ref (ad 430), .ref (ad 431), .ref (ad 432), .ref (ad 433), .ref (ad 434), .ref (ad 477), .ref (ad 478), .ref (ad 656), .int 0, .int 0, .int 0])) (hS6 : S 6 = .inr (3, [.ref (ad 1), .int 0, .int 0, .int (-1)])) : cCi l yX11_errorPosition (Cond.code yX11_errorPosition cX11_errorPosition 1 (some .int) :: wsA) 1 0 D tys ad N S [.ref (ad 0)] (fun r u => r = (-1) ∧ u = S) := by
  intro sz
  refine Met.ofW (cc := cX11_errorPosition) (maxL := 1) (ret := (some .int)) (by decide) rfl ?_
  intro p e s m args below meth c s₁ B hml hv
  obtain ⟨rfl, hsz, hP, hK, hD0, hX⟩ := hv
  have hx := B.exec
  have hb := B.bytes
  have hr := B.returns
  have hts := atoms_spec (ws := (Cond.code yX11_errorPosition cX11_errorPosition 1 (some .int) :: wsA)) B.pre
  have hown : s.vm.findClass RX11 = some m.cls := findClass_of_methodNamed B.named
  have hlocks := B.notSynchronized
  subst hsz
  have hD := hD0.self (sz := s.heap.size)
  generalize hAe : va_A (cW ad N S) s.heap.size = A at hD hX ⊢
  have hA : ∀ q : Nat, s.heap.size ≤ q → A q := fun q h => by rw [← hAe]; exact Or.inr h
  have G : cG D ad N A s.heap s.heap [] S := ⟨hP, hD, va_S.rf⟩
  have E : cE p c cX11_errorPosition s m ([.ref (ad 0)] : List Value).toArray (Cond.code yX11_errorPosition cX11_errorPosition 1 (some .int) :: wsA) D RX11 tys := ⟨hx, hb, hts, hown, hK⟩
  have hl := lv_entry ([.ref (ad 0)]) (n := 1) (Nat.le_of_ble_eq_true rfl)
  rw [lg_entry_eq]
  generalize (lg_sl ([.ref (ad 0)]) ++ List.replicate (1 - (lg_sl ([.ref (ad 0)])).length) Slot.unset).toArray = ls at hl ⊢
  have hl : lv_has ls 1 [(0, .ref (ad 0))] := hl
  refine lv_aload_n hx hb dX11_errorPosition_0 rfl (lv_at hl 0 rfl) ?_
  refine c_get E G 0 1 (Nat.lt_of_lt_of_le (by decide) hN) hS0 rfl (fun w h => .tail _ (iA_23 h)) (by decide) (.tail _ qA_651) rfl rfl dX11_errorPosition_1 ?_
  refine c_get E G 6 3 (Nat.lt_of_lt_of_le (by decide) hN) hS6 rfl (fun w h => .tail _ (iA_17 h)) (by decide) (.tail _ qA_718) rfl rfl dX11_errorPosition_4 ?_
  exact W.iret (v := (-1)) hx hb hr (fun t ht hW => ⟨⟨(-1), S, rfl, ⟨rfl, rfl⟩, ⟨by rw [ht]; exact G.1, va_K.moved hW.alike hK, G.2.1⟩⟩, G.2.2.F ht⟩) G.2.2.2.2 dX11_errorPosition_7
set_option maxHeartbeats 4000000 in
set_option maxRecDepth 100000 in
theorem f_buffered (l : Launch) (hst : l.stackTraces = false) (D : va_G) (tys : List (ClassId × FieldType)) (ad : Nat → Nat) (N : Nat) (S : Nat → va_E) (cI cJ cZ cMic cSrc cSt cAI cAJ : ClassId) (hN : 1586 ≤ N) (ht0 : tys[0]? = some (cI, .int)) (ht2 : tys[2]? = some (cZ, .boolean)) (hS0 : S 0 = .inr (11, [.ref (ad 1), .ref (ad 6), .ref (ad 7), .ref (ad 22), .ref (ad 66), .ref (ad 154), .ref (ad 242), .ref (ad 336), .ref (ad 430), .ref (ad 431), .ref (ad 432), .ref (ad 433), .ref (ad 434), .ref (ad 477), .ref (ad 478), .ref (ad 656), .int 0, .int 0, .int 0])) (hS1 : S 1 = .inr (9, [.ref (ad 2), .int 0, .ref (ad 3), .ref (ad 4), .ref (ad 5), .int 0])) : cCi l yX11_buffered (Cond.code yX11_buffered cX11_buffered 1 (some .int) :: wsA) 1 0 D tys ad N S [.ref (ad 0)] (fun r u => r = 0 ∧ u = S) := by
  intro sz
  refine Met.ofW (cc := cX11_buffered) (maxL := 1) (ret := (some .int)) (by decide) rfl ?_
  intro p e s m args below meth c s₁ B hml hv
  obtain ⟨rfl, hsz, hP, hK, hD0, hX⟩ := hv
  have hx := B.exec
  have hb := B.bytes
  have hr := B.returns
  have hts := atoms_spec (ws := (Cond.code yX11_buffered cX11_buffered 1 (some .int) :: wsA)) B.pre
  have hown : s.vm.findClass RX11 = some m.cls := findClass_of_methodNamed B.named
  have hlocks := B.notSynchronized
  subst hsz
  have hD := hD0.self (sz := s.heap.size)
  generalize hAe : va_A (cW ad N S) s.heap.size = A at hD hX ⊢
  have hA : ∀ q : Nat, s.heap.size ≤ q → A q := fun q h => by rw [← hAe]; exact Or.inr h
  have G : cG D ad N A s.heap s.heap [] S := ⟨hP, hD, va_S.rf⟩
  have E : cE p c cX11_buffered s m ([.ref (ad 0)] : List Value).toArray (Cond.code yX11_buffered cX11_buffered 1 (some .int) :: wsA) D RX11 tys := ⟨hx, hb, hts, hown, hK⟩
  have hl := lv_entry ([.ref (ad 0)]) (n := 1) (Nat.le_of_ble_eq_true rfl)
  rw [lg_entry_eq]
  generalize (lg_sl ([.ref (ad 0)]) ++ List.replicate (1 - (lg_sl ([.ref (ad 0)])).length) Slot.unset).toArray = ls at hl ⊢
  have hl : lv_has ls 1 [(0, .ref (ad 0))] := hl
  refine lv_aload_n hx hb dX11_buffered_0 rfl (lv_at hl 0 rfl) ?_
  refine c_get E G 0 0 (Nat.lt_of_lt_of_le (by decide) hN) hS0 rfl (fun w h => .tail _ (iA_23 h)) (by decide) (.tail _ qA_648) rfl rfl dX11_buffered_1 ?_
  refine c_get E G 1 1 (Nat.lt_of_lt_of_le (by decide) hN) hS1 rfl (fun w h => .tail _ (iA_18 h)) (by decide) (.tail _ qA_688) rfl rfl dX11_buffered_4 ?_
  exact W.iret (v := 0) hx hb hr (fun t ht hW => ⟨⟨0, S, rfl, ⟨rfl, rfl⟩, ⟨by rw [ht]; exact G.1, va_K.moved hW.alike hK, G.2.1⟩⟩, G.2.2.F ht⟩) G.2.2.2.2 dX11_buffered_7
set_option maxHeartbeats 4000000 in
set_option maxRecDepth 100000 in
theorem f_mics (l : Launch) (hst : l.stackTraces = false) (D : va_G) (tys : List (ClassId × FieldType)) (ad : Nat → Nat) (N : Nat) (S : Nat → va_E) (cI cJ cZ cMic cSrc cSt cAI cAJ : ClassId) (hN : 1586 ≤ N) (ht0 : tys[0]? = some (cI, .int)) (ht2 : tys[2]? = some (cZ, .boolean)) (hS0 : S 0 = .inr (11, [.ref (ad 1), .ref (ad 6), .ref (ad 7), .ref (ad 22), .ref (ad 66), .ref (ad 154), .ref (ad 242), .ref (ad 336), .ref (ad 430), .ref (ad 431), .ref (ad 432), .ref (ad 433), .ref (ad 434), .ref (ad 477), .ref (ad 478), .ref (ad 656), .int 0, .int 0, .int 0])) (hS478 : S 478 = .inr (6, [.int 0, .int 0, .int 0, .int 0, .ref (ad 479), .int 0, .ref (ad 480), .ref (ad 488), .int 0, .ref (ad 489), .ref (ad 490), .int 0, .int 0, .ref (ad 491), .int 0, .ref (ad 492), .int 0, .ref (ad 493)])) : cCi l yX11_mics (Cond.code yX11_mics cX11_mics 1 (some .int) :: wsA) 1 0 D tys ad N S [.ref (ad 0)] (fun r u => r = 0 ∧ u = S) := by
  intro sz
  refine Met.ofW (cc := cX11_mics) (maxL := 1) (ret := (some .int)) (by decide) rfl ?_
  intro p e s m args below meth c s₁ B hml hv
  obtain ⟨rfl, hsz, hP, hK, hD0, hX⟩ := hv
  have hx := B.exec
  have hb := B.bytes
  have hr := B.returns
  have hts := atoms_spec (ws := (Cond.code yX11_mics cX11_mics 1 (some .int) :: wsA)) B.pre
  have hown : s.vm.findClass RX11 = some m.cls := findClass_of_methodNamed B.named
  have hlocks := B.notSynchronized
  subst hsz
  have hD := hD0.self (sz := s.heap.size)
  generalize hAe : va_A (cW ad N S) s.heap.size = A at hD hX ⊢
  have hA : ∀ q : Nat, s.heap.size ≤ q → A q := fun q h => by rw [← hAe]; exact Or.inr h
  have G : cG D ad N A s.heap s.heap [] S := ⟨hP, hD, va_S.rf⟩
  have E : cE p c cX11_mics s m ([.ref (ad 0)] : List Value).toArray (Cond.code yX11_mics cX11_mics 1 (some .int) :: wsA) D RX11 tys := ⟨hx, hb, hts, hown, hK⟩
  have hl := lv_entry ([.ref (ad 0)]) (n := 1) (Nat.le_of_ble_eq_true rfl)
  rw [lg_entry_eq]
  generalize (lg_sl ([.ref (ad 0)]) ++ List.replicate (1 - (lg_sl ([.ref (ad 0)])).length) Slot.unset).toArray = ls at hl ⊢
  have hl : lv_has ls 1 [(0, .ref (ad 0))] := hl
  refine lv_aload_n hx hb dX11_mics_0 rfl (lv_at hl 0 rfl) ?_
  refine c_get E G 0 14 (Nat.lt_of_lt_of_le (by decide) hN) hS0 rfl (fun w h => .tail _ (iA_23 h)) (by decide) (.tail _ qA_675) rfl rfl dX11_mics_1 ?_
  refine c_get E G 478 5 (Nat.lt_of_lt_of_le (by decide) hN) hS478 rfl (fun w h => .tail _ (iA_14 h)) (by decide) (.tail _ qA_721) rfl rfl dX11_mics_4 ?_
  exact W.iret (v := 0) hx hb hr (fun t ht hW => ⟨⟨0, S, rfl, ⟨rfl, rfl⟩, ⟨by rw [ht]; exact G.1, va_K.moved hW.alike hK, G.2.1⟩⟩, G.2.2.F ht⟩) G.2.2.2.2 dX11_mics_7
set_option maxHeartbeats 4000000 in
set_option maxRecDepth 100000 in
theorem f_columns (l : Launch) (hst : l.stackTraces = false) (D : va_G) (tys : List (ClassId × FieldType)) (ad : Nat → Nat) (N : Nat) (S : Nat → va_E) (cI cJ cZ cMic cSrc cSt cAI cAJ : ClassId) (hN : 1586 ≤ N) (ht0 : tys[0]? = some (cI, .int)) (ht2 : tys[2]? = some (cZ, .boolean)) (hS0 : S 0 = .inr (11, [.ref (ad 1), .ref (ad 6), .ref (ad 7), .ref (ad 22), .ref (ad 66), .ref (ad 154), .ref (ad 242), .ref (ad 336), .ref (ad 430), .ref (ad 431), .ref (ad 432), .ref (ad 433), .ref (ad 434), .ref (ad 477), .ref (ad 478), .ref (ad 656), .int 0, .int 0, .int 0])) (hS478 : S 478 = .inr (6, [.int 0, .int 0, .int 0, .int 0, .ref (ad 479), .int 0, .ref (ad 480), .ref (ad 488), .int 0, .ref (ad 489), .ref (ad 490), .int 0, .int 0, .ref (ad 491), .int 0, .ref (ad 492), .int 0, .ref (ad 493)])) (hS480 : S 480 = .inr (1, [.int 0, .int 0, .int 0, .int 0, .int 0, .ref (ad 481), .ref (ad 482), .int 0, .ref (ad 487)])) : cCi l yX11_columns (Cond.code yX11_columns cX11_columns 1 (some .int) :: wsA) 1 0 D tys ad N S [.ref (ad 0)] (fun r u => r = 0 ∧ u = S) := by
  intro sz
  refine Met.ofW (cc := cX11_columns) (maxL := 1) (ret := (some .int)) (by decide) rfl ?_
  intro p e s m args below meth c s₁ B hml hv
  obtain ⟨rfl, hsz, hP, hK, hD0, hX⟩ := hv
  have hx := B.exec
  have hb := B.bytes
  have hr := B.returns
  have hts := atoms_spec (ws := (Cond.code yX11_columns cX11_columns 1 (some .int) :: wsA)) B.pre
  have hown : s.vm.findClass RX11 = some m.cls := findClass_of_methodNamed B.named
  have hlocks := B.notSynchronized
  subst hsz
  have hD := hD0.self (sz := s.heap.size)
  generalize hAe : va_A (cW ad N S) s.heap.size = A at hD hX ⊢
  have hA : ∀ q : Nat, s.heap.size ≤ q → A q := fun q h => by rw [← hAe]; exact Or.inr h
  have G : cG D ad N A s.heap s.heap [] S := ⟨hP, hD, va_S.rf⟩
  have E : cE p c cX11_columns s m ([.ref (ad 0)] : List Value).toArray (Cond.code yX11_columns cX11_columns 1 (some .int) :: wsA) D RX11 tys := ⟨hx, hb, hts, hown, hK⟩
  have hl := lv_entry ([.ref (ad 0)]) (n := 1) (Nat.le_of_ble_eq_true rfl)
  rw [lg_entry_eq]
  generalize (lg_sl ([.ref (ad 0)]) ++ List.replicate (1 - (lg_sl ([.ref (ad 0)])).length) Slot.unset).toArray = ls at hl ⊢
  have hl : lv_has ls 1 [(0, .ref (ad 0))] := hl
  refine lv_aload_n hx hb dX11_columns_0 rfl (lv_at hl 0 rfl) ?_
  refine c_get E G 0 14 (Nat.lt_of_lt_of_le (by decide) hN) hS0 rfl (fun w h => .tail _ (iA_23 h)) (by decide) (.tail _ qA_675) rfl rfl dX11_columns_1 ?_
  refine c_get E G 478 6 (Nat.lt_of_lt_of_le (by decide) hN) hS478 rfl (fun w h => .tail _ (iA_14 h)) (by decide) (.tail _ qA_695) rfl rfl dX11_columns_4 ?_
  refine c_get E G 480 3 (Nat.lt_of_lt_of_le (by decide) hN) hS480 rfl (fun w h => .tail _ (iA_15 h)) (by decide) (.tail _ qA_748) rfl rfl dX11_columns_7 ?_
  exact W.iret (v := 0) hx hb hr (fun t ht hW => ⟨⟨0, S, rfl, ⟨rfl, rfl⟩, ⟨by rw [ht]; exact G.1, va_K.moved hW.alike hK, G.2.1⟩⟩, G.2.2.F ht⟩) G.2.2.2.2 dX11_columns_10
set_option maxHeartbeats 4000000 in
set_option maxRecDepth 100000 in
theorem f_rows (l : Launch) (hst : l.stackTraces = false) (D : va_G) (tys : List (ClassId × FieldType)) (ad : Nat → Nat) (N : Nat) (S : Nat → va_E) (cI cJ cZ cMic cSrc cSt cAI cAJ : ClassId) (hN : 1586 ≤ N) (ht0 : tys[0]? = some (cI, .int)) (ht2 : tys[2]? = some (cZ, .boolean)) (hS0 : S 0 = .inr (11, [.ref (ad 1), .ref (ad 6), .ref (ad 7), .ref (ad 22), .ref (ad 66), .ref (ad 154), .ref (ad 242), .ref (ad 336), .ref (ad 430), .ref (ad 431), .ref (ad 432), .ref (ad 433), .ref (ad 434), .ref (ad 477), .ref (ad 478), .ref (ad 656), .int 0, .int 0, .int 0])) (hS478 : S 478 = .inr (6, [.int 0, .int 0, .int 0, .int 0, .ref (ad 479), .int 0, .ref (ad 480), .ref (ad 488), .int 0, .ref (ad 489), .ref (ad 490), .int 0, .int 0, .ref (ad 491), .int 0, .ref (ad 492), .int 0, .ref (ad 493)])) (hS480 : S 480 = .inr (1, [.int 0, .int 0, .int 0, .int 0, .int 0, .ref (ad 481), .ref (ad 482), .int 0, .ref (ad 487)])) : cCi l yX11_rows (Cond.code yX11_rows cX11_rows 1 (some .int) :: wsA) 1 0 D tys ad N S [.ref (ad 0)] (fun r u => r = 0 ∧ u = S) := by
  intro sz
  refine Met.ofW (cc := cX11_rows) (maxL := 1) (ret := (some .int)) (by decide) rfl ?_
  intro p e s m args below meth c s₁ B hml hv
  obtain ⟨rfl, hsz, hP, hK, hD0, hX⟩ := hv
  have hx := B.exec
  have hb := B.bytes
  have hr := B.returns
  have hts := atoms_spec (ws := (Cond.code yX11_rows cX11_rows 1 (some .int) :: wsA)) B.pre
  have hown : s.vm.findClass RX11 = some m.cls := findClass_of_methodNamed B.named
  have hlocks := B.notSynchronized
  subst hsz
  have hD := hD0.self (sz := s.heap.size)
  generalize hAe : va_A (cW ad N S) s.heap.size = A at hD hX ⊢
  have hA : ∀ q : Nat, s.heap.size ≤ q → A q := fun q h => by rw [← hAe]; exact Or.inr h
  have G : cG D ad N A s.heap s.heap [] S := ⟨hP, hD, va_S.rf⟩
  have E : cE p c cX11_rows s m ([.ref (ad 0)] : List Value).toArray (Cond.code yX11_rows cX11_rows 1 (some .int) :: wsA) D RX11 tys := ⟨hx, hb, hts, hown, hK⟩
  have hl := lv_entry ([.ref (ad 0)]) (n := 1) (Nat.le_of_ble_eq_true rfl)
  rw [lg_entry_eq]
  generalize (lg_sl ([.ref (ad 0)]) ++ List.replicate (1 - (lg_sl ([.ref (ad 0)])).length) Slot.unset).toArray = ls at hl ⊢
  have hl : lv_has ls 1 [(0, .ref (ad 0))] := hl
  refine lv_aload_n hx hb dX11_rows_0 rfl (lv_at hl 0 rfl) ?_
  refine c_get E G 0 14 (Nat.lt_of_lt_of_le (by decide) hN) hS0 rfl (fun w h => .tail _ (iA_23 h)) (by decide) (.tail _ qA_675) rfl rfl dX11_rows_1 ?_
  refine c_get E G 478 6 (Nat.lt_of_lt_of_le (by decide) hN) hS478 rfl (fun w h => .tail _ (iA_14 h)) (by decide) (.tail _ qA_695) rfl rfl dX11_rows_4 ?_
  refine c_get E G 480 4 (Nat.lt_of_lt_of_le (by decide) hN) hS480 rfl (fun w h => .tail _ (iA_15 h)) (by decide) (.tail _ qA_750) rfl rfl dX11_rows_7 ?_
  exact W.iret (v := 0) hx hb hr (fun t ht hW => ⟨⟨0, S, rfl, ⟨rfl, rfl⟩, ⟨by rw [ht]; exact G.1, va_K.moved hW.alike hK, G.2.1⟩⟩, G.2.2.F ht⟩) G.2.2.2.2 dX11_rows_10
set_option maxHeartbeats 4000000 in
set_option maxRecDepth 100000 in
theorem f_sources (l : Launch) (hst : l.stackTraces = false) (D : va_G) (tys : List (ClassId × FieldType)) (ad : Nat → Nat) (N : Nat) (S : Nat → va_E) (cI cJ cZ cMic cSrc cSt cAI cAJ : ClassId) (hN : 1586 ≤ N) (ht0 : tys[0]? = some (cI, .int)) (ht2 : tys[2]? = some (cZ, .boolean)) (hS0 : S 0 = .inr (11, [.ref (ad 1), .ref (ad 6), .ref (ad 7), .ref (ad 22), .ref (ad 66), .ref (ad 154), .ref (ad 242), .ref (ad 336), .ref (ad 430), .ref (ad 431), .ref (ad 432), .ref (ad 433), .ref (ad 434), .ref (ad 477), .ref (ad 478), .ref (ad 656), .int 0, .int 0, .int 0])) (hS478 : S 478 = .inr (6, [.int 0, .int 0, .int 0, .int 0, .ref (ad 479), .int 0, .ref (ad 480), .ref (ad 488), .int 0, .ref (ad 489), .ref (ad 490), .int 0, .int 0, .ref (ad 491), .int 0, .ref (ad 492), .int 0, .ref (ad 493)])) : cCi l yX11_sources (Cond.code yX11_sources cX11_sources 1 (some .int) :: wsA) 1 0 D tys ad N S [.ref (ad 0)] (fun r u => r = 0 ∧ u = S) := by
  intro sz
  refine Met.ofW (cc := cX11_sources) (maxL := 1) (ret := (some .int)) (by decide) rfl ?_
  intro p e s m args below meth c s₁ B hml hv
  obtain ⟨rfl, hsz, hP, hK, hD0, hX⟩ := hv
  have hx := B.exec
  have hb := B.bytes
  have hr := B.returns
  have hts := atoms_spec (ws := (Cond.code yX11_sources cX11_sources 1 (some .int) :: wsA)) B.pre
  have hown : s.vm.findClass RX11 = some m.cls := findClass_of_methodNamed B.named
  have hlocks := B.notSynchronized
  subst hsz
  have hD := hD0.self (sz := s.heap.size)
  generalize hAe : va_A (cW ad N S) s.heap.size = A at hD hX ⊢
  have hA : ∀ q : Nat, s.heap.size ≤ q → A q := fun q h => by rw [← hAe]; exact Or.inr h
  have G : cG D ad N A s.heap s.heap [] S := ⟨hP, hD, va_S.rf⟩
  have E : cE p c cX11_sources s m ([.ref (ad 0)] : List Value).toArray (Cond.code yX11_sources cX11_sources 1 (some .int) :: wsA) D RX11 tys := ⟨hx, hb, hts, hown, hK⟩
  have hl := lv_entry ([.ref (ad 0)]) (n := 1) (Nat.le_of_ble_eq_true rfl)
  rw [lg_entry_eq]
  generalize (lg_sl ([.ref (ad 0)]) ++ List.replicate (1 - (lg_sl ([.ref (ad 0)])).length) Slot.unset).toArray = ls at hl ⊢
  have hl : lv_has ls 1 [(0, .ref (ad 0))] := hl
  refine lv_aload_n hx hb dX11_sources_0 rfl (lv_at hl 0 rfl) ?_
  refine c_get E G 0 14 (Nat.lt_of_lt_of_le (by decide) hN) hS0 rfl (fun w h => .tail _ (iA_23 h)) (by decide) (.tail _ qA_675) rfl rfl dX11_sources_1 ?_
  refine c_get E G 478 8 (Nat.lt_of_lt_of_le (by decide) hN) hS478 rfl (fun w h => .tail _ (iA_14 h)) (by decide) (.tail _ qA_759) rfl rfl dX11_sources_4 ?_
  exact W.iret (v := 0) hx hb hr (fun t ht hW => ⟨⟨0, S, rfl, ⟨rfl, rfl⟩, ⟨by rw [ht]; exact G.1, va_K.moved hW.alike hK, G.2.1⟩⟩, G.2.2.F ht⟩) G.2.2.2.2 dX11_sources_7
set_option maxHeartbeats 4000000 in
set_option maxRecDepth 100000 in
theorem f_samples (l : Launch) (hst : l.stackTraces = false) (D : va_G) (tys : List (ClassId × FieldType)) (ad : Nat → Nat) (N : Nat) (S : Nat → va_E) (cI cJ cZ cMic cSrc cSt cAI cAJ : ClassId) (hN : 1586 ≤ N) (ht0 : tys[0]? = some (cI, .int)) (ht2 : tys[2]? = some (cZ, .boolean)) (hS0 : S 0 = .inr (11, [.ref (ad 1), .ref (ad 6), .ref (ad 7), .ref (ad 22), .ref (ad 66), .ref (ad 154), .ref (ad 242), .ref (ad 336), .ref (ad 430), .ref (ad 431), .ref (ad 432), .ref (ad 433), .ref (ad 434), .ref (ad 477), .ref (ad 478), .ref (ad 656), .int 0, .int 0, .int 0])) (hS478 : S 478 = .inr (6, [.int 0, .int 0, .int 0, .int 0, .ref (ad 479), .int 0, .ref (ad 480), .ref (ad 488), .int 0, .ref (ad 489), .ref (ad 490), .int 0, .int 0, .ref (ad 491), .int 0, .ref (ad 492), .int 0, .ref (ad 493)])) : cCi l yX11_samples (Cond.code yX11_samples cX11_samples 1 (some .int) :: wsA) 1 0 D tys ad N S [.ref (ad 0)] (fun r u => r = 0 ∧ u = S) := by
  intro sz
  refine Met.ofW (cc := cX11_samples) (maxL := 1) (ret := (some .int)) (by decide) rfl ?_
  intro p e s m args below meth c s₁ B hml hv
  obtain ⟨rfl, hsz, hP, hK, hD0, hX⟩ := hv
  have hx := B.exec
  have hb := B.bytes
  have hr := B.returns
  have hts := atoms_spec (ws := (Cond.code yX11_samples cX11_samples 1 (some .int) :: wsA)) B.pre
  have hown : s.vm.findClass RX11 = some m.cls := findClass_of_methodNamed B.named
  have hlocks := B.notSynchronized
  subst hsz
  have hD := hD0.self (sz := s.heap.size)
  generalize hAe : va_A (cW ad N S) s.heap.size = A at hD hX ⊢
  have hA : ∀ q : Nat, s.heap.size ≤ q → A q := fun q h => by rw [← hAe]; exact Or.inr h
  have G : cG D ad N A s.heap s.heap [] S := ⟨hP, hD, va_S.rf⟩
  have E : cE p c cX11_samples s m ([.ref (ad 0)] : List Value).toArray (Cond.code yX11_samples cX11_samples 1 (some .int) :: wsA) D RX11 tys := ⟨hx, hb, hts, hown, hK⟩
  have hl := lv_entry ([.ref (ad 0)]) (n := 1) (Nat.le_of_ble_eq_true rfl)
  rw [lg_entry_eq]
  generalize (lg_sl ([.ref (ad 0)]) ++ List.replicate (1 - (lg_sl ([.ref (ad 0)])).length) Slot.unset).toArray = ls at hl ⊢
  have hl : lv_has ls 1 [(0, .ref (ad 0))] := hl
  refine lv_aload_n hx hb dX11_samples_0 rfl (lv_at hl 0 rfl) ?_
  refine c_get E G 0 14 (Nat.lt_of_lt_of_le (by decide) hN) hS0 rfl (fun w h => .tail _ (iA_23 h)) (by decide) (.tail _ qA_675) rfl rfl dX11_samples_1 ?_
  refine c_get E G 478 2 (Nat.lt_of_lt_of_le (by decide) hN) hS478 rfl (fun w h => .tail _ (iA_14 h)) (by decide) (.tail _ qA_761) rfl rfl dX11_samples_4 ?_
  exact W.iret (v := 0) hx hb hr (fun t ht hW => ⟨⟨0, S, rfl, ⟨rfl, rfl⟩, ⟨by rw [ht]; exact G.1, va_K.moved hW.alike hK, G.2.1⟩⟩, G.2.2.F ht⟩) G.2.2.2.2 dX11_samples_7
set_option maxHeartbeats 4000000 in
set_option maxRecDepth 100000 in
theorem f_undoable (l : Launch) (hst : l.stackTraces = false) (D : va_G) (tys : List (ClassId × FieldType)) (ad : Nat → Nat) (N : Nat) (S : Nat → va_E) (cI cJ cZ cMic cSrc cSt cAI cAJ : ClassId) (hN : 1586 ≤ N) (ht0 : tys[0]? = some (cI, .int)) (ht2 : tys[2]? = some (cZ, .boolean)) (hS0 : S 0 = .inr (11, [.ref (ad 1), .ref (ad 6), .ref (ad 7), .ref (ad 22), .ref (ad 66), .ref (ad 154), .ref (ad 242), .ref (ad 336), .ref (ad 430), .ref (ad 431), .ref (ad 432), .ref (ad 433), .ref (ad 434), .ref (ad 477), .ref (ad 478), .ref (ad 656), .int 0, .int 0, .int 0])) : cCi l yX11_undoable (Cond.code yX11_undoable cX11_undoable 1 (some .int) :: wsA) 1 0 D tys ad N S [.ref (ad 0)] (fun r u => r = 0 ∧ u = S) := by
  intro sz
  refine Met.ofW (cc := cX11_undoable) (maxL := 1) (ret := (some .int)) (by decide) rfl ?_
  intro p e s m args below meth c s₁ B hml hv
  obtain ⟨rfl, hsz, hP, hK, hD0, hX⟩ := hv
  have hx := B.exec
  have hb := B.bytes
  have hr := B.returns
  have hts := atoms_spec (ws := (Cond.code yX11_undoable cX11_undoable 1 (some .int) :: wsA)) B.pre
  have hown : s.vm.findClass RX11 = some m.cls := findClass_of_methodNamed B.named
  have hlocks := B.notSynchronized
  subst hsz
  have hD := hD0.self (sz := s.heap.size)
  generalize hAe : va_A (cW ad N S) s.heap.size = A at hD hX ⊢
  have hA : ∀ q : Nat, s.heap.size ≤ q → A q := fun q h => by rw [← hAe]; exact Or.inr h
  have G : cG D ad N A s.heap s.heap [] S := ⟨hP, hD, va_S.rf⟩
  have E : cE p c cX11_undoable s m ([.ref (ad 0)] : List Value).toArray (Cond.code yX11_undoable cX11_undoable 1 (some .int) :: wsA) D RX11 tys := ⟨hx, hb, hts, hown, hK⟩
  have hl := lv_entry ([.ref (ad 0)]) (n := 1) (Nat.le_of_ble_eq_true rfl)
  rw [lg_entry_eq]
  generalize (lg_sl ([.ref (ad 0)]) ++ List.replicate (1 - (lg_sl ([.ref (ad 0)])).length) Slot.unset).toArray = ls at hl ⊢
  have hl : lv_has ls 1 [(0, .ref (ad 0))] := hl
  refine lv_aload_n hx hb dX11_undoable_0 rfl (lv_at hl 0 rfl) ?_
  refine c_get E G 0 16 (Nat.lt_of_lt_of_le (by decide) hN) hS0 rfl (fun w h => .tail _ (iA_23 h)) (by decide) (.tail _ qA_703) rfl rfl dX11_undoable_1 ?_
  exact W.iret (v := 0) hx hb hr (fun t ht hW => ⟨⟨0, S, rfl, ⟨rfl, rfl⟩, ⟨by rw [ht]; exact G.1, va_K.moved hW.alike hK, G.2.1⟩⟩, G.2.2.F ht⟩) G.2.2.2.2 dX11_undoable_4
set_option maxHeartbeats 4000000 in
set_option maxRecDepth 100000 in
theorem f_mapByte (l : Launch) (hst : l.stackTraces = false) (D : va_G) (tys : List (ClassId × FieldType)) (ad : Nat → Nat) (N : Nat) (S : Nat → va_E) (cI cJ cZ cMic cSrc cSt cAI cAJ : ClassId) (hN : 1586 ≤ N) (ht0 : tys[0]? = some (cI, .int)) (ht2 : tys[2]? = some (cZ, .boolean)) (hS0 : S 0 = .inr (11, [.ref (ad 1), .ref (ad 6), .ref (ad 7), .ref (ad 22), .ref (ad 66), .ref (ad 154), .ref (ad 242), .ref (ad 336), .ref (ad 430), .ref (ad 431), .ref (ad 432), .ref (ad 433), .ref (ad 434), .ref (ad 477), .ref (ad 478), .ref (ad 656), .int 0, .int 0, .int 0])) (x : Int32) : cXi l yX11_mapByte (Cond.code yX11_mapByte cX11_mapByte 2 (some .int) :: wsA) 7 102 D tys ad N S [.ref (ad 0), .int x] (fun _ _ => False) (fun E u => E = xIOB ∧ u = S) := by
  intro sz
  refine vx_ofW (cc := cX11_mapByte) (maxL := 2) (ret := (some .int)) (by decide) rfl ?_
  intro p e s m args below meth c s₁ B hml htab hv
  obtain ⟨rfl, hsz, hP, hK, hD0, hX⟩ := hv
  have hx := B.exec
  have hb := B.bytes
  have hr := B.returns
  have hts := atoms_spec (ws := (Cond.code yX11_mapByte cX11_mapByte 2 (some .int) :: wsA)) B.pre
  have hown : s.vm.findClass RX11 = some m.cls := findClass_of_methodNamed B.named
  have hlocks := B.notSynchronized
  subst hsz
  have hD := hD0.self (sz := s.heap.size)
  generalize hAe : va_A (cW ad N S) s.heap.size = A at hD hX ⊢
  have hA : ∀ q : Nat, s.heap.size ≤ q → A q := fun q h => by rw [← hAe]; exact Or.inr h
  have G : cG D ad N A s.heap s.heap [] S := ⟨hP, hD, va_S.rf⟩
  have E : cE p c cX11_mapByte s m ([.ref (ad 0), .int x] : List Value).toArray (Cond.code yX11_mapByte cX11_mapByte 2 (some .int) :: wsA) D RX11 tys := ⟨hx, hb, hts, hown, hK⟩
  have hl := lv_entry ([.ref (ad 0), .int x]) (n := 2) (Nat.le_of_ble_eq_true rfl)
  rw [lg_entry_eq]
  generalize (lg_sl ([.ref (ad 0), .int x]) ++ List.replicate (2 - (lg_sl ([.ref (ad 0), .int x])).length) Slot.unset).toArray = ls at hl ⊢
  have hl : lv_has ls 2 [(0, .ref (ad 0)), (1, .int x)] := hl
  refine lv_iload_n hx hb dX11_mapByte_0 rfl (lv_at hl 1 rfl) ?_
  refine lv_aload_n hx hb dX11_mapByte_1 rfl (lv_at hl 0 rfl) ?_
  refine c_get E G 0 18 (Nat.lt_of_lt_of_le (by decide) hN) hS0 rfl (fun w h => .tail _ (iA_23 h)) (by decide) (.tail _ qA_896) rfl rfl dX11_mapByte_2 ?_
  refine c_xsv (fs := []) (q := 0) (ci := 0) (nf := 0) (TT := TX11) (C := "") (As := [.int x, .int 0]) (rest := []) E G hA hX rfl hml (f_needIndex_0 l hst D tys ad N S x) (cwS 2 hts (gaS qA_738 qA_739 qA_131 qA_740) rfl rfl rfl (by decide +kernel) ⟨Nat.le_of_ble_eq_true rfl, Nat.le_of_ble_eq_true rfl⟩) rfl hl.1 rfl (lv_room (Nat.le_of_ble_eq_true rfl)) dX11_mapByte_5 ⟨Nat.le_of_ble_eq_true rfl, Nat.le_of_ble_eq_true rfl⟩ (fun E9 ce q9 S1 H locs hp G hce hcv hcl => ?_) (fun S1 H locs hq G => hq.elim)
  obtain ⟨hE, hS9⟩ := hp
  subst hE
  rw [hS9] at G
  exact vx_out (fun x hx => (htab x hx).elim) hlocks hce hcv hcl (fun t ht hvm => ⟨S, trivial, ⟨⟨rfl, rfl⟩, by rw [ht]; exact G.1, va_K.moved hvm hK, G.2.1⟩, G.2.2.F ht⟩) G.2.2.2.2 (Nat.le_refl _) (Nat.le_refl _)
set_option maxHeartbeats 4000000 in
set_option maxRecDepth 100000 in
theorem f_undo (l : Launch) (hst : l.stackTraces = false) (D : va_G) (tys : List (ClassId × FieldType)) (ad : Nat → Nat) (N : Nat) (S : Nat → va_E) (cI cJ cZ cMic cSrc cSt cAI cAJ : ClassId) (hN : 1586 ≤ N) (ht0 : tys[0]? = some (cI, .int)) (ht2 : tys[2]? = some (cZ, .boolean)) (hS0 : S 0 = .inr (11, [.ref (ad 1), .ref (ad 6), .ref (ad 7), .ref (ad 22), .ref (ad 66), .ref (ad 154), .ref (ad 242), .ref (ad 336), .ref (ad 430), .ref (ad 431), .ref (ad 432), .ref (ad 433), .ref (ad 434), .ref (ad 477), .ref (ad 478), .ref (ad 656), .int 0, .int 0, .int 0])) : cXi l yX11_undo (Cond.code yX11_undo cX11_undo 1 (some .int) :: wsA) 6 81 D tys ad N S [.ref (ad 0)] (fun _ _ => False) (fun E u => E = xISE ∧ u = S) := by
  intro sz
  refine vx_ofW (cc := cX11_undo) (maxL := 1) (ret := (some .int)) (by decide) rfl ?_
  intro p e s m args below meth c s₁ B hml htab hv
  obtain ⟨rfl, hsz, hP, hK, hD0, hX⟩ := hv
  have hx := B.exec
  have hb := B.bytes
  have hr := B.returns
  have hts := atoms_spec (ws := (Cond.code yX11_undo cX11_undo 1 (some .int) :: wsA)) B.pre
  have hown : s.vm.findClass RX11 = some m.cls := findClass_of_methodNamed B.named
  have hlocks := B.notSynchronized
  subst hsz
  have hD := hD0.self (sz := s.heap.size)
  generalize hAe : va_A (cW ad N S) s.heap.size = A at hD hX ⊢
  have hA : ∀ q : Nat, s.heap.size ≤ q → A q := fun q h => by rw [← hAe]; exact Or.inr h
  have G : cG D ad N A s.heap s.heap [] S := ⟨hP, hD, va_S.rf⟩
  have E : cE p c cX11_undo s m ([.ref (ad 0)] : List Value).toArray (Cond.code yX11_undo cX11_undo 1 (some .int) :: wsA) D RX11 tys := ⟨hx, hb, hts, hown, hK⟩
  have hl := lv_entry ([.ref (ad 0)]) (n := 1) (Nat.le_of_ble_eq_true rfl)
  rw [lg_entry_eq]
  generalize (lg_sl ([.ref (ad 0)]) ++ List.replicate (1 - (lg_sl ([.ref (ad 0)])).length) Slot.unset).toArray = ls at hl ⊢
  have hl : lv_has ls 1 [(0, .ref (ad 0))] := hl
  refine lv_aload_n hx hb dX11_undo_0 rfl (lv_at hl 0 rfl) ?_
  refine c_get E G 0 16 (Nat.lt_of_lt_of_le (by decide) hN) hS0 rfl (fun w h => .tail _ (iA_23 h)) (by decide) (.tail _ qA_703) rfl rfl dX11_undo_1 ?_
  refine lv_if_ne (tgt := 15) hx hb dX11_undo_4 (by decide) (fun c1 => absurd (by decide +kernel) c1) (fun c1 => ?_)
  refine vx_throw0 (own := RX11) (cls := xISE) (names := ["java/lang/RuntimeException", "java/lang/Exception"]) (ik := 397) (ic := 399) (A := A) hx hb hst hown (by decide +kernel) (by decide +kernel) (hts _ (.tail _ qA_732)) (hts _ (.tail _ qA_733)) (vx_hat (B := xB) (fun w h => hts w (.tail _ (iA_26 h))) (by decide +kernel) hX.use) (by decide +kernel) hX.1 hX.2.1 G.2.2 (hl.1.trans hml.symm) dX11_undo_7 dX11_undo_10 dX11_undo_11 dX11_undo_14 (fun x hx => (htab x hx).elim) (Nat.le_of_ble_eq_true rfl) (Nat.le_of_ble_eq_true rfl) (Nat.le_of_ble_eq_true rfl) (Nat.le_of_ble_eq_true rfl) hlocks (fun t hvm h1 h2 => ?_) G.2.2.2.2 (Nat.le_refl _) (Nat.le_refl _)
  exact ⟨S, trivial, ⟨⟨rfl, rfl⟩, (c_thrown G hK hvm h1 h2).1⟩, (c_thrown G hK hvm h1 h2).2⟩
set_option maxHeartbeats 4000000 in
set_option maxRecDepth 100000 in
theorem f_restore_b (l : Launch) (hst : l.stackTraces = false) (D : va_G) (tys : List (ClassId × FieldType)) (ad : Nat → Nat) (N : Nat) (S : Nat → va_E) (cI cJ cZ cMic cSrc cSt cAI cAJ : ClassId) (hN : 1586 ≤ N) (ht0 : tys[0]? = some (cI, .int)) (ht2 : tys[2]? = some (cZ, .boolean)) (hS0 : S 0 = .inr (11, [.ref (ad 1), .ref (ad 6), .ref (ad 7), .ref (ad 22), .ref (ad 66), .ref (ad 154), .ref (ad 242), .ref (ad 336), .ref (ad 430), .ref (ad 431), .ref (ad 432), .ref (ad 433), .ref (ad 434), .ref (ad 477), .ref (ad 478), .ref (ad 656), .int 0, .int 0, .int 0])) (hS432 : S 432 = .inl (cZ, 2, .inl (fun _ => 0))) (x : Int32) (h : ¬ (¬ x < 0 ∧ x < 2)) : cXi l yX11_restore (Cond.code yX11_restore cX11_restore 2 (some .int) :: wsA) 7 102 D tys ad N S [.ref (ad 0), .int x] (fun _ _ => False) (fun E u => E = xIOB ∧ u = S) := by
  intro sz
  refine vx_ofW (cc := cX11_restore) (maxL := 2) (ret := (some .int)) (by decide) rfl ?_
  intro p e s m args below meth c s₁ B hml htab hv
  obtain ⟨rfl, hsz, hP, hK, hD0, hX⟩ := hv
  have hx := B.exec
  have hb := B.bytes
  have hr := B.returns
  have hts := atoms_spec (ws := (Cond.code yX11_restore cX11_restore 2 (some .int) :: wsA)) B.pre
  have hown : s.vm.findClass RX11 = some m.cls := findClass_of_methodNamed B.named
  have hlocks := B.notSynchronized
  subst hsz
  have hD := hD0.self (sz := s.heap.size)
  generalize hAe : va_A (cW ad N S) s.heap.size = A at hD hX ⊢
  have hA : ∀ q : Nat, s.heap.size ≤ q → A q := fun q h => by rw [← hAe]; exact Or.inr h
  have G : cG D ad N A s.heap s.heap [] S := ⟨hP, hD, va_S.rf⟩
  have E : cE p c cX11_restore s m ([.ref (ad 0), .int x] : List Value).toArray (Cond.code yX11_restore cX11_restore 2 (some .int) :: wsA) D RX11 tys := ⟨hx, hb, hts, hown, hK⟩
  have hl := lv_entry ([.ref (ad 0), .int x]) (n := 2) (Nat.le_of_ble_eq_true rfl)
  rw [lg_entry_eq]
  generalize (lg_sl ([.ref (ad 0), .int x]) ++ List.replicate (2 - (lg_sl ([.ref (ad 0), .int x])).length) Slot.unset).toArray = ls at hl ⊢
  have hl : lv_has ls 2 [(0, .ref (ad 0)), (1, .int x)] := hl
  refine lv_iload_n hx hb dX11_restore_0 rfl (lv_at hl 1 rfl) ?_
  refine lv_iconst (v := 2) hx hb dX11_restore_1 (by decide) ?_
  refine c_xsv (fs := []) (q := 0) (ci := 0) (nf := 0) (TT := TX11) (C := "") (As := [.int x, .int 2]) (rest := []) E G hA hX rfl hml (f_needIndex_b l hst D tys ad N S x h) (cwS 2 hts (gaS qA_738 qA_739 qA_131 qA_740) rfl rfl rfl (by decide +kernel) ⟨Nat.le_of_ble_eq_true rfl, Nat.le_of_ble_eq_true rfl⟩) rfl hl.1 rfl (lv_room (Nat.le_of_ble_eq_true rfl)) dX11_restore_2 ⟨Nat.le_of_ble_eq_true rfl, Nat.le_of_ble_eq_true rfl⟩ (fun E9 ce q9 S1 H locs hp G hce hcv hcl => ?_) (fun S1 H locs hq G => hq.elim)
  obtain ⟨hE, hS9⟩ := hp
  subst hE
  rw [hS9] at G
  exact vx_out (fun x hx => (htab x hx).elim) hlocks hce hcv hcl (fun t ht hvm => ⟨S, trivial, ⟨⟨rfl, rfl⟩, by rw [ht]; exact G.1, va_K.moved hvm hK, G.2.1⟩, G.2.2.F ht⟩) G.2.2.2.2 (Nat.le_refl _) (Nat.le_refl _)
theorem f_ix {x : Int32} (h1 : ¬ x < 0) (h2 : x < 2) : x = nI x.toNatClampNeg ∧ x.toNatClampNeg < 2 := by
  have h3 : (0 : Int32).toInt ≤ x.toInt := Int32.le_iff_toInt_le.mp (Int32.not_lt.mp h1)
  have h4 : x.toInt < (2 : Int32).toInt := Int32.lt_iff_toInt_lt.mp h2
  have h5 : (0 : Int32).toInt = 0 := by decide
  have h6 : (2 : Int32).toInt = 2 := by decide
  rw [h5] at h3
  rw [h6] at h4
  have h7 : x = 0 ∨ x = 1 := by
    rcases (show x.toInt = 0 ∨ x.toInt = 1 by omega) with h | h
    · left; exact Int32.toInt_inj.mp (h.trans h5.symm)
    · right; exact Int32.toInt_inj.mp (h.trans (by decide))
  rcases h7 with rfl | rfl
  · exact ⟨by decide, by decide⟩
  · exact ⟨by decide, by decide⟩
set_option maxHeartbeats 4000000 in
set_option maxRecDepth 100000 in
theorem f_restore_a (l : Launch) (hst : l.stackTraces = false) (D : va_G) (tys : List (ClassId × FieldType)) (ad : Nat → Nat) (N : Nat) (S : Nat → va_E) (cI cJ cZ cMic cSrc cSt cAI cAJ : ClassId) (hN : 1586 ≤ N) (ht0 : tys[0]? = some (cI, .int)) (ht2 : tys[2]? = some (cZ, .boolean)) (hS0 : S 0 = .inr (11, [.ref (ad 1), .ref (ad 6), .ref (ad 7), .ref (ad 22), .ref (ad 66), .ref (ad 154), .ref (ad 242), .ref (ad 336), .ref (ad 430), .ref (ad 431), .ref (ad 432), .ref (ad 433), .ref (ad 434), .ref (ad 477), .ref (ad 478), .ref (ad 656), .int 0, .int 0, .int 0])) (hS432 : S 432 = .inl (cZ, 2, .inl (fun _ => 0))) (x : Int32) (h1 : ¬ x < 0) (h2 : x < 2) : cXi l yX11_restore (Cond.code yX11_restore cX11_restore 2 (some .int) :: wsA) 6 81 D tys ad N S [.ref (ad 0), .int x] (fun _ _ => False) (fun E u => E = xISE ∧ u = S) := by
  intro sz
  refine vx_ofW (cc := cX11_restore) (maxL := 2) (ret := (some .int)) (by decide) rfl ?_
  intro p e s m args below meth c s₁ B hml htab hv
  obtain ⟨rfl, hsz, hP, hK, hD0, hX⟩ := hv
  have hx := B.exec
  have hb := B.bytes
  have hr := B.returns
  have hts := atoms_spec (ws := (Cond.code yX11_restore cX11_restore 2 (some .int) :: wsA)) B.pre
  have hown : s.vm.findClass RX11 = some m.cls := findClass_of_methodNamed B.named
  have hlocks := B.notSynchronized
  subst hsz
  have hD := hD0.self (sz := s.heap.size)
  generalize hAe : va_A (cW ad N S) s.heap.size = A at hD hX ⊢
  have hA : ∀ q : Nat, s.heap.size ≤ q → A q := fun q h => by rw [← hAe]; exact Or.inr h
  have G : cG D ad N A s.heap s.heap [] S := ⟨hP, hD, va_S.rf⟩
  have E : cE p c cX11_restore s m ([.ref (ad 0), .int x] : List Value).toArray (Cond.code yX11_restore cX11_restore 2 (some .int) :: wsA) D RX11 tys := ⟨hx, hb, hts, hown, hK⟩
  have hl := lv_entry ([.ref (ad 0), .int x]) (n := 2) (Nat.le_of_ble_eq_true rfl)
  rw [lg_entry_eq]
  generalize (lg_sl ([.ref (ad 0), .int x]) ++ List.replicate (2 - (lg_sl ([.ref (ad 0), .int x])).length) Slot.unset).toArray = ls at hl ⊢
  have hl : lv_has ls 2 [(0, .ref (ad 0)), (1, .int x)] := hl
  refine lv_iload_n hx hb dX11_restore_0 rfl (lv_at hl 1 rfl) ?_
  refine lv_iconst (v := 2) hx hb dX11_restore_1 (by decide) ?_
  refine c_csv (fs := []) (q := 0) (ci := 0) (nf := 0) (TT := TX11) (C := "") (As := [.int x, .int 2]) (rest := []) E G hA hX rfl hml (f_needIndex_a l hst D tys ad N S x h1 h2) (cwS 2 hts (gaS qA_738 qA_739 qA_131 qA_740) rfl rfl rfl (by decide +kernel) ⟨Nat.le_of_ble_eq_true rfl, Nat.le_of_ble_eq_true rfl⟩) rfl hl.1 rfl (lv_room (Nat.le_of_ble_eq_true rfl)) dX11_restore_2 ⟨Nat.le_of_ble_eq_true rfl, Nat.le_of_ble_eq_true rfl⟩ (fun S1 H locs hq G => ?_)
  rw [hq] at G
  refine lv_aload_n hx hb dX11_restore_5 rfl (lv_at hl 0 rfl) ?_
  refine c_get E G 0 10 (Nat.lt_of_lt_of_le (by decide) hN) hS0 rfl (fun w h => .tail _ (iA_23 h)) (by decide) (.tail _ qA_668) rfl rfl dX11_restore_6 ?_
  refine lv_iload_n hx hb dX11_restore_9 rfl (lv_at hl 1 rfl) ?_
  refine c_zald E G 432 2 (k := x.toNatClampNeg) (Nat.lt_of_lt_of_le (by decide) hN) hS432 ht2 (f_ix h1 h2).1 (f_ix h1 h2).2 (by decide) dX11_restore_10 ?_
  refine lv_to (y := 0) rfl ?_
  refine lv_if_ne (tgt := 22) hx hb dX11_restore_11 (by decide) (fun c3 => absurd (by decide +kernel) c3) (fun c3 => ?_)
  refine vx_throw0 (own := RX11) (cls := xISE) (names := ["java/lang/RuntimeException", "java/lang/Exception"]) (ik := 397) (ic := 399) (A := A) hx hb hst hown (by decide +kernel) (by decide +kernel) (hts _ (.tail _ qA_732)) (hts _ (.tail _ qA_733)) (vx_hat (B := xB) (fun w h => hts w (.tail _ (iA_26 h))) (by decide +kernel) hX.use) (by decide +kernel) hX.1 hX.2.1 G.2.2 (hl.1.trans hml.symm) dX11_restore_14 dX11_restore_17 dX11_restore_18 dX11_restore_21 (fun x hx => (htab x hx).elim) (Nat.le_of_ble_eq_true rfl) (Nat.le_of_ble_eq_true rfl) (Nat.le_of_ble_eq_true rfl) (Nat.le_of_ble_eq_true rfl) hlocks (fun t hvm h1 h2 => ?_) G.2.2.2.2 (Nat.le_refl _) (Nat.le_refl _)
  exact ⟨S, trivial, ⟨⟨rfl, rfl⟩, (c_thrown G hK hvm h1 h2).1⟩, (c_thrown G hK hvm h1 h2).2⟩
set_option maxHeartbeats 4000000 in
set_option maxRecDepth 100000 in
theorem f_load_x (l : Launch) (hst : l.stackTraces = false) (D : va_G) (tys : List (ClassId × FieldType)) (ad : Nat → Nat) (N : Nat) (S : Nat → va_E) (cI cJ cZ cMic cSrc cSt cAI cAJ : ClassId) (hN : 1586 ≤ N) (ht0 : tys[0]? = some (cI, .int)) (ht2 : tys[2]? = some (cZ, .boolean)) (hS0 : S 0 = .inr (11, [.ref (ad 1), .ref (ad 6), .ref (ad 7), .ref (ad 22), .ref (ad 66), .ref (ad 154), .ref (ad 242), .ref (ad 336), .ref (ad 430), .ref (ad 431), .ref (ad 432), .ref (ad 433), .ref (ad 434), .ref (ad 477), .ref (ad 478), .ref (ad 656), .int 0, .int 0, .int 0])) (hS1 : S 1 = .inr (9, [.ref (ad 2), .int 0, .ref (ad 3), .ref (ad 4), .ref (ad 5), .int 0])) (x : Int32) (h : ¬ x = 0) : cXi l yX11_load (Cond.code yX11_load cX11_load 3 (some .int) :: wsA) 6 81 D tys ad N S [.ref (ad 0), .int x] (fun _ _ => False) (fun E u => E = xIOB ∧ u = S) := by
  intro sz
  refine vx_ofW (cc := cX11_load) (maxL := 3) (ret := (some .int)) (by decide) rfl ?_
  intro p e s m args below meth c s₁ B hml htab hv
  obtain ⟨rfl, hsz, hP, hK, hD0, hX⟩ := hv
  have hx := B.exec
  have hb := B.bytes
  have hr := B.returns
  have hts := atoms_spec (ws := (Cond.code yX11_load cX11_load 3 (some .int) :: wsA)) B.pre
  have hown : s.vm.findClass RX11 = some m.cls := findClass_of_methodNamed B.named
  have hlocks := B.notSynchronized
  subst hsz
  have hD := hD0.self (sz := s.heap.size)
  generalize hAe : va_A (cW ad N S) s.heap.size = A at hD hX ⊢
  have hA : ∀ q : Nat, s.heap.size ≤ q → A q := fun q h => by rw [← hAe]; exact Or.inr h
  have G : cG D ad N A s.heap s.heap [] S := ⟨hP, hD, va_S.rf⟩
  have E : cE p c cX11_load s m ([.ref (ad 0), .int x] : List Value).toArray (Cond.code yX11_load cX11_load 3 (some .int) :: wsA) D RX11 tys := ⟨hx, hb, hts, hown, hK⟩
  have hl := lv_entry ([.ref (ad 0), .int x]) (n := 3) (Nat.le_of_ble_eq_true rfl)
  rw [lg_entry_eq]
  generalize (lg_sl ([.ref (ad 0), .int x]) ++ List.replicate (3 - (lg_sl ([.ref (ad 0), .int x])).length) Slot.unset).toArray = ls at hl ⊢
  have hl : lv_has ls 3 [(0, .ref (ad 0)), (1, .int x)] := hl
  refine lv_iload_n hx hb dX11_load_0 rfl (lv_at hl 1 rfl) ?_
  refine lv_if_lt (tgt := 15) hx hb dX11_load_1 (by decide) (fun c1 => ?_) (fun c1 => ?_)
  · refine vx_throw0 (own := RX11) (cls := xIOB) (names := ["java/lang/RuntimeException", "java/lang/Exception"]) (ik := 103) (ic := 105) (A := A) hx hb hst hown (by decide +kernel) (by decide +kernel) (hts _ (.tail _ qA_693)) (hts _ (.tail _ qA_694)) (vx_hat (B := xB) (fun w h => hts w (.tail _ (iA_25 h))) (by decide +kernel) hX.use) (by decide +kernel) hX.1 hX.2.1 G.2.2 (hl.1.trans hml.symm) dX11_load_15 dX11_load_18 dX11_load_19 dX11_load_22 (fun x hx => (htab x hx).elim) (Nat.le_of_ble_eq_true rfl) (Nat.le_of_ble_eq_true rfl) (Nat.le_of_ble_eq_true rfl) (Nat.le_of_ble_eq_true rfl) hlocks (fun t hvm h1 h2 => ?_) G.2.2.2.2 (Nat.le_refl _) (Nat.le_refl _)
    exact ⟨S, trivial, ⟨⟨rfl, rfl⟩, (c_thrown G hK hvm h1 h2).1⟩, (c_thrown G hK hvm h1 h2).2⟩
  · refine lv_iload_n hx hb dX11_load_4 rfl (lv_at hl 1 rfl) ?_
    refine lv_aload_n hx hb dX11_load_5 rfl (lv_at hl 0 rfl) ?_
    refine c_get E G 0 0 (Nat.lt_of_lt_of_le (by decide) hN) hS0 rfl (fun w h => .tail _ (iA_23 h)) (by decide) (.tail _ qA_648) rfl rfl dX11_load_6 ?_
    refine c_get E G 1 1 (Nat.lt_of_lt_of_le (by decide) hN) hS1 rfl (fun w h => .tail _ (iA_18 h)) (by decide) (.tail _ qA_688) rfl rfl dX11_load_9 ?_
    refine lv_icmp_le (tgt := 23) hx hb dX11_load_12 (by decide) (fun c2 => absurd c2 (fun q => h (Int32.le_antisymm q (Int32.not_lt.mp c1)))) (fun c2 => ?_)
    refine vx_throw0 (own := RX11) (cls := xIOB) (names := ["java/lang/RuntimeException", "java/lang/Exception"]) (ik := 103) (ic := 105) (A := A) hx hb hst hown (by decide +kernel) (by decide +kernel) (hts _ (.tail _ qA_693)) (hts _ (.tail _ qA_694)) (vx_hat (B := xB) (fun w h => hts w (.tail _ (iA_25 h))) (by decide +kernel) hX.use) (by decide +kernel) hX.1 hX.2.1 G.2.2 (hl.1.trans hml.symm) dX11_load_15 dX11_load_18 dX11_load_19 dX11_load_22 (fun x hx => (htab x hx).elim) (Nat.le_of_ble_eq_true rfl) (Nat.le_of_ble_eq_true rfl) (Nat.le_of_ble_eq_true rfl) (Nat.le_of_ble_eq_true rfl) hlocks (fun t hvm h1 h2 => ?_) G.2.2.2.2 (Nat.le_refl _) (Nat.le_refl _)
    exact ⟨S, trivial, ⟨⟨rfl, rfl⟩, (c_thrown G hK hvm h1 h2).1⟩, (c_thrown G hK hvm h1 h2).2⟩
set_option maxHeartbeats 4000000 in
set_option maxRecDepth 100000 in
theorem f_addWord_0 (l : Launch) (hst : l.stackTraces = false) (D : va_G) (tys : List (ClassId × FieldType)) (ad : Nat → Nat) (N : Nat) (S : Nat → va_E) (cI cJ cZ cMic cSrc cSt cAI cAJ : ClassId) (hN : 1586 ≤ N) (ht0 : tys[0]? = some (cI, .int)) (ht2 : tys[2]? = some (cZ, .boolean)) {g : Nat → Int32} (hS0 : S 0 = .inr (11, [.ref (ad 1), .ref (ad 6), .ref (ad 7), .ref (ad 22), .ref (ad 66), .ref (ad 154), .ref (ad 242), .ref (ad 336), .ref (ad 430), .ref (ad 431), .ref (ad 432), .ref (ad 433), .ref (ad 434), .ref (ad 477), .ref (ad 478), .ref (ad 656), .int 0, .int 0, .int 0])) (hS1 : S 1 = .inr (9, [.ref (ad 2), .int 0, .ref (ad 3), .ref (ad 4), .ref (ad 5), .int 0])) (hS2 : S 2 = .inl (cI, 1000, .inl g)) (x : Int32) : cCv l yX9_addWord (Cond.code yX9_addWord cX9_addWord 3 none :: wsA) 1 0 D tys ad N S [.ref (ad 1), .int x] (fun u => ∃ f : Nat → Int32, u 0 = .inr (11, [.ref (ad 1), .ref (ad 6), .ref (ad 7), .ref (ad 22), .ref (ad 66), .ref (ad 154), .ref (ad 242), .ref (ad 336), .ref (ad 430), .ref (ad 431), .ref (ad 432), .ref (ad 433), .ref (ad 434), .ref (ad 477), .ref (ad 478), .ref (ad 656), .int 0, .int 0, .int 0]) ∧ u 1 = .inr (9, [.ref (ad 2), .int 4, .ref (ad 3), .ref (ad 4), .ref (ad 5), .int 0]) ∧ u 2 = .inl (cI, 1000, .inl f)) := by
  intro sz
  refine Met.ofW (cc := cX9_addWord) (maxL := 3) (ret := none) (by decide) rfl ?_
  intro p e s m args below meth c s₁ B hml hv
  obtain ⟨rfl, hsz, hP, hK, hD0, hX⟩ := hv
  have hx := B.exec
  have hb := B.bytes
  have hr := B.returns
  have hts := atoms_spec (ws := (Cond.code yX9_addWord cX9_addWord 3 none :: wsA)) B.pre
  have hown : s.vm.findClass RX9 = some m.cls := findClass_of_methodNamed B.named
  have hlocks := B.notSynchronized
  subst hsz
  have hD := hD0.self (sz := s.heap.size)
  generalize hAe : va_A (cW ad N S) s.heap.size = A at hD hX ⊢
  have hA : ∀ q : Nat, s.heap.size ≤ q → A q := fun q h => by rw [← hAe]; exact Or.inr h
  have G : cG D ad N A s.heap s.heap [] S := ⟨hP, hD, va_S.rf⟩
  have E : cE p c cX9_addWord s m ([.ref (ad 1), .int x] : List Value).toArray (Cond.code yX9_addWord cX9_addWord 3 none :: wsA) D RX9 tys := ⟨hx, hb, hts, hown, hK⟩
  have hl := lv_entry ([.ref (ad 1), .int x]) (n := 3) (Nat.le_of_ble_eq_true rfl)
  rw [lg_entry_eq]
  generalize (lg_sl ([.ref (ad 1), .int x]) ++ List.replicate (3 - (lg_sl ([.ref (ad 1), .int x])).length) Slot.unset).toArray = ls at hl ⊢
  have hl : lv_has ls 3 [(0, .ref (ad 1)), (1, .int x)] := hl
  refine lv_bipush (v := 24) hx hb dX9_addWord_0 (by decide) ?_
  refine lv_istore_n (lv' := [(2, .int 24), (0, .ref (ad 1)), (1, .int x)]) hx hb dX9_addWord_2 rfl hl (by decide) rfl (fun ls hl => ?_)
  refine lv_iload_n hx hb dX9_addWord_3 rfl (lv_at hl 0 rfl) ?_
  refine lv_if_lt (tgt := 49) hx hb dX9_addWord_4 (by decide) (fun c1 => absurd c1 (by decide +kernel)) (fun c1 => ?_)
  refine lv_aload_n hx hb dX9_addWord_7 rfl (lv_at hl 1 rfl) ?_
  refine c_get E G 1 1 (Nat.lt_of_lt_of_le (by decide) hN) hS1 rfl (fun w h => .tail _ (iA_18 h)) (by decide) (.tail _ qA_632) rfl rfl dX9_addWord_8 ?_
  refine lv_sipush (v := 1000) hx hb dX9_addWord_11 (by decide) ?_
  refine lv_icmp_ge (tgt := 43) hx hb dX9_addWord_14 (by decide) (fun c2 => absurd c2 (by decide +kernel)) (fun c2 => ?_)
  refine lv_aload_n hx hb dX9_addWord_17 rfl (lv_at hl 1 rfl) ?_
  refine c_get E G 1 0 (Nat.lt_of_lt_of_le (by decide) hN) hS1 rfl (fun w h => .tail _ (iA_18 h)) (by decide) (.tail _ qA_192) rfl rfl dX9_addWord_18 ?_
  refine lv_aload_n hx hb dX9_addWord_21 rfl (lv_at hl 1 rfl) ?_
  refine c_get E G 1 1 (Nat.lt_of_lt_of_le (by decide) hN) hS1 rfl (fun w h => .tail _ (iA_18 h)) (by decide) (.tail _ qA_632) rfl rfl dX9_addWord_22 ?_
  refine lv_iload_n hx hb dX9_addWord_25 rfl (lv_at hl 2 rfl) ?_
  refine lv_iload_n hx hb dX9_addWord_26 rfl (lv_at hl 0 rfl) ?_
  refine lv_iushr hx hb dX9_addWord_27 rfl ?_
  refine lv_topi (fun v3 ev3 => ?_)
  refine lv_sipush (v := 255) hx hb dX9_addWord_28 (by decide) ?_
  refine lv_iand hx hb dX9_addWord_31 ?_
  refine lv_topi (fun v4 ev4 => ?_)
  refine c_iast E G 2 0 (k := 0) (Nat.lt_of_lt_of_le (by decide) hN) hS2 ht0 rfl (by decide) (by decide) dX9_addWord_32 (fun H locs G => ?_)
  have G : cG D ad N A s.heap H locs (va_up S 2 (.inl (cI, 1000, .inl (upd g 0 v4)))) := G
  have hS0 := (va_up_ne S (.inl (cI, 1000, .inl (upd g 0 v4)) : va_E) (show 0 ≠ 2 by decide)).trans hS0
  have hS1 := (va_up_ne S (.inl (cI, 1000, .inl (upd g 0 v4)) : va_E) (show 1 ≠ 2 by decide)).trans hS1
  have hS2 := va_up_self S 2 (.inl (cI, 1000, .inl (upd g 0 v4)) : va_E)
  generalize va_up S 2 (.inl (cI, 1000, .inl (upd g 0 v4))) = S5 at G hS0 hS1 hS2
  generalize (upd g 0 v4) = f6 at hS2
  refine lv_aload_n hx hb dX9_addWord_33 rfl (lv_at hl 1 rfl) ?_
  refine lv_dup hx hb dX9_addWord_34 rfl ?_
  refine c_get E G 1 1 (Nat.lt_of_lt_of_le (by decide) hN) hS1 rfl (fun w h => .tail _ (iA_18 h)) (by decide) (.tail _ qA_632) rfl rfl dX9_addWord_35 ?_
  refine lv_iconst (v := 1) hx hb dX9_addWord_38 (by decide) ?_
  refine lv_iadd hx hb dX9_addWord_39 ?_
  refine lv_to (y := 1) (by decide +kernel) ?_
  refine c_put E G 1 1 (Nat.lt_of_lt_of_le (by decide) hN) hS1 rfl (fun w h => .tail _ (iA_18 h)) tyX9 tyX9_ok nmX9 (by decide) (.tail _ qA_632) ⟨rfl, rfl, rfl⟩ rfl rfl (Nat.le_of_ble_eq_true rfl) dX9_addWord_40 (fun H locs G => ?_)
  have G : cG D ad N A s.heap H locs (va_up S5 1 (.inr (9, [.ref (ad 2), .int 1, .ref (ad 3), .ref (ad 4), .ref (ad 5), .int 0]))) := G
  have hS0 := (va_up_ne S5 (.inr (9, [.ref (ad 2), .int 1, .ref (ad 3), .ref (ad 4), .ref (ad 5), .int 0]) : va_E) (show 0 ≠ 1 by decide)).trans hS0
  have hS1 := va_up_self S5 1 (.inr (9, [.ref (ad 2), .int 1, .ref (ad 3), .ref (ad 4), .ref (ad 5), .int 0]) : va_E)
  have hS2 := (va_up_ne S5 (.inr (9, [.ref (ad 2), .int 1, .ref (ad 3), .ref (ad 4), .ref (ad 5), .int 0]) : va_E) (show 2 ≠ 1 by decide)).trans hS2
  generalize va_up S5 1 (.inr (9, [.ref (ad 2), .int 1, .ref (ad 3), .ref (ad 4), .ref (ad 5), .int 0])) = S7 at G hS0 hS1 hS2
  refine lv_iinc (v := 16) (lv' := [(2, .int 16), (0, .ref (ad 1)), (1, .int x)]) hx hb dX9_addWord_43 hl (k := 0) rfl (by decide +kernel) (by decide) rfl (fun ls hl => ?_)
  refine lv_goto (tgt := 3) hx hb dX9_addWord_46 (by decide) ?_
  refine lv_iload_n hx hb dX9_addWord_3 rfl (lv_at hl 0 rfl) ?_
  refine lv_if_lt (tgt := 49) hx hb dX9_addWord_4 (by decide) (fun c8 => absurd c8 (by decide +kernel)) (fun c8 => ?_)
  refine lv_aload_n hx hb dX9_addWord_7 rfl (lv_at hl 1 rfl) ?_
  refine c_get E G 1 1 (Nat.lt_of_lt_of_le (by decide) hN) hS1 rfl (fun w h => .tail _ (iA_18 h)) (by decide) (.tail _ qA_632) rfl rfl dX9_addWord_8 ?_
  refine lv_sipush (v := 1000) hx hb dX9_addWord_11 (by decide) ?_
  refine lv_icmp_ge (tgt := 43) hx hb dX9_addWord_14 (by decide) (fun c9 => absurd c9 (by decide +kernel)) (fun c9 => ?_)
  refine lv_aload_n hx hb dX9_addWord_17 rfl (lv_at hl 1 rfl) ?_
  refine c_get E G 1 0 (Nat.lt_of_lt_of_le (by decide) hN) hS1 rfl (fun w h => .tail _ (iA_18 h)) (by decide) (.tail _ qA_192) rfl rfl dX9_addWord_18 ?_
  refine lv_aload_n hx hb dX9_addWord_21 rfl (lv_at hl 1 rfl) ?_
  refine c_get E G 1 1 (Nat.lt_of_lt_of_le (by decide) hN) hS1 rfl (fun w h => .tail _ (iA_18 h)) (by decide) (.tail _ qA_632) rfl rfl dX9_addWord_22 ?_
  refine lv_iload_n hx hb dX9_addWord_25 rfl (lv_at hl 2 rfl) ?_
  refine lv_iload_n hx hb dX9_addWord_26 rfl (lv_at hl 0 rfl) ?_
  refine lv_iushr hx hb dX9_addWord_27 rfl ?_
  refine lv_topi (fun v10 ev10 => ?_)
  refine lv_sipush (v := 255) hx hb dX9_addWord_28 (by decide) ?_
  refine lv_iand hx hb dX9_addWord_31 ?_
  refine lv_topi (fun v11 ev11 => ?_)
  refine c_iast E G 2 0 (k := 1) (Nat.lt_of_lt_of_le (by decide) hN) hS2 ht0 rfl (by decide) (by decide) dX9_addWord_32 (fun H locs G => ?_)
  have G : cG D ad N A s.heap H locs (va_up S7 2 (.inl (cI, 1000, .inl (upd f6 1 v11)))) := G
  have hS0 := (va_up_ne S7 (.inl (cI, 1000, .inl (upd f6 1 v11)) : va_E) (show 0 ≠ 2 by decide)).trans hS0
  have hS1 := (va_up_ne S7 (.inl (cI, 1000, .inl (upd f6 1 v11)) : va_E) (show 1 ≠ 2 by decide)).trans hS1
  have hS2 := va_up_self S7 2 (.inl (cI, 1000, .inl (upd f6 1 v11)) : va_E)
  generalize va_up S7 2 (.inl (cI, 1000, .inl (upd f6 1 v11))) = S12 at G hS0 hS1 hS2
  generalize (upd f6 1 v11) = f13 at hS2
  refine lv_aload_n hx hb dX9_addWord_33 rfl (lv_at hl 1 rfl) ?_
  refine lv_dup hx hb dX9_addWord_34 rfl ?_
  refine c_get E G 1 1 (Nat.lt_of_lt_of_le (by decide) hN) hS1 rfl (fun w h => .tail _ (iA_18 h)) (by decide) (.tail _ qA_632) rfl rfl dX9_addWord_35 ?_
  refine lv_iconst (v := 1) hx hb dX9_addWord_38 (by decide) ?_
  refine lv_iadd hx hb dX9_addWord_39 ?_
  refine lv_to (y := 2) (by decide +kernel) ?_
  refine c_put E G 1 1 (Nat.lt_of_lt_of_le (by decide) hN) hS1 rfl (fun w h => .tail _ (iA_18 h)) tyX9 tyX9_ok nmX9 (by decide) (.tail _ qA_632) ⟨rfl, rfl, rfl⟩ rfl rfl (Nat.le_of_ble_eq_true rfl) dX9_addWord_40 (fun H locs G => ?_)
  have G : cG D ad N A s.heap H locs (va_up S12 1 (.inr (9, [.ref (ad 2), .int 2, .ref (ad 3), .ref (ad 4), .ref (ad 5), .int 0]))) := G
  have hS0 := (va_up_ne S12 (.inr (9, [.ref (ad 2), .int 2, .ref (ad 3), .ref (ad 4), .ref (ad 5), .int 0]) : va_E) (show 0 ≠ 1 by decide)).trans hS0
  have hS1 := va_up_self S12 1 (.inr (9, [.ref (ad 2), .int 2, .ref (ad 3), .ref (ad 4), .ref (ad 5), .int 0]) : va_E)
  have hS2 := (va_up_ne S12 (.inr (9, [.ref (ad 2), .int 2, .ref (ad 3), .ref (ad 4), .ref (ad 5), .int 0]) : va_E) (show 2 ≠ 1 by decide)).trans hS2
  generalize va_up S12 1 (.inr (9, [.ref (ad 2), .int 2, .ref (ad 3), .ref (ad 4), .ref (ad 5), .int 0])) = S14 at G hS0 hS1 hS2
  refine lv_iinc (v := 8) (lv' := [(2, .int 8), (0, .ref (ad 1)), (1, .int x)]) hx hb dX9_addWord_43 hl (k := 0) rfl (by decide +kernel) (by decide) rfl (fun ls hl => ?_)
  refine lv_goto (tgt := 3) hx hb dX9_addWord_46 (by decide) ?_
  refine lv_iload_n hx hb dX9_addWord_3 rfl (lv_at hl 0 rfl) ?_
  refine lv_if_lt (tgt := 49) hx hb dX9_addWord_4 (by decide) (fun c15 => absurd c15 (by decide +kernel)) (fun c15 => ?_)
  refine lv_aload_n hx hb dX9_addWord_7 rfl (lv_at hl 1 rfl) ?_
  refine c_get E G 1 1 (Nat.lt_of_lt_of_le (by decide) hN) hS1 rfl (fun w h => .tail _ (iA_18 h)) (by decide) (.tail _ qA_632) rfl rfl dX9_addWord_8 ?_
  refine lv_sipush (v := 1000) hx hb dX9_addWord_11 (by decide) ?_
  refine lv_icmp_ge (tgt := 43) hx hb dX9_addWord_14 (by decide) (fun c16 => absurd c16 (by decide +kernel)) (fun c16 => ?_)
  refine lv_aload_n hx hb dX9_addWord_17 rfl (lv_at hl 1 rfl) ?_
  refine c_get E G 1 0 (Nat.lt_of_lt_of_le (by decide) hN) hS1 rfl (fun w h => .tail _ (iA_18 h)) (by decide) (.tail _ qA_192) rfl rfl dX9_addWord_18 ?_
  refine lv_aload_n hx hb dX9_addWord_21 rfl (lv_at hl 1 rfl) ?_
  refine c_get E G 1 1 (Nat.lt_of_lt_of_le (by decide) hN) hS1 rfl (fun w h => .tail _ (iA_18 h)) (by decide) (.tail _ qA_632) rfl rfl dX9_addWord_22 ?_
  refine lv_iload_n hx hb dX9_addWord_25 rfl (lv_at hl 2 rfl) ?_
  refine lv_iload_n hx hb dX9_addWord_26 rfl (lv_at hl 0 rfl) ?_
  refine lv_iushr hx hb dX9_addWord_27 rfl ?_
  refine lv_topi (fun v17 ev17 => ?_)
  refine lv_sipush (v := 255) hx hb dX9_addWord_28 (by decide) ?_
  refine lv_iand hx hb dX9_addWord_31 ?_
  refine lv_topi (fun v18 ev18 => ?_)
  refine c_iast E G 2 0 (k := 2) (Nat.lt_of_lt_of_le (by decide) hN) hS2 ht0 rfl (by decide) (by decide) dX9_addWord_32 (fun H locs G => ?_)
  have G : cG D ad N A s.heap H locs (va_up S14 2 (.inl (cI, 1000, .inl (upd f13 2 v18)))) := G
  have hS0 := (va_up_ne S14 (.inl (cI, 1000, .inl (upd f13 2 v18)) : va_E) (show 0 ≠ 2 by decide)).trans hS0
  have hS1 := (va_up_ne S14 (.inl (cI, 1000, .inl (upd f13 2 v18)) : va_E) (show 1 ≠ 2 by decide)).trans hS1
  have hS2 := va_up_self S14 2 (.inl (cI, 1000, .inl (upd f13 2 v18)) : va_E)
  generalize va_up S14 2 (.inl (cI, 1000, .inl (upd f13 2 v18))) = S19 at G hS0 hS1 hS2
  generalize (upd f13 2 v18) = f20 at hS2
  refine lv_aload_n hx hb dX9_addWord_33 rfl (lv_at hl 1 rfl) ?_
  refine lv_dup hx hb dX9_addWord_34 rfl ?_
  refine c_get E G 1 1 (Nat.lt_of_lt_of_le (by decide) hN) hS1 rfl (fun w h => .tail _ (iA_18 h)) (by decide) (.tail _ qA_632) rfl rfl dX9_addWord_35 ?_
  refine lv_iconst (v := 1) hx hb dX9_addWord_38 (by decide) ?_
  refine lv_iadd hx hb dX9_addWord_39 ?_
  refine lv_to (y := 3) (by decide +kernel) ?_
  refine c_put E G 1 1 (Nat.lt_of_lt_of_le (by decide) hN) hS1 rfl (fun w h => .tail _ (iA_18 h)) tyX9 tyX9_ok nmX9 (by decide) (.tail _ qA_632) ⟨rfl, rfl, rfl⟩ rfl rfl (Nat.le_of_ble_eq_true rfl) dX9_addWord_40 (fun H locs G => ?_)
  have G : cG D ad N A s.heap H locs (va_up S19 1 (.inr (9, [.ref (ad 2), .int 3, .ref (ad 3), .ref (ad 4), .ref (ad 5), .int 0]))) := G
  have hS0 := (va_up_ne S19 (.inr (9, [.ref (ad 2), .int 3, .ref (ad 3), .ref (ad 4), .ref (ad 5), .int 0]) : va_E) (show 0 ≠ 1 by decide)).trans hS0
  have hS1 := va_up_self S19 1 (.inr (9, [.ref (ad 2), .int 3, .ref (ad 3), .ref (ad 4), .ref (ad 5), .int 0]) : va_E)
  have hS2 := (va_up_ne S19 (.inr (9, [.ref (ad 2), .int 3, .ref (ad 3), .ref (ad 4), .ref (ad 5), .int 0]) : va_E) (show 2 ≠ 1 by decide)).trans hS2
  generalize va_up S19 1 (.inr (9, [.ref (ad 2), .int 3, .ref (ad 3), .ref (ad 4), .ref (ad 5), .int 0])) = S21 at G hS0 hS1 hS2
  refine lv_iinc (v := 0) (lv' := [(2, .int 0), (0, .ref (ad 1)), (1, .int x)]) hx hb dX9_addWord_43 hl (k := 0) rfl (by decide +kernel) (by decide) rfl (fun ls hl => ?_)
  refine lv_goto (tgt := 3) hx hb dX9_addWord_46 (by decide) ?_
  refine lv_iload_n hx hb dX9_addWord_3 rfl (lv_at hl 0 rfl) ?_
  refine lv_if_lt (tgt := 49) hx hb dX9_addWord_4 (by decide) (fun c22 => absurd c22 (by decide +kernel)) (fun c22 => ?_)
  refine lv_aload_n hx hb dX9_addWord_7 rfl (lv_at hl 1 rfl) ?_
  refine c_get E G 1 1 (Nat.lt_of_lt_of_le (by decide) hN) hS1 rfl (fun w h => .tail _ (iA_18 h)) (by decide) (.tail _ qA_632) rfl rfl dX9_addWord_8 ?_
  refine lv_sipush (v := 1000) hx hb dX9_addWord_11 (by decide) ?_
  refine lv_icmp_ge (tgt := 43) hx hb dX9_addWord_14 (by decide) (fun c23 => absurd c23 (by decide +kernel)) (fun c23 => ?_)
  refine lv_aload_n hx hb dX9_addWord_17 rfl (lv_at hl 1 rfl) ?_
  refine c_get E G 1 0 (Nat.lt_of_lt_of_le (by decide) hN) hS1 rfl (fun w h => .tail _ (iA_18 h)) (by decide) (.tail _ qA_192) rfl rfl dX9_addWord_18 ?_
  refine lv_aload_n hx hb dX9_addWord_21 rfl (lv_at hl 1 rfl) ?_
  refine c_get E G 1 1 (Nat.lt_of_lt_of_le (by decide) hN) hS1 rfl (fun w h => .tail _ (iA_18 h)) (by decide) (.tail _ qA_632) rfl rfl dX9_addWord_22 ?_
  refine lv_iload_n hx hb dX9_addWord_25 rfl (lv_at hl 2 rfl) ?_
  refine lv_iload_n hx hb dX9_addWord_26 rfl (lv_at hl 0 rfl) ?_
  refine lv_iushr hx hb dX9_addWord_27 rfl ?_
  refine lv_topi (fun v24 ev24 => ?_)
  refine lv_sipush (v := 255) hx hb dX9_addWord_28 (by decide) ?_
  refine lv_iand hx hb dX9_addWord_31 ?_
  refine lv_topi (fun v25 ev25 => ?_)
  refine c_iast E G 2 0 (k := 3) (Nat.lt_of_lt_of_le (by decide) hN) hS2 ht0 rfl (by decide) (by decide) dX9_addWord_32 (fun H locs G => ?_)
  have G : cG D ad N A s.heap H locs (va_up S21 2 (.inl (cI, 1000, .inl (upd f20 3 v25)))) := G
  have hS0 := (va_up_ne S21 (.inl (cI, 1000, .inl (upd f20 3 v25)) : va_E) (show 0 ≠ 2 by decide)).trans hS0
  have hS1 := (va_up_ne S21 (.inl (cI, 1000, .inl (upd f20 3 v25)) : va_E) (show 1 ≠ 2 by decide)).trans hS1
  have hS2 := va_up_self S21 2 (.inl (cI, 1000, .inl (upd f20 3 v25)) : va_E)
  generalize va_up S21 2 (.inl (cI, 1000, .inl (upd f20 3 v25))) = S26 at G hS0 hS1 hS2
  generalize (upd f20 3 v25) = f27 at hS2
  refine lv_aload_n hx hb dX9_addWord_33 rfl (lv_at hl 1 rfl) ?_
  refine lv_dup hx hb dX9_addWord_34 rfl ?_
  refine c_get E G 1 1 (Nat.lt_of_lt_of_le (by decide) hN) hS1 rfl (fun w h => .tail _ (iA_18 h)) (by decide) (.tail _ qA_632) rfl rfl dX9_addWord_35 ?_
  refine lv_iconst (v := 1) hx hb dX9_addWord_38 (by decide) ?_
  refine lv_iadd hx hb dX9_addWord_39 ?_
  refine lv_to (y := 4) (by decide +kernel) ?_
  refine c_put E G 1 1 (Nat.lt_of_lt_of_le (by decide) hN) hS1 rfl (fun w h => .tail _ (iA_18 h)) tyX9 tyX9_ok nmX9 (by decide) (.tail _ qA_632) ⟨rfl, rfl, rfl⟩ rfl rfl (Nat.le_of_ble_eq_true rfl) dX9_addWord_40 (fun H locs G => ?_)
  have G : cG D ad N A s.heap H locs (va_up S26 1 (.inr (9, [.ref (ad 2), .int 4, .ref (ad 3), .ref (ad 4), .ref (ad 5), .int 0]))) := G
  have hS0 := (va_up_ne S26 (.inr (9, [.ref (ad 2), .int 4, .ref (ad 3), .ref (ad 4), .ref (ad 5), .int 0]) : va_E) (show 0 ≠ 1 by decide)).trans hS0
  have hS1 := va_up_self S26 1 (.inr (9, [.ref (ad 2), .int 4, .ref (ad 3), .ref (ad 4), .ref (ad 5), .int 0]) : va_E)
  have hS2 := (va_up_ne S26 (.inr (9, [.ref (ad 2), .int 4, .ref (ad 3), .ref (ad 4), .ref (ad 5), .int 0]) : va_E) (show 2 ≠ 1 by decide)).trans hS2
  generalize va_up S26 1 (.inr (9, [.ref (ad 2), .int 4, .ref (ad 3), .ref (ad 4), .ref (ad 5), .int 0])) = S28 at G hS0 hS1 hS2
  refine lv_iinc (v := (-8)) (lv' := [(2, .int (-8)), (0, .ref (ad 1)), (1, .int x)]) hx hb dX9_addWord_43 hl (k := 0) rfl (by decide +kernel) (by decide) rfl (fun ls hl => ?_)
  refine lv_goto (tgt := 3) hx hb dX9_addWord_46 (by decide) ?_
  refine lv_iload_n hx hb dX9_addWord_3 rfl (lv_at hl 0 rfl) ?_
  refine lv_if_lt (tgt := 49) hx hb dX9_addWord_4 (by decide) (fun c29 => ?_) (fun c29 => absurd (by decide +kernel) c29)
  exact W.vret hx hb hr (fun t ht hW => ⟨⟨S28, rfl, ⟨_, hS0, hS1, hS2⟩, ⟨by rw [ht]; exact G.1, va_K.moved hW.alike hK, G.2.1⟩⟩, G.2.2.F ht⟩) G.2.2.2.2 dX9_addWord_49
set_option maxHeartbeats 4000000 in
set_option maxRecDepth 100000 in
theorem f_addWord_4 (l : Launch) (hst : l.stackTraces = false) (D : va_G) (tys : List (ClassId × FieldType)) (ad : Nat → Nat) (N : Nat) (S : Nat → va_E) (cI cJ cZ cMic cSrc cSt cAI cAJ : ClassId) (hN : 1586 ≤ N) (ht0 : tys[0]? = some (cI, .int)) (ht2 : tys[2]? = some (cZ, .boolean)) {g : Nat → Int32} (hS0 : S 0 = .inr (11, [.ref (ad 1), .ref (ad 6), .ref (ad 7), .ref (ad 22), .ref (ad 66), .ref (ad 154), .ref (ad 242), .ref (ad 336), .ref (ad 430), .ref (ad 431), .ref (ad 432), .ref (ad 433), .ref (ad 434), .ref (ad 477), .ref (ad 478), .ref (ad 656), .int 0, .int 0, .int 0])) (hS1 : S 1 = .inr (9, [.ref (ad 2), .int 4, .ref (ad 3), .ref (ad 4), .ref (ad 5), .int 0])) (hS2 : S 2 = .inl (cI, 1000, .inl g)) (x : Int32) : cCv l yX9_addWord (Cond.code yX9_addWord cX9_addWord 3 none :: wsA) 1 0 D tys ad N S [.ref (ad 1), .int x] (fun u => ∃ f : Nat → Int32, u 0 = .inr (11, [.ref (ad 1), .ref (ad 6), .ref (ad 7), .ref (ad 22), .ref (ad 66), .ref (ad 154), .ref (ad 242), .ref (ad 336), .ref (ad 430), .ref (ad 431), .ref (ad 432), .ref (ad 433), .ref (ad 434), .ref (ad 477), .ref (ad 478), .ref (ad 656), .int 0, .int 0, .int 0]) ∧ u 1 = .inr (9, [.ref (ad 2), .int 8, .ref (ad 3), .ref (ad 4), .ref (ad 5), .int 0]) ∧ u 2 = .inl (cI, 1000, .inl f)) := by
  intro sz
  refine Met.ofW (cc := cX9_addWord) (maxL := 3) (ret := none) (by decide) rfl ?_
  intro p e s m args below meth c s₁ B hml hv
  obtain ⟨rfl, hsz, hP, hK, hD0, hX⟩ := hv
  have hx := B.exec
  have hb := B.bytes
  have hr := B.returns
  have hts := atoms_spec (ws := (Cond.code yX9_addWord cX9_addWord 3 none :: wsA)) B.pre
  have hown : s.vm.findClass RX9 = some m.cls := findClass_of_methodNamed B.named
  have hlocks := B.notSynchronized
  subst hsz
  have hD := hD0.self (sz := s.heap.size)
  generalize hAe : va_A (cW ad N S) s.heap.size = A at hD hX ⊢
  have hA : ∀ q : Nat, s.heap.size ≤ q → A q := fun q h => by rw [← hAe]; exact Or.inr h
  have G : cG D ad N A s.heap s.heap [] S := ⟨hP, hD, va_S.rf⟩
  have E : cE p c cX9_addWord s m ([.ref (ad 1), .int x] : List Value).toArray (Cond.code yX9_addWord cX9_addWord 3 none :: wsA) D RX9 tys := ⟨hx, hb, hts, hown, hK⟩
  have hl := lv_entry ([.ref (ad 1), .int x]) (n := 3) (Nat.le_of_ble_eq_true rfl)
  rw [lg_entry_eq]
  generalize (lg_sl ([.ref (ad 1), .int x]) ++ List.replicate (3 - (lg_sl ([.ref (ad 1), .int x])).length) Slot.unset).toArray = ls at hl ⊢
  have hl : lv_has ls 3 [(0, .ref (ad 1)), (1, .int x)] := hl
  refine lv_bipush (v := 24) hx hb dX9_addWord_0 (by decide) ?_
  refine lv_istore_n (lv' := [(2, .int 24), (0, .ref (ad 1)), (1, .int x)]) hx hb dX9_addWord_2 rfl hl (by decide) rfl (fun ls hl => ?_)
  refine lv_iload_n hx hb dX9_addWord_3 rfl (lv_at hl 0 rfl) ?_
  refine lv_if_lt (tgt := 49) hx hb dX9_addWord_4 (by decide) (fun c1 => absurd c1 (by decide +kernel)) (fun c1 => ?_)
  refine lv_aload_n hx hb dX9_addWord_7 rfl (lv_at hl 1 rfl) ?_
  refine c_get E G 1 1 (Nat.lt_of_lt_of_le (by decide) hN) hS1 rfl (fun w h => .tail _ (iA_18 h)) (by decide) (.tail _ qA_632) rfl rfl dX9_addWord_8 ?_
  refine lv_sipush (v := 1000) hx hb dX9_addWord_11 (by decide) ?_
  refine lv_icmp_ge (tgt := 43) hx hb dX9_addWord_14 (by decide) (fun c2 => absurd c2 (by decide +kernel)) (fun c2 => ?_)
  refine lv_aload_n hx hb dX9_addWord_17 rfl (lv_at hl 1 rfl) ?_
  refine c_get E G 1 0 (Nat.lt_of_lt_of_le (by decide) hN) hS1 rfl (fun w h => .tail _ (iA_18 h)) (by decide) (.tail _ qA_192) rfl rfl dX9_addWord_18 ?_
  refine lv_aload_n hx hb dX9_addWord_21 rfl (lv_at hl 1 rfl) ?_
  refine c_get E G 1 1 (Nat.lt_of_lt_of_le (by decide) hN) hS1 rfl (fun w h => .tail _ (iA_18 h)) (by decide) (.tail _ qA_632) rfl rfl dX9_addWord_22 ?_
  refine lv_iload_n hx hb dX9_addWord_25 rfl (lv_at hl 2 rfl) ?_
  refine lv_iload_n hx hb dX9_addWord_26 rfl (lv_at hl 0 rfl) ?_
  refine lv_iushr hx hb dX9_addWord_27 rfl ?_
  refine lv_topi (fun v3 ev3 => ?_)
  refine lv_sipush (v := 255) hx hb dX9_addWord_28 (by decide) ?_
  refine lv_iand hx hb dX9_addWord_31 ?_
  refine lv_topi (fun v4 ev4 => ?_)
  refine c_iast E G 2 0 (k := 4) (Nat.lt_of_lt_of_le (by decide) hN) hS2 ht0 rfl (by decide) (by decide) dX9_addWord_32 (fun H locs G => ?_)
  have G : cG D ad N A s.heap H locs (va_up S 2 (.inl (cI, 1000, .inl (upd g 4 v4)))) := G
  have hS0 := (va_up_ne S (.inl (cI, 1000, .inl (upd g 4 v4)) : va_E) (show 0 ≠ 2 by decide)).trans hS0
  have hS1 := (va_up_ne S (.inl (cI, 1000, .inl (upd g 4 v4)) : va_E) (show 1 ≠ 2 by decide)).trans hS1
  have hS2 := va_up_self S 2 (.inl (cI, 1000, .inl (upd g 4 v4)) : va_E)
  generalize va_up S 2 (.inl (cI, 1000, .inl (upd g 4 v4))) = S5 at G hS0 hS1 hS2
  generalize (upd g 4 v4) = f6 at hS2
  refine lv_aload_n hx hb dX9_addWord_33 rfl (lv_at hl 1 rfl) ?_
  refine lv_dup hx hb dX9_addWord_34 rfl ?_
  refine c_get E G 1 1 (Nat.lt_of_lt_of_le (by decide) hN) hS1 rfl (fun w h => .tail _ (iA_18 h)) (by decide) (.tail _ qA_632) rfl rfl dX9_addWord_35 ?_
  refine lv_iconst (v := 1) hx hb dX9_addWord_38 (by decide) ?_
  refine lv_iadd hx hb dX9_addWord_39 ?_
  refine lv_to (y := 5) (by decide +kernel) ?_
  refine c_put E G 1 1 (Nat.lt_of_lt_of_le (by decide) hN) hS1 rfl (fun w h => .tail _ (iA_18 h)) tyX9 tyX9_ok nmX9 (by decide) (.tail _ qA_632) ⟨rfl, rfl, rfl⟩ rfl rfl (Nat.le_of_ble_eq_true rfl) dX9_addWord_40 (fun H locs G => ?_)
  have G : cG D ad N A s.heap H locs (va_up S5 1 (.inr (9, [.ref (ad 2), .int 5, .ref (ad 3), .ref (ad 4), .ref (ad 5), .int 0]))) := G
  have hS0 := (va_up_ne S5 (.inr (9, [.ref (ad 2), .int 5, .ref (ad 3), .ref (ad 4), .ref (ad 5), .int 0]) : va_E) (show 0 ≠ 1 by decide)).trans hS0
  have hS1 := va_up_self S5 1 (.inr (9, [.ref (ad 2), .int 5, .ref (ad 3), .ref (ad 4), .ref (ad 5), .int 0]) : va_E)
  have hS2 := (va_up_ne S5 (.inr (9, [.ref (ad 2), .int 5, .ref (ad 3), .ref (ad 4), .ref (ad 5), .int 0]) : va_E) (show 2 ≠ 1 by decide)).trans hS2
  generalize va_up S5 1 (.inr (9, [.ref (ad 2), .int 5, .ref (ad 3), .ref (ad 4), .ref (ad 5), .int 0])) = S7 at G hS0 hS1 hS2
  refine lv_iinc (v := 16) (lv' := [(2, .int 16), (0, .ref (ad 1)), (1, .int x)]) hx hb dX9_addWord_43 hl (k := 0) rfl (by decide +kernel) (by decide) rfl (fun ls hl => ?_)
  refine lv_goto (tgt := 3) hx hb dX9_addWord_46 (by decide) ?_
  refine lv_iload_n hx hb dX9_addWord_3 rfl (lv_at hl 0 rfl) ?_
  refine lv_if_lt (tgt := 49) hx hb dX9_addWord_4 (by decide) (fun c8 => absurd c8 (by decide +kernel)) (fun c8 => ?_)
  refine lv_aload_n hx hb dX9_addWord_7 rfl (lv_at hl 1 rfl) ?_
  refine c_get E G 1 1 (Nat.lt_of_lt_of_le (by decide) hN) hS1 rfl (fun w h => .tail _ (iA_18 h)) (by decide) (.tail _ qA_632) rfl rfl dX9_addWord_8 ?_
  refine lv_sipush (v := 1000) hx hb dX9_addWord_11 (by decide) ?_
  refine lv_icmp_ge (tgt := 43) hx hb dX9_addWord_14 (by decide) (fun c9 => absurd c9 (by decide +kernel)) (fun c9 => ?_)
  refine lv_aload_n hx hb dX9_addWord_17 rfl (lv_at hl 1 rfl) ?_
  refine c_get E G 1 0 (Nat.lt_of_lt_of_le (by decide) hN) hS1 rfl (fun w h => .tail _ (iA_18 h)) (by decide) (.tail _ qA_192) rfl rfl dX9_addWord_18 ?_
  refine lv_aload_n hx hb dX9_addWord_21 rfl (lv_at hl 1 rfl) ?_
  refine c_get E G 1 1 (Nat.lt_of_lt_of_le (by decide) hN) hS1 rfl (fun w h => .tail _ (iA_18 h)) (by decide) (.tail _ qA_632) rfl rfl dX9_addWord_22 ?_
  refine lv_iload_n hx hb dX9_addWord_25 rfl (lv_at hl 2 rfl) ?_
  refine lv_iload_n hx hb dX9_addWord_26 rfl (lv_at hl 0 rfl) ?_
  refine lv_iushr hx hb dX9_addWord_27 rfl ?_
  refine lv_topi (fun v10 ev10 => ?_)
  refine lv_sipush (v := 255) hx hb dX9_addWord_28 (by decide) ?_
  refine lv_iand hx hb dX9_addWord_31 ?_
  refine lv_topi (fun v11 ev11 => ?_)
  refine c_iast E G 2 0 (k := 5) (Nat.lt_of_lt_of_le (by decide) hN) hS2 ht0 rfl (by decide) (by decide) dX9_addWord_32 (fun H locs G => ?_)
  have G : cG D ad N A s.heap H locs (va_up S7 2 (.inl (cI, 1000, .inl (upd f6 5 v11)))) := G
  have hS0 := (va_up_ne S7 (.inl (cI, 1000, .inl (upd f6 5 v11)) : va_E) (show 0 ≠ 2 by decide)).trans hS0
  have hS1 := (va_up_ne S7 (.inl (cI, 1000, .inl (upd f6 5 v11)) : va_E) (show 1 ≠ 2 by decide)).trans hS1
  have hS2 := va_up_self S7 2 (.inl (cI, 1000, .inl (upd f6 5 v11)) : va_E)
  generalize va_up S7 2 (.inl (cI, 1000, .inl (upd f6 5 v11))) = S12 at G hS0 hS1 hS2
  generalize (upd f6 5 v11) = f13 at hS2
  refine lv_aload_n hx hb dX9_addWord_33 rfl (lv_at hl 1 rfl) ?_
  refine lv_dup hx hb dX9_addWord_34 rfl ?_
  refine c_get E G 1 1 (Nat.lt_of_lt_of_le (by decide) hN) hS1 rfl (fun w h => .tail _ (iA_18 h)) (by decide) (.tail _ qA_632) rfl rfl dX9_addWord_35 ?_
  refine lv_iconst (v := 1) hx hb dX9_addWord_38 (by decide) ?_
  refine lv_iadd hx hb dX9_addWord_39 ?_
  refine lv_to (y := 6) (by decide +kernel) ?_
  refine c_put E G 1 1 (Nat.lt_of_lt_of_le (by decide) hN) hS1 rfl (fun w h => .tail _ (iA_18 h)) tyX9 tyX9_ok nmX9 (by decide) (.tail _ qA_632) ⟨rfl, rfl, rfl⟩ rfl rfl (Nat.le_of_ble_eq_true rfl) dX9_addWord_40 (fun H locs G => ?_)
  have G : cG D ad N A s.heap H locs (va_up S12 1 (.inr (9, [.ref (ad 2), .int 6, .ref (ad 3), .ref (ad 4), .ref (ad 5), .int 0]))) := G
  have hS0 := (va_up_ne S12 (.inr (9, [.ref (ad 2), .int 6, .ref (ad 3), .ref (ad 4), .ref (ad 5), .int 0]) : va_E) (show 0 ≠ 1 by decide)).trans hS0
  have hS1 := va_up_self S12 1 (.inr (9, [.ref (ad 2), .int 6, .ref (ad 3), .ref (ad 4), .ref (ad 5), .int 0]) : va_E)
  have hS2 := (va_up_ne S12 (.inr (9, [.ref (ad 2), .int 6, .ref (ad 3), .ref (ad 4), .ref (ad 5), .int 0]) : va_E) (show 2 ≠ 1 by decide)).trans hS2
  generalize va_up S12 1 (.inr (9, [.ref (ad 2), .int 6, .ref (ad 3), .ref (ad 4), .ref (ad 5), .int 0])) = S14 at G hS0 hS1 hS2
  refine lv_iinc (v := 8) (lv' := [(2, .int 8), (0, .ref (ad 1)), (1, .int x)]) hx hb dX9_addWord_43 hl (k := 0) rfl (by decide +kernel) (by decide) rfl (fun ls hl => ?_)
  refine lv_goto (tgt := 3) hx hb dX9_addWord_46 (by decide) ?_
  refine lv_iload_n hx hb dX9_addWord_3 rfl (lv_at hl 0 rfl) ?_
  refine lv_if_lt (tgt := 49) hx hb dX9_addWord_4 (by decide) (fun c15 => absurd c15 (by decide +kernel)) (fun c15 => ?_)
  refine lv_aload_n hx hb dX9_addWord_7 rfl (lv_at hl 1 rfl) ?_
  refine c_get E G 1 1 (Nat.lt_of_lt_of_le (by decide) hN) hS1 rfl (fun w h => .tail _ (iA_18 h)) (by decide) (.tail _ qA_632) rfl rfl dX9_addWord_8 ?_
  refine lv_sipush (v := 1000) hx hb dX9_addWord_11 (by decide) ?_
  refine lv_icmp_ge (tgt := 43) hx hb dX9_addWord_14 (by decide) (fun c16 => absurd c16 (by decide +kernel)) (fun c16 => ?_)
  refine lv_aload_n hx hb dX9_addWord_17 rfl (lv_at hl 1 rfl) ?_
  refine c_get E G 1 0 (Nat.lt_of_lt_of_le (by decide) hN) hS1 rfl (fun w h => .tail _ (iA_18 h)) (by decide) (.tail _ qA_192) rfl rfl dX9_addWord_18 ?_
  refine lv_aload_n hx hb dX9_addWord_21 rfl (lv_at hl 1 rfl) ?_
  refine c_get E G 1 1 (Nat.lt_of_lt_of_le (by decide) hN) hS1 rfl (fun w h => .tail _ (iA_18 h)) (by decide) (.tail _ qA_632) rfl rfl dX9_addWord_22 ?_
  refine lv_iload_n hx hb dX9_addWord_25 rfl (lv_at hl 2 rfl) ?_
  refine lv_iload_n hx hb dX9_addWord_26 rfl (lv_at hl 0 rfl) ?_
  refine lv_iushr hx hb dX9_addWord_27 rfl ?_
  refine lv_topi (fun v17 ev17 => ?_)
  refine lv_sipush (v := 255) hx hb dX9_addWord_28 (by decide) ?_
  refine lv_iand hx hb dX9_addWord_31 ?_
  refine lv_topi (fun v18 ev18 => ?_)
  refine c_iast E G 2 0 (k := 6) (Nat.lt_of_lt_of_le (by decide) hN) hS2 ht0 rfl (by decide) (by decide) dX9_addWord_32 (fun H locs G => ?_)
  have G : cG D ad N A s.heap H locs (va_up S14 2 (.inl (cI, 1000, .inl (upd f13 6 v18)))) := G
  have hS0 := (va_up_ne S14 (.inl (cI, 1000, .inl (upd f13 6 v18)) : va_E) (show 0 ≠ 2 by decide)).trans hS0
  have hS1 := (va_up_ne S14 (.inl (cI, 1000, .inl (upd f13 6 v18)) : va_E) (show 1 ≠ 2 by decide)).trans hS1
  have hS2 := va_up_self S14 2 (.inl (cI, 1000, .inl (upd f13 6 v18)) : va_E)
  generalize va_up S14 2 (.inl (cI, 1000, .inl (upd f13 6 v18))) = S19 at G hS0 hS1 hS2
  generalize (upd f13 6 v18) = f20 at hS2
  refine lv_aload_n hx hb dX9_addWord_33 rfl (lv_at hl 1 rfl) ?_
  refine lv_dup hx hb dX9_addWord_34 rfl ?_
  refine c_get E G 1 1 (Nat.lt_of_lt_of_le (by decide) hN) hS1 rfl (fun w h => .tail _ (iA_18 h)) (by decide) (.tail _ qA_632) rfl rfl dX9_addWord_35 ?_
  refine lv_iconst (v := 1) hx hb dX9_addWord_38 (by decide) ?_
  refine lv_iadd hx hb dX9_addWord_39 ?_
  refine lv_to (y := 7) (by decide +kernel) ?_
  refine c_put E G 1 1 (Nat.lt_of_lt_of_le (by decide) hN) hS1 rfl (fun w h => .tail _ (iA_18 h)) tyX9 tyX9_ok nmX9 (by decide) (.tail _ qA_632) ⟨rfl, rfl, rfl⟩ rfl rfl (Nat.le_of_ble_eq_true rfl) dX9_addWord_40 (fun H locs G => ?_)
  have G : cG D ad N A s.heap H locs (va_up S19 1 (.inr (9, [.ref (ad 2), .int 7, .ref (ad 3), .ref (ad 4), .ref (ad 5), .int 0]))) := G
  have hS0 := (va_up_ne S19 (.inr (9, [.ref (ad 2), .int 7, .ref (ad 3), .ref (ad 4), .ref (ad 5), .int 0]) : va_E) (show 0 ≠ 1 by decide)).trans hS0
  have hS1 := va_up_self S19 1 (.inr (9, [.ref (ad 2), .int 7, .ref (ad 3), .ref (ad 4), .ref (ad 5), .int 0]) : va_E)
  have hS2 := (va_up_ne S19 (.inr (9, [.ref (ad 2), .int 7, .ref (ad 3), .ref (ad 4), .ref (ad 5), .int 0]) : va_E) (show 2 ≠ 1 by decide)).trans hS2
  generalize va_up S19 1 (.inr (9, [.ref (ad 2), .int 7, .ref (ad 3), .ref (ad 4), .ref (ad 5), .int 0])) = S21 at G hS0 hS1 hS2
  refine lv_iinc (v := 0) (lv' := [(2, .int 0), (0, .ref (ad 1)), (1, .int x)]) hx hb dX9_addWord_43 hl (k := 0) rfl (by decide +kernel) (by decide) rfl (fun ls hl => ?_)
  refine lv_goto (tgt := 3) hx hb dX9_addWord_46 (by decide) ?_
  refine lv_iload_n hx hb dX9_addWord_3 rfl (lv_at hl 0 rfl) ?_
  refine lv_if_lt (tgt := 49) hx hb dX9_addWord_4 (by decide) (fun c22 => absurd c22 (by decide +kernel)) (fun c22 => ?_)
  refine lv_aload_n hx hb dX9_addWord_7 rfl (lv_at hl 1 rfl) ?_
  refine c_get E G 1 1 (Nat.lt_of_lt_of_le (by decide) hN) hS1 rfl (fun w h => .tail _ (iA_18 h)) (by decide) (.tail _ qA_632) rfl rfl dX9_addWord_8 ?_
  refine lv_sipush (v := 1000) hx hb dX9_addWord_11 (by decide) ?_
  refine lv_icmp_ge (tgt := 43) hx hb dX9_addWord_14 (by decide) (fun c23 => absurd c23 (by decide +kernel)) (fun c23 => ?_)
  refine lv_aload_n hx hb dX9_addWord_17 rfl (lv_at hl 1 rfl) ?_
  refine c_get E G 1 0 (Nat.lt_of_lt_of_le (by decide) hN) hS1 rfl (fun w h => .tail _ (iA_18 h)) (by decide) (.tail _ qA_192) rfl rfl dX9_addWord_18 ?_
  refine lv_aload_n hx hb dX9_addWord_21 rfl (lv_at hl 1 rfl) ?_
  refine c_get E G 1 1 (Nat.lt_of_lt_of_le (by decide) hN) hS1 rfl (fun w h => .tail _ (iA_18 h)) (by decide) (.tail _ qA_632) rfl rfl dX9_addWord_22 ?_
  refine lv_iload_n hx hb dX9_addWord_25 rfl (lv_at hl 2 rfl) ?_
  refine lv_iload_n hx hb dX9_addWord_26 rfl (lv_at hl 0 rfl) ?_
  refine lv_iushr hx hb dX9_addWord_27 rfl ?_
  refine lv_topi (fun v24 ev24 => ?_)
  refine lv_sipush (v := 255) hx hb dX9_addWord_28 (by decide) ?_
  refine lv_iand hx hb dX9_addWord_31 ?_
  refine lv_topi (fun v25 ev25 => ?_)
  refine c_iast E G 2 0 (k := 7) (Nat.lt_of_lt_of_le (by decide) hN) hS2 ht0 rfl (by decide) (by decide) dX9_addWord_32 (fun H locs G => ?_)
  have G : cG D ad N A s.heap H locs (va_up S21 2 (.inl (cI, 1000, .inl (upd f20 7 v25)))) := G
  have hS0 := (va_up_ne S21 (.inl (cI, 1000, .inl (upd f20 7 v25)) : va_E) (show 0 ≠ 2 by decide)).trans hS0
  have hS1 := (va_up_ne S21 (.inl (cI, 1000, .inl (upd f20 7 v25)) : va_E) (show 1 ≠ 2 by decide)).trans hS1
  have hS2 := va_up_self S21 2 (.inl (cI, 1000, .inl (upd f20 7 v25)) : va_E)
  generalize va_up S21 2 (.inl (cI, 1000, .inl (upd f20 7 v25))) = S26 at G hS0 hS1 hS2
  generalize (upd f20 7 v25) = f27 at hS2
  refine lv_aload_n hx hb dX9_addWord_33 rfl (lv_at hl 1 rfl) ?_
  refine lv_dup hx hb dX9_addWord_34 rfl ?_
  refine c_get E G 1 1 (Nat.lt_of_lt_of_le (by decide) hN) hS1 rfl (fun w h => .tail _ (iA_18 h)) (by decide) (.tail _ qA_632) rfl rfl dX9_addWord_35 ?_
  refine lv_iconst (v := 1) hx hb dX9_addWord_38 (by decide) ?_
  refine lv_iadd hx hb dX9_addWord_39 ?_
  refine lv_to (y := 8) (by decide +kernel) ?_
  refine c_put E G 1 1 (Nat.lt_of_lt_of_le (by decide) hN) hS1 rfl (fun w h => .tail _ (iA_18 h)) tyX9 tyX9_ok nmX9 (by decide) (.tail _ qA_632) ⟨rfl, rfl, rfl⟩ rfl rfl (Nat.le_of_ble_eq_true rfl) dX9_addWord_40 (fun H locs G => ?_)
  have G : cG D ad N A s.heap H locs (va_up S26 1 (.inr (9, [.ref (ad 2), .int 8, .ref (ad 3), .ref (ad 4), .ref (ad 5), .int 0]))) := G
  have hS0 := (va_up_ne S26 (.inr (9, [.ref (ad 2), .int 8, .ref (ad 3), .ref (ad 4), .ref (ad 5), .int 0]) : va_E) (show 0 ≠ 1 by decide)).trans hS0
  have hS1 := va_up_self S26 1 (.inr (9, [.ref (ad 2), .int 8, .ref (ad 3), .ref (ad 4), .ref (ad 5), .int 0]) : va_E)
  have hS2 := (va_up_ne S26 (.inr (9, [.ref (ad 2), .int 8, .ref (ad 3), .ref (ad 4), .ref (ad 5), .int 0]) : va_E) (show 2 ≠ 1 by decide)).trans hS2
  generalize va_up S26 1 (.inr (9, [.ref (ad 2), .int 8, .ref (ad 3), .ref (ad 4), .ref (ad 5), .int 0])) = S28 at G hS0 hS1 hS2
  refine lv_iinc (v := (-8)) (lv' := [(2, .int (-8)), (0, .ref (ad 1)), (1, .int x)]) hx hb dX9_addWord_43 hl (k := 0) rfl (by decide +kernel) (by decide) rfl (fun ls hl => ?_)
  refine lv_goto (tgt := 3) hx hb dX9_addWord_46 (by decide) ?_
  refine lv_iload_n hx hb dX9_addWord_3 rfl (lv_at hl 0 rfl) ?_
  refine lv_if_lt (tgt := 49) hx hb dX9_addWord_4 (by decide) (fun c29 => ?_) (fun c29 => absurd (by decide +kernel) c29)
  exact W.vret hx hb hr (fun t ht hW => ⟨⟨S28, rfl, ⟨_, hS0, hS1, hS2⟩, ⟨by rw [ht]; exact G.1, va_K.moved hW.alike hK, G.2.1⟩⟩, G.2.2.F ht⟩) G.2.2.2.2 dX9_addWord_49
set_option maxHeartbeats 4000000 in
set_option maxRecDepth 100000 in
theorem f_addWord_8 (l : Launch) (hst : l.stackTraces = false) (D : va_G) (tys : List (ClassId × FieldType)) (ad : Nat → Nat) (N : Nat) (S : Nat → va_E) (cI cJ cZ cMic cSrc cSt cAI cAJ : ClassId) (hN : 1586 ≤ N) (ht0 : tys[0]? = some (cI, .int)) (ht2 : tys[2]? = some (cZ, .boolean)) {g : Nat → Int32} (hS0 : S 0 = .inr (11, [.ref (ad 1), .ref (ad 6), .ref (ad 7), .ref (ad 22), .ref (ad 66), .ref (ad 154), .ref (ad 242), .ref (ad 336), .ref (ad 430), .ref (ad 431), .ref (ad 432), .ref (ad 433), .ref (ad 434), .ref (ad 477), .ref (ad 478), .ref (ad 656), .int 0, .int 0, .int 0])) (hS1 : S 1 = .inr (9, [.ref (ad 2), .int 8, .ref (ad 3), .ref (ad 4), .ref (ad 5), .int 0])) (hS2 : S 2 = .inl (cI, 1000, .inl g)) (x : Int32) : cCv l yX9_addWord (Cond.code yX9_addWord cX9_addWord 3 none :: wsA) 1 0 D tys ad N S [.ref (ad 1), .int x] (fun u => ∃ f : Nat → Int32, u 0 = .inr (11, [.ref (ad 1), .ref (ad 6), .ref (ad 7), .ref (ad 22), .ref (ad 66), .ref (ad 154), .ref (ad 242), .ref (ad 336), .ref (ad 430), .ref (ad 431), .ref (ad 432), .ref (ad 433), .ref (ad 434), .ref (ad 477), .ref (ad 478), .ref (ad 656), .int 0, .int 0, .int 0]) ∧ u 1 = .inr (9, [.ref (ad 2), .int 12, .ref (ad 3), .ref (ad 4), .ref (ad 5), .int 0]) ∧ u 2 = .inl (cI, 1000, .inl f)) := by
  intro sz
  refine Met.ofW (cc := cX9_addWord) (maxL := 3) (ret := none) (by decide) rfl ?_
  intro p e s m args below meth c s₁ B hml hv
  obtain ⟨rfl, hsz, hP, hK, hD0, hX⟩ := hv
  have hx := B.exec
  have hb := B.bytes
  have hr := B.returns
  have hts := atoms_spec (ws := (Cond.code yX9_addWord cX9_addWord 3 none :: wsA)) B.pre
  have hown : s.vm.findClass RX9 = some m.cls := findClass_of_methodNamed B.named
  have hlocks := B.notSynchronized
  subst hsz
  have hD := hD0.self (sz := s.heap.size)
  generalize hAe : va_A (cW ad N S) s.heap.size = A at hD hX ⊢
  have hA : ∀ q : Nat, s.heap.size ≤ q → A q := fun q h => by rw [← hAe]; exact Or.inr h
  have G : cG D ad N A s.heap s.heap [] S := ⟨hP, hD, va_S.rf⟩
  have E : cE p c cX9_addWord s m ([.ref (ad 1), .int x] : List Value).toArray (Cond.code yX9_addWord cX9_addWord 3 none :: wsA) D RX9 tys := ⟨hx, hb, hts, hown, hK⟩
  have hl := lv_entry ([.ref (ad 1), .int x]) (n := 3) (Nat.le_of_ble_eq_true rfl)
  rw [lg_entry_eq]
  generalize (lg_sl ([.ref (ad 1), .int x]) ++ List.replicate (3 - (lg_sl ([.ref (ad 1), .int x])).length) Slot.unset).toArray = ls at hl ⊢
  have hl : lv_has ls 3 [(0, .ref (ad 1)), (1, .int x)] := hl
  refine lv_bipush (v := 24) hx hb dX9_addWord_0 (by decide) ?_
  refine lv_istore_n (lv' := [(2, .int 24), (0, .ref (ad 1)), (1, .int x)]) hx hb dX9_addWord_2 rfl hl (by decide) rfl (fun ls hl => ?_)
  refine lv_iload_n hx hb dX9_addWord_3 rfl (lv_at hl 0 rfl) ?_
  refine lv_if_lt (tgt := 49) hx hb dX9_addWord_4 (by decide) (fun c1 => absurd c1 (by decide +kernel)) (fun c1 => ?_)
  refine lv_aload_n hx hb dX9_addWord_7 rfl (lv_at hl 1 rfl) ?_
  refine c_get E G 1 1 (Nat.lt_of_lt_of_le (by decide) hN) hS1 rfl (fun w h => .tail _ (iA_18 h)) (by decide) (.tail _ qA_632) rfl rfl dX9_addWord_8 ?_
  refine lv_sipush (v := 1000) hx hb dX9_addWord_11 (by decide) ?_
  refine lv_icmp_ge (tgt := 43) hx hb dX9_addWord_14 (by decide) (fun c2 => absurd c2 (by decide +kernel)) (fun c2 => ?_)
  refine lv_aload_n hx hb dX9_addWord_17 rfl (lv_at hl 1 rfl) ?_
  refine c_get E G 1 0 (Nat.lt_of_lt_of_le (by decide) hN) hS1 rfl (fun w h => .tail _ (iA_18 h)) (by decide) (.tail _ qA_192) rfl rfl dX9_addWord_18 ?_
  refine lv_aload_n hx hb dX9_addWord_21 rfl (lv_at hl 1 rfl) ?_
  refine c_get E G 1 1 (Nat.lt_of_lt_of_le (by decide) hN) hS1 rfl (fun w h => .tail _ (iA_18 h)) (by decide) (.tail _ qA_632) rfl rfl dX9_addWord_22 ?_
  refine lv_iload_n hx hb dX9_addWord_25 rfl (lv_at hl 2 rfl) ?_
  refine lv_iload_n hx hb dX9_addWord_26 rfl (lv_at hl 0 rfl) ?_
  refine lv_iushr hx hb dX9_addWord_27 rfl ?_
  refine lv_topi (fun v3 ev3 => ?_)
  refine lv_sipush (v := 255) hx hb dX9_addWord_28 (by decide) ?_
  refine lv_iand hx hb dX9_addWord_31 ?_
  refine lv_topi (fun v4 ev4 => ?_)
  refine c_iast E G 2 0 (k := 8) (Nat.lt_of_lt_of_le (by decide) hN) hS2 ht0 rfl (by decide) (by decide) dX9_addWord_32 (fun H locs G => ?_)
  have G : cG D ad N A s.heap H locs (va_up S 2 (.inl (cI, 1000, .inl (upd g 8 v4)))) := G
  have hS0 := (va_up_ne S (.inl (cI, 1000, .inl (upd g 8 v4)) : va_E) (show 0 ≠ 2 by decide)).trans hS0
  have hS1 := (va_up_ne S (.inl (cI, 1000, .inl (upd g 8 v4)) : va_E) (show 1 ≠ 2 by decide)).trans hS1
  have hS2 := va_up_self S 2 (.inl (cI, 1000, .inl (upd g 8 v4)) : va_E)
  generalize va_up S 2 (.inl (cI, 1000, .inl (upd g 8 v4))) = S5 at G hS0 hS1 hS2
  generalize (upd g 8 v4) = f6 at hS2
  refine lv_aload_n hx hb dX9_addWord_33 rfl (lv_at hl 1 rfl) ?_
  refine lv_dup hx hb dX9_addWord_34 rfl ?_
  refine c_get E G 1 1 (Nat.lt_of_lt_of_le (by decide) hN) hS1 rfl (fun w h => .tail _ (iA_18 h)) (by decide) (.tail _ qA_632) rfl rfl dX9_addWord_35 ?_
  refine lv_iconst (v := 1) hx hb dX9_addWord_38 (by decide) ?_
  refine lv_iadd hx hb dX9_addWord_39 ?_
  refine lv_to (y := 9) (by decide +kernel) ?_
  refine c_put E G 1 1 (Nat.lt_of_lt_of_le (by decide) hN) hS1 rfl (fun w h => .tail _ (iA_18 h)) tyX9 tyX9_ok nmX9 (by decide) (.tail _ qA_632) ⟨rfl, rfl, rfl⟩ rfl rfl (Nat.le_of_ble_eq_true rfl) dX9_addWord_40 (fun H locs G => ?_)
  have G : cG D ad N A s.heap H locs (va_up S5 1 (.inr (9, [.ref (ad 2), .int 9, .ref (ad 3), .ref (ad 4), .ref (ad 5), .int 0]))) := G
  have hS0 := (va_up_ne S5 (.inr (9, [.ref (ad 2), .int 9, .ref (ad 3), .ref (ad 4), .ref (ad 5), .int 0]) : va_E) (show 0 ≠ 1 by decide)).trans hS0
  have hS1 := va_up_self S5 1 (.inr (9, [.ref (ad 2), .int 9, .ref (ad 3), .ref (ad 4), .ref (ad 5), .int 0]) : va_E)
  have hS2 := (va_up_ne S5 (.inr (9, [.ref (ad 2), .int 9, .ref (ad 3), .ref (ad 4), .ref (ad 5), .int 0]) : va_E) (show 2 ≠ 1 by decide)).trans hS2
  generalize va_up S5 1 (.inr (9, [.ref (ad 2), .int 9, .ref (ad 3), .ref (ad 4), .ref (ad 5), .int 0])) = S7 at G hS0 hS1 hS2
  refine lv_iinc (v := 16) (lv' := [(2, .int 16), (0, .ref (ad 1)), (1, .int x)]) hx hb dX9_addWord_43 hl (k := 0) rfl (by decide +kernel) (by decide) rfl (fun ls hl => ?_)
  refine lv_goto (tgt := 3) hx hb dX9_addWord_46 (by decide) ?_
  refine lv_iload_n hx hb dX9_addWord_3 rfl (lv_at hl 0 rfl) ?_
  refine lv_if_lt (tgt := 49) hx hb dX9_addWord_4 (by decide) (fun c8 => absurd c8 (by decide +kernel)) (fun c8 => ?_)
  refine lv_aload_n hx hb dX9_addWord_7 rfl (lv_at hl 1 rfl) ?_
  refine c_get E G 1 1 (Nat.lt_of_lt_of_le (by decide) hN) hS1 rfl (fun w h => .tail _ (iA_18 h)) (by decide) (.tail _ qA_632) rfl rfl dX9_addWord_8 ?_
  refine lv_sipush (v := 1000) hx hb dX9_addWord_11 (by decide) ?_
  refine lv_icmp_ge (tgt := 43) hx hb dX9_addWord_14 (by decide) (fun c9 => absurd c9 (by decide +kernel)) (fun c9 => ?_)
  refine lv_aload_n hx hb dX9_addWord_17 rfl (lv_at hl 1 rfl) ?_
  refine c_get E G 1 0 (Nat.lt_of_lt_of_le (by decide) hN) hS1 rfl (fun w h => .tail _ (iA_18 h)) (by decide) (.tail _ qA_192) rfl rfl dX9_addWord_18 ?_
  refine lv_aload_n hx hb dX9_addWord_21 rfl (lv_at hl 1 rfl) ?_
  refine c_get E G 1 1 (Nat.lt_of_lt_of_le (by decide) hN) hS1 rfl (fun w h => .tail _ (iA_18 h)) (by decide) (.tail _ qA_632) rfl rfl dX9_addWord_22 ?_
  refine lv_iload_n hx hb dX9_addWord_25 rfl (lv_at hl 2 rfl) ?_
  refine lv_iload_n hx hb dX9_addWord_26 rfl (lv_at hl 0 rfl) ?_
  refine lv_iushr hx hb dX9_addWord_27 rfl ?_
  refine lv_topi (fun v10 ev10 => ?_)
  refine lv_sipush (v := 255) hx hb dX9_addWord_28 (by decide) ?_
  refine lv_iand hx hb dX9_addWord_31 ?_
  refine lv_topi (fun v11 ev11 => ?_)
  refine c_iast E G 2 0 (k := 9) (Nat.lt_of_lt_of_le (by decide) hN) hS2 ht0 rfl (by decide) (by decide) dX9_addWord_32 (fun H locs G => ?_)
  have G : cG D ad N A s.heap H locs (va_up S7 2 (.inl (cI, 1000, .inl (upd f6 9 v11)))) := G
  have hS0 := (va_up_ne S7 (.inl (cI, 1000, .inl (upd f6 9 v11)) : va_E) (show 0 ≠ 2 by decide)).trans hS0
  have hS1 := (va_up_ne S7 (.inl (cI, 1000, .inl (upd f6 9 v11)) : va_E) (show 1 ≠ 2 by decide)).trans hS1
  have hS2 := va_up_self S7 2 (.inl (cI, 1000, .inl (upd f6 9 v11)) : va_E)
  generalize va_up S7 2 (.inl (cI, 1000, .inl (upd f6 9 v11))) = S12 at G hS0 hS1 hS2
  generalize (upd f6 9 v11) = f13 at hS2
  refine lv_aload_n hx hb dX9_addWord_33 rfl (lv_at hl 1 rfl) ?_
  refine lv_dup hx hb dX9_addWord_34 rfl ?_
  refine c_get E G 1 1 (Nat.lt_of_lt_of_le (by decide) hN) hS1 rfl (fun w h => .tail _ (iA_18 h)) (by decide) (.tail _ qA_632) rfl rfl dX9_addWord_35 ?_
  refine lv_iconst (v := 1) hx hb dX9_addWord_38 (by decide) ?_
  refine lv_iadd hx hb dX9_addWord_39 ?_
  refine lv_to (y := 10) (by decide +kernel) ?_
  refine c_put E G 1 1 (Nat.lt_of_lt_of_le (by decide) hN) hS1 rfl (fun w h => .tail _ (iA_18 h)) tyX9 tyX9_ok nmX9 (by decide) (.tail _ qA_632) ⟨rfl, rfl, rfl⟩ rfl rfl (Nat.le_of_ble_eq_true rfl) dX9_addWord_40 (fun H locs G => ?_)
  have G : cG D ad N A s.heap H locs (va_up S12 1 (.inr (9, [.ref (ad 2), .int 10, .ref (ad 3), .ref (ad 4), .ref (ad 5), .int 0]))) := G
  have hS0 := (va_up_ne S12 (.inr (9, [.ref (ad 2), .int 10, .ref (ad 3), .ref (ad 4), .ref (ad 5), .int 0]) : va_E) (show 0 ≠ 1 by decide)).trans hS0
  have hS1 := va_up_self S12 1 (.inr (9, [.ref (ad 2), .int 10, .ref (ad 3), .ref (ad 4), .ref (ad 5), .int 0]) : va_E)
  have hS2 := (va_up_ne S12 (.inr (9, [.ref (ad 2), .int 10, .ref (ad 3), .ref (ad 4), .ref (ad 5), .int 0]) : va_E) (show 2 ≠ 1 by decide)).trans hS2
  generalize va_up S12 1 (.inr (9, [.ref (ad 2), .int 10, .ref (ad 3), .ref (ad 4), .ref (ad 5), .int 0])) = S14 at G hS0 hS1 hS2
  refine lv_iinc (v := 8) (lv' := [(2, .int 8), (0, .ref (ad 1)), (1, .int x)]) hx hb dX9_addWord_43 hl (k := 0) rfl (by decide +kernel) (by decide) rfl (fun ls hl => ?_)
  refine lv_goto (tgt := 3) hx hb dX9_addWord_46 (by decide) ?_
  refine lv_iload_n hx hb dX9_addWord_3 rfl (lv_at hl 0 rfl) ?_
  refine lv_if_lt (tgt := 49) hx hb dX9_addWord_4 (by decide) (fun c15 => absurd c15 (by decide +kernel)) (fun c15 => ?_)
  refine lv_aload_n hx hb dX9_addWord_7 rfl (lv_at hl 1 rfl) ?_
  refine c_get E G 1 1 (Nat.lt_of_lt_of_le (by decide) hN) hS1 rfl (fun w h => .tail _ (iA_18 h)) (by decide) (.tail _ qA_632) rfl rfl dX9_addWord_8 ?_
  refine lv_sipush (v := 1000) hx hb dX9_addWord_11 (by decide) ?_
  refine lv_icmp_ge (tgt := 43) hx hb dX9_addWord_14 (by decide) (fun c16 => absurd c16 (by decide +kernel)) (fun c16 => ?_)
  refine lv_aload_n hx hb dX9_addWord_17 rfl (lv_at hl 1 rfl) ?_
  refine c_get E G 1 0 (Nat.lt_of_lt_of_le (by decide) hN) hS1 rfl (fun w h => .tail _ (iA_18 h)) (by decide) (.tail _ qA_192) rfl rfl dX9_addWord_18 ?_
  refine lv_aload_n hx hb dX9_addWord_21 rfl (lv_at hl 1 rfl) ?_
  refine c_get E G 1 1 (Nat.lt_of_lt_of_le (by decide) hN) hS1 rfl (fun w h => .tail _ (iA_18 h)) (by decide) (.tail _ qA_632) rfl rfl dX9_addWord_22 ?_
  refine lv_iload_n hx hb dX9_addWord_25 rfl (lv_at hl 2 rfl) ?_
  refine lv_iload_n hx hb dX9_addWord_26 rfl (lv_at hl 0 rfl) ?_
  refine lv_iushr hx hb dX9_addWord_27 rfl ?_
  refine lv_topi (fun v17 ev17 => ?_)
  refine lv_sipush (v := 255) hx hb dX9_addWord_28 (by decide) ?_
  refine lv_iand hx hb dX9_addWord_31 ?_
  refine lv_topi (fun v18 ev18 => ?_)
  refine c_iast E G 2 0 (k := 10) (Nat.lt_of_lt_of_le (by decide) hN) hS2 ht0 rfl (by decide) (by decide) dX9_addWord_32 (fun H locs G => ?_)
  have G : cG D ad N A s.heap H locs (va_up S14 2 (.inl (cI, 1000, .inl (upd f13 10 v18)))) := G
  have hS0 := (va_up_ne S14 (.inl (cI, 1000, .inl (upd f13 10 v18)) : va_E) (show 0 ≠ 2 by decide)).trans hS0
  have hS1 := (va_up_ne S14 (.inl (cI, 1000, .inl (upd f13 10 v18)) : va_E) (show 1 ≠ 2 by decide)).trans hS1
  have hS2 := va_up_self S14 2 (.inl (cI, 1000, .inl (upd f13 10 v18)) : va_E)
  generalize va_up S14 2 (.inl (cI, 1000, .inl (upd f13 10 v18))) = S19 at G hS0 hS1 hS2
  generalize (upd f13 10 v18) = f20 at hS2
  refine lv_aload_n hx hb dX9_addWord_33 rfl (lv_at hl 1 rfl) ?_
  refine lv_dup hx hb dX9_addWord_34 rfl ?_
  refine c_get E G 1 1 (Nat.lt_of_lt_of_le (by decide) hN) hS1 rfl (fun w h => .tail _ (iA_18 h)) (by decide) (.tail _ qA_632) rfl rfl dX9_addWord_35 ?_
  refine lv_iconst (v := 1) hx hb dX9_addWord_38 (by decide) ?_
  refine lv_iadd hx hb dX9_addWord_39 ?_
  refine lv_to (y := 11) (by decide +kernel) ?_
  refine c_put E G 1 1 (Nat.lt_of_lt_of_le (by decide) hN) hS1 rfl (fun w h => .tail _ (iA_18 h)) tyX9 tyX9_ok nmX9 (by decide) (.tail _ qA_632) ⟨rfl, rfl, rfl⟩ rfl rfl (Nat.le_of_ble_eq_true rfl) dX9_addWord_40 (fun H locs G => ?_)
  have G : cG D ad N A s.heap H locs (va_up S19 1 (.inr (9, [.ref (ad 2), .int 11, .ref (ad 3), .ref (ad 4), .ref (ad 5), .int 0]))) := G
  have hS0 := (va_up_ne S19 (.inr (9, [.ref (ad 2), .int 11, .ref (ad 3), .ref (ad 4), .ref (ad 5), .int 0]) : va_E) (show 0 ≠ 1 by decide)).trans hS0
  have hS1 := va_up_self S19 1 (.inr (9, [.ref (ad 2), .int 11, .ref (ad 3), .ref (ad 4), .ref (ad 5), .int 0]) : va_E)
  have hS2 := (va_up_ne S19 (.inr (9, [.ref (ad 2), .int 11, .ref (ad 3), .ref (ad 4), .ref (ad 5), .int 0]) : va_E) (show 2 ≠ 1 by decide)).trans hS2
  generalize va_up S19 1 (.inr (9, [.ref (ad 2), .int 11, .ref (ad 3), .ref (ad 4), .ref (ad 5), .int 0])) = S21 at G hS0 hS1 hS2
  refine lv_iinc (v := 0) (lv' := [(2, .int 0), (0, .ref (ad 1)), (1, .int x)]) hx hb dX9_addWord_43 hl (k := 0) rfl (by decide +kernel) (by decide) rfl (fun ls hl => ?_)
  refine lv_goto (tgt := 3) hx hb dX9_addWord_46 (by decide) ?_
  refine lv_iload_n hx hb dX9_addWord_3 rfl (lv_at hl 0 rfl) ?_
  refine lv_if_lt (tgt := 49) hx hb dX9_addWord_4 (by decide) (fun c22 => absurd c22 (by decide +kernel)) (fun c22 => ?_)
  refine lv_aload_n hx hb dX9_addWord_7 rfl (lv_at hl 1 rfl) ?_
  refine c_get E G 1 1 (Nat.lt_of_lt_of_le (by decide) hN) hS1 rfl (fun w h => .tail _ (iA_18 h)) (by decide) (.tail _ qA_632) rfl rfl dX9_addWord_8 ?_
  refine lv_sipush (v := 1000) hx hb dX9_addWord_11 (by decide) ?_
  refine lv_icmp_ge (tgt := 43) hx hb dX9_addWord_14 (by decide) (fun c23 => absurd c23 (by decide +kernel)) (fun c23 => ?_)
  refine lv_aload_n hx hb dX9_addWord_17 rfl (lv_at hl 1 rfl) ?_
  refine c_get E G 1 0 (Nat.lt_of_lt_of_le (by decide) hN) hS1 rfl (fun w h => .tail _ (iA_18 h)) (by decide) (.tail _ qA_192) rfl rfl dX9_addWord_18 ?_
  refine lv_aload_n hx hb dX9_addWord_21 rfl (lv_at hl 1 rfl) ?_
  refine c_get E G 1 1 (Nat.lt_of_lt_of_le (by decide) hN) hS1 rfl (fun w h => .tail _ (iA_18 h)) (by decide) (.tail _ qA_632) rfl rfl dX9_addWord_22 ?_
  refine lv_iload_n hx hb dX9_addWord_25 rfl (lv_at hl 2 rfl) ?_
  refine lv_iload_n hx hb dX9_addWord_26 rfl (lv_at hl 0 rfl) ?_
  refine lv_iushr hx hb dX9_addWord_27 rfl ?_
  refine lv_topi (fun v24 ev24 => ?_)
  refine lv_sipush (v := 255) hx hb dX9_addWord_28 (by decide) ?_
  refine lv_iand hx hb dX9_addWord_31 ?_
  refine lv_topi (fun v25 ev25 => ?_)
  refine c_iast E G 2 0 (k := 11) (Nat.lt_of_lt_of_le (by decide) hN) hS2 ht0 rfl (by decide) (by decide) dX9_addWord_32 (fun H locs G => ?_)
  have G : cG D ad N A s.heap H locs (va_up S21 2 (.inl (cI, 1000, .inl (upd f20 11 v25)))) := G
  have hS0 := (va_up_ne S21 (.inl (cI, 1000, .inl (upd f20 11 v25)) : va_E) (show 0 ≠ 2 by decide)).trans hS0
  have hS1 := (va_up_ne S21 (.inl (cI, 1000, .inl (upd f20 11 v25)) : va_E) (show 1 ≠ 2 by decide)).trans hS1
  have hS2 := va_up_self S21 2 (.inl (cI, 1000, .inl (upd f20 11 v25)) : va_E)
  generalize va_up S21 2 (.inl (cI, 1000, .inl (upd f20 11 v25))) = S26 at G hS0 hS1 hS2
  generalize (upd f20 11 v25) = f27 at hS2
  refine lv_aload_n hx hb dX9_addWord_33 rfl (lv_at hl 1 rfl) ?_
  refine lv_dup hx hb dX9_addWord_34 rfl ?_
  refine c_get E G 1 1 (Nat.lt_of_lt_of_le (by decide) hN) hS1 rfl (fun w h => .tail _ (iA_18 h)) (by decide) (.tail _ qA_632) rfl rfl dX9_addWord_35 ?_
  refine lv_iconst (v := 1) hx hb dX9_addWord_38 (by decide) ?_
  refine lv_iadd hx hb dX9_addWord_39 ?_
  refine lv_to (y := 12) (by decide +kernel) ?_
  refine c_put E G 1 1 (Nat.lt_of_lt_of_le (by decide) hN) hS1 rfl (fun w h => .tail _ (iA_18 h)) tyX9 tyX9_ok nmX9 (by decide) (.tail _ qA_632) ⟨rfl, rfl, rfl⟩ rfl rfl (Nat.le_of_ble_eq_true rfl) dX9_addWord_40 (fun H locs G => ?_)
  have G : cG D ad N A s.heap H locs (va_up S26 1 (.inr (9, [.ref (ad 2), .int 12, .ref (ad 3), .ref (ad 4), .ref (ad 5), .int 0]))) := G
  have hS0 := (va_up_ne S26 (.inr (9, [.ref (ad 2), .int 12, .ref (ad 3), .ref (ad 4), .ref (ad 5), .int 0]) : va_E) (show 0 ≠ 1 by decide)).trans hS0
  have hS1 := va_up_self S26 1 (.inr (9, [.ref (ad 2), .int 12, .ref (ad 3), .ref (ad 4), .ref (ad 5), .int 0]) : va_E)
  have hS2 := (va_up_ne S26 (.inr (9, [.ref (ad 2), .int 12, .ref (ad 3), .ref (ad 4), .ref (ad 5), .int 0]) : va_E) (show 2 ≠ 1 by decide)).trans hS2
  generalize va_up S26 1 (.inr (9, [.ref (ad 2), .int 12, .ref (ad 3), .ref (ad 4), .ref (ad 5), .int 0])) = S28 at G hS0 hS1 hS2
  refine lv_iinc (v := (-8)) (lv' := [(2, .int (-8)), (0, .ref (ad 1)), (1, .int x)]) hx hb dX9_addWord_43 hl (k := 0) rfl (by decide +kernel) (by decide) rfl (fun ls hl => ?_)
  refine lv_goto (tgt := 3) hx hb dX9_addWord_46 (by decide) ?_
  refine lv_iload_n hx hb dX9_addWord_3 rfl (lv_at hl 0 rfl) ?_
  refine lv_if_lt (tgt := 49) hx hb dX9_addWord_4 (by decide) (fun c29 => ?_) (fun c29 => absurd (by decide +kernel) c29)
  exact W.vret hx hb hr (fun t ht hW => ⟨⟨S28, rfl, ⟨_, hS0, hS1, hS2⟩, ⟨by rw [ht]; exact G.1, va_K.moved hW.alike hK, G.2.1⟩⟩, G.2.2.F ht⟩) G.2.2.2.2 dX9_addWord_49
set_option maxHeartbeats 4000000 in
set_option maxRecDepth 100000 in
theorem f_addWord_12 (l : Launch) (hst : l.stackTraces = false) (D : va_G) (tys : List (ClassId × FieldType)) (ad : Nat → Nat) (N : Nat) (S : Nat → va_E) (cI cJ cZ cMic cSrc cSt cAI cAJ : ClassId) (hN : 1586 ≤ N) (ht0 : tys[0]? = some (cI, .int)) (ht2 : tys[2]? = some (cZ, .boolean)) {g : Nat → Int32} (hS0 : S 0 = .inr (11, [.ref (ad 1), .ref (ad 6), .ref (ad 7), .ref (ad 22), .ref (ad 66), .ref (ad 154), .ref (ad 242), .ref (ad 336), .ref (ad 430), .ref (ad 431), .ref (ad 432), .ref (ad 433), .ref (ad 434), .ref (ad 477), .ref (ad 478), .ref (ad 656), .int 0, .int 0, .int 0])) (hS1 : S 1 = .inr (9, [.ref (ad 2), .int 12, .ref (ad 3), .ref (ad 4), .ref (ad 5), .int 0])) (hS2 : S 2 = .inl (cI, 1000, .inl g)) (x : Int32) : cCv l yX9_addWord (Cond.code yX9_addWord cX9_addWord 3 none :: wsA) 1 0 D tys ad N S [.ref (ad 1), .int x] (fun u => ∃ f : Nat → Int32, u 0 = .inr (11, [.ref (ad 1), .ref (ad 6), .ref (ad 7), .ref (ad 22), .ref (ad 66), .ref (ad 154), .ref (ad 242), .ref (ad 336), .ref (ad 430), .ref (ad 431), .ref (ad 432), .ref (ad 433), .ref (ad 434), .ref (ad 477), .ref (ad 478), .ref (ad 656), .int 0, .int 0, .int 0]) ∧ u 1 = .inr (9, [.ref (ad 2), .int 16, .ref (ad 3), .ref (ad 4), .ref (ad 5), .int 0]) ∧ u 2 = .inl (cI, 1000, .inl f)) := by
  intro sz
  refine Met.ofW (cc := cX9_addWord) (maxL := 3) (ret := none) (by decide) rfl ?_
  intro p e s m args below meth c s₁ B hml hv
  obtain ⟨rfl, hsz, hP, hK, hD0, hX⟩ := hv
  have hx := B.exec
  have hb := B.bytes
  have hr := B.returns
  have hts := atoms_spec (ws := (Cond.code yX9_addWord cX9_addWord 3 none :: wsA)) B.pre
  have hown : s.vm.findClass RX9 = some m.cls := findClass_of_methodNamed B.named
  have hlocks := B.notSynchronized
  subst hsz
  have hD := hD0.self (sz := s.heap.size)
  generalize hAe : va_A (cW ad N S) s.heap.size = A at hD hX ⊢
  have hA : ∀ q : Nat, s.heap.size ≤ q → A q := fun q h => by rw [← hAe]; exact Or.inr h
  have G : cG D ad N A s.heap s.heap [] S := ⟨hP, hD, va_S.rf⟩
  have E : cE p c cX9_addWord s m ([.ref (ad 1), .int x] : List Value).toArray (Cond.code yX9_addWord cX9_addWord 3 none :: wsA) D RX9 tys := ⟨hx, hb, hts, hown, hK⟩
  have hl := lv_entry ([.ref (ad 1), .int x]) (n := 3) (Nat.le_of_ble_eq_true rfl)
  rw [lg_entry_eq]
  generalize (lg_sl ([.ref (ad 1), .int x]) ++ List.replicate (3 - (lg_sl ([.ref (ad 1), .int x])).length) Slot.unset).toArray = ls at hl ⊢
  have hl : lv_has ls 3 [(0, .ref (ad 1)), (1, .int x)] := hl
  refine lv_bipush (v := 24) hx hb dX9_addWord_0 (by decide) ?_
  refine lv_istore_n (lv' := [(2, .int 24), (0, .ref (ad 1)), (1, .int x)]) hx hb dX9_addWord_2 rfl hl (by decide) rfl (fun ls hl => ?_)
  refine lv_iload_n hx hb dX9_addWord_3 rfl (lv_at hl 0 rfl) ?_
  refine lv_if_lt (tgt := 49) hx hb dX9_addWord_4 (by decide) (fun c1 => absurd c1 (by decide +kernel)) (fun c1 => ?_)
  refine lv_aload_n hx hb dX9_addWord_7 rfl (lv_at hl 1 rfl) ?_
  refine c_get E G 1 1 (Nat.lt_of_lt_of_le (by decide) hN) hS1 rfl (fun w h => .tail _ (iA_18 h)) (by decide) (.tail _ qA_632) rfl rfl dX9_addWord_8 ?_
  refine lv_sipush (v := 1000) hx hb dX9_addWord_11 (by decide) ?_
  refine lv_icmp_ge (tgt := 43) hx hb dX9_addWord_14 (by decide) (fun c2 => absurd c2 (by decide +kernel)) (fun c2 => ?_)
  refine lv_aload_n hx hb dX9_addWord_17 rfl (lv_at hl 1 rfl) ?_
  refine c_get E G 1 0 (Nat.lt_of_lt_of_le (by decide) hN) hS1 rfl (fun w h => .tail _ (iA_18 h)) (by decide) (.tail _ qA_192) rfl rfl dX9_addWord_18 ?_
  refine lv_aload_n hx hb dX9_addWord_21 rfl (lv_at hl 1 rfl) ?_
  refine c_get E G 1 1 (Nat.lt_of_lt_of_le (by decide) hN) hS1 rfl (fun w h => .tail _ (iA_18 h)) (by decide) (.tail _ qA_632) rfl rfl dX9_addWord_22 ?_
  refine lv_iload_n hx hb dX9_addWord_25 rfl (lv_at hl 2 rfl) ?_
  refine lv_iload_n hx hb dX9_addWord_26 rfl (lv_at hl 0 rfl) ?_
  refine lv_iushr hx hb dX9_addWord_27 rfl ?_
  refine lv_topi (fun v3 ev3 => ?_)
  refine lv_sipush (v := 255) hx hb dX9_addWord_28 (by decide) ?_
  refine lv_iand hx hb dX9_addWord_31 ?_
  refine lv_topi (fun v4 ev4 => ?_)
  refine c_iast E G 2 0 (k := 12) (Nat.lt_of_lt_of_le (by decide) hN) hS2 ht0 rfl (by decide) (by decide) dX9_addWord_32 (fun H locs G => ?_)
  have G : cG D ad N A s.heap H locs (va_up S 2 (.inl (cI, 1000, .inl (upd g 12 v4)))) := G
  have hS0 := (va_up_ne S (.inl (cI, 1000, .inl (upd g 12 v4)) : va_E) (show 0 ≠ 2 by decide)).trans hS0
  have hS1 := (va_up_ne S (.inl (cI, 1000, .inl (upd g 12 v4)) : va_E) (show 1 ≠ 2 by decide)).trans hS1
  have hS2 := va_up_self S 2 (.inl (cI, 1000, .inl (upd g 12 v4)) : va_E)
  generalize va_up S 2 (.inl (cI, 1000, .inl (upd g 12 v4))) = S5 at G hS0 hS1 hS2
  generalize (upd g 12 v4) = f6 at hS2
  refine lv_aload_n hx hb dX9_addWord_33 rfl (lv_at hl 1 rfl) ?_
  refine lv_dup hx hb dX9_addWord_34 rfl ?_
  refine c_get E G 1 1 (Nat.lt_of_lt_of_le (by decide) hN) hS1 rfl (fun w h => .tail _ (iA_18 h)) (by decide) (.tail _ qA_632) rfl rfl dX9_addWord_35 ?_
  refine lv_iconst (v := 1) hx hb dX9_addWord_38 (by decide) ?_
  refine lv_iadd hx hb dX9_addWord_39 ?_
  refine lv_to (y := 13) (by decide +kernel) ?_
  refine c_put E G 1 1 (Nat.lt_of_lt_of_le (by decide) hN) hS1 rfl (fun w h => .tail _ (iA_18 h)) tyX9 tyX9_ok nmX9 (by decide) (.tail _ qA_632) ⟨rfl, rfl, rfl⟩ rfl rfl (Nat.le_of_ble_eq_true rfl) dX9_addWord_40 (fun H locs G => ?_)
  have G : cG D ad N A s.heap H locs (va_up S5 1 (.inr (9, [.ref (ad 2), .int 13, .ref (ad 3), .ref (ad 4), .ref (ad 5), .int 0]))) := G
  have hS0 := (va_up_ne S5 (.inr (9, [.ref (ad 2), .int 13, .ref (ad 3), .ref (ad 4), .ref (ad 5), .int 0]) : va_E) (show 0 ≠ 1 by decide)).trans hS0
  have hS1 := va_up_self S5 1 (.inr (9, [.ref (ad 2), .int 13, .ref (ad 3), .ref (ad 4), .ref (ad 5), .int 0]) : va_E)
  have hS2 := (va_up_ne S5 (.inr (9, [.ref (ad 2), .int 13, .ref (ad 3), .ref (ad 4), .ref (ad 5), .int 0]) : va_E) (show 2 ≠ 1 by decide)).trans hS2
  generalize va_up S5 1 (.inr (9, [.ref (ad 2), .int 13, .ref (ad 3), .ref (ad 4), .ref (ad 5), .int 0])) = S7 at G hS0 hS1 hS2
  refine lv_iinc (v := 16) (lv' := [(2, .int 16), (0, .ref (ad 1)), (1, .int x)]) hx hb dX9_addWord_43 hl (k := 0) rfl (by decide +kernel) (by decide) rfl (fun ls hl => ?_)
  refine lv_goto (tgt := 3) hx hb dX9_addWord_46 (by decide) ?_
  refine lv_iload_n hx hb dX9_addWord_3 rfl (lv_at hl 0 rfl) ?_
  refine lv_if_lt (tgt := 49) hx hb dX9_addWord_4 (by decide) (fun c8 => absurd c8 (by decide +kernel)) (fun c8 => ?_)
  refine lv_aload_n hx hb dX9_addWord_7 rfl (lv_at hl 1 rfl) ?_
  refine c_get E G 1 1 (Nat.lt_of_lt_of_le (by decide) hN) hS1 rfl (fun w h => .tail _ (iA_18 h)) (by decide) (.tail _ qA_632) rfl rfl dX9_addWord_8 ?_
  refine lv_sipush (v := 1000) hx hb dX9_addWord_11 (by decide) ?_
  refine lv_icmp_ge (tgt := 43) hx hb dX9_addWord_14 (by decide) (fun c9 => absurd c9 (by decide +kernel)) (fun c9 => ?_)
  refine lv_aload_n hx hb dX9_addWord_17 rfl (lv_at hl 1 rfl) ?_
  refine c_get E G 1 0 (Nat.lt_of_lt_of_le (by decide) hN) hS1 rfl (fun w h => .tail _ (iA_18 h)) (by decide) (.tail _ qA_192) rfl rfl dX9_addWord_18 ?_
  refine lv_aload_n hx hb dX9_addWord_21 rfl (lv_at hl 1 rfl) ?_
  refine c_get E G 1 1 (Nat.lt_of_lt_of_le (by decide) hN) hS1 rfl (fun w h => .tail _ (iA_18 h)) (by decide) (.tail _ qA_632) rfl rfl dX9_addWord_22 ?_
  refine lv_iload_n hx hb dX9_addWord_25 rfl (lv_at hl 2 rfl) ?_
  refine lv_iload_n hx hb dX9_addWord_26 rfl (lv_at hl 0 rfl) ?_
  refine lv_iushr hx hb dX9_addWord_27 rfl ?_
  refine lv_topi (fun v10 ev10 => ?_)
  refine lv_sipush (v := 255) hx hb dX9_addWord_28 (by decide) ?_
  refine lv_iand hx hb dX9_addWord_31 ?_
  refine lv_topi (fun v11 ev11 => ?_)
  refine c_iast E G 2 0 (k := 13) (Nat.lt_of_lt_of_le (by decide) hN) hS2 ht0 rfl (by decide) (by decide) dX9_addWord_32 (fun H locs G => ?_)
  have G : cG D ad N A s.heap H locs (va_up S7 2 (.inl (cI, 1000, .inl (upd f6 13 v11)))) := G
  have hS0 := (va_up_ne S7 (.inl (cI, 1000, .inl (upd f6 13 v11)) : va_E) (show 0 ≠ 2 by decide)).trans hS0
  have hS1 := (va_up_ne S7 (.inl (cI, 1000, .inl (upd f6 13 v11)) : va_E) (show 1 ≠ 2 by decide)).trans hS1
  have hS2 := va_up_self S7 2 (.inl (cI, 1000, .inl (upd f6 13 v11)) : va_E)
  generalize va_up S7 2 (.inl (cI, 1000, .inl (upd f6 13 v11))) = S12 at G hS0 hS1 hS2
  generalize (upd f6 13 v11) = f13 at hS2
  refine lv_aload_n hx hb dX9_addWord_33 rfl (lv_at hl 1 rfl) ?_
  refine lv_dup hx hb dX9_addWord_34 rfl ?_
  refine c_get E G 1 1 (Nat.lt_of_lt_of_le (by decide) hN) hS1 rfl (fun w h => .tail _ (iA_18 h)) (by decide) (.tail _ qA_632) rfl rfl dX9_addWord_35 ?_
  refine lv_iconst (v := 1) hx hb dX9_addWord_38 (by decide) ?_
  refine lv_iadd hx hb dX9_addWord_39 ?_
  refine lv_to (y := 14) (by decide +kernel) ?_
  refine c_put E G 1 1 (Nat.lt_of_lt_of_le (by decide) hN) hS1 rfl (fun w h => .tail _ (iA_18 h)) tyX9 tyX9_ok nmX9 (by decide) (.tail _ qA_632) ⟨rfl, rfl, rfl⟩ rfl rfl (Nat.le_of_ble_eq_true rfl) dX9_addWord_40 (fun H locs G => ?_)
  have G : cG D ad N A s.heap H locs (va_up S12 1 (.inr (9, [.ref (ad 2), .int 14, .ref (ad 3), .ref (ad 4), .ref (ad 5), .int 0]))) := G
  have hS0 := (va_up_ne S12 (.inr (9, [.ref (ad 2), .int 14, .ref (ad 3), .ref (ad 4), .ref (ad 5), .int 0]) : va_E) (show 0 ≠ 1 by decide)).trans hS0
  have hS1 := va_up_self S12 1 (.inr (9, [.ref (ad 2), .int 14, .ref (ad 3), .ref (ad 4), .ref (ad 5), .int 0]) : va_E)
  have hS2 := (va_up_ne S12 (.inr (9, [.ref (ad 2), .int 14, .ref (ad 3), .ref (ad 4), .ref (ad 5), .int 0]) : va_E) (show 2 ≠ 1 by decide)).trans hS2
  generalize va_up S12 1 (.inr (9, [.ref (ad 2), .int 14, .ref (ad 3), .ref (ad 4), .ref (ad 5), .int 0])) = S14 at G hS0 hS1 hS2
  refine lv_iinc (v := 8) (lv' := [(2, .int 8), (0, .ref (ad 1)), (1, .int x)]) hx hb dX9_addWord_43 hl (k := 0) rfl (by decide +kernel) (by decide) rfl (fun ls hl => ?_)
  refine lv_goto (tgt := 3) hx hb dX9_addWord_46 (by decide) ?_
  refine lv_iload_n hx hb dX9_addWord_3 rfl (lv_at hl 0 rfl) ?_
  refine lv_if_lt (tgt := 49) hx hb dX9_addWord_4 (by decide) (fun c15 => absurd c15 (by decide +kernel)) (fun c15 => ?_)
  refine lv_aload_n hx hb dX9_addWord_7 rfl (lv_at hl 1 rfl) ?_
  refine c_get E G 1 1 (Nat.lt_of_lt_of_le (by decide) hN) hS1 rfl (fun w h => .tail _ (iA_18 h)) (by decide) (.tail _ qA_632) rfl rfl dX9_addWord_8 ?_
  refine lv_sipush (v := 1000) hx hb dX9_addWord_11 (by decide) ?_
  refine lv_icmp_ge (tgt := 43) hx hb dX9_addWord_14 (by decide) (fun c16 => absurd c16 (by decide +kernel)) (fun c16 => ?_)
  refine lv_aload_n hx hb dX9_addWord_17 rfl (lv_at hl 1 rfl) ?_
  refine c_get E G 1 0 (Nat.lt_of_lt_of_le (by decide) hN) hS1 rfl (fun w h => .tail _ (iA_18 h)) (by decide) (.tail _ qA_192) rfl rfl dX9_addWord_18 ?_
  refine lv_aload_n hx hb dX9_addWord_21 rfl (lv_at hl 1 rfl) ?_
  refine c_get E G 1 1 (Nat.lt_of_lt_of_le (by decide) hN) hS1 rfl (fun w h => .tail _ (iA_18 h)) (by decide) (.tail _ qA_632) rfl rfl dX9_addWord_22 ?_
  refine lv_iload_n hx hb dX9_addWord_25 rfl (lv_at hl 2 rfl) ?_
  refine lv_iload_n hx hb dX9_addWord_26 rfl (lv_at hl 0 rfl) ?_
  refine lv_iushr hx hb dX9_addWord_27 rfl ?_
  refine lv_topi (fun v17 ev17 => ?_)
  refine lv_sipush (v := 255) hx hb dX9_addWord_28 (by decide) ?_
  refine lv_iand hx hb dX9_addWord_31 ?_
  refine lv_topi (fun v18 ev18 => ?_)
  refine c_iast E G 2 0 (k := 14) (Nat.lt_of_lt_of_le (by decide) hN) hS2 ht0 rfl (by decide) (by decide) dX9_addWord_32 (fun H locs G => ?_)
  have G : cG D ad N A s.heap H locs (va_up S14 2 (.inl (cI, 1000, .inl (upd f13 14 v18)))) := G
  have hS0 := (va_up_ne S14 (.inl (cI, 1000, .inl (upd f13 14 v18)) : va_E) (show 0 ≠ 2 by decide)).trans hS0
  have hS1 := (va_up_ne S14 (.inl (cI, 1000, .inl (upd f13 14 v18)) : va_E) (show 1 ≠ 2 by decide)).trans hS1
  have hS2 := va_up_self S14 2 (.inl (cI, 1000, .inl (upd f13 14 v18)) : va_E)
  generalize va_up S14 2 (.inl (cI, 1000, .inl (upd f13 14 v18))) = S19 at G hS0 hS1 hS2
  generalize (upd f13 14 v18) = f20 at hS2
  refine lv_aload_n hx hb dX9_addWord_33 rfl (lv_at hl 1 rfl) ?_
  refine lv_dup hx hb dX9_addWord_34 rfl ?_
  refine c_get E G 1 1 (Nat.lt_of_lt_of_le (by decide) hN) hS1 rfl (fun w h => .tail _ (iA_18 h)) (by decide) (.tail _ qA_632) rfl rfl dX9_addWord_35 ?_
  refine lv_iconst (v := 1) hx hb dX9_addWord_38 (by decide) ?_
  refine lv_iadd hx hb dX9_addWord_39 ?_
  refine lv_to (y := 15) (by decide +kernel) ?_
  refine c_put E G 1 1 (Nat.lt_of_lt_of_le (by decide) hN) hS1 rfl (fun w h => .tail _ (iA_18 h)) tyX9 tyX9_ok nmX9 (by decide) (.tail _ qA_632) ⟨rfl, rfl, rfl⟩ rfl rfl (Nat.le_of_ble_eq_true rfl) dX9_addWord_40 (fun H locs G => ?_)
  have G : cG D ad N A s.heap H locs (va_up S19 1 (.inr (9, [.ref (ad 2), .int 15, .ref (ad 3), .ref (ad 4), .ref (ad 5), .int 0]))) := G
  have hS0 := (va_up_ne S19 (.inr (9, [.ref (ad 2), .int 15, .ref (ad 3), .ref (ad 4), .ref (ad 5), .int 0]) : va_E) (show 0 ≠ 1 by decide)).trans hS0
  have hS1 := va_up_self S19 1 (.inr (9, [.ref (ad 2), .int 15, .ref (ad 3), .ref (ad 4), .ref (ad 5), .int 0]) : va_E)
  have hS2 := (va_up_ne S19 (.inr (9, [.ref (ad 2), .int 15, .ref (ad 3), .ref (ad 4), .ref (ad 5), .int 0]) : va_E) (show 2 ≠ 1 by decide)).trans hS2
  generalize va_up S19 1 (.inr (9, [.ref (ad 2), .int 15, .ref (ad 3), .ref (ad 4), .ref (ad 5), .int 0])) = S21 at G hS0 hS1 hS2
  refine lv_iinc (v := 0) (lv' := [(2, .int 0), (0, .ref (ad 1)), (1, .int x)]) hx hb dX9_addWord_43 hl (k := 0) rfl (by decide +kernel) (by decide) rfl (fun ls hl => ?_)
  refine lv_goto (tgt := 3) hx hb dX9_addWord_46 (by decide) ?_
  refine lv_iload_n hx hb dX9_addWord_3 rfl (lv_at hl 0 rfl) ?_
  refine lv_if_lt (tgt := 49) hx hb dX9_addWord_4 (by decide) (fun c22 => absurd c22 (by decide +kernel)) (fun c22 => ?_)
  refine lv_aload_n hx hb dX9_addWord_7 rfl (lv_at hl 1 rfl) ?_
  refine c_get E G 1 1 (Nat.lt_of_lt_of_le (by decide) hN) hS1 rfl (fun w h => .tail _ (iA_18 h)) (by decide) (.tail _ qA_632) rfl rfl dX9_addWord_8 ?_
  refine lv_sipush (v := 1000) hx hb dX9_addWord_11 (by decide) ?_
  refine lv_icmp_ge (tgt := 43) hx hb dX9_addWord_14 (by decide) (fun c23 => absurd c23 (by decide +kernel)) (fun c23 => ?_)
  refine lv_aload_n hx hb dX9_addWord_17 rfl (lv_at hl 1 rfl) ?_
  refine c_get E G 1 0 (Nat.lt_of_lt_of_le (by decide) hN) hS1 rfl (fun w h => .tail _ (iA_18 h)) (by decide) (.tail _ qA_192) rfl rfl dX9_addWord_18 ?_
  refine lv_aload_n hx hb dX9_addWord_21 rfl (lv_at hl 1 rfl) ?_
  refine c_get E G 1 1 (Nat.lt_of_lt_of_le (by decide) hN) hS1 rfl (fun w h => .tail _ (iA_18 h)) (by decide) (.tail _ qA_632) rfl rfl dX9_addWord_22 ?_
  refine lv_iload_n hx hb dX9_addWord_25 rfl (lv_at hl 2 rfl) ?_
  refine lv_iload_n hx hb dX9_addWord_26 rfl (lv_at hl 0 rfl) ?_
  refine lv_iushr hx hb dX9_addWord_27 rfl ?_
  refine lv_topi (fun v24 ev24 => ?_)
  refine lv_sipush (v := 255) hx hb dX9_addWord_28 (by decide) ?_
  refine lv_iand hx hb dX9_addWord_31 ?_
  refine lv_topi (fun v25 ev25 => ?_)
  refine c_iast E G 2 0 (k := 15) (Nat.lt_of_lt_of_le (by decide) hN) hS2 ht0 rfl (by decide) (by decide) dX9_addWord_32 (fun H locs G => ?_)
  have G : cG D ad N A s.heap H locs (va_up S21 2 (.inl (cI, 1000, .inl (upd f20 15 v25)))) := G
  have hS0 := (va_up_ne S21 (.inl (cI, 1000, .inl (upd f20 15 v25)) : va_E) (show 0 ≠ 2 by decide)).trans hS0
  have hS1 := (va_up_ne S21 (.inl (cI, 1000, .inl (upd f20 15 v25)) : va_E) (show 1 ≠ 2 by decide)).trans hS1
  have hS2 := va_up_self S21 2 (.inl (cI, 1000, .inl (upd f20 15 v25)) : va_E)
  generalize va_up S21 2 (.inl (cI, 1000, .inl (upd f20 15 v25))) = S26 at G hS0 hS1 hS2
  generalize (upd f20 15 v25) = f27 at hS2
  refine lv_aload_n hx hb dX9_addWord_33 rfl (lv_at hl 1 rfl) ?_
  refine lv_dup hx hb dX9_addWord_34 rfl ?_
  refine c_get E G 1 1 (Nat.lt_of_lt_of_le (by decide) hN) hS1 rfl (fun w h => .tail _ (iA_18 h)) (by decide) (.tail _ qA_632) rfl rfl dX9_addWord_35 ?_
  refine lv_iconst (v := 1) hx hb dX9_addWord_38 (by decide) ?_
  refine lv_iadd hx hb dX9_addWord_39 ?_
  refine lv_to (y := 16) (by decide +kernel) ?_
  refine c_put E G 1 1 (Nat.lt_of_lt_of_le (by decide) hN) hS1 rfl (fun w h => .tail _ (iA_18 h)) tyX9 tyX9_ok nmX9 (by decide) (.tail _ qA_632) ⟨rfl, rfl, rfl⟩ rfl rfl (Nat.le_of_ble_eq_true rfl) dX9_addWord_40 (fun H locs G => ?_)
  have G : cG D ad N A s.heap H locs (va_up S26 1 (.inr (9, [.ref (ad 2), .int 16, .ref (ad 3), .ref (ad 4), .ref (ad 5), .int 0]))) := G
  have hS0 := (va_up_ne S26 (.inr (9, [.ref (ad 2), .int 16, .ref (ad 3), .ref (ad 4), .ref (ad 5), .int 0]) : va_E) (show 0 ≠ 1 by decide)).trans hS0
  have hS1 := va_up_self S26 1 (.inr (9, [.ref (ad 2), .int 16, .ref (ad 3), .ref (ad 4), .ref (ad 5), .int 0]) : va_E)
  have hS2 := (va_up_ne S26 (.inr (9, [.ref (ad 2), .int 16, .ref (ad 3), .ref (ad 4), .ref (ad 5), .int 0]) : va_E) (show 2 ≠ 1 by decide)).trans hS2
  generalize va_up S26 1 (.inr (9, [.ref (ad 2), .int 16, .ref (ad 3), .ref (ad 4), .ref (ad 5), .int 0])) = S28 at G hS0 hS1 hS2
  refine lv_iinc (v := (-8)) (lv' := [(2, .int (-8)), (0, .ref (ad 1)), (1, .int x)]) hx hb dX9_addWord_43 hl (k := 0) rfl (by decide +kernel) (by decide) rfl (fun ls hl => ?_)
  refine lv_goto (tgt := 3) hx hb dX9_addWord_46 (by decide) ?_
  refine lv_iload_n hx hb dX9_addWord_3 rfl (lv_at hl 0 rfl) ?_
  refine lv_if_lt (tgt := 49) hx hb dX9_addWord_4 (by decide) (fun c29 => ?_) (fun c29 => absurd (by decide +kernel) c29)
  exact W.vret hx hb hr (fun t ht hW => ⟨⟨S28, rfl, ⟨_, hS0, hS1, hS2⟩, ⟨by rw [ht]; exact G.1, va_K.moved hW.alike hK, G.2.1⟩⟩, G.2.2.F ht⟩) G.2.2.2.2 dX9_addWord_49
set_option maxHeartbeats 4000000 in
set_option maxRecDepth 100000 in
theorem f_addWord_16 (l : Launch) (hst : l.stackTraces = false) (D : va_G) (tys : List (ClassId × FieldType)) (ad : Nat → Nat) (N : Nat) (S : Nat → va_E) (cI cJ cZ cMic cSrc cSt cAI cAJ : ClassId) (hN : 1586 ≤ N) (ht0 : tys[0]? = some (cI, .int)) (ht2 : tys[2]? = some (cZ, .boolean)) {g : Nat → Int32} (hS0 : S 0 = .inr (11, [.ref (ad 1), .ref (ad 6), .ref (ad 7), .ref (ad 22), .ref (ad 66), .ref (ad 154), .ref (ad 242), .ref (ad 336), .ref (ad 430), .ref (ad 431), .ref (ad 432), .ref (ad 433), .ref (ad 434), .ref (ad 477), .ref (ad 478), .ref (ad 656), .int 0, .int 0, .int 0])) (hS1 : S 1 = .inr (9, [.ref (ad 2), .int 16, .ref (ad 3), .ref (ad 4), .ref (ad 5), .int 0])) (hS2 : S 2 = .inl (cI, 1000, .inl g)) (x : Int32) : cCv l yX9_addWord (Cond.code yX9_addWord cX9_addWord 3 none :: wsA) 1 0 D tys ad N S [.ref (ad 1), .int x] (fun u => ∃ f : Nat → Int32, u 0 = .inr (11, [.ref (ad 1), .ref (ad 6), .ref (ad 7), .ref (ad 22), .ref (ad 66), .ref (ad 154), .ref (ad 242), .ref (ad 336), .ref (ad 430), .ref (ad 431), .ref (ad 432), .ref (ad 433), .ref (ad 434), .ref (ad 477), .ref (ad 478), .ref (ad 656), .int 0, .int 0, .int 0]) ∧ u 1 = .inr (9, [.ref (ad 2), .int 20, .ref (ad 3), .ref (ad 4), .ref (ad 5), .int 0]) ∧ u 2 = .inl (cI, 1000, .inl f)) := by
  intro sz
  refine Met.ofW (cc := cX9_addWord) (maxL := 3) (ret := none) (by decide) rfl ?_
  intro p e s m args below meth c s₁ B hml hv
  obtain ⟨rfl, hsz, hP, hK, hD0, hX⟩ := hv
  have hx := B.exec
  have hb := B.bytes
  have hr := B.returns
  have hts := atoms_spec (ws := (Cond.code yX9_addWord cX9_addWord 3 none :: wsA)) B.pre
  have hown : s.vm.findClass RX9 = some m.cls := findClass_of_methodNamed B.named
  have hlocks := B.notSynchronized
  subst hsz
  have hD := hD0.self (sz := s.heap.size)
  generalize hAe : va_A (cW ad N S) s.heap.size = A at hD hX ⊢
  have hA : ∀ q : Nat, s.heap.size ≤ q → A q := fun q h => by rw [← hAe]; exact Or.inr h
  have G : cG D ad N A s.heap s.heap [] S := ⟨hP, hD, va_S.rf⟩
  have E : cE p c cX9_addWord s m ([.ref (ad 1), .int x] : List Value).toArray (Cond.code yX9_addWord cX9_addWord 3 none :: wsA) D RX9 tys := ⟨hx, hb, hts, hown, hK⟩
  have hl := lv_entry ([.ref (ad 1), .int x]) (n := 3) (Nat.le_of_ble_eq_true rfl)
  rw [lg_entry_eq]
  generalize (lg_sl ([.ref (ad 1), .int x]) ++ List.replicate (3 - (lg_sl ([.ref (ad 1), .int x])).length) Slot.unset).toArray = ls at hl ⊢
  have hl : lv_has ls 3 [(0, .ref (ad 1)), (1, .int x)] := hl
  refine lv_bipush (v := 24) hx hb dX9_addWord_0 (by decide) ?_
  refine lv_istore_n (lv' := [(2, .int 24), (0, .ref (ad 1)), (1, .int x)]) hx hb dX9_addWord_2 rfl hl (by decide) rfl (fun ls hl => ?_)
  refine lv_iload_n hx hb dX9_addWord_3 rfl (lv_at hl 0 rfl) ?_
  refine lv_if_lt (tgt := 49) hx hb dX9_addWord_4 (by decide) (fun c1 => absurd c1 (by decide +kernel)) (fun c1 => ?_)
  refine lv_aload_n hx hb dX9_addWord_7 rfl (lv_at hl 1 rfl) ?_
  refine c_get E G 1 1 (Nat.lt_of_lt_of_le (by decide) hN) hS1 rfl (fun w h => .tail _ (iA_18 h)) (by decide) (.tail _ qA_632) rfl rfl dX9_addWord_8 ?_
  refine lv_sipush (v := 1000) hx hb dX9_addWord_11 (by decide) ?_
  refine lv_icmp_ge (tgt := 43) hx hb dX9_addWord_14 (by decide) (fun c2 => absurd c2 (by decide +kernel)) (fun c2 => ?_)
  refine lv_aload_n hx hb dX9_addWord_17 rfl (lv_at hl 1 rfl) ?_
  refine c_get E G 1 0 (Nat.lt_of_lt_of_le (by decide) hN) hS1 rfl (fun w h => .tail _ (iA_18 h)) (by decide) (.tail _ qA_192) rfl rfl dX9_addWord_18 ?_
  refine lv_aload_n hx hb dX9_addWord_21 rfl (lv_at hl 1 rfl) ?_
  refine c_get E G 1 1 (Nat.lt_of_lt_of_le (by decide) hN) hS1 rfl (fun w h => .tail _ (iA_18 h)) (by decide) (.tail _ qA_632) rfl rfl dX9_addWord_22 ?_
  refine lv_iload_n hx hb dX9_addWord_25 rfl (lv_at hl 2 rfl) ?_
  refine lv_iload_n hx hb dX9_addWord_26 rfl (lv_at hl 0 rfl) ?_
  refine lv_iushr hx hb dX9_addWord_27 rfl ?_
  refine lv_topi (fun v3 ev3 => ?_)
  refine lv_sipush (v := 255) hx hb dX9_addWord_28 (by decide) ?_
  refine lv_iand hx hb dX9_addWord_31 ?_
  refine lv_topi (fun v4 ev4 => ?_)
  refine c_iast E G 2 0 (k := 16) (Nat.lt_of_lt_of_le (by decide) hN) hS2 ht0 rfl (by decide) (by decide) dX9_addWord_32 (fun H locs G => ?_)
  have G : cG D ad N A s.heap H locs (va_up S 2 (.inl (cI, 1000, .inl (upd g 16 v4)))) := G
  have hS0 := (va_up_ne S (.inl (cI, 1000, .inl (upd g 16 v4)) : va_E) (show 0 ≠ 2 by decide)).trans hS0
  have hS1 := (va_up_ne S (.inl (cI, 1000, .inl (upd g 16 v4)) : va_E) (show 1 ≠ 2 by decide)).trans hS1
  have hS2 := va_up_self S 2 (.inl (cI, 1000, .inl (upd g 16 v4)) : va_E)
  generalize va_up S 2 (.inl (cI, 1000, .inl (upd g 16 v4))) = S5 at G hS0 hS1 hS2
  generalize (upd g 16 v4) = f6 at hS2
  refine lv_aload_n hx hb dX9_addWord_33 rfl (lv_at hl 1 rfl) ?_
  refine lv_dup hx hb dX9_addWord_34 rfl ?_
  refine c_get E G 1 1 (Nat.lt_of_lt_of_le (by decide) hN) hS1 rfl (fun w h => .tail _ (iA_18 h)) (by decide) (.tail _ qA_632) rfl rfl dX9_addWord_35 ?_
  refine lv_iconst (v := 1) hx hb dX9_addWord_38 (by decide) ?_
  refine lv_iadd hx hb dX9_addWord_39 ?_
  refine lv_to (y := 17) (by decide +kernel) ?_
  refine c_put E G 1 1 (Nat.lt_of_lt_of_le (by decide) hN) hS1 rfl (fun w h => .tail _ (iA_18 h)) tyX9 tyX9_ok nmX9 (by decide) (.tail _ qA_632) ⟨rfl, rfl, rfl⟩ rfl rfl (Nat.le_of_ble_eq_true rfl) dX9_addWord_40 (fun H locs G => ?_)
  have G : cG D ad N A s.heap H locs (va_up S5 1 (.inr (9, [.ref (ad 2), .int 17, .ref (ad 3), .ref (ad 4), .ref (ad 5), .int 0]))) := G
  have hS0 := (va_up_ne S5 (.inr (9, [.ref (ad 2), .int 17, .ref (ad 3), .ref (ad 4), .ref (ad 5), .int 0]) : va_E) (show 0 ≠ 1 by decide)).trans hS0
  have hS1 := va_up_self S5 1 (.inr (9, [.ref (ad 2), .int 17, .ref (ad 3), .ref (ad 4), .ref (ad 5), .int 0]) : va_E)
  have hS2 := (va_up_ne S5 (.inr (9, [.ref (ad 2), .int 17, .ref (ad 3), .ref (ad 4), .ref (ad 5), .int 0]) : va_E) (show 2 ≠ 1 by decide)).trans hS2
  generalize va_up S5 1 (.inr (9, [.ref (ad 2), .int 17, .ref (ad 3), .ref (ad 4), .ref (ad 5), .int 0])) = S7 at G hS0 hS1 hS2
  refine lv_iinc (v := 16) (lv' := [(2, .int 16), (0, .ref (ad 1)), (1, .int x)]) hx hb dX9_addWord_43 hl (k := 0) rfl (by decide +kernel) (by decide) rfl (fun ls hl => ?_)
  refine lv_goto (tgt := 3) hx hb dX9_addWord_46 (by decide) ?_
  refine lv_iload_n hx hb dX9_addWord_3 rfl (lv_at hl 0 rfl) ?_
  refine lv_if_lt (tgt := 49) hx hb dX9_addWord_4 (by decide) (fun c8 => absurd c8 (by decide +kernel)) (fun c8 => ?_)
  refine lv_aload_n hx hb dX9_addWord_7 rfl (lv_at hl 1 rfl) ?_
  refine c_get E G 1 1 (Nat.lt_of_lt_of_le (by decide) hN) hS1 rfl (fun w h => .tail _ (iA_18 h)) (by decide) (.tail _ qA_632) rfl rfl dX9_addWord_8 ?_
  refine lv_sipush (v := 1000) hx hb dX9_addWord_11 (by decide) ?_
  refine lv_icmp_ge (tgt := 43) hx hb dX9_addWord_14 (by decide) (fun c9 => absurd c9 (by decide +kernel)) (fun c9 => ?_)
  refine lv_aload_n hx hb dX9_addWord_17 rfl (lv_at hl 1 rfl) ?_
  refine c_get E G 1 0 (Nat.lt_of_lt_of_le (by decide) hN) hS1 rfl (fun w h => .tail _ (iA_18 h)) (by decide) (.tail _ qA_192) rfl rfl dX9_addWord_18 ?_
  refine lv_aload_n hx hb dX9_addWord_21 rfl (lv_at hl 1 rfl) ?_
  refine c_get E G 1 1 (Nat.lt_of_lt_of_le (by decide) hN) hS1 rfl (fun w h => .tail _ (iA_18 h)) (by decide) (.tail _ qA_632) rfl rfl dX9_addWord_22 ?_
  refine lv_iload_n hx hb dX9_addWord_25 rfl (lv_at hl 2 rfl) ?_
  refine lv_iload_n hx hb dX9_addWord_26 rfl (lv_at hl 0 rfl) ?_
  refine lv_iushr hx hb dX9_addWord_27 rfl ?_
  refine lv_topi (fun v10 ev10 => ?_)
  refine lv_sipush (v := 255) hx hb dX9_addWord_28 (by decide) ?_
  refine lv_iand hx hb dX9_addWord_31 ?_
  refine lv_topi (fun v11 ev11 => ?_)
  refine c_iast E G 2 0 (k := 17) (Nat.lt_of_lt_of_le (by decide) hN) hS2 ht0 rfl (by decide) (by decide) dX9_addWord_32 (fun H locs G => ?_)
  have G : cG D ad N A s.heap H locs (va_up S7 2 (.inl (cI, 1000, .inl (upd f6 17 v11)))) := G
  have hS0 := (va_up_ne S7 (.inl (cI, 1000, .inl (upd f6 17 v11)) : va_E) (show 0 ≠ 2 by decide)).trans hS0
  have hS1 := (va_up_ne S7 (.inl (cI, 1000, .inl (upd f6 17 v11)) : va_E) (show 1 ≠ 2 by decide)).trans hS1
  have hS2 := va_up_self S7 2 (.inl (cI, 1000, .inl (upd f6 17 v11)) : va_E)
  generalize va_up S7 2 (.inl (cI, 1000, .inl (upd f6 17 v11))) = S12 at G hS0 hS1 hS2
  generalize (upd f6 17 v11) = f13 at hS2
  refine lv_aload_n hx hb dX9_addWord_33 rfl (lv_at hl 1 rfl) ?_
  refine lv_dup hx hb dX9_addWord_34 rfl ?_
  refine c_get E G 1 1 (Nat.lt_of_lt_of_le (by decide) hN) hS1 rfl (fun w h => .tail _ (iA_18 h)) (by decide) (.tail _ qA_632) rfl rfl dX9_addWord_35 ?_
  refine lv_iconst (v := 1) hx hb dX9_addWord_38 (by decide) ?_
  refine lv_iadd hx hb dX9_addWord_39 ?_
  refine lv_to (y := 18) (by decide +kernel) ?_
  refine c_put E G 1 1 (Nat.lt_of_lt_of_le (by decide) hN) hS1 rfl (fun w h => .tail _ (iA_18 h)) tyX9 tyX9_ok nmX9 (by decide) (.tail _ qA_632) ⟨rfl, rfl, rfl⟩ rfl rfl (Nat.le_of_ble_eq_true rfl) dX9_addWord_40 (fun H locs G => ?_)
  have G : cG D ad N A s.heap H locs (va_up S12 1 (.inr (9, [.ref (ad 2), .int 18, .ref (ad 3), .ref (ad 4), .ref (ad 5), .int 0]))) := G
  have hS0 := (va_up_ne S12 (.inr (9, [.ref (ad 2), .int 18, .ref (ad 3), .ref (ad 4), .ref (ad 5), .int 0]) : va_E) (show 0 ≠ 1 by decide)).trans hS0
  have hS1 := va_up_self S12 1 (.inr (9, [.ref (ad 2), .int 18, .ref (ad 3), .ref (ad 4), .ref (ad 5), .int 0]) : va_E)
  have hS2 := (va_up_ne S12 (.inr (9, [.ref (ad 2), .int 18, .ref (ad 3), .ref (ad 4), .ref (ad 5), .int 0]) : va_E) (show 2 ≠ 1 by decide)).trans hS2
  generalize va_up S12 1 (.inr (9, [.ref (ad 2), .int 18, .ref (ad 3), .ref (ad 4), .ref (ad 5), .int 0])) = S14 at G hS0 hS1 hS2
  refine lv_iinc (v := 8) (lv' := [(2, .int 8), (0, .ref (ad 1)), (1, .int x)]) hx hb dX9_addWord_43 hl (k := 0) rfl (by decide +kernel) (by decide) rfl (fun ls hl => ?_)
  refine lv_goto (tgt := 3) hx hb dX9_addWord_46 (by decide) ?_
  refine lv_iload_n hx hb dX9_addWord_3 rfl (lv_at hl 0 rfl) ?_
  refine lv_if_lt (tgt := 49) hx hb dX9_addWord_4 (by decide) (fun c15 => absurd c15 (by decide +kernel)) (fun c15 => ?_)
  refine lv_aload_n hx hb dX9_addWord_7 rfl (lv_at hl 1 rfl) ?_
  refine c_get E G 1 1 (Nat.lt_of_lt_of_le (by decide) hN) hS1 rfl (fun w h => .tail _ (iA_18 h)) (by decide) (.tail _ qA_632) rfl rfl dX9_addWord_8 ?_
  refine lv_sipush (v := 1000) hx hb dX9_addWord_11 (by decide) ?_
  refine lv_icmp_ge (tgt := 43) hx hb dX9_addWord_14 (by decide) (fun c16 => absurd c16 (by decide +kernel)) (fun c16 => ?_)
  refine lv_aload_n hx hb dX9_addWord_17 rfl (lv_at hl 1 rfl) ?_
  refine c_get E G 1 0 (Nat.lt_of_lt_of_le (by decide) hN) hS1 rfl (fun w h => .tail _ (iA_18 h)) (by decide) (.tail _ qA_192) rfl rfl dX9_addWord_18 ?_
  refine lv_aload_n hx hb dX9_addWord_21 rfl (lv_at hl 1 rfl) ?_
  refine c_get E G 1 1 (Nat.lt_of_lt_of_le (by decide) hN) hS1 rfl (fun w h => .tail _ (iA_18 h)) (by decide) (.tail _ qA_632) rfl rfl dX9_addWord_22 ?_
  refine lv_iload_n hx hb dX9_addWord_25 rfl (lv_at hl 2 rfl) ?_
  refine lv_iload_n hx hb dX9_addWord_26 rfl (lv_at hl 0 rfl) ?_
  refine lv_iushr hx hb dX9_addWord_27 rfl ?_
  refine lv_topi (fun v17 ev17 => ?_)
  refine lv_sipush (v := 255) hx hb dX9_addWord_28 (by decide) ?_
  refine lv_iand hx hb dX9_addWord_31 ?_
  refine lv_topi (fun v18 ev18 => ?_)
  refine c_iast E G 2 0 (k := 18) (Nat.lt_of_lt_of_le (by decide) hN) hS2 ht0 rfl (by decide) (by decide) dX9_addWord_32 (fun H locs G => ?_)
  have G : cG D ad N A s.heap H locs (va_up S14 2 (.inl (cI, 1000, .inl (upd f13 18 v18)))) := G
  have hS0 := (va_up_ne S14 (.inl (cI, 1000, .inl (upd f13 18 v18)) : va_E) (show 0 ≠ 2 by decide)).trans hS0
  have hS1 := (va_up_ne S14 (.inl (cI, 1000, .inl (upd f13 18 v18)) : va_E) (show 1 ≠ 2 by decide)).trans hS1
  have hS2 := va_up_self S14 2 (.inl (cI, 1000, .inl (upd f13 18 v18)) : va_E)
  generalize va_up S14 2 (.inl (cI, 1000, .inl (upd f13 18 v18))) = S19 at G hS0 hS1 hS2
  generalize (upd f13 18 v18) = f20 at hS2
  refine lv_aload_n hx hb dX9_addWord_33 rfl (lv_at hl 1 rfl) ?_
  refine lv_dup hx hb dX9_addWord_34 rfl ?_
  refine c_get E G 1 1 (Nat.lt_of_lt_of_le (by decide) hN) hS1 rfl (fun w h => .tail _ (iA_18 h)) (by decide) (.tail _ qA_632) rfl rfl dX9_addWord_35 ?_
  refine lv_iconst (v := 1) hx hb dX9_addWord_38 (by decide) ?_
  refine lv_iadd hx hb dX9_addWord_39 ?_
  refine lv_to (y := 19) (by decide +kernel) ?_
  refine c_put E G 1 1 (Nat.lt_of_lt_of_le (by decide) hN) hS1 rfl (fun w h => .tail _ (iA_18 h)) tyX9 tyX9_ok nmX9 (by decide) (.tail _ qA_632) ⟨rfl, rfl, rfl⟩ rfl rfl (Nat.le_of_ble_eq_true rfl) dX9_addWord_40 (fun H locs G => ?_)
  have G : cG D ad N A s.heap H locs (va_up S19 1 (.inr (9, [.ref (ad 2), .int 19, .ref (ad 3), .ref (ad 4), .ref (ad 5), .int 0]))) := G
  have hS0 := (va_up_ne S19 (.inr (9, [.ref (ad 2), .int 19, .ref (ad 3), .ref (ad 4), .ref (ad 5), .int 0]) : va_E) (show 0 ≠ 1 by decide)).trans hS0
  have hS1 := va_up_self S19 1 (.inr (9, [.ref (ad 2), .int 19, .ref (ad 3), .ref (ad 4), .ref (ad 5), .int 0]) : va_E)
  have hS2 := (va_up_ne S19 (.inr (9, [.ref (ad 2), .int 19, .ref (ad 3), .ref (ad 4), .ref (ad 5), .int 0]) : va_E) (show 2 ≠ 1 by decide)).trans hS2
  generalize va_up S19 1 (.inr (9, [.ref (ad 2), .int 19, .ref (ad 3), .ref (ad 4), .ref (ad 5), .int 0])) = S21 at G hS0 hS1 hS2
  refine lv_iinc (v := 0) (lv' := [(2, .int 0), (0, .ref (ad 1)), (1, .int x)]) hx hb dX9_addWord_43 hl (k := 0) rfl (by decide +kernel) (by decide) rfl (fun ls hl => ?_)
  refine lv_goto (tgt := 3) hx hb dX9_addWord_46 (by decide) ?_
  refine lv_iload_n hx hb dX9_addWord_3 rfl (lv_at hl 0 rfl) ?_
  refine lv_if_lt (tgt := 49) hx hb dX9_addWord_4 (by decide) (fun c22 => absurd c22 (by decide +kernel)) (fun c22 => ?_)
  refine lv_aload_n hx hb dX9_addWord_7 rfl (lv_at hl 1 rfl) ?_
  refine c_get E G 1 1 (Nat.lt_of_lt_of_le (by decide) hN) hS1 rfl (fun w h => .tail _ (iA_18 h)) (by decide) (.tail _ qA_632) rfl rfl dX9_addWord_8 ?_
  refine lv_sipush (v := 1000) hx hb dX9_addWord_11 (by decide) ?_
  refine lv_icmp_ge (tgt := 43) hx hb dX9_addWord_14 (by decide) (fun c23 => absurd c23 (by decide +kernel)) (fun c23 => ?_)
  refine lv_aload_n hx hb dX9_addWord_17 rfl (lv_at hl 1 rfl) ?_
  refine c_get E G 1 0 (Nat.lt_of_lt_of_le (by decide) hN) hS1 rfl (fun w h => .tail _ (iA_18 h)) (by decide) (.tail _ qA_192) rfl rfl dX9_addWord_18 ?_
  refine lv_aload_n hx hb dX9_addWord_21 rfl (lv_at hl 1 rfl) ?_
  refine c_get E G 1 1 (Nat.lt_of_lt_of_le (by decide) hN) hS1 rfl (fun w h => .tail _ (iA_18 h)) (by decide) (.tail _ qA_632) rfl rfl dX9_addWord_22 ?_
  refine lv_iload_n hx hb dX9_addWord_25 rfl (lv_at hl 2 rfl) ?_
  refine lv_iload_n hx hb dX9_addWord_26 rfl (lv_at hl 0 rfl) ?_
  refine lv_iushr hx hb dX9_addWord_27 rfl ?_
  refine lv_topi (fun v24 ev24 => ?_)
  refine lv_sipush (v := 255) hx hb dX9_addWord_28 (by decide) ?_
  refine lv_iand hx hb dX9_addWord_31 ?_
  refine lv_topi (fun v25 ev25 => ?_)
  refine c_iast E G 2 0 (k := 19) (Nat.lt_of_lt_of_le (by decide) hN) hS2 ht0 rfl (by decide) (by decide) dX9_addWord_32 (fun H locs G => ?_)
  have G : cG D ad N A s.heap H locs (va_up S21 2 (.inl (cI, 1000, .inl (upd f20 19 v25)))) := G
  have hS0 := (va_up_ne S21 (.inl (cI, 1000, .inl (upd f20 19 v25)) : va_E) (show 0 ≠ 2 by decide)).trans hS0
  have hS1 := (va_up_ne S21 (.inl (cI, 1000, .inl (upd f20 19 v25)) : va_E) (show 1 ≠ 2 by decide)).trans hS1
  have hS2 := va_up_self S21 2 (.inl (cI, 1000, .inl (upd f20 19 v25)) : va_E)
  generalize va_up S21 2 (.inl (cI, 1000, .inl (upd f20 19 v25))) = S26 at G hS0 hS1 hS2
  generalize (upd f20 19 v25) = f27 at hS2
  refine lv_aload_n hx hb dX9_addWord_33 rfl (lv_at hl 1 rfl) ?_
  refine lv_dup hx hb dX9_addWord_34 rfl ?_
  refine c_get E G 1 1 (Nat.lt_of_lt_of_le (by decide) hN) hS1 rfl (fun w h => .tail _ (iA_18 h)) (by decide) (.tail _ qA_632) rfl rfl dX9_addWord_35 ?_
  refine lv_iconst (v := 1) hx hb dX9_addWord_38 (by decide) ?_
  refine lv_iadd hx hb dX9_addWord_39 ?_
  refine lv_to (y := 20) (by decide +kernel) ?_
  refine c_put E G 1 1 (Nat.lt_of_lt_of_le (by decide) hN) hS1 rfl (fun w h => .tail _ (iA_18 h)) tyX9 tyX9_ok nmX9 (by decide) (.tail _ qA_632) ⟨rfl, rfl, rfl⟩ rfl rfl (Nat.le_of_ble_eq_true rfl) dX9_addWord_40 (fun H locs G => ?_)
  have G : cG D ad N A s.heap H locs (va_up S26 1 (.inr (9, [.ref (ad 2), .int 20, .ref (ad 3), .ref (ad 4), .ref (ad 5), .int 0]))) := G
  have hS0 := (va_up_ne S26 (.inr (9, [.ref (ad 2), .int 20, .ref (ad 3), .ref (ad 4), .ref (ad 5), .int 0]) : va_E) (show 0 ≠ 1 by decide)).trans hS0
  have hS1 := va_up_self S26 1 (.inr (9, [.ref (ad 2), .int 20, .ref (ad 3), .ref (ad 4), .ref (ad 5), .int 0]) : va_E)
  have hS2 := (va_up_ne S26 (.inr (9, [.ref (ad 2), .int 20, .ref (ad 3), .ref (ad 4), .ref (ad 5), .int 0]) : va_E) (show 2 ≠ 1 by decide)).trans hS2
  generalize va_up S26 1 (.inr (9, [.ref (ad 2), .int 20, .ref (ad 3), .ref (ad 4), .ref (ad 5), .int 0])) = S28 at G hS0 hS1 hS2
  refine lv_iinc (v := (-8)) (lv' := [(2, .int (-8)), (0, .ref (ad 1)), (1, .int x)]) hx hb dX9_addWord_43 hl (k := 0) rfl (by decide +kernel) (by decide) rfl (fun ls hl => ?_)
  refine lv_goto (tgt := 3) hx hb dX9_addWord_46 (by decide) ?_
  refine lv_iload_n hx hb dX9_addWord_3 rfl (lv_at hl 0 rfl) ?_
  refine lv_if_lt (tgt := 49) hx hb dX9_addWord_4 (by decide) (fun c29 => ?_) (fun c29 => absurd (by decide +kernel) c29)
  exact W.vret hx hb hr (fun t ht hW => ⟨⟨S28, rfl, ⟨_, hS0, hS1, hS2⟩, ⟨by rw [ht]; exact G.1, va_K.moved hW.alike hK, G.2.1⟩⟩, G.2.2.F ht⟩) G.2.2.2.2 dX9_addWord_49
set_option maxHeartbeats 4000000 in
set_option maxRecDepth 100000 in
theorem f_append (l : Launch) (hst : l.stackTraces = false) (D : va_G) (tys : List (ClassId × FieldType)) (ad : Nat → Nat) (N : Nat) (S : Nat → va_E) (cI cJ cZ cMic cSrc cSt cAI cAJ : ClassId) (hN : 1586 ≤ N) (ht0 : tys[0]? = some (cI, .int)) (ht2 : tys[2]? = some (cZ, .boolean)) {g : Nat → Int32} (hS0 : S 0 = .inr (11, [.ref (ad 1), .ref (ad 6), .ref (ad 7), .ref (ad 22), .ref (ad 66), .ref (ad 154), .ref (ad 242), .ref (ad 336), .ref (ad 430), .ref (ad 431), .ref (ad 432), .ref (ad 433), .ref (ad 434), .ref (ad 477), .ref (ad 478), .ref (ad 656), .int 0, .int 0, .int 0])) (hS1 : S 1 = .inr (9, [.ref (ad 2), .int 0, .ref (ad 3), .ref (ad 4), .ref (ad 5), .int 0])) (hS2 : S 2 = .inl (cI, 1000, .inl g)) (x1 x2 x3 x4 x5 : Int32) : cCi l yX11_append (Cond.code yX11_append cX11_append 6 (some .int) :: wsA) 2 22 D tys ad N S [.ref (ad 0), .int x1, .int x2, .int x3, .int x4, .int x5] (fun r _ => r = 20) := by
  intro sz
  refine Met.ofW (cc := cX11_append) (maxL := 6) (ret := (some .int)) (by decide) rfl ?_
  intro p e s m args below meth c s₁ B hml hv
  obtain ⟨rfl, hsz, hP, hK, hD0, hX⟩ := hv
  have hx := B.exec
  have hb := B.bytes
  have hr := B.returns
  have hts := atoms_spec (ws := (Cond.code yX11_append cX11_append 6 (some .int) :: wsA)) B.pre
  have hown : s.vm.findClass RX11 = some m.cls := findClass_of_methodNamed B.named
  have hlocks := B.notSynchronized
  subst hsz
  have hD := hD0.self (sz := s.heap.size)
  generalize hAe : va_A (cW ad N S) s.heap.size = A at hD hX ⊢
  have hA : ∀ q : Nat, s.heap.size ≤ q → A q := fun q h => by rw [← hAe]; exact Or.inr h
  have G : cG D ad N A s.heap s.heap [] S := ⟨hP, hD, va_S.rf⟩
  have E : cE p c cX11_append s m ([.ref (ad 0), .int x1, .int x2, .int x3, .int x4, .int x5] : List Value).toArray (Cond.code yX11_append cX11_append 6 (some .int) :: wsA) D RX11 tys := ⟨hx, hb, hts, hown, hK⟩
  have hl := lv_entry ([.ref (ad 0), .int x1, .int x2, .int x3, .int x4, .int x5]) (n := 6) (Nat.le_of_ble_eq_true rfl)
  rw [lg_entry_eq]
  generalize (lg_sl ([.ref (ad 0), .int x1, .int x2, .int x3, .int x4, .int x5]) ++ List.replicate (6 - (lg_sl ([.ref (ad 0), .int x1, .int x2, .int x3, .int x4, .int x5])).length) Slot.unset).toArray = ls at hl ⊢
  have hl : lv_has ls 6 [(0, .ref (ad 0)), (1, .int x1), (2, .int x2), (3, .int x3), (4, .int x4), (5, .int x5)] := hl
  refine lv_aload_n hx hb dX11_append_0 rfl (lv_at hl 0 rfl) ?_
  refine c_get E G 0 0 (Nat.lt_of_lt_of_le (by decide) hN) hS0 rfl (fun w h => .tail _ (iA_23 h)) (by decide) (.tail _ qA_648) rfl rfl dX11_append_1 ?_
  refine c_get E G 1 1 (Nat.lt_of_lt_of_le (by decide) hN) hS1 rfl (fun w h => .tail _ (iA_18 h)) (by decide) (.tail _ qA_688) rfl rfl dX11_append_4 ?_
  refine lv_bipush (v := 20) hx hb dX11_append_7 (by decide) ?_
  refine lv_iadd hx hb dX11_append_9 ?_
  refine lv_to (y := 20) (by decide +kernel) ?_
  refine lv_sipush (v := 1000) hx hb dX11_append_10 (by decide) ?_
  refine lv_icmp_le (tgt := 18) hx hb dX11_append_13 (by decide) (fun c1 => ?_) (fun c1 => absurd (by decide +kernel) c1)
  refine lv_aload_n hx hb dX11_append_18 rfl (lv_at hl 0 rfl) ?_
  refine c_get E G 0 0 (Nat.lt_of_lt_of_le (by decide) hN) hS0 rfl (fun w h => .tail _ (iA_23 h)) (by decide) (.tail _ qA_648) rfl rfl dX11_append_19 ?_
  refine lv_iload_n hx hb dX11_append_22 rfl (lv_at hl 1 rfl) ?_
  refine c_cvv (As := [.int x1]) (rest := []) E G hA hX rfl hml (f_addWord_0 l hst D tys ad N S cI cJ cZ cMic cSrc cSt cAI cAJ hN ht0 ht2 hS0 hS1 hS2 x1) (cwV 1 hts (gaV qA_689 qA_690 qA_691 qA_185 qA_631) rfl rfl rfl (by decide +kernel) ⟨Nat.le_of_ble_eq_true rfl, Nat.le_of_ble_eq_true rfl⟩) (Nat.lt_of_lt_of_le (by decide) hN) hS1 rfl rfl hl.1 rfl (lv_room (Nat.le_of_ble_eq_true rfl)) dX11_append_23 ⟨Nat.le_of_ble_eq_true rfl, Nat.le_of_ble_eq_true rfl⟩ (fun S2 H locs hq G => ?_)
  obtain ⟨f4, hS0, hS1, hS2⟩ := hq
  refine lv_aload_n hx hb dX11_append_26 rfl (lv_at hl 0 rfl) ?_
  refine c_get E G 0 0 (Nat.lt_of_lt_of_le (by decide) hN) hS0 rfl (fun w h => .tail _ (iA_23 h)) (by decide) (.tail _ qA_648) rfl rfl dX11_append_27 ?_
  refine lv_iload_n hx hb dX11_append_30 rfl (lv_at hl 2 rfl) ?_
  refine c_cvv (As := [.int x2]) (rest := []) E G hA hX rfl hml (f_addWord_4 l hst D tys ad N S2 cI cJ cZ cMic cSrc cSt cAI cAJ hN ht0 ht2 hS0 hS1 hS2 x2) (cwV 1 hts (gaV qA_689 qA_690 qA_691 qA_185 qA_631) rfl rfl rfl (by decide +kernel) ⟨Nat.le_of_ble_eq_true rfl, Nat.le_of_ble_eq_true rfl⟩) (Nat.lt_of_lt_of_le (by decide) hN) hS1 rfl rfl hl.1 rfl (lv_room (Nat.le_of_ble_eq_true rfl)) dX11_append_31 ⟨Nat.le_of_ble_eq_true rfl, Nat.le_of_ble_eq_true rfl⟩ (fun S5 H locs hq G => ?_)
  obtain ⟨f7, hS0, hS1, hS2⟩ := hq
  refine lv_aload_n hx hb dX11_append_34 rfl (lv_at hl 0 rfl) ?_
  refine c_get E G 0 0 (Nat.lt_of_lt_of_le (by decide) hN) hS0 rfl (fun w h => .tail _ (iA_23 h)) (by decide) (.tail _ qA_648) rfl rfl dX11_append_35 ?_
  refine lv_iload_n hx hb dX11_append_38 rfl (lv_at hl 3 rfl) ?_
  refine c_cvv (As := [.int x3]) (rest := []) E G hA hX rfl hml (f_addWord_8 l hst D tys ad N S5 cI cJ cZ cMic cSrc cSt cAI cAJ hN ht0 ht2 hS0 hS1 hS2 x3) (cwV 1 hts (gaV qA_689 qA_690 qA_691 qA_185 qA_631) rfl rfl rfl (by decide +kernel) ⟨Nat.le_of_ble_eq_true rfl, Nat.le_of_ble_eq_true rfl⟩) (Nat.lt_of_lt_of_le (by decide) hN) hS1 rfl rfl hl.1 rfl (lv_room (Nat.le_of_ble_eq_true rfl)) dX11_append_39 ⟨Nat.le_of_ble_eq_true rfl, Nat.le_of_ble_eq_true rfl⟩ (fun S8 H locs hq G => ?_)
  obtain ⟨f10, hS0, hS1, hS2⟩ := hq
  refine lv_aload_n hx hb dX11_append_42 rfl (lv_at hl 0 rfl) ?_
  refine c_get E G 0 0 (Nat.lt_of_lt_of_le (by decide) hN) hS0 rfl (fun w h => .tail _ (iA_23 h)) (by decide) (.tail _ qA_648) rfl rfl dX11_append_43 ?_
  refine lv_iload hx hb dX11_append_46 (lv_at hl 4 rfl) ?_
  refine c_cvv (As := [.int x4]) (rest := []) E G hA hX rfl hml (f_addWord_12 l hst D tys ad N S8 cI cJ cZ cMic cSrc cSt cAI cAJ hN ht0 ht2 hS0 hS1 hS2 x4) (cwV 1 hts (gaV qA_689 qA_690 qA_691 qA_185 qA_631) rfl rfl rfl (by decide +kernel) ⟨Nat.le_of_ble_eq_true rfl, Nat.le_of_ble_eq_true rfl⟩) (Nat.lt_of_lt_of_le (by decide) hN) hS1 rfl rfl hl.1 rfl (lv_room (Nat.le_of_ble_eq_true rfl)) dX11_append_48 ⟨Nat.le_of_ble_eq_true rfl, Nat.le_of_ble_eq_true rfl⟩ (fun S11 H locs hq G => ?_)
  obtain ⟨f13, hS0, hS1, hS2⟩ := hq
  refine lv_aload_n hx hb dX11_append_51 rfl (lv_at hl 0 rfl) ?_
  refine c_get E G 0 0 (Nat.lt_of_lt_of_le (by decide) hN) hS0 rfl (fun w h => .tail _ (iA_23 h)) (by decide) (.tail _ qA_648) rfl rfl dX11_append_52 ?_
  refine lv_iload hx hb dX11_append_55 (lv_at hl 5 rfl) ?_
  refine c_cvv (As := [.int x5]) (rest := []) E G hA hX rfl hml (f_addWord_16 l hst D tys ad N S11 cI cJ cZ cMic cSrc cSt cAI cAJ hN ht0 ht2 hS0 hS1 hS2 x5) (cwV 1 hts (gaV qA_689 qA_690 qA_691 qA_185 qA_631) rfl rfl rfl (by decide +kernel) ⟨Nat.le_of_ble_eq_true rfl, Nat.le_of_ble_eq_true rfl⟩) (Nat.lt_of_lt_of_le (by decide) hN) hS1 rfl rfl hl.1 rfl (lv_room (Nat.le_of_ble_eq_true rfl)) dX11_append_57 ⟨Nat.le_of_ble_eq_true rfl, Nat.le_of_ble_eq_true rfl⟩ (fun S14 H locs hq G => ?_)
  obtain ⟨f16, hS0, hS1, hS2⟩ := hq
  refine lv_aload_n hx hb dX11_append_60 rfl (lv_at hl 0 rfl) ?_
  refine c_get E G 0 0 (Nat.lt_of_lt_of_le (by decide) hN) hS0 rfl (fun w h => .tail _ (iA_23 h)) (by decide) (.tail _ qA_648) rfl rfl dX11_append_61 ?_
  refine c_get E G 1 1 (Nat.lt_of_lt_of_le (by decide) hN) hS1 rfl (fun w h => .tail _ (iA_18 h)) (by decide) (.tail _ qA_688) rfl rfl dX11_append_64 ?_
  exact W.iret (v := 20) hx hb hr (fun t ht hW => ⟨⟨20, S14, rfl, rfl, ⟨by rw [ht]; exact G.1, va_K.moved hW.alike hK, G.2.1⟩⟩, G.2.2.F ht⟩) G.2.2.2.2 dX11_append_67
