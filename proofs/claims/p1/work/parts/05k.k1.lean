set_option maxHeartbeats 4000000 in
set_option maxRecDepth 100000 in
theorem k_needCamera (l : Launch) (hst : l.stackTraces = false) (D : va_G) (tys : List (ClassId × FieldType)) (ad : Nat → Nat) (N : Nat) (S : Nat → va_E) {fs gs : List Value} {sc : Nat} (h0N : 0 < N) (h0 : S 0 = .inr (11, fs)) (hs : fs[14]? = some (.ref (ad sc))) (hscN : sc < N) (hsc : S sc = .inr (6, gs)) (hmc : gs[5]? = some (.int 0)) : cXv l yX11_needCamera (Cond.code yX11_needCamera cX11_needCamera 1 none :: wsA) 6 81 D tys ad N S [.ref (ad 0)] (fun _ => False) (fun E u => E = xISE ∧ u = S) := by
  intro sz
  refine vx_ofW (cc := cX11_needCamera) (maxL := 1) (ret := none) (by decide) rfl ?_
  intro p e s m args below meth c s₁ B hml htab hv
  obtain ⟨rfl, hsz, hP, hK, hD0, hX⟩ := hv
  have hx := B.exec
  have hb := B.bytes
  have hr := B.returns
  have hts := atoms_spec (ws := (Cond.code yX11_needCamera cX11_needCamera 1 none :: wsA)) B.pre
  have hown : s.vm.findClass RX11 = some m.cls := findClass_of_methodNamed B.named
  have hlocks := B.notSynchronized
  subst hsz
  have hD := hD0.self (sz := s.heap.size)
  generalize hAe : va_A (cW ad N S) s.heap.size = A at hD hX ⊢
  have hA : ∀ q : Nat, s.heap.size ≤ q → A q := fun q h => by rw [← hAe]; exact Or.inr h
  have G : cG D ad N A s.heap s.heap [] S := ⟨hP, hD, va_S.rf⟩
  have E : cE p c cX11_needCamera s m ([.ref (ad 0)] : List Value).toArray (Cond.code yX11_needCamera cX11_needCamera 1 none :: wsA) D RX11 tys := ⟨hx, hb, hts, hown, hK⟩
  have hl := lv_entry ([.ref (ad 0)]) (n := 1) (Nat.le_of_ble_eq_true rfl)
  rw [lg_entry_eq]
  generalize (lg_sl ([.ref (ad 0)]) ++ List.replicate (1 - (lg_sl ([.ref (ad 0)])).length) Slot.unset).toArray = ls at hl ⊢
  have hl : lv_has ls 1 [(0, .ref (ad 0))] := hl
  refine lv_aload_n hx hb dX11_needCamera_0 rfl (lv_at hl 0 rfl) ?_
  refine c_get E G 0 14 h0N h0 rfl (fun w h => .tail _ (iA_23 h)) (by decide) (.tail _ qA_675) rfl hs dX11_needCamera_1 ?_
  refine c_get E G sc 5 hscN hsc rfl (fun w h => .tail _ (iA_14 h)) (by decide) (.tail _ qA_721) rfl hmc dX11_needCamera_4 ?_
  refine lv_if_ne (tgt := 18) hx hb dX11_needCamera_7 (by decide) (fun c1 => absurd (by decide +kernel) c1) (fun c1 => ?_)
  refine vx_throw0 (own := RX11) (cls := xISE) (names := ["java/lang/RuntimeException", "java/lang/Exception"]) (ik := 397) (ic := 399) (A := A) hx hb hst hown (by decide +kernel) (by decide +kernel) (hts _ (.tail _ qA_732)) (hts _ (.tail _ qA_733)) (vx_hat (B := xB) (fun w h => hts w (.tail _ (iA_26 h))) (by decide +kernel) hX.use) (by decide +kernel) hX.1 hX.2.1 G.2.2 (hl.1.trans hml.symm) dX11_needCamera_10 dX11_needCamera_13 dX11_needCamera_14 dX11_needCamera_17 (fun x hx => (htab x hx).elim) (Nat.le_of_ble_eq_true rfl) (Nat.le_of_ble_eq_true rfl) (Nat.le_of_ble_eq_true rfl) (Nat.le_of_ble_eq_true rfl) hlocks (fun t hvm h1 h2 => ?_) G.2.2.2.2 (Nat.le_refl _) (Nat.le_refl _)
  exact ⟨S, trivial, ⟨⟨rfl, rfl⟩, (c_thrown G hK hvm h1 h2).1⟩, (c_thrown G hK hvm h1 h2).2⟩
set_option maxHeartbeats 4000000 in
set_option maxRecDepth 100000 in
theorem k_micAt (l : Launch) (hst : l.stackTraces = false) (D : va_G) (tys : List (ClassId × FieldType)) (ad : Nat → Nat) (N : Nat) (S : Nat → va_E) {fs gs : List Value} {sc : Nat} (h0N : 0 < N) (h0 : S 0 = .inr (11, fs)) (hs : fs[14]? = some (.ref (ad sc))) (hscN : sc < N) (hsc : S sc = .inr (6, gs)) (hmc : gs[5]? = some (.int 0)) (x y : Int32) : cXi l yX11_micAt (Cond.code yX11_micAt cX11_micAt 3 (some .int) :: wsA) 7 101 D tys ad N S [.ref (ad 0), .int x, .int y] (fun _ _ => False) (fun E u => E = xISE ∧ u = S) := by
  intro sz
  refine vx_ofW (cc := cX11_micAt) (maxL := 3) (ret := (some .int)) (by decide) rfl ?_
  intro p e s m args below meth c s₁ B hml htab hv
  obtain ⟨rfl, hsz, hP, hK, hD0, hX⟩ := hv
  have hx := B.exec
  have hb := B.bytes
  have hr := B.returns
  have hts := atoms_spec (ws := (Cond.code yX11_micAt cX11_micAt 3 (some .int) :: wsA)) B.pre
  have hown : s.vm.findClass RX11 = some m.cls := findClass_of_methodNamed B.named
  have hlocks := B.notSynchronized
  subst hsz
  have hD := hD0.self (sz := s.heap.size)
  generalize hAe : va_A (cW ad N S) s.heap.size = A at hD hX ⊢
  have hA : ∀ q : Nat, s.heap.size ≤ q → A q := fun q h => by rw [← hAe]; exact Or.inr h
  have G : cG D ad N A s.heap s.heap [] S := ⟨hP, hD, va_S.rf⟩
  have E : cE p c cX11_micAt s m ([.ref (ad 0), .int x, .int y] : List Value).toArray (Cond.code yX11_micAt cX11_micAt 3 (some .int) :: wsA) D RX11 tys := ⟨hx, hb, hts, hown, hK⟩
  have hl := lv_entry ([.ref (ad 0), .int x, .int y]) (n := 3) (Nat.le_of_ble_eq_true rfl)
  rw [lg_entry_eq]
  generalize (lg_sl ([.ref (ad 0), .int x, .int y]) ++ List.replicate (3 - (lg_sl ([.ref (ad 0), .int x, .int y])).length) Slot.unset).toArray = ls at hl ⊢
  have hl : lv_has ls 3 [(0, .ref (ad 0)), (1, .int x), (2, .int y)] := hl
  refine lv_aload_n hx hb dX11_micAt_0 rfl (lv_at hl 0 rfl) ?_
  refine c_xvv (As := []) (rest := []) E G hA hX rfl hml (k_needCamera l hst D tys ad N S h0N h0 hs hscN hsc hmc) (cwV 0 hts (gaV qA_728 qA_729 qA_730 qA_131 qA_731) rfl rfl rfl (by decide +kernel) ⟨Nat.le_of_ble_eq_true rfl, Nat.le_of_ble_eq_true rfl⟩) h0N h0 rfl rfl hl.1 rfl (lv_room (Nat.le_of_ble_eq_true rfl)) dX11_micAt_1 ⟨Nat.le_of_ble_eq_true rfl, Nat.le_of_ble_eq_true rfl⟩ (fun E9 ce q9 S1 H locs hp G hce hcv hcl => ?_) (fun S1 H locs hq G => hq.elim)
  obtain ⟨hE, hS1⟩ := hp
  subst hE
  rw [hS1] at G
  exact vx_out (fun x hx => (htab x hx).elim) hlocks hce hcv hcl (fun t ht hvm => ⟨S, trivial, ⟨⟨rfl, rfl⟩, by rw [ht]; exact G.1, va_K.moved hvm hK, G.2.1⟩, G.2.2.F ht⟩) G.2.2.2.2 (Nat.le_refl _) (Nat.le_refl _)
set_option maxHeartbeats 4000000 in
set_option maxRecDepth 100000 in
theorem k_isMuted (l : Launch) (hst : l.stackTraces = false) (D : va_G) (tys : List (ClassId × FieldType)) (ad : Nat → Nat) (N : Nat) (S : Nat → va_E) {fs gs : List Value} {sc : Nat} (h0N : 0 < N) (h0 : S 0 = .inr (11, fs)) (hs : fs[14]? = some (.ref (ad sc))) (hscN : sc < N) (hsc : S sc = .inr (6, gs)) (hmc : gs[5]? = some (.int 0)) (x : Int32) : cXi l yX11_isMuted (Cond.code yX11_isMuted cX11_isMuted 2 (some .boolean) :: wsA) 7 101 D tys ad N S [.ref (ad 0), .int x] (fun _ _ => False) (fun E u => E = xISE ∧ u = S) := by
  intro sz
  refine vx_ofW (cc := cX11_isMuted) (maxL := 2) (ret := (some .boolean)) (by decide) rfl ?_
  intro p e s m args below meth c s₁ B hml htab hv
  obtain ⟨rfl, hsz, hP, hK, hD0, hX⟩ := hv
  have hx := B.exec
  have hb := B.bytes
  have hr := B.returns
  have hts := atoms_spec (ws := (Cond.code yX11_isMuted cX11_isMuted 2 (some .boolean) :: wsA)) B.pre
  have hown : s.vm.findClass RX11 = some m.cls := findClass_of_methodNamed B.named
  have hlocks := B.notSynchronized
  subst hsz
  have hD := hD0.self (sz := s.heap.size)
  generalize hAe : va_A (cW ad N S) s.heap.size = A at hD hX ⊢
  have hA : ∀ q : Nat, s.heap.size ≤ q → A q := fun q h => by rw [← hAe]; exact Or.inr h
  have G : cG D ad N A s.heap s.heap [] S := ⟨hP, hD, va_S.rf⟩
  have E : cE p c cX11_isMuted s m ([.ref (ad 0), .int x] : List Value).toArray (Cond.code yX11_isMuted cX11_isMuted 2 (some .boolean) :: wsA) D RX11 tys := ⟨hx, hb, hts, hown, hK⟩
  have hl := lv_entry ([.ref (ad 0), .int x]) (n := 2) (Nat.le_of_ble_eq_true rfl)
  rw [lg_entry_eq]
  generalize (lg_sl ([.ref (ad 0), .int x]) ++ List.replicate (2 - (lg_sl ([.ref (ad 0), .int x])).length) Slot.unset).toArray = ls at hl ⊢
  have hl : lv_has ls 2 [(0, .ref (ad 0)), (1, .int x)] := hl
  refine lv_aload_n hx hb dX11_isMuted_0 rfl (lv_at hl 0 rfl) ?_
  refine c_xvv (As := []) (rest := []) E G hA hX rfl hml (k_needCamera l hst D tys ad N S h0N h0 hs hscN hsc hmc) (cwV 0 hts (gaV qA_728 qA_729 qA_730 qA_131 qA_731) rfl rfl rfl (by decide +kernel) ⟨Nat.le_of_ble_eq_true rfl, Nat.le_of_ble_eq_true rfl⟩) h0N h0 rfl rfl hl.1 rfl (lv_room (Nat.le_of_ble_eq_true rfl)) dX11_isMuted_1 ⟨Nat.le_of_ble_eq_true rfl, Nat.le_of_ble_eq_true rfl⟩ (fun E9 ce q9 S1 H locs hp G hce hcv hcl => ?_) (fun S1 H locs hq G => hq.elim)
  obtain ⟨hE, hS1⟩ := hp
  subst hE
  rw [hS1] at G
  exact vx_out (fun x hx => (htab x hx).elim) hlocks hce hcv hcl (fun t ht hvm => ⟨S, trivial, ⟨⟨rfl, rfl⟩, by rw [ht]; exact G.1, va_K.moved hvm hK, G.2.1⟩, G.2.2.F ht⟩) G.2.2.2.2 (Nat.le_refl _) (Nat.le_refl _)
set_option maxHeartbeats 4000000 in
set_option maxRecDepth 100000 in
theorem k_cellAt (l : Launch) (hst : l.stackTraces = false) (D : va_G) (tys : List (ClassId × FieldType)) (ad : Nat → Nat) (N : Nat) (S : Nat → va_E) {fs gs : List Value} {sc : Nat} (h0N : 0 < N) (h0 : S 0 = .inr (11, fs)) (hs : fs[14]? = some (.ref (ad sc))) (hscN : sc < N) (hsc : S sc = .inr (6, gs)) (hmc : gs[5]? = some (.int 0)) (x y : Int32) : cXi l yX11_cellAt (Cond.code yX11_cellAt cX11_cellAt 3 (some .int) :: wsA) 7 101 D tys ad N S [.ref (ad 0), .int x, .int y] (fun _ _ => False) (fun E u => E = xISE ∧ u = S) := by
  intro sz
  refine vx_ofW (cc := cX11_cellAt) (maxL := 3) (ret := (some .int)) (by decide) rfl ?_
  intro p e s m args below meth c s₁ B hml htab hv
  obtain ⟨rfl, hsz, hP, hK, hD0, hX⟩ := hv
  have hx := B.exec
  have hb := B.bytes
  have hr := B.returns
  have hts := atoms_spec (ws := (Cond.code yX11_cellAt cX11_cellAt 3 (some .int) :: wsA)) B.pre
  have hown : s.vm.findClass RX11 = some m.cls := findClass_of_methodNamed B.named
  have hlocks := B.notSynchronized
  subst hsz
  have hD := hD0.self (sz := s.heap.size)
  generalize hAe : va_A (cW ad N S) s.heap.size = A at hD hX ⊢
  have hA : ∀ q : Nat, s.heap.size ≤ q → A q := fun q h => by rw [← hAe]; exact Or.inr h
  have G : cG D ad N A s.heap s.heap [] S := ⟨hP, hD, va_S.rf⟩
  have E : cE p c cX11_cellAt s m ([.ref (ad 0), .int x, .int y] : List Value).toArray (Cond.code yX11_cellAt cX11_cellAt 3 (some .int) :: wsA) D RX11 tys := ⟨hx, hb, hts, hown, hK⟩
  have hl := lv_entry ([.ref (ad 0), .int x, .int y]) (n := 3) (Nat.le_of_ble_eq_true rfl)
  rw [lg_entry_eq]
  generalize (lg_sl ([.ref (ad 0), .int x, .int y]) ++ List.replicate (3 - (lg_sl ([.ref (ad 0), .int x, .int y])).length) Slot.unset).toArray = ls at hl ⊢
  have hl : lv_has ls 3 [(0, .ref (ad 0)), (1, .int x), (2, .int y)] := hl
  refine lv_aload_n hx hb dX11_cellAt_0 rfl (lv_at hl 0 rfl) ?_
  refine c_xvv (As := []) (rest := []) E G hA hX rfl hml (k_needCamera l hst D tys ad N S h0N h0 hs hscN hsc hmc) (cwV 0 hts (gaV qA_728 qA_729 qA_730 qA_131 qA_731) rfl rfl rfl (by decide +kernel) ⟨Nat.le_of_ble_eq_true rfl, Nat.le_of_ble_eq_true rfl⟩) h0N h0 rfl rfl hl.1 rfl (lv_room (Nat.le_of_ble_eq_true rfl)) dX11_cellAt_1 ⟨Nat.le_of_ble_eq_true rfl, Nat.le_of_ble_eq_true rfl⟩ (fun E9 ce q9 S1 H locs hp G hce hcv hcl => ?_) (fun S1 H locs hq G => hq.elim)
  obtain ⟨hE, hS1⟩ := hp
  subst hE
  rw [hS1] at G
  exact vx_out (fun x hx => (htab x hx).elim) hlocks hce hcv hcl (fun t ht hvm => ⟨S, trivial, ⟨⟨rfl, rfl⟩, by rw [ht]; exact G.1, va_K.moved hvm hK, G.2.1⟩, G.2.2.F ht⟩) G.2.2.2.2 (Nat.le_refl _) (Nat.le_refl _)
set_option maxHeartbeats 4000000 in
set_option maxRecDepth 100000 in
theorem k_sourceAt (l : Launch) (hst : l.stackTraces = false) (D : va_G) (tys : List (ClassId × FieldType)) (ad : Nat → Nat) (N : Nat) (S : Nat → va_E) {fs gs : List Value} {sc : Nat} (h0N : 0 < N) (h0 : S 0 = .inr (11, fs)) (hs : fs[14]? = some (.ref (ad sc))) (hscN : sc < N) (hsc : S sc = .inr (6, gs)) (hmc : gs[5]? = some (.int 0)) (x y z : Int32) : cXi l yX11_sourceAt (Cond.code yX11_sourceAt cX11_sourceAt 4 (some .int) :: wsA) 7 101 D tys ad N S [.ref (ad 0), .int x, .int y, .int z] (fun _ _ => False) (fun E u => E = xISE ∧ u = S) := by
  intro sz
  refine vx_ofW (cc := cX11_sourceAt) (maxL := 4) (ret := (some .int)) (by decide) rfl ?_
  intro p e s m args below meth c s₁ B hml htab hv
  obtain ⟨rfl, hsz, hP, hK, hD0, hX⟩ := hv
  have hx := B.exec
  have hb := B.bytes
  have hr := B.returns
  have hts := atoms_spec (ws := (Cond.code yX11_sourceAt cX11_sourceAt 4 (some .int) :: wsA)) B.pre
  have hown : s.vm.findClass RX11 = some m.cls := findClass_of_methodNamed B.named
  have hlocks := B.notSynchronized
  subst hsz
  have hD := hD0.self (sz := s.heap.size)
  generalize hAe : va_A (cW ad N S) s.heap.size = A at hD hX ⊢
  have hA : ∀ q : Nat, s.heap.size ≤ q → A q := fun q h => by rw [← hAe]; exact Or.inr h
  have G : cG D ad N A s.heap s.heap [] S := ⟨hP, hD, va_S.rf⟩
  have E : cE p c cX11_sourceAt s m ([.ref (ad 0), .int x, .int y, .int z] : List Value).toArray (Cond.code yX11_sourceAt cX11_sourceAt 4 (some .int) :: wsA) D RX11 tys := ⟨hx, hb, hts, hown, hK⟩
  have hl := lv_entry ([.ref (ad 0), .int x, .int y, .int z]) (n := 4) (Nat.le_of_ble_eq_true rfl)
  rw [lg_entry_eq]
  generalize (lg_sl ([.ref (ad 0), .int x, .int y, .int z]) ++ List.replicate (4 - (lg_sl ([.ref (ad 0), .int x, .int y, .int z])).length) Slot.unset).toArray = ls at hl ⊢
  have hl : lv_has ls 4 [(0, .ref (ad 0)), (1, .int x), (2, .int y), (3, .int z)] := hl
  refine lv_aload_n hx hb dX11_sourceAt_0 rfl (lv_at hl 0 rfl) ?_
  refine c_xvv (As := []) (rest := []) E G hA hX rfl hml (k_needCamera l hst D tys ad N S h0N h0 hs hscN hsc hmc) (cwV 0 hts (gaV qA_728 qA_729 qA_730 qA_131 qA_731) rfl rfl rfl (by decide +kernel) ⟨Nat.le_of_ble_eq_true rfl, Nat.le_of_ble_eq_true rfl⟩) h0N h0 rfl rfl hl.1 rfl (lv_room (Nat.le_of_ble_eq_true rfl)) dX11_sourceAt_1 ⟨Nat.le_of_ble_eq_true rfl, Nat.le_of_ble_eq_true rfl⟩ (fun E9 ce q9 S1 H locs hp G hce hcv hcl => ?_) (fun S1 H locs hq G => hq.elim)
  obtain ⟨hE, hS1⟩ := hp
  subst hE
  rw [hS1] at G
  exact vx_out (fun x hx => (htab x hx).elim) hlocks hce hcv hcl (fun t ht hvm => ⟨S, trivial, ⟨⟨rfl, rfl⟩, by rw [ht]; exact G.1, va_K.moved hvm hK, G.2.1⟩, G.2.2.F ht⟩) G.2.2.2.2 (Nat.le_refl _) (Nat.le_refl _)
set_option maxHeartbeats 4000000 in
set_option maxRecDepth 100000 in
theorem k_isOn (l : Launch) (hst : l.stackTraces = false) (D : va_G) (tys : List (ClassId × FieldType)) (ad : Nat → Nat) (N : Nat) (S : Nat → va_E) {fs gs : List Value} {sc : Nat} (h0N : 0 < N) (h0 : S 0 = .inr (11, fs)) (hs : fs[14]? = some (.ref (ad sc))) (hscN : sc < N) (hsc : S sc = .inr (6, gs)) (hmc : gs[5]? = some (.int 0)) (x : Int32) : cXi l yX11_isOn (Cond.code yX11_isOn cX11_isOn 2 (some .boolean) :: wsA) 7 101 D tys ad N S [.ref (ad 0), .int x] (fun _ _ => False) (fun E u => E = xISE ∧ u = S) := by
  intro sz
  refine vx_ofW (cc := cX11_isOn) (maxL := 2) (ret := (some .boolean)) (by decide) rfl ?_
  intro p e s m args below meth c s₁ B hml htab hv
  obtain ⟨rfl, hsz, hP, hK, hD0, hX⟩ := hv
  have hx := B.exec
  have hb := B.bytes
  have hr := B.returns
  have hts := atoms_spec (ws := (Cond.code yX11_isOn cX11_isOn 2 (some .boolean) :: wsA)) B.pre
  have hown : s.vm.findClass RX11 = some m.cls := findClass_of_methodNamed B.named
  have hlocks := B.notSynchronized
  subst hsz
  have hD := hD0.self (sz := s.heap.size)
  generalize hAe : va_A (cW ad N S) s.heap.size = A at hD hX ⊢
  have hA : ∀ q : Nat, s.heap.size ≤ q → A q := fun q h => by rw [← hAe]; exact Or.inr h
  have G : cG D ad N A s.heap s.heap [] S := ⟨hP, hD, va_S.rf⟩
  have E : cE p c cX11_isOn s m ([.ref (ad 0), .int x] : List Value).toArray (Cond.code yX11_isOn cX11_isOn 2 (some .boolean) :: wsA) D RX11 tys := ⟨hx, hb, hts, hown, hK⟩
  have hl := lv_entry ([.ref (ad 0), .int x]) (n := 2) (Nat.le_of_ble_eq_true rfl)
  rw [lg_entry_eq]
  generalize (lg_sl ([.ref (ad 0), .int x]) ++ List.replicate (2 - (lg_sl ([.ref (ad 0), .int x])).length) Slot.unset).toArray = ls at hl ⊢
  have hl : lv_has ls 2 [(0, .ref (ad 0)), (1, .int x)] := hl
  refine lv_aload_n hx hb dX11_isOn_0 rfl (lv_at hl 0 rfl) ?_
  refine c_xvv (As := []) (rest := []) E G hA hX rfl hml (k_needCamera l hst D tys ad N S h0N h0 hs hscN hsc hmc) (cwV 0 hts (gaV qA_728 qA_729 qA_730 qA_131 qA_731) rfl rfl rfl (by decide +kernel) ⟨Nat.le_of_ble_eq_true rfl, Nat.le_of_ble_eq_true rfl⟩) h0N h0 rfl rfl hl.1 rfl (lv_room (Nat.le_of_ble_eq_true rfl)) dX11_isOn_1 ⟨Nat.le_of_ble_eq_true rfl, Nat.le_of_ble_eq_true rfl⟩ (fun E9 ce q9 S1 H locs hp G hce hcv hcl => ?_) (fun S1 H locs hq G => hq.elim)
  obtain ⟨hE, hS1⟩ := hp
  subst hE
  rw [hS1] at G
  exact vx_out (fun x hx => (htab x hx).elim) hlocks hce hcv hcl (fun t ht hvm => ⟨S, trivial, ⟨⟨rfl, rfl⟩, by rw [ht]; exact G.1, va_K.moved hvm hK, G.2.1⟩, G.2.2.F ht⟩) G.2.2.2.2 (Nat.le_refl _) (Nat.le_refl _)
set_option maxHeartbeats 4000000 in
set_option maxRecDepth 100000 in
theorem k_waveAt (l : Launch) (hst : l.stackTraces = false) (D : va_G) (tys : List (ClassId × FieldType)) (ad : Nat → Nat) (N : Nat) (S : Nat → va_E) {fs gs : List Value} {sc : Nat} (h0N : 0 < N) (h0 : S 0 = .inr (11, fs)) (hs : fs[14]? = some (.ref (ad sc))) (hscN : sc < N) (hsc : S sc = .inr (6, gs)) (hmc : gs[5]? = some (.int 0)) (x y : Int32) : cXi l yX11_waveAt (Cond.code yX11_waveAt cX11_waveAt 3 (some .int) :: wsA) 7 101 D tys ad N S [.ref (ad 0), .int x, .int y] (fun _ _ => False) (fun E u => E = xISE ∧ u = S) := by
  intro sz
  refine vx_ofW (cc := cX11_waveAt) (maxL := 3) (ret := (some .int)) (by decide) rfl ?_
  intro p e s m args below meth c s₁ B hml htab hv
  obtain ⟨rfl, hsz, hP, hK, hD0, hX⟩ := hv
  have hx := B.exec
  have hb := B.bytes
  have hr := B.returns
  have hts := atoms_spec (ws := (Cond.code yX11_waveAt cX11_waveAt 3 (some .int) :: wsA)) B.pre
  have hown : s.vm.findClass RX11 = some m.cls := findClass_of_methodNamed B.named
  have hlocks := B.notSynchronized
  subst hsz
  have hD := hD0.self (sz := s.heap.size)
  generalize hAe : va_A (cW ad N S) s.heap.size = A at hD hX ⊢
  have hA : ∀ q : Nat, s.heap.size ≤ q → A q := fun q h => by rw [← hAe]; exact Or.inr h
  have G : cG D ad N A s.heap s.heap [] S := ⟨hP, hD, va_S.rf⟩
  have E : cE p c cX11_waveAt s m ([.ref (ad 0), .int x, .int y] : List Value).toArray (Cond.code yX11_waveAt cX11_waveAt 3 (some .int) :: wsA) D RX11 tys := ⟨hx, hb, hts, hown, hK⟩
  have hl := lv_entry ([.ref (ad 0), .int x, .int y]) (n := 3) (Nat.le_of_ble_eq_true rfl)
  rw [lg_entry_eq]
  generalize (lg_sl ([.ref (ad 0), .int x, .int y]) ++ List.replicate (3 - (lg_sl ([.ref (ad 0), .int x, .int y])).length) Slot.unset).toArray = ls at hl ⊢
  have hl : lv_has ls 3 [(0, .ref (ad 0)), (1, .int x), (2, .int y)] := hl
  refine lv_aload_n hx hb dX11_waveAt_0 rfl (lv_at hl 0 rfl) ?_
  refine c_xvv (As := []) (rest := []) E G hA hX rfl hml (k_needCamera l hst D tys ad N S h0N h0 hs hscN hsc hmc) (cwV 0 hts (gaV qA_728 qA_729 qA_730 qA_131 qA_731) rfl rfl rfl (by decide +kernel) ⟨Nat.le_of_ble_eq_true rfl, Nat.le_of_ble_eq_true rfl⟩) h0N h0 rfl rfl hl.1 rfl (lv_room (Nat.le_of_ble_eq_true rfl)) dX11_waveAt_1 ⟨Nat.le_of_ble_eq_true rfl, Nat.le_of_ble_eq_true rfl⟩ (fun E9 ce q9 S1 H locs hp G hce hcv hcl => ?_) (fun S1 H locs hq G => hq.elim)
  obtain ⟨hE, hS1⟩ := hp
  subst hE
  rw [hS1] at G
  exact vx_out (fun x hx => (htab x hx).elim) hlocks hce hcv hcl (fun t ht hvm => ⟨S, trivial, ⟨⟨rfl, rfl⟩, by rw [ht]; exact G.1, va_K.moved hvm hK, G.2.1⟩, G.2.2.F ht⟩) G.2.2.2.2 (Nat.le_refl _) (Nat.le_refl _)
set_option maxHeartbeats 4000000 in
set_option maxRecDepth 100000 in
theorem k_delay (l : Launch) (hst : l.stackTraces = false) (D : va_G) (tys : List (ClassId × FieldType)) (ad : Nat → Nat) (N : Nat) (S : Nat → va_E) {fs gs : List Value} {sc : Nat} (h0N : 0 < N) (h0 : S 0 = .inr (11, fs)) (hs : fs[14]? = some (.ref (ad sc))) (hscN : sc < N) (hsc : S sc = .inr (6, gs)) (hmc : gs[5]? = some (.int 0)) (x y : Int32) : cXi l yX11_delay (Cond.code yX11_delay cX11_delay 3 (some .int) :: wsA) 7 101 D tys ad N S [.ref (ad 0), .int x, .int y] (fun _ _ => False) (fun E u => E = xISE ∧ u = S) := by
  intro sz
  refine vx_ofW (cc := cX11_delay) (maxL := 3) (ret := (some .int)) (by decide) rfl ?_
  intro p e s m args below meth c s₁ B hml htab hv
  obtain ⟨rfl, hsz, hP, hK, hD0, hX⟩ := hv
  have hx := B.exec
  have hb := B.bytes
  have hr := B.returns
  have hts := atoms_spec (ws := (Cond.code yX11_delay cX11_delay 3 (some .int) :: wsA)) B.pre
  have hown : s.vm.findClass RX11 = some m.cls := findClass_of_methodNamed B.named
  have hlocks := B.notSynchronized
  subst hsz
  have hD := hD0.self (sz := s.heap.size)
  generalize hAe : va_A (cW ad N S) s.heap.size = A at hD hX ⊢
  have hA : ∀ q : Nat, s.heap.size ≤ q → A q := fun q h => by rw [← hAe]; exact Or.inr h
  have G : cG D ad N A s.heap s.heap [] S := ⟨hP, hD, va_S.rf⟩
  have E : cE p c cX11_delay s m ([.ref (ad 0), .int x, .int y] : List Value).toArray (Cond.code yX11_delay cX11_delay 3 (some .int) :: wsA) D RX11 tys := ⟨hx, hb, hts, hown, hK⟩
  have hl := lv_entry ([.ref (ad 0), .int x, .int y]) (n := 3) (Nat.le_of_ble_eq_true rfl)
  rw [lg_entry_eq]
  generalize (lg_sl ([.ref (ad 0), .int x, .int y]) ++ List.replicate (3 - (lg_sl ([.ref (ad 0), .int x, .int y])).length) Slot.unset).toArray = ls at hl ⊢
  have hl : lv_has ls 3 [(0, .ref (ad 0)), (1, .int x), (2, .int y)] := hl
  refine lv_aload_n hx hb dX11_delay_0 rfl (lv_at hl 0 rfl) ?_
  refine c_xvv (As := []) (rest := []) E G hA hX rfl hml (k_needCamera l hst D tys ad N S h0N h0 hs hscN hsc hmc) (cwV 0 hts (gaV qA_728 qA_729 qA_730 qA_131 qA_731) rfl rfl rfl (by decide +kernel) ⟨Nat.le_of_ble_eq_true rfl, Nat.le_of_ble_eq_true rfl⟩) h0N h0 rfl rfl hl.1 rfl (lv_room (Nat.le_of_ble_eq_true rfl)) dX11_delay_1 ⟨Nat.le_of_ble_eq_true rfl, Nat.le_of_ble_eq_true rfl⟩ (fun E9 ce q9 S1 H locs hp G hce hcv hcl => ?_) (fun S1 H locs hq G => hq.elim)
  obtain ⟨hE, hS1⟩ := hp
  subst hE
  rw [hS1] at G
  exact vx_out (fun x hx => (htab x hx).elim) hlocks hce hcv hcl (fun t ht hvm => ⟨S, trivial, ⟨⟨rfl, rfl⟩, by rw [ht]; exact G.1, va_K.moved hvm hK, G.2.1⟩, G.2.2.F ht⟩) G.2.2.2.2 (Nat.le_refl _) (Nat.le_refl _)
set_option maxHeartbeats 4000000 in
set_option maxRecDepth 100000 in
theorem k_delayTo (l : Launch) (hst : l.stackTraces = false) (D : va_G) (tys : List (ClassId × FieldType)) (ad : Nat → Nat) (N : Nat) (S : Nat → va_E) {fs gs : List Value} {sc : Nat} (h0N : 0 < N) (h0 : S 0 = .inr (11, fs)) (hs : fs[14]? = some (.ref (ad sc))) (hscN : sc < N) (hsc : S sc = .inr (6, gs)) (hmc : gs[5]? = some (.int 0)) (x y z : Int32) : cXi l yX11_delayTo (Cond.code yX11_delayTo cX11_delayTo 4 (some .int) :: wsA) 7 101 D tys ad N S [.ref (ad 0), .int x, .int y, .int z] (fun _ _ => False) (fun E u => E = xISE ∧ u = S) := by
  intro sz
  refine vx_ofW (cc := cX11_delayTo) (maxL := 4) (ret := (some .int)) (by decide) rfl ?_
  intro p e s m args below meth c s₁ B hml htab hv
  obtain ⟨rfl, hsz, hP, hK, hD0, hX⟩ := hv
  have hx := B.exec
  have hb := B.bytes
  have hr := B.returns
  have hts := atoms_spec (ws := (Cond.code yX11_delayTo cX11_delayTo 4 (some .int) :: wsA)) B.pre
  have hown : s.vm.findClass RX11 = some m.cls := findClass_of_methodNamed B.named
  have hlocks := B.notSynchronized
  subst hsz
  have hD := hD0.self (sz := s.heap.size)
  generalize hAe : va_A (cW ad N S) s.heap.size = A at hD hX ⊢
  have hA : ∀ q : Nat, s.heap.size ≤ q → A q := fun q h => by rw [← hAe]; exact Or.inr h
  have G : cG D ad N A s.heap s.heap [] S := ⟨hP, hD, va_S.rf⟩
  have E : cE p c cX11_delayTo s m ([.ref (ad 0), .int x, .int y, .int z] : List Value).toArray (Cond.code yX11_delayTo cX11_delayTo 4 (some .int) :: wsA) D RX11 tys := ⟨hx, hb, hts, hown, hK⟩
  have hl := lv_entry ([.ref (ad 0), .int x, .int y, .int z]) (n := 4) (Nat.le_of_ble_eq_true rfl)
  rw [lg_entry_eq]
  generalize (lg_sl ([.ref (ad 0), .int x, .int y, .int z]) ++ List.replicate (4 - (lg_sl ([.ref (ad 0), .int x, .int y, .int z])).length) Slot.unset).toArray = ls at hl ⊢
  have hl : lv_has ls 4 [(0, .ref (ad 0)), (1, .int x), (2, .int y), (3, .int z)] := hl
  refine lv_aload_n hx hb dX11_delayTo_0 rfl (lv_at hl 0 rfl) ?_
  refine c_xvv (As := []) (rest := []) E G hA hX rfl hml (k_needCamera l hst D tys ad N S h0N h0 hs hscN hsc hmc) (cwV 0 hts (gaV qA_728 qA_729 qA_730 qA_131 qA_731) rfl rfl rfl (by decide +kernel) ⟨Nat.le_of_ble_eq_true rfl, Nat.le_of_ble_eq_true rfl⟩) h0N h0 rfl rfl hl.1 rfl (lv_room (Nat.le_of_ble_eq_true rfl)) dX11_delayTo_1 ⟨Nat.le_of_ble_eq_true rfl, Nat.le_of_ble_eq_true rfl⟩ (fun E9 ce q9 S1 H locs hp G hce hcv hcl => ?_) (fun S1 H locs hq G => hq.elim)
  obtain ⟨hE, hS1⟩ := hp
  subst hE
  rw [hS1] at G
  exact vx_out (fun x hx => (htab x hx).elim) hlocks hce hcv hcl (fun t ht hvm => ⟨S, trivial, ⟨⟨rfl, rfl⟩, by rw [ht]; exact G.1, va_K.moved hvm hK, G.2.1⟩, G.2.2.F ht⟩) G.2.2.2.2 (Nat.le_refl _) (Nat.le_refl _)
set_option maxHeartbeats 4000000 in
set_option maxRecDepth 100000 in
theorem k_spread (l : Launch) (hst : l.stackTraces = false) (D : va_G) (tys : List (ClassId × FieldType)) (ad : Nat → Nat) (N : Nat) (S : Nat → va_E) {fs gs : List Value} {sc : Nat} (h0N : 0 < N) (h0 : S 0 = .inr (11, fs)) (hs : fs[14]? = some (.ref (ad sc))) (hscN : sc < N) (hsc : S sc = .inr (6, gs)) (hmc : gs[5]? = some (.int 0)) (x : Int32) : cXi l yX11_spread (Cond.code yX11_spread cX11_spread 3 (some .int) :: wsA) 7 101 D tys ad N S [.ref (ad 0), .int x] (fun _ _ => False) (fun E u => E = xISE ∧ u = S) := by
  intro sz
  refine vx_ofW (cc := cX11_spread) (maxL := 3) (ret := (some .int)) (by decide) rfl ?_
  intro p e s m args below meth c s₁ B hml htab hv
  obtain ⟨rfl, hsz, hP, hK, hD0, hX⟩ := hv
  have hx := B.exec
  have hb := B.bytes
  have hr := B.returns
  have hts := atoms_spec (ws := (Cond.code yX11_spread cX11_spread 3 (some .int) :: wsA)) B.pre
  have hown : s.vm.findClass RX11 = some m.cls := findClass_of_methodNamed B.named
  have hlocks := B.notSynchronized
  subst hsz
  have hD := hD0.self (sz := s.heap.size)
  generalize hAe : va_A (cW ad N S) s.heap.size = A at hD hX ⊢
  have hA : ∀ q : Nat, s.heap.size ≤ q → A q := fun q h => by rw [← hAe]; exact Or.inr h
  have G : cG D ad N A s.heap s.heap [] S := ⟨hP, hD, va_S.rf⟩
  have E : cE p c cX11_spread s m ([.ref (ad 0), .int x] : List Value).toArray (Cond.code yX11_spread cX11_spread 3 (some .int) :: wsA) D RX11 tys := ⟨hx, hb, hts, hown, hK⟩
  have hl := lv_entry ([.ref (ad 0), .int x]) (n := 3) (Nat.le_of_ble_eq_true rfl)
  rw [lg_entry_eq]
  generalize (lg_sl ([.ref (ad 0), .int x]) ++ List.replicate (3 - (lg_sl ([.ref (ad 0), .int x])).length) Slot.unset).toArray = ls at hl ⊢
  have hl : lv_has ls 3 [(0, .ref (ad 0)), (1, .int x)] := hl
  refine lv_aload_n hx hb dX11_spread_0 rfl (lv_at hl 0 rfl) ?_
  refine c_xvv (As := []) (rest := []) E G hA hX rfl hml (k_needCamera l hst D tys ad N S h0N h0 hs hscN hsc hmc) (cwV 0 hts (gaV qA_728 qA_729 qA_730 qA_131 qA_731) rfl rfl rfl (by decide +kernel) ⟨Nat.le_of_ble_eq_true rfl, Nat.le_of_ble_eq_true rfl⟩) h0N h0 rfl rfl hl.1 rfl (lv_room (Nat.le_of_ble_eq_true rfl)) dX11_spread_1 ⟨Nat.le_of_ble_eq_true rfl, Nat.le_of_ble_eq_true rfl⟩ (fun E9 ce q9 S1 H locs hp G hce hcv hcl => ?_) (fun S1 H locs hq G => hq.elim)
  obtain ⟨hE, hS1⟩ := hp
  subst hE
  rw [hS1] at G
  exact vx_out (fun x hx => (htab x hx).elim) hlocks hce hcv hcl (fun t ht hvm => ⟨S, trivial, ⟨⟨rfl, rfl⟩, by rw [ht]; exact G.1, va_K.moved hvm hK, G.2.1⟩, G.2.2.F ht⟩) G.2.2.2.2 (Nat.le_refl _) (Nat.le_refl _)
set_option maxHeartbeats 4000000 in
set_option maxRecDepth 100000 in
theorem k_window (l : Launch) (hst : l.stackTraces = false) (D : va_G) (tys : List (ClassId × FieldType)) (ad : Nat → Nat) (N : Nat) (S : Nat → va_E) {fs gs : List Value} {sc : Nat} (h0N : 0 < N) (h0 : S 0 = .inr (11, fs)) (hs : fs[14]? = some (.ref (ad sc))) (hscN : sc < N) (hsc : S sc = .inr (6, gs)) (hmc : gs[5]? = some (.int 0)) (x : Int32) : cXi l yX11_window (Cond.code yX11_window cX11_window 2 (some .int) :: wsA) 7 101 D tys ad N S [.ref (ad 0), .int x] (fun _ _ => False) (fun E u => E = xISE ∧ u = S) := by
  intro sz
  refine vx_ofW (cc := cX11_window) (maxL := 2) (ret := (some .int)) (by decide) rfl ?_
  intro p e s m args below meth c s₁ B hml htab hv
  obtain ⟨rfl, hsz, hP, hK, hD0, hX⟩ := hv
  have hx := B.exec
  have hb := B.bytes
  have hr := B.returns
  have hts := atoms_spec (ws := (Cond.code yX11_window cX11_window 2 (some .int) :: wsA)) B.pre
  have hown : s.vm.findClass RX11 = some m.cls := findClass_of_methodNamed B.named
  have hlocks := B.notSynchronized
  subst hsz
  have hD := hD0.self (sz := s.heap.size)
  generalize hAe : va_A (cW ad N S) s.heap.size = A at hD hX ⊢
  have hA : ∀ q : Nat, s.heap.size ≤ q → A q := fun q h => by rw [← hAe]; exact Or.inr h
  have G : cG D ad N A s.heap s.heap [] S := ⟨hP, hD, va_S.rf⟩
  have E : cE p c cX11_window s m ([.ref (ad 0), .int x] : List Value).toArray (Cond.code yX11_window cX11_window 2 (some .int) :: wsA) D RX11 tys := ⟨hx, hb, hts, hown, hK⟩
  have hl := lv_entry ([.ref (ad 0), .int x]) (n := 2) (Nat.le_of_ble_eq_true rfl)
  rw [lg_entry_eq]
  generalize (lg_sl ([.ref (ad 0), .int x]) ++ List.replicate (2 - (lg_sl ([.ref (ad 0), .int x])).length) Slot.unset).toArray = ls at hl ⊢
  have hl : lv_has ls 2 [(0, .ref (ad 0)), (1, .int x)] := hl
  refine lv_aload_n hx hb dX11_window_0 rfl (lv_at hl 0 rfl) ?_
  refine c_xvv (As := []) (rest := []) E G hA hX rfl hml (k_needCamera l hst D tys ad N S h0N h0 hs hscN hsc hmc) (cwV 0 hts (gaV qA_728 qA_729 qA_730 qA_131 qA_731) rfl rfl rfl (by decide +kernel) ⟨Nat.le_of_ble_eq_true rfl, Nat.le_of_ble_eq_true rfl⟩) h0N h0 rfl rfl hl.1 rfl (lv_room (Nat.le_of_ble_eq_true rfl)) dX11_window_1 ⟨Nat.le_of_ble_eq_true rfl, Nat.le_of_ble_eq_true rfl⟩ (fun E9 ce q9 S1 H locs hp G hce hcv hcl => ?_) (fun S1 H locs hq G => hq.elim)
  obtain ⟨hE, hS1⟩ := hp
  subst hE
  rw [hS1] at G
  exact vx_out (fun x hx => (htab x hx).elim) hlocks hce hcv hcl (fun t ht hvm => ⟨S, trivial, ⟨⟨rfl, rfl⟩, by rw [ht]; exact G.1, va_K.moved hvm hK, G.2.1⟩, G.2.2.F ht⟩) G.2.2.2.2 (Nat.le_refl _) (Nat.le_refl _)
set_option maxHeartbeats 4000000 in
set_option maxRecDepth 100000 in
theorem k_sample (l : Launch) (hst : l.stackTraces = false) (D : va_G) (tys : List (ClassId × FieldType)) (ad : Nat → Nat) (N : Nat) (S : Nat → va_E) {fs gs : List Value} {sc : Nat} (h0N : 0 < N) (h0 : S 0 = .inr (11, fs)) (hs : fs[14]? = some (.ref (ad sc))) (hscN : sc < N) (hsc : S sc = .inr (6, gs)) (hmc : gs[5]? = some (.int 0)) (x y : Int32) : cXi l yX11_sample (Cond.code yX11_sample cX11_sample 3 (some .int) :: wsA) 7 101 D tys ad N S [.ref (ad 0), .int x, .int y] (fun _ _ => False) (fun E u => E = xISE ∧ u = S) := by
  intro sz
  refine vx_ofW (cc := cX11_sample) (maxL := 3) (ret := (some .int)) (by decide) rfl ?_
  intro p e s m args below meth c s₁ B hml htab hv
  obtain ⟨rfl, hsz, hP, hK, hD0, hX⟩ := hv
  have hx := B.exec
  have hb := B.bytes
  have hr := B.returns
  have hts := atoms_spec (ws := (Cond.code yX11_sample cX11_sample 3 (some .int) :: wsA)) B.pre
  have hown : s.vm.findClass RX11 = some m.cls := findClass_of_methodNamed B.named
  have hlocks := B.notSynchronized
  subst hsz
  have hD := hD0.self (sz := s.heap.size)
  generalize hAe : va_A (cW ad N S) s.heap.size = A at hD hX ⊢
  have hA : ∀ q : Nat, s.heap.size ≤ q → A q := fun q h => by rw [← hAe]; exact Or.inr h
  have G : cG D ad N A s.heap s.heap [] S := ⟨hP, hD, va_S.rf⟩
  have E : cE p c cX11_sample s m ([.ref (ad 0), .int x, .int y] : List Value).toArray (Cond.code yX11_sample cX11_sample 3 (some .int) :: wsA) D RX11 tys := ⟨hx, hb, hts, hown, hK⟩
  have hl := lv_entry ([.ref (ad 0), .int x, .int y]) (n := 3) (Nat.le_of_ble_eq_true rfl)
  rw [lg_entry_eq]
  generalize (lg_sl ([.ref (ad 0), .int x, .int y]) ++ List.replicate (3 - (lg_sl ([.ref (ad 0), .int x, .int y])).length) Slot.unset).toArray = ls at hl ⊢
  have hl : lv_has ls 3 [(0, .ref (ad 0)), (1, .int x), (2, .int y)] := hl
  refine lv_aload_n hx hb dX11_sample_0 rfl (lv_at hl 0 rfl) ?_
  refine c_xvv (As := []) (rest := []) E G hA hX rfl hml (k_needCamera l hst D tys ad N S h0N h0 hs hscN hsc hmc) (cwV 0 hts (gaV qA_728 qA_729 qA_730 qA_131 qA_731) rfl rfl rfl (by decide +kernel) ⟨Nat.le_of_ble_eq_true rfl, Nat.le_of_ble_eq_true rfl⟩) h0N h0 rfl rfl hl.1 rfl (lv_room (Nat.le_of_ble_eq_true rfl)) dX11_sample_1 ⟨Nat.le_of_ble_eq_true rfl, Nat.le_of_ble_eq_true rfl⟩ (fun E9 ce q9 S1 H locs hp G hce hcv hcl => ?_) (fun S1 H locs hq G => hq.elim)
  obtain ⟨hE, hS1⟩ := hp
  subst hE
  rw [hS1] at G
  exact vx_out (fun x hx => (htab x hx).elim) hlocks hce hcv hcl (fun t ht hvm => ⟨S, trivial, ⟨⟨rfl, rfl⟩, by rw [ht]; exact G.1, va_K.moved hvm hK, G.2.1⟩, G.2.2.F ht⟩) G.2.2.2.2 (Nat.le_refl _) (Nat.le_refl _)
set_option maxHeartbeats 4000000 in
set_option maxRecDepth 100000 in
theorem k_beam (l : Launch) (hst : l.stackTraces = false) (D : va_G) (tys : List (ClassId × FieldType)) (ad : Nat → Nat) (N : Nat) (S : Nat → va_E) {fs gs : List Value} {sc : Nat} (h0N : 0 < N) (h0 : S 0 = .inr (11, fs)) (hs : fs[14]? = some (.ref (ad sc))) (hscN : sc < N) (hsc : S sc = .inr (6, gs)) (hmc : gs[5]? = some (.int 0)) (x y : Int32) : cXi l yX11_beam (Cond.code yX11_beam cX11_beam 3 (some .int) :: wsA) 7 101 D tys ad N S [.ref (ad 0), .int x, .int y] (fun _ _ => False) (fun E u => E = xISE ∧ u = S) := by
  intro sz
  refine vx_ofW (cc := cX11_beam) (maxL := 3) (ret := (some .int)) (by decide) rfl ?_
  intro p e s m args below meth c s₁ B hml htab hv
  obtain ⟨rfl, hsz, hP, hK, hD0, hX⟩ := hv
  have hx := B.exec
  have hb := B.bytes
  have hr := B.returns
  have hts := atoms_spec (ws := (Cond.code yX11_beam cX11_beam 3 (some .int) :: wsA)) B.pre
  have hown : s.vm.findClass RX11 = some m.cls := findClass_of_methodNamed B.named
  have hlocks := B.notSynchronized
  subst hsz
  have hD := hD0.self (sz := s.heap.size)
  generalize hAe : va_A (cW ad N S) s.heap.size = A at hD hX ⊢
  have hA : ∀ q : Nat, s.heap.size ≤ q → A q := fun q h => by rw [← hAe]; exact Or.inr h
  have G : cG D ad N A s.heap s.heap [] S := ⟨hP, hD, va_S.rf⟩
  have E : cE p c cX11_beam s m ([.ref (ad 0), .int x, .int y] : List Value).toArray (Cond.code yX11_beam cX11_beam 3 (some .int) :: wsA) D RX11 tys := ⟨hx, hb, hts, hown, hK⟩
  have hl := lv_entry ([.ref (ad 0), .int x, .int y]) (n := 3) (Nat.le_of_ble_eq_true rfl)
  rw [lg_entry_eq]
  generalize (lg_sl ([.ref (ad 0), .int x, .int y]) ++ List.replicate (3 - (lg_sl ([.ref (ad 0), .int x, .int y])).length) Slot.unset).toArray = ls at hl ⊢
  have hl : lv_has ls 3 [(0, .ref (ad 0)), (1, .int x), (2, .int y)] := hl
  refine lv_aload_n hx hb dX11_beam_0 rfl (lv_at hl 0 rfl) ?_
  refine c_xvv (As := []) (rest := []) E G hA hX rfl hml (k_needCamera l hst D tys ad N S h0N h0 hs hscN hsc hmc) (cwV 0 hts (gaV qA_728 qA_729 qA_730 qA_131 qA_731) rfl rfl rfl (by decide +kernel) ⟨Nat.le_of_ble_eq_true rfl, Nat.le_of_ble_eq_true rfl⟩) h0N h0 rfl rfl hl.1 rfl (lv_room (Nat.le_of_ble_eq_true rfl)) dX11_beam_1 ⟨Nat.le_of_ble_eq_true rfl, Nat.le_of_ble_eq_true rfl⟩ (fun E9 ce q9 S1 H locs hp G hce hcv hcl => ?_) (fun S1 H locs hq G => hq.elim)
  obtain ⟨hE, hS1⟩ := hp
  subst hE
  rw [hS1] at G
  exact vx_out (fun x hx => (htab x hx).elim) hlocks hce hcv hcl (fun t ht hvm => ⟨S, trivial, ⟨⟨rfl, rfl⟩, by rw [ht]; exact G.1, va_K.moved hvm hK, G.2.1⟩, G.2.2.F ht⟩) G.2.2.2.2 (Nat.le_refl _) (Nat.le_refl _)
set_option maxHeartbeats 4000000 in
set_option maxRecDepth 100000 in
theorem k_power (l : Launch) (hst : l.stackTraces = false) (D : va_G) (tys : List (ClassId × FieldType)) (ad : Nat → Nat) (N : Nat) (S : Nat → va_E) {fs gs : List Value} {sc : Nat} (h0N : 0 < N) (h0 : S 0 = .inr (11, fs)) (hs : fs[14]? = some (.ref (ad sc))) (hscN : sc < N) (hsc : S sc = .inr (6, gs)) (hmc : gs[5]? = some (.int 0)) (x : Int32) : cXl l yX11_power (Cond.code yX11_power cX11_power 2 (some .long) :: wsA) 7 101 D tys ad N S [.ref (ad 0), .int x] (fun _ _ => False) (fun E u => E = xISE ∧ u = S) := by
  intro sz
  refine vx_ofW (cc := cX11_power) (maxL := 2) (ret := (some .long)) (by decide) rfl ?_
  intro p e s m args below meth c s₁ B hml htab hv
  obtain ⟨rfl, hsz, hP, hK, hD0, hX⟩ := hv
  have hx := B.exec
  have hb := B.bytes
  have hr := B.returns
  have hts := atoms_spec (ws := (Cond.code yX11_power cX11_power 2 (some .long) :: wsA)) B.pre
  have hown : s.vm.findClass RX11 = some m.cls := findClass_of_methodNamed B.named
  have hlocks := B.notSynchronized
  subst hsz
  have hD := hD0.self (sz := s.heap.size)
  generalize hAe : va_A (cW ad N S) s.heap.size = A at hD hX ⊢
  have hA : ∀ q : Nat, s.heap.size ≤ q → A q := fun q h => by rw [← hAe]; exact Or.inr h
  have G : cG D ad N A s.heap s.heap [] S := ⟨hP, hD, va_S.rf⟩
  have E : cE p c cX11_power s m ([.ref (ad 0), .int x] : List Value).toArray (Cond.code yX11_power cX11_power 2 (some .long) :: wsA) D RX11 tys := ⟨hx, hb, hts, hown, hK⟩
  have hl := lv_entry ([.ref (ad 0), .int x]) (n := 2) (Nat.le_of_ble_eq_true rfl)
  rw [lg_entry_eq]
  generalize (lg_sl ([.ref (ad 0), .int x]) ++ List.replicate (2 - (lg_sl ([.ref (ad 0), .int x])).length) Slot.unset).toArray = ls at hl ⊢
  have hl : lv_has ls 2 [(0, .ref (ad 0)), (1, .int x)] := hl
  refine lv_aload_n hx hb dX11_power_0 rfl (lv_at hl 0 rfl) ?_
  refine c_xvv (As := []) (rest := []) E G hA hX rfl hml (k_needCamera l hst D tys ad N S h0N h0 hs hscN hsc hmc) (cwV 0 hts (gaV qA_728 qA_729 qA_730 qA_131 qA_731) rfl rfl rfl (by decide +kernel) ⟨Nat.le_of_ble_eq_true rfl, Nat.le_of_ble_eq_true rfl⟩) h0N h0 rfl rfl hl.1 rfl (lv_room (Nat.le_of_ble_eq_true rfl)) dX11_power_1 ⟨Nat.le_of_ble_eq_true rfl, Nat.le_of_ble_eq_true rfl⟩ (fun E9 ce q9 S1 H locs hp G hce hcv hcl => ?_) (fun S1 H locs hq G => hq.elim)
  obtain ⟨hE, hS1⟩ := hp
  subst hE
  rw [hS1] at G
  exact vx_out (fun x hx => (htab x hx).elim) hlocks hce hcv hcl (fun t ht hvm => ⟨S, trivial, ⟨⟨rfl, rfl⟩, by rw [ht]; exact G.1, va_K.moved hvm hK, G.2.1⟩, G.2.2.F ht⟩) G.2.2.2.2 (Nat.le_refl _) (Nat.le_refl _)
set_option maxHeartbeats 4000000 in
set_option maxRecDepth 100000 in
theorem k_powerAt (l : Launch) (hst : l.stackTraces = false) (D : va_G) (tys : List (ClassId × FieldType)) (ad : Nat → Nat) (N : Nat) (S : Nat → va_E) {fs gs : List Value} {sc : Nat} (h0N : 0 < N) (h0 : S 0 = .inr (11, fs)) (hs : fs[14]? = some (.ref (ad sc))) (hscN : sc < N) (hsc : S sc = .inr (6, gs)) (hmc : gs[5]? = some (.int 0)) (x y : Int32) : cXl l yX11_powerAt (Cond.code yX11_powerAt cX11_powerAt 3 (some .long) :: wsA) 7 101 D tys ad N S [.ref (ad 0), .int x, .int y] (fun _ _ => False) (fun E u => E = xISE ∧ u = S) := by
  intro sz
  refine vx_ofW (cc := cX11_powerAt) (maxL := 3) (ret := (some .long)) (by decide) rfl ?_
  intro p e s m args below meth c s₁ B hml htab hv
  obtain ⟨rfl, hsz, hP, hK, hD0, hX⟩ := hv
  have hx := B.exec
  have hb := B.bytes
  have hr := B.returns
  have hts := atoms_spec (ws := (Cond.code yX11_powerAt cX11_powerAt 3 (some .long) :: wsA)) B.pre
  have hown : s.vm.findClass RX11 = some m.cls := findClass_of_methodNamed B.named
  have hlocks := B.notSynchronized
  subst hsz
  have hD := hD0.self (sz := s.heap.size)
  generalize hAe : va_A (cW ad N S) s.heap.size = A at hD hX ⊢
  have hA : ∀ q : Nat, s.heap.size ≤ q → A q := fun q h => by rw [← hAe]; exact Or.inr h
  have G : cG D ad N A s.heap s.heap [] S := ⟨hP, hD, va_S.rf⟩
  have E : cE p c cX11_powerAt s m ([.ref (ad 0), .int x, .int y] : List Value).toArray (Cond.code yX11_powerAt cX11_powerAt 3 (some .long) :: wsA) D RX11 tys := ⟨hx, hb, hts, hown, hK⟩
  have hl := lv_entry ([.ref (ad 0), .int x, .int y]) (n := 3) (Nat.le_of_ble_eq_true rfl)
  rw [lg_entry_eq]
  generalize (lg_sl ([.ref (ad 0), .int x, .int y]) ++ List.replicate (3 - (lg_sl ([.ref (ad 0), .int x, .int y])).length) Slot.unset).toArray = ls at hl ⊢
  have hl : lv_has ls 3 [(0, .ref (ad 0)), (1, .int x), (2, .int y)] := hl
  refine lv_aload_n hx hb dX11_powerAt_0 rfl (lv_at hl 0 rfl) ?_
  refine c_xvv (As := []) (rest := []) E G hA hX rfl hml (k_needCamera l hst D tys ad N S h0N h0 hs hscN hsc hmc) (cwV 0 hts (gaV qA_728 qA_729 qA_730 qA_131 qA_731) rfl rfl rfl (by decide +kernel) ⟨Nat.le_of_ble_eq_true rfl, Nat.le_of_ble_eq_true rfl⟩) h0N h0 rfl rfl hl.1 rfl (lv_room (Nat.le_of_ble_eq_true rfl)) dX11_powerAt_1 ⟨Nat.le_of_ble_eq_true rfl, Nat.le_of_ble_eq_true rfl⟩ (fun E9 ce q9 S1 H locs hp G hce hcv hcl => ?_) (fun S1 H locs hq G => hq.elim)
  obtain ⟨hE, hS1⟩ := hp
  subst hE
  rw [hS1] at G
  exact vx_out (fun x hx => (htab x hx).elim) hlocks hce hcv hcl (fun t ht hvm => ⟨S, trivial, ⟨⟨rfl, rfl⟩, by rw [ht]; exact G.1, va_K.moved hvm hK, G.2.1⟩, G.2.2.F ht⟩) G.2.2.2.2 (Nat.le_refl _) (Nat.le_refl _)
set_option maxHeartbeats 4000000 in
set_option maxRecDepth 100000 in
theorem k_best (l : Launch) (hst : l.stackTraces = false) (D : va_G) (tys : List (ClassId × FieldType)) (ad : Nat → Nat) (N : Nat) (S : Nat → va_E) {fs gs : List Value} {sc : Nat} (h0N : 0 < N) (h0 : S 0 = .inr (11, fs)) (hs : fs[14]? = some (.ref (ad sc))) (hscN : sc < N) (hsc : S sc = .inr (6, gs)) (hmc : gs[5]? = some (.int 0)) : cXi l yX11_best (Cond.code yX11_best cX11_best 1 (some .int) :: wsA) 7 101 D tys ad N S [.ref (ad 0)] (fun _ _ => False) (fun E u => E = xISE ∧ u = S) := by
  intro sz
  refine vx_ofW (cc := cX11_best) (maxL := 1) (ret := (some .int)) (by decide) rfl ?_
  intro p e s m args below meth c s₁ B hml htab hv
  obtain ⟨rfl, hsz, hP, hK, hD0, hX⟩ := hv
  have hx := B.exec
  have hb := B.bytes
  have hr := B.returns
  have hts := atoms_spec (ws := (Cond.code yX11_best cX11_best 1 (some .int) :: wsA)) B.pre
  have hown : s.vm.findClass RX11 = some m.cls := findClass_of_methodNamed B.named
  have hlocks := B.notSynchronized
  subst hsz
  have hD := hD0.self (sz := s.heap.size)
  generalize hAe : va_A (cW ad N S) s.heap.size = A at hD hX ⊢
  have hA : ∀ q : Nat, s.heap.size ≤ q → A q := fun q h => by rw [← hAe]; exact Or.inr h
  have G : cG D ad N A s.heap s.heap [] S := ⟨hP, hD, va_S.rf⟩
  have E : cE p c cX11_best s m ([.ref (ad 0)] : List Value).toArray (Cond.code yX11_best cX11_best 1 (some .int) :: wsA) D RX11 tys := ⟨hx, hb, hts, hown, hK⟩
  have hl := lv_entry ([.ref (ad 0)]) (n := 1) (Nat.le_of_ble_eq_true rfl)
  rw [lg_entry_eq]
  generalize (lg_sl ([.ref (ad 0)]) ++ List.replicate (1 - (lg_sl ([.ref (ad 0)])).length) Slot.unset).toArray = ls at hl ⊢
  have hl : lv_has ls 1 [(0, .ref (ad 0))] := hl
  refine lv_aload_n hx hb dX11_best_0 rfl (lv_at hl 0 rfl) ?_
  refine c_xvv (As := []) (rest := []) E G hA hX rfl hml (k_needCamera l hst D tys ad N S h0N h0 hs hscN hsc hmc) (cwV 0 hts (gaV qA_728 qA_729 qA_730 qA_131 qA_731) rfl rfl rfl (by decide +kernel) ⟨Nat.le_of_ble_eq_true rfl, Nat.le_of_ble_eq_true rfl⟩) h0N h0 rfl rfl hl.1 rfl (lv_room (Nat.le_of_ble_eq_true rfl)) dX11_best_1 ⟨Nat.le_of_ble_eq_true rfl, Nat.le_of_ble_eq_true rfl⟩ (fun E9 ce q9 S1 H locs hp G hce hcv hcl => ?_) (fun S1 H locs hq G => hq.elim)
  obtain ⟨hE, hS1⟩ := hp
  subst hE
  rw [hS1] at G
  exact vx_out (fun x hx => (htab x hx).elim) hlocks hce hcv hcl (fun t ht hvm => ⟨S, trivial, ⟨⟨rfl, rfl⟩, by rw [ht]; exact G.1, va_K.moved hvm hK, G.2.1⟩, G.2.2.F ht⟩) G.2.2.2.2 (Nat.le_refl _) (Nat.le_refl _)
set_option maxHeartbeats 4000000 in
set_option maxRecDepth 100000 in
theorem k_bestPower (l : Launch) (hst : l.stackTraces = false) (D : va_G) (tys : List (ClassId × FieldType)) (ad : Nat → Nat) (N : Nat) (S : Nat → va_E) {fs gs : List Value} {sc : Nat} (h0N : 0 < N) (h0 : S 0 = .inr (11, fs)) (hs : fs[14]? = some (.ref (ad sc))) (hscN : sc < N) (hsc : S sc = .inr (6, gs)) (hmc : gs[5]? = some (.int 0)) : cXl l yX11_bestPower (Cond.code yX11_bestPower cX11_bestPower 2 (some .long) :: wsA) 7 101 D tys ad N S [.ref (ad 0)] (fun _ _ => False) (fun E u => E = xISE ∧ u = S) := by
  intro sz
  refine vx_ofW (cc := cX11_bestPower) (maxL := 2) (ret := (some .long)) (by decide) rfl ?_
  intro p e s m args below meth c s₁ B hml htab hv
  obtain ⟨rfl, hsz, hP, hK, hD0, hX⟩ := hv
  have hx := B.exec
  have hb := B.bytes
  have hr := B.returns
  have hts := atoms_spec (ws := (Cond.code yX11_bestPower cX11_bestPower 2 (some .long) :: wsA)) B.pre
  have hown : s.vm.findClass RX11 = some m.cls := findClass_of_methodNamed B.named
  have hlocks := B.notSynchronized
  subst hsz
  have hD := hD0.self (sz := s.heap.size)
  generalize hAe : va_A (cW ad N S) s.heap.size = A at hD hX ⊢
  have hA : ∀ q : Nat, s.heap.size ≤ q → A q := fun q h => by rw [← hAe]; exact Or.inr h
  have G : cG D ad N A s.heap s.heap [] S := ⟨hP, hD, va_S.rf⟩
  have E : cE p c cX11_bestPower s m ([.ref (ad 0)] : List Value).toArray (Cond.code yX11_bestPower cX11_bestPower 2 (some .long) :: wsA) D RX11 tys := ⟨hx, hb, hts, hown, hK⟩
  have hl := lv_entry ([.ref (ad 0)]) (n := 2) (Nat.le_of_ble_eq_true rfl)
  rw [lg_entry_eq]
  generalize (lg_sl ([.ref (ad 0)]) ++ List.replicate (2 - (lg_sl ([.ref (ad 0)])).length) Slot.unset).toArray = ls at hl ⊢
  have hl : lv_has ls 2 [(0, .ref (ad 0))] := hl
  refine lv_aload_n hx hb dX11_bestPower_0 rfl (lv_at hl 0 rfl) ?_
  refine c_xvv (As := []) (rest := []) E G hA hX rfl hml (k_needCamera l hst D tys ad N S h0N h0 hs hscN hsc hmc) (cwV 0 hts (gaV qA_728 qA_729 qA_730 qA_131 qA_731) rfl rfl rfl (by decide +kernel) ⟨Nat.le_of_ble_eq_true rfl, Nat.le_of_ble_eq_true rfl⟩) h0N h0 rfl rfl hl.1 rfl (lv_room (Nat.le_of_ble_eq_true rfl)) dX11_bestPower_1 ⟨Nat.le_of_ble_eq_true rfl, Nat.le_of_ble_eq_true rfl⟩ (fun E9 ce q9 S1 H locs hp G hce hcv hcl => ?_) (fun S1 H locs hq G => hq.elim)
  obtain ⟨hE, hS1⟩ := hp
  subst hE
  rw [hS1] at G
  exact vx_out (fun x hx => (htab x hx).elim) hlocks hce hcv hcl (fun t ht hvm => ⟨S, trivial, ⟨⟨rfl, rfl⟩, by rw [ht]; exact G.1, va_K.moved hvm hK, G.2.1⟩, G.2.2.F ht⟩) G.2.2.2.2 (Nat.le_refl _) (Nat.le_refl _)
set_option maxHeartbeats 4000000 in
set_option maxRecDepth 100000 in
theorem k_meanPower (l : Launch) (hst : l.stackTraces = false) (D : va_G) (tys : List (ClassId × FieldType)) (ad : Nat → Nat) (N : Nat) (S : Nat → va_E) {fs gs : List Value} {sc : Nat} (h0N : 0 < N) (h0 : S 0 = .inr (11, fs)) (hs : fs[14]? = some (.ref (ad sc))) (hscN : sc < N) (hsc : S sc = .inr (6, gs)) (hmc : gs[5]? = some (.int 0)) : cXl l yX11_meanPower (Cond.code yX11_meanPower cX11_meanPower 1 (some .long) :: wsA) 7 101 D tys ad N S [.ref (ad 0)] (fun _ _ => False) (fun E u => E = xISE ∧ u = S) := by
  intro sz
  refine vx_ofW (cc := cX11_meanPower) (maxL := 1) (ret := (some .long)) (by decide) rfl ?_
  intro p e s m args below meth c s₁ B hml htab hv
  obtain ⟨rfl, hsz, hP, hK, hD0, hX⟩ := hv
  have hx := B.exec
  have hb := B.bytes
  have hr := B.returns
  have hts := atoms_spec (ws := (Cond.code yX11_meanPower cX11_meanPower 1 (some .long) :: wsA)) B.pre
  have hown : s.vm.findClass RX11 = some m.cls := findClass_of_methodNamed B.named
  have hlocks := B.notSynchronized
  subst hsz
  have hD := hD0.self (sz := s.heap.size)
  generalize hAe : va_A (cW ad N S) s.heap.size = A at hD hX ⊢
  have hA : ∀ q : Nat, s.heap.size ≤ q → A q := fun q h => by rw [← hAe]; exact Or.inr h
  have G : cG D ad N A s.heap s.heap [] S := ⟨hP, hD, va_S.rf⟩
  have E : cE p c cX11_meanPower s m ([.ref (ad 0)] : List Value).toArray (Cond.code yX11_meanPower cX11_meanPower 1 (some .long) :: wsA) D RX11 tys := ⟨hx, hb, hts, hown, hK⟩
  have hl := lv_entry ([.ref (ad 0)]) (n := 1) (Nat.le_of_ble_eq_true rfl)
  rw [lg_entry_eq]
  generalize (lg_sl ([.ref (ad 0)]) ++ List.replicate (1 - (lg_sl ([.ref (ad 0)])).length) Slot.unset).toArray = ls at hl ⊢
  have hl : lv_has ls 1 [(0, .ref (ad 0))] := hl
  refine lv_aload_n hx hb dX11_meanPower_0 rfl (lv_at hl 0 rfl) ?_
  refine c_xvv (As := []) (rest := []) E G hA hX rfl hml (k_needCamera l hst D tys ad N S h0N h0 hs hscN hsc hmc) (cwV 0 hts (gaV qA_728 qA_729 qA_730 qA_131 qA_731) rfl rfl rfl (by decide +kernel) ⟨Nat.le_of_ble_eq_true rfl, Nat.le_of_ble_eq_true rfl⟩) h0N h0 rfl rfl hl.1 rfl (lv_room (Nat.le_of_ble_eq_true rfl)) dX11_meanPower_1 ⟨Nat.le_of_ble_eq_true rfl, Nat.le_of_ble_eq_true rfl⟩ (fun E9 ce q9 S1 H locs hp G hce hcv hcl => ?_) (fun S1 H locs hq G => hq.elim)
  obtain ⟨hE, hS1⟩ := hp
  subst hE
  rw [hS1] at G
  exact vx_out (fun x hx => (htab x hx).elim) hlocks hce hcv hcl (fun t ht hvm => ⟨S, trivial, ⟨⟨rfl, rfl⟩, by rw [ht]; exact G.1, va_K.moved hvm hK, G.2.1⟩, G.2.2.F ht⟩) G.2.2.2.2 (Nat.le_refl _) (Nat.le_refl _)
set_option maxHeartbeats 4000000 in
set_option maxRecDepth 100000 in
theorem k_peaks (l : Launch) (hst : l.stackTraces = false) (D : va_G) (tys : List (ClassId × FieldType)) (ad : Nat → Nat) (N : Nat) (S : Nat → va_E) {fs gs : List Value} {sc : Nat} (h0N : 0 < N) (h0 : S 0 = .inr (11, fs)) (hs : fs[14]? = some (.ref (ad sc))) (hscN : sc < N) (hsc : S sc = .inr (6, gs)) (hmc : gs[5]? = some (.int 0)) : cXi l yX11_peaks (Cond.code yX11_peaks cX11_peaks 1 (some .int) :: wsA) 7 101 D tys ad N S [.ref (ad 0)] (fun _ _ => False) (fun E u => E = xISE ∧ u = S) := by
  intro sz
  refine vx_ofW (cc := cX11_peaks) (maxL := 1) (ret := (some .int)) (by decide) rfl ?_
  intro p e s m args below meth c s₁ B hml htab hv
  obtain ⟨rfl, hsz, hP, hK, hD0, hX⟩ := hv
  have hx := B.exec
  have hb := B.bytes
  have hr := B.returns
  have hts := atoms_spec (ws := (Cond.code yX11_peaks cX11_peaks 1 (some .int) :: wsA)) B.pre
  have hown : s.vm.findClass RX11 = some m.cls := findClass_of_methodNamed B.named
  have hlocks := B.notSynchronized
  subst hsz
  have hD := hD0.self (sz := s.heap.size)
  generalize hAe : va_A (cW ad N S) s.heap.size = A at hD hX ⊢
  have hA : ∀ q : Nat, s.heap.size ≤ q → A q := fun q h => by rw [← hAe]; exact Or.inr h
  have G : cG D ad N A s.heap s.heap [] S := ⟨hP, hD, va_S.rf⟩
  have E : cE p c cX11_peaks s m ([.ref (ad 0)] : List Value).toArray (Cond.code yX11_peaks cX11_peaks 1 (some .int) :: wsA) D RX11 tys := ⟨hx, hb, hts, hown, hK⟩
  have hl := lv_entry ([.ref (ad 0)]) (n := 1) (Nat.le_of_ble_eq_true rfl)
  rw [lg_entry_eq]
  generalize (lg_sl ([.ref (ad 0)]) ++ List.replicate (1 - (lg_sl ([.ref (ad 0)])).length) Slot.unset).toArray = ls at hl ⊢
  have hl : lv_has ls 1 [(0, .ref (ad 0))] := hl
  refine lv_aload_n hx hb dX11_peaks_0 rfl (lv_at hl 0 rfl) ?_
  refine c_xvv (As := []) (rest := []) E G hA hX rfl hml (k_needCamera l hst D tys ad N S h0N h0 hs hscN hsc hmc) (cwV 0 hts (gaV qA_728 qA_729 qA_730 qA_131 qA_731) rfl rfl rfl (by decide +kernel) ⟨Nat.le_of_ble_eq_true rfl, Nat.le_of_ble_eq_true rfl⟩) h0N h0 rfl rfl hl.1 rfl (lv_room (Nat.le_of_ble_eq_true rfl)) dX11_peaks_1 ⟨Nat.le_of_ble_eq_true rfl, Nat.le_of_ble_eq_true rfl⟩ (fun E9 ce q9 S1 H locs hp G hce hcv hcl => ?_) (fun S1 H locs hq G => hq.elim)
  obtain ⟨hE, hS1⟩ := hp
  subst hE
  rw [hS1] at G
  exact vx_out (fun x hx => (htab x hx).elim) hlocks hce hcv hcl (fun t ht hvm => ⟨S, trivial, ⟨⟨rfl, rfl⟩, by rw [ht]; exact G.1, va_K.moved hvm hK, G.2.1⟩, G.2.2.F ht⟩) G.2.2.2.2 (Nat.le_refl _) (Nat.le_refl _)
set_option maxHeartbeats 4000000 in
set_option maxRecDepth 100000 in
theorem k_peakAt (l : Launch) (hst : l.stackTraces = false) (D : va_G) (tys : List (ClassId × FieldType)) (ad : Nat → Nat) (N : Nat) (S : Nat → va_E) {fs gs : List Value} {sc : Nat} (h0N : 0 < N) (h0 : S 0 = .inr (11, fs)) (hs : fs[14]? = some (.ref (ad sc))) (hscN : sc < N) (hsc : S sc = .inr (6, gs)) (hmc : gs[5]? = some (.int 0)) (x : Int32) : cXi l yX11_peakAt (Cond.code yX11_peakAt cX11_peakAt 3 (some .int) :: wsA) 7 101 D tys ad N S [.ref (ad 0), .int x] (fun _ _ => False) (fun E u => E = xISE ∧ u = S) := by
  intro sz
  refine vx_ofW (cc := cX11_peakAt) (maxL := 3) (ret := (some .int)) (by decide) rfl ?_
  intro p e s m args below meth c s₁ B hml htab hv
  obtain ⟨rfl, hsz, hP, hK, hD0, hX⟩ := hv
  have hx := B.exec
  have hb := B.bytes
  have hr := B.returns
  have hts := atoms_spec (ws := (Cond.code yX11_peakAt cX11_peakAt 3 (some .int) :: wsA)) B.pre
  have hown : s.vm.findClass RX11 = some m.cls := findClass_of_methodNamed B.named
  have hlocks := B.notSynchronized
  subst hsz
  have hD := hD0.self (sz := s.heap.size)
  generalize hAe : va_A (cW ad N S) s.heap.size = A at hD hX ⊢
  have hA : ∀ q : Nat, s.heap.size ≤ q → A q := fun q h => by rw [← hAe]; exact Or.inr h
  have G : cG D ad N A s.heap s.heap [] S := ⟨hP, hD, va_S.rf⟩
  have E : cE p c cX11_peakAt s m ([.ref (ad 0), .int x] : List Value).toArray (Cond.code yX11_peakAt cX11_peakAt 3 (some .int) :: wsA) D RX11 tys := ⟨hx, hb, hts, hown, hK⟩
  have hl := lv_entry ([.ref (ad 0), .int x]) (n := 3) (Nat.le_of_ble_eq_true rfl)
  rw [lg_entry_eq]
  generalize (lg_sl ([.ref (ad 0), .int x]) ++ List.replicate (3 - (lg_sl ([.ref (ad 0), .int x])).length) Slot.unset).toArray = ls at hl ⊢
  have hl : lv_has ls 3 [(0, .ref (ad 0)), (1, .int x)] := hl
  refine lv_aload_n hx hb dX11_peakAt_0 rfl (lv_at hl 0 rfl) ?_
  refine c_xvv (As := []) (rest := []) E G hA hX rfl hml (k_needCamera l hst D tys ad N S h0N h0 hs hscN hsc hmc) (cwV 0 hts (gaV qA_728 qA_729 qA_730 qA_131 qA_731) rfl rfl rfl (by decide +kernel) ⟨Nat.le_of_ble_eq_true rfl, Nat.le_of_ble_eq_true rfl⟩) h0N h0 rfl rfl hl.1 rfl (lv_room (Nat.le_of_ble_eq_true rfl)) dX11_peakAt_1 ⟨Nat.le_of_ble_eq_true rfl, Nat.le_of_ble_eq_true rfl⟩ (fun E9 ce q9 S1 H locs hp G hce hcv hcl => ?_) (fun S1 H locs hq G => hq.elim)
  obtain ⟨hE, hS1⟩ := hp
  subst hE
  rw [hS1] at G
  exact vx_out (fun x hx => (htab x hx).elim) hlocks hce hcv hcl (fun t ht hvm => ⟨S, trivial, ⟨⟨rfl, rfl⟩, by rw [ht]; exact G.1, va_K.moved hvm hK, G.2.1⟩, G.2.2.F ht⟩) G.2.2.2.2 (Nat.le_refl _) (Nat.le_refl _)
set_option maxHeartbeats 4000000 in
set_option maxRecDepth 100000 in
theorem k_isPeak (l : Launch) (hst : l.stackTraces = false) (D : va_G) (tys : List (ClassId × FieldType)) (ad : Nat → Nat) (N : Nat) (S : Nat → va_E) {fs gs : List Value} {sc : Nat} (h0N : 0 < N) (h0 : S 0 = .inr (11, fs)) (hs : fs[14]? = some (.ref (ad sc))) (hscN : sc < N) (hsc : S sc = .inr (6, gs)) (hmc : gs[5]? = some (.int 0)) (x : Int32) : cXi l yX11_isPeak (Cond.code yX11_isPeak cX11_isPeak 2 (some .boolean) :: wsA) 7 101 D tys ad N S [.ref (ad 0), .int x] (fun _ _ => False) (fun E u => E = xISE ∧ u = S) := by
  intro sz
  refine vx_ofW (cc := cX11_isPeak) (maxL := 2) (ret := (some .boolean)) (by decide) rfl ?_
  intro p e s m args below meth c s₁ B hml htab hv
  obtain ⟨rfl, hsz, hP, hK, hD0, hX⟩ := hv
  have hx := B.exec
  have hb := B.bytes
  have hr := B.returns
  have hts := atoms_spec (ws := (Cond.code yX11_isPeak cX11_isPeak 2 (some .boolean) :: wsA)) B.pre
  have hown : s.vm.findClass RX11 = some m.cls := findClass_of_methodNamed B.named
  have hlocks := B.notSynchronized
  subst hsz
  have hD := hD0.self (sz := s.heap.size)
  generalize hAe : va_A (cW ad N S) s.heap.size = A at hD hX ⊢
  have hA : ∀ q : Nat, s.heap.size ≤ q → A q := fun q h => by rw [← hAe]; exact Or.inr h
  have G : cG D ad N A s.heap s.heap [] S := ⟨hP, hD, va_S.rf⟩
  have E : cE p c cX11_isPeak s m ([.ref (ad 0), .int x] : List Value).toArray (Cond.code yX11_isPeak cX11_isPeak 2 (some .boolean) :: wsA) D RX11 tys := ⟨hx, hb, hts, hown, hK⟩
  have hl := lv_entry ([.ref (ad 0), .int x]) (n := 2) (Nat.le_of_ble_eq_true rfl)
  rw [lg_entry_eq]
  generalize (lg_sl ([.ref (ad 0), .int x]) ++ List.replicate (2 - (lg_sl ([.ref (ad 0), .int x])).length) Slot.unset).toArray = ls at hl ⊢
  have hl : lv_has ls 2 [(0, .ref (ad 0)), (1, .int x)] := hl
  refine lv_aload_n hx hb dX11_isPeak_0 rfl (lv_at hl 0 rfl) ?_
  refine c_xvv (As := []) (rest := []) E G hA hX rfl hml (k_needCamera l hst D tys ad N S h0N h0 hs hscN hsc hmc) (cwV 0 hts (gaV qA_728 qA_729 qA_730 qA_131 qA_731) rfl rfl rfl (by decide +kernel) ⟨Nat.le_of_ble_eq_true rfl, Nat.le_of_ble_eq_true rfl⟩) h0N h0 rfl rfl hl.1 rfl (lv_room (Nat.le_of_ble_eq_true rfl)) dX11_isPeak_1 ⟨Nat.le_of_ble_eq_true rfl, Nat.le_of_ble_eq_true rfl⟩ (fun E9 ce q9 S1 H locs hp G hce hcv hcl => ?_) (fun S1 H locs hq G => hq.elim)
  obtain ⟨hE, hS1⟩ := hp
  subst hE
  rw [hS1] at G
  exact vx_out (fun x hx => (htab x hx).elim) hlocks hce hcv hcl (fun t ht hvm => ⟨S, trivial, ⟨⟨rfl, rfl⟩, by rw [ht]; exact G.1, va_K.moved hvm hK, G.2.1⟩, G.2.2.F ht⟩) G.2.2.2.2 (Nat.le_refl _) (Nat.le_refl _)
set_option maxHeartbeats 4000000 in
set_option maxRecDepth 100000 in
theorem k_zonePower (l : Launch) (hst : l.stackTraces = false) (D : va_G) (tys : List (ClassId × FieldType)) (ad : Nat → Nat) (N : Nat) (S : Nat → va_E) {fs gs : List Value} {sc : Nat} (h0N : 0 < N) (h0 : S 0 = .inr (11, fs)) (hs : fs[14]? = some (.ref (ad sc))) (hscN : sc < N) (hsc : S sc = .inr (6, gs)) (hmc : gs[5]? = some (.int 0)) (x : Int32) : cXl l yX11_zonePower (Cond.code yX11_zonePower cX11_zonePower 2 (some .long) :: wsA) 7 101 D tys ad N S [.ref (ad 0), .int x] (fun _ _ => False) (fun E u => E = xISE ∧ u = S) := by
  intro sz
  refine vx_ofW (cc := cX11_zonePower) (maxL := 2) (ret := (some .long)) (by decide) rfl ?_
  intro p e s m args below meth c s₁ B hml htab hv
  obtain ⟨rfl, hsz, hP, hK, hD0, hX⟩ := hv
  have hx := B.exec
  have hb := B.bytes
  have hr := B.returns
  have hts := atoms_spec (ws := (Cond.code yX11_zonePower cX11_zonePower 2 (some .long) :: wsA)) B.pre
  have hown : s.vm.findClass RX11 = some m.cls := findClass_of_methodNamed B.named
  have hlocks := B.notSynchronized
  subst hsz
  have hD := hD0.self (sz := s.heap.size)
  generalize hAe : va_A (cW ad N S) s.heap.size = A at hD hX ⊢
  have hA : ∀ q : Nat, s.heap.size ≤ q → A q := fun q h => by rw [← hAe]; exact Or.inr h
  have G : cG D ad N A s.heap s.heap [] S := ⟨hP, hD, va_S.rf⟩
  have E : cE p c cX11_zonePower s m ([.ref (ad 0), .int x] : List Value).toArray (Cond.code yX11_zonePower cX11_zonePower 2 (some .long) :: wsA) D RX11 tys := ⟨hx, hb, hts, hown, hK⟩
  have hl := lv_entry ([.ref (ad 0), .int x]) (n := 2) (Nat.le_of_ble_eq_true rfl)
  rw [lg_entry_eq]
  generalize (lg_sl ([.ref (ad 0), .int x]) ++ List.replicate (2 - (lg_sl ([.ref (ad 0), .int x])).length) Slot.unset).toArray = ls at hl ⊢
  have hl : lv_has ls 2 [(0, .ref (ad 0)), (1, .int x)] := hl
  refine lv_aload_n hx hb dX11_zonePower_0 rfl (lv_at hl 0 rfl) ?_
  refine c_xvv (As := []) (rest := []) E G hA hX rfl hml (k_needCamera l hst D tys ad N S h0N h0 hs hscN hsc hmc) (cwV 0 hts (gaV qA_728 qA_729 qA_730 qA_131 qA_731) rfl rfl rfl (by decide +kernel) ⟨Nat.le_of_ble_eq_true rfl, Nat.le_of_ble_eq_true rfl⟩) h0N h0 rfl rfl hl.1 rfl (lv_room (Nat.le_of_ble_eq_true rfl)) dX11_zonePower_1 ⟨Nat.le_of_ble_eq_true rfl, Nat.le_of_ble_eq_true rfl⟩ (fun E9 ce q9 S1 H locs hp G hce hcv hcl => ?_) (fun S1 H locs hq G => hq.elim)
  obtain ⟨hE, hS1⟩ := hp
  subst hE
  rw [hS1] at G
  exact vx_out (fun x hx => (htab x hx).elim) hlocks hce hcv hcl (fun t ht hvm => ⟨S, trivial, ⟨⟨rfl, rfl⟩, by rw [ht]; exact G.1, va_K.moved hvm hK, G.2.1⟩, G.2.2.F ht⟩) G.2.2.2.2 (Nat.le_refl _) (Nat.le_refl _)
set_option maxHeartbeats 4000000 in
set_option maxRecDepth 100000 in
theorem k_zoneBest (l : Launch) (hst : l.stackTraces = false) (D : va_G) (tys : List (ClassId × FieldType)) (ad : Nat → Nat) (N : Nat) (S : Nat → va_E) {fs gs : List Value} {sc : Nat} (h0N : 0 < N) (h0 : S 0 = .inr (11, fs)) (hs : fs[14]? = some (.ref (ad sc))) (hscN : sc < N) (hsc : S sc = .inr (6, gs)) (hmc : gs[5]? = some (.int 0)) (x : Int32) : cXi l yX11_zoneBest (Cond.code yX11_zoneBest cX11_zoneBest 2 (some .int) :: wsA) 7 101 D tys ad N S [.ref (ad 0), .int x] (fun _ _ => False) (fun E u => E = xISE ∧ u = S) := by
  intro sz
  refine vx_ofW (cc := cX11_zoneBest) (maxL := 2) (ret := (some .int)) (by decide) rfl ?_
  intro p e s m args below meth c s₁ B hml htab hv
  obtain ⟨rfl, hsz, hP, hK, hD0, hX⟩ := hv
  have hx := B.exec
  have hb := B.bytes
  have hr := B.returns
  have hts := atoms_spec (ws := (Cond.code yX11_zoneBest cX11_zoneBest 2 (some .int) :: wsA)) B.pre
  have hown : s.vm.findClass RX11 = some m.cls := findClass_of_methodNamed B.named
  have hlocks := B.notSynchronized
  subst hsz
  have hD := hD0.self (sz := s.heap.size)
  generalize hAe : va_A (cW ad N S) s.heap.size = A at hD hX ⊢
  have hA : ∀ q : Nat, s.heap.size ≤ q → A q := fun q h => by rw [← hAe]; exact Or.inr h
  have G : cG D ad N A s.heap s.heap [] S := ⟨hP, hD, va_S.rf⟩
  have E : cE p c cX11_zoneBest s m ([.ref (ad 0), .int x] : List Value).toArray (Cond.code yX11_zoneBest cX11_zoneBest 2 (some .int) :: wsA) D RX11 tys := ⟨hx, hb, hts, hown, hK⟩
  have hl := lv_entry ([.ref (ad 0), .int x]) (n := 2) (Nat.le_of_ble_eq_true rfl)
  rw [lg_entry_eq]
  generalize (lg_sl ([.ref (ad 0), .int x]) ++ List.replicate (2 - (lg_sl ([.ref (ad 0), .int x])).length) Slot.unset).toArray = ls at hl ⊢
  have hl : lv_has ls 2 [(0, .ref (ad 0)), (1, .int x)] := hl
  refine lv_aload_n hx hb dX11_zoneBest_0 rfl (lv_at hl 0 rfl) ?_
  refine c_xvv (As := []) (rest := []) E G hA hX rfl hml (k_needCamera l hst D tys ad N S h0N h0 hs hscN hsc hmc) (cwV 0 hts (gaV qA_728 qA_729 qA_730 qA_131 qA_731) rfl rfl rfl (by decide +kernel) ⟨Nat.le_of_ble_eq_true rfl, Nat.le_of_ble_eq_true rfl⟩) h0N h0 rfl rfl hl.1 rfl (lv_room (Nat.le_of_ble_eq_true rfl)) dX11_zoneBest_1 ⟨Nat.le_of_ble_eq_true rfl, Nat.le_of_ble_eq_true rfl⟩ (fun E9 ce q9 S1 H locs hp G hce hcv hcl => ?_) (fun S1 H locs hq G => hq.elim)
  obtain ⟨hE, hS1⟩ := hp
  subst hE
  rw [hS1] at G
  exact vx_out (fun x hx => (htab x hx).elim) hlocks hce hcv hcl (fun t ht hvm => ⟨S, trivial, ⟨⟨rfl, rfl⟩, by rw [ht]; exact G.1, va_K.moved hvm hK, G.2.1⟩, G.2.2.F ht⟩) G.2.2.2.2 (Nat.le_refl _) (Nat.le_refl _)
set_option maxHeartbeats 4000000 in
set_option maxRecDepth 100000 in
theorem k_contrast (l : Launch) (hst : l.stackTraces = false) (D : va_G) (tys : List (ClassId × FieldType)) (ad : Nat → Nat) (N : Nat) (S : Nat → va_E) {fs gs : List Value} {sc : Nat} (h0N : 0 < N) (h0 : S 0 = .inr (11, fs)) (hs : fs[14]? = some (.ref (ad sc))) (hscN : sc < N) (hsc : S sc = .inr (6, gs)) (hmc : gs[5]? = some (.int 0)) : cXf l yX11_contrast (Cond.code yX11_contrast cX11_contrast 3 (some .float) :: wsA) 7 101 D tys ad N S [.ref (ad 0)] (fun _ _ => False) (fun E u => E = xISE ∧ u = S) := by
  intro sz
  refine vx_ofW (cc := cX11_contrast) (maxL := 3) (ret := (some .float)) (by decide) rfl ?_
  intro p e s m args below meth c s₁ B hml htab hv
  obtain ⟨rfl, hsz, hP, hK, hD0, hX⟩ := hv
  have hx := B.exec
  have hb := B.bytes
  have hr := B.returns
  have hts := atoms_spec (ws := (Cond.code yX11_contrast cX11_contrast 3 (some .float) :: wsA)) B.pre
  have hown : s.vm.findClass RX11 = some m.cls := findClass_of_methodNamed B.named
  have hlocks := B.notSynchronized
  subst hsz
  have hD := hD0.self (sz := s.heap.size)
  generalize hAe : va_A (cW ad N S) s.heap.size = A at hD hX ⊢
  have hA : ∀ q : Nat, s.heap.size ≤ q → A q := fun q h => by rw [← hAe]; exact Or.inr h
  have G : cG D ad N A s.heap s.heap [] S := ⟨hP, hD, va_S.rf⟩
  have E : cE p c cX11_contrast s m ([.ref (ad 0)] : List Value).toArray (Cond.code yX11_contrast cX11_contrast 3 (some .float) :: wsA) D RX11 tys := ⟨hx, hb, hts, hown, hK⟩
  have hl := lv_entry ([.ref (ad 0)]) (n := 3) (Nat.le_of_ble_eq_true rfl)
  rw [lg_entry_eq]
  generalize (lg_sl ([.ref (ad 0)]) ++ List.replicate (3 - (lg_sl ([.ref (ad 0)])).length) Slot.unset).toArray = ls at hl ⊢
  have hl : lv_has ls 3 [(0, .ref (ad 0))] := hl
  refine lv_aload_n hx hb dX11_contrast_0 rfl (lv_at hl 0 rfl) ?_
  refine c_xvv (As := []) (rest := []) E G hA hX rfl hml (k_needCamera l hst D tys ad N S h0N h0 hs hscN hsc hmc) (cwV 0 hts (gaV qA_728 qA_729 qA_730 qA_131 qA_731) rfl rfl rfl (by decide +kernel) ⟨Nat.le_of_ble_eq_true rfl, Nat.le_of_ble_eq_true rfl⟩) h0N h0 rfl rfl hl.1 rfl (lv_room (Nat.le_of_ble_eq_true rfl)) dX11_contrast_1 ⟨Nat.le_of_ble_eq_true rfl, Nat.le_of_ble_eq_true rfl⟩ (fun E9 ce q9 S1 H locs hp G hce hcv hcl => ?_) (fun S1 H locs hq G => hq.elim)
  obtain ⟨hE, hS1⟩ := hp
  subst hE
  rw [hS1] at G
  exact vx_out (fun x hx => (htab x hx).elim) hlocks hce hcv hcl (fun t ht hvm => ⟨S, trivial, ⟨⟨rfl, rfl⟩, by rw [ht]; exact G.1, va_K.moved hvm hK, G.2.1⟩, G.2.2.F ht⟩) G.2.2.2.2 (Nat.le_refl _) (Nat.le_refl _)
set_option maxHeartbeats 4000000 in
set_option maxRecDepth 100000 in
theorem k_alias (l : Launch) (hst : l.stackTraces = false) (D : va_G) (tys : List (ClassId × FieldType)) (ad : Nat → Nat) (N : Nat) (S : Nat → va_E) {fs gs : List Value} {sc : Nat} (h0N : 0 < N) (h0 : S 0 = .inr (11, fs)) (hs : fs[14]? = some (.ref (ad sc))) (hscN : sc < N) (hsc : S sc = .inr (6, gs)) (hmc : gs[5]? = some (.int 0)) (x y z : Int32) : cXi l yX11_alias (Cond.code yX11_alias cX11_alias 4 (some .int) :: wsA) 7 101 D tys ad N S [.ref (ad 0), .int x, .int y, .int z] (fun _ _ => False) (fun E u => E = xISE ∧ u = S) := by
  intro sz
  refine vx_ofW (cc := cX11_alias) (maxL := 4) (ret := (some .int)) (by decide) rfl ?_
  intro p e s m args below meth c s₁ B hml htab hv
  obtain ⟨rfl, hsz, hP, hK, hD0, hX⟩ := hv
  have hx := B.exec
  have hb := B.bytes
  have hr := B.returns
  have hts := atoms_spec (ws := (Cond.code yX11_alias cX11_alias 4 (some .int) :: wsA)) B.pre
  have hown : s.vm.findClass RX11 = some m.cls := findClass_of_methodNamed B.named
  have hlocks := B.notSynchronized
  subst hsz
  have hD := hD0.self (sz := s.heap.size)
  generalize hAe : va_A (cW ad N S) s.heap.size = A at hD hX ⊢
  have hA : ∀ q : Nat, s.heap.size ≤ q → A q := fun q h => by rw [← hAe]; exact Or.inr h
  have G : cG D ad N A s.heap s.heap [] S := ⟨hP, hD, va_S.rf⟩
  have E : cE p c cX11_alias s m ([.ref (ad 0), .int x, .int y, .int z] : List Value).toArray (Cond.code yX11_alias cX11_alias 4 (some .int) :: wsA) D RX11 tys := ⟨hx, hb, hts, hown, hK⟩
  have hl := lv_entry ([.ref (ad 0), .int x, .int y, .int z]) (n := 4) (Nat.le_of_ble_eq_true rfl)
  rw [lg_entry_eq]
  generalize (lg_sl ([.ref (ad 0), .int x, .int y, .int z]) ++ List.replicate (4 - (lg_sl ([.ref (ad 0), .int x, .int y, .int z])).length) Slot.unset).toArray = ls at hl ⊢
  have hl : lv_has ls 4 [(0, .ref (ad 0)), (1, .int x), (2, .int y), (3, .int z)] := hl
  refine lv_aload_n hx hb dX11_alias_0 rfl (lv_at hl 0 rfl) ?_
  refine c_xvv (As := []) (rest := []) E G hA hX rfl hml (k_needCamera l hst D tys ad N S h0N h0 hs hscN hsc hmc) (cwV 0 hts (gaV qA_728 qA_729 qA_730 qA_131 qA_731) rfl rfl rfl (by decide +kernel) ⟨Nat.le_of_ble_eq_true rfl, Nat.le_of_ble_eq_true rfl⟩) h0N h0 rfl rfl hl.1 rfl (lv_room (Nat.le_of_ble_eq_true rfl)) dX11_alias_1 ⟨Nat.le_of_ble_eq_true rfl, Nat.le_of_ble_eq_true rfl⟩ (fun E9 ce q9 S1 H locs hp G hce hcv hcl => ?_) (fun S1 H locs hq G => hq.elim)
  obtain ⟨hE, hS1⟩ := hp
  subst hE
  rw [hS1] at G
  exact vx_out (fun x hx => (htab x hx).elim) hlocks hce hcv hcl (fun t ht hvm => ⟨S, trivial, ⟨⟨rfl, rfl⟩, by rw [ht]; exact G.1, va_K.moved hvm hK, G.2.1⟩, G.2.2.F ht⟩) G.2.2.2.2 (Nat.le_refl _) (Nat.le_refl _)
set_option maxHeartbeats 4000000 in
set_option maxRecDepth 100000 in
theorem k_isAlias (l : Launch) (hst : l.stackTraces = false) (D : va_G) (tys : List (ClassId × FieldType)) (ad : Nat → Nat) (N : Nat) (S : Nat → va_E) {fs gs : List Value} {sc : Nat} (h0N : 0 < N) (h0 : S 0 = .inr (11, fs)) (hs : fs[14]? = some (.ref (ad sc))) (hscN : sc < N) (hsc : S sc = .inr (6, gs)) (hmc : gs[5]? = some (.int 0)) (x y z : Int32) : cXi l yX11_isAlias (Cond.code yX11_isAlias cX11_isAlias 4 (some .boolean) :: wsA) 7 101 D tys ad N S [.ref (ad 0), .int x, .int y, .int z] (fun _ _ => False) (fun E u => E = xISE ∧ u = S) := by
  intro sz
  refine vx_ofW (cc := cX11_isAlias) (maxL := 4) (ret := (some .boolean)) (by decide) rfl ?_
  intro p e s m args below meth c s₁ B hml htab hv
  obtain ⟨rfl, hsz, hP, hK, hD0, hX⟩ := hv
  have hx := B.exec
  have hb := B.bytes
  have hr := B.returns
  have hts := atoms_spec (ws := (Cond.code yX11_isAlias cX11_isAlias 4 (some .boolean) :: wsA)) B.pre
  have hown : s.vm.findClass RX11 = some m.cls := findClass_of_methodNamed B.named
  have hlocks := B.notSynchronized
  subst hsz
  have hD := hD0.self (sz := s.heap.size)
  generalize hAe : va_A (cW ad N S) s.heap.size = A at hD hX ⊢
  have hA : ∀ q : Nat, s.heap.size ≤ q → A q := fun q h => by rw [← hAe]; exact Or.inr h
  have G : cG D ad N A s.heap s.heap [] S := ⟨hP, hD, va_S.rf⟩
  have E : cE p c cX11_isAlias s m ([.ref (ad 0), .int x, .int y, .int z] : List Value).toArray (Cond.code yX11_isAlias cX11_isAlias 4 (some .boolean) :: wsA) D RX11 tys := ⟨hx, hb, hts, hown, hK⟩
  have hl := lv_entry ([.ref (ad 0), .int x, .int y, .int z]) (n := 4) (Nat.le_of_ble_eq_true rfl)
  rw [lg_entry_eq]
  generalize (lg_sl ([.ref (ad 0), .int x, .int y, .int z]) ++ List.replicate (4 - (lg_sl ([.ref (ad 0), .int x, .int y, .int z])).length) Slot.unset).toArray = ls at hl ⊢
  have hl : lv_has ls 4 [(0, .ref (ad 0)), (1, .int x), (2, .int y), (3, .int z)] := hl
  refine lv_aload_n hx hb dX11_isAlias_0 rfl (lv_at hl 0 rfl) ?_
  refine c_xvv (As := []) (rest := []) E G hA hX rfl hml (k_needCamera l hst D tys ad N S h0N h0 hs hscN hsc hmc) (cwV 0 hts (gaV qA_728 qA_729 qA_730 qA_131 qA_731) rfl rfl rfl (by decide +kernel) ⟨Nat.le_of_ble_eq_true rfl, Nat.le_of_ble_eq_true rfl⟩) h0N h0 rfl rfl hl.1 rfl (lv_room (Nat.le_of_ble_eq_true rfl)) dX11_isAlias_1 ⟨Nat.le_of_ble_eq_true rfl, Nat.le_of_ble_eq_true rfl⟩ (fun E9 ce q9 S1 H locs hp G hce hcv hcl => ?_) (fun S1 H locs hq G => hq.elim)
  obtain ⟨hE, hS1⟩ := hp
  subst hE
  rw [hS1] at G
  exact vx_out (fun x hx => (htab x hx).elim) hlocks hce hcv hcl (fun t ht hvm => ⟨S, trivial, ⟨⟨rfl, rfl⟩, by rw [ht]; exact G.1, va_K.moved hvm hK, G.2.1⟩, G.2.2.F ht⟩) G.2.2.2.2 (Nat.le_refl _) (Nat.le_refl _)
set_option maxHeartbeats 4000000 in
set_option maxRecDepth 100000 in
theorem k_aliases (l : Launch) (hst : l.stackTraces = false) (D : va_G) (tys : List (ClassId × FieldType)) (ad : Nat → Nat) (N : Nat) (S : Nat → va_E) {fs gs : List Value} {sc : Nat} (h0N : 0 < N) (h0 : S 0 = .inr (11, fs)) (hs : fs[14]? = some (.ref (ad sc))) (hscN : sc < N) (hsc : S sc = .inr (6, gs)) (hmc : gs[5]? = some (.int 0)) (x y : Int32) : cXi l yX11_aliases (Cond.code yX11_aliases cX11_aliases 6 (some .int) :: wsA) 7 101 D tys ad N S [.ref (ad 0), .int x, .int y] (fun _ _ => False) (fun E u => E = xISE ∧ u = S) := by
  intro sz
  refine vx_ofW (cc := cX11_aliases) (maxL := 6) (ret := (some .int)) (by decide) rfl ?_
  intro p e s m args below meth c s₁ B hml htab hv
  obtain ⟨rfl, hsz, hP, hK, hD0, hX⟩ := hv
  have hx := B.exec
  have hb := B.bytes
  have hr := B.returns
  have hts := atoms_spec (ws := (Cond.code yX11_aliases cX11_aliases 6 (some .int) :: wsA)) B.pre
  have hown : s.vm.findClass RX11 = some m.cls := findClass_of_methodNamed B.named
  have hlocks := B.notSynchronized
  subst hsz
  have hD := hD0.self (sz := s.heap.size)
  generalize hAe : va_A (cW ad N S) s.heap.size = A at hD hX ⊢
  have hA : ∀ q : Nat, s.heap.size ≤ q → A q := fun q h => by rw [← hAe]; exact Or.inr h
  have G : cG D ad N A s.heap s.heap [] S := ⟨hP, hD, va_S.rf⟩
  have E : cE p c cX11_aliases s m ([.ref (ad 0), .int x, .int y] : List Value).toArray (Cond.code yX11_aliases cX11_aliases 6 (some .int) :: wsA) D RX11 tys := ⟨hx, hb, hts, hown, hK⟩
  have hl := lv_entry ([.ref (ad 0), .int x, .int y]) (n := 6) (Nat.le_of_ble_eq_true rfl)
  rw [lg_entry_eq]
  generalize (lg_sl ([.ref (ad 0), .int x, .int y]) ++ List.replicate (6 - (lg_sl ([.ref (ad 0), .int x, .int y])).length) Slot.unset).toArray = ls at hl ⊢
  have hl : lv_has ls 6 [(0, .ref (ad 0)), (1, .int x), (2, .int y)] := hl
  refine lv_aload_n hx hb dX11_aliases_0 rfl (lv_at hl 0 rfl) ?_
  refine c_xvv (As := []) (rest := []) E G hA hX rfl hml (k_needCamera l hst D tys ad N S h0N h0 hs hscN hsc hmc) (cwV 0 hts (gaV qA_728 qA_729 qA_730 qA_131 qA_731) rfl rfl rfl (by decide +kernel) ⟨Nat.le_of_ble_eq_true rfl, Nat.le_of_ble_eq_true rfl⟩) h0N h0 rfl rfl hl.1 rfl (lv_room (Nat.le_of_ble_eq_true rfl)) dX11_aliases_1 ⟨Nat.le_of_ble_eq_true rfl, Nat.le_of_ble_eq_true rfl⟩ (fun E9 ce q9 S1 H locs hp G hce hcv hcl => ?_) (fun S1 H locs hq G => hq.elim)
  obtain ⟨hE, hS1⟩ := hp
  subst hE
  rw [hS1] at G
  exact vx_out (fun x hx => (htab x hx).elim) hlocks hce hcv hcl (fun t ht hvm => ⟨S, trivial, ⟨⟨rfl, rfl⟩, by rw [ht]; exact G.1, va_K.moved hvm hK, G.2.1⟩, G.2.2.F ht⟩) G.2.2.2.2 (Nat.le_refl _) (Nat.le_refl _)
set_option maxHeartbeats 4000000 in
set_option maxRecDepth 100000 in
theorem k_blockPower (l : Launch) (hst : l.stackTraces = false) (D : va_G) (tys : List (ClassId × FieldType)) (ad : Nat → Nat) (N : Nat) (S : Nat → va_E) {fs gs : List Value} {sc : Nat} (h0N : 0 < N) (h0 : S 0 = .inr (11, fs)) (hs : fs[14]? = some (.ref (ad sc))) (hscN : sc < N) (hsc : S sc = .inr (6, gs)) (hmc : gs[5]? = some (.int 0)) (x y z : Int32) : cXl l yX11_blockPower (Cond.code yX11_blockPower cX11_blockPower 4 (some .long) :: wsA) 7 101 D tys ad N S [.ref (ad 0), .int x, .int y, .int z] (fun _ _ => False) (fun E u => E = xISE ∧ u = S) := by
  intro sz
  refine vx_ofW (cc := cX11_blockPower) (maxL := 4) (ret := (some .long)) (by decide) rfl ?_
  intro p e s m args below meth c s₁ B hml htab hv
  obtain ⟨rfl, hsz, hP, hK, hD0, hX⟩ := hv
  have hx := B.exec
  have hb := B.bytes
  have hr := B.returns
  have hts := atoms_spec (ws := (Cond.code yX11_blockPower cX11_blockPower 4 (some .long) :: wsA)) B.pre
  have hown : s.vm.findClass RX11 = some m.cls := findClass_of_methodNamed B.named
  have hlocks := B.notSynchronized
  subst hsz
  have hD := hD0.self (sz := s.heap.size)
  generalize hAe : va_A (cW ad N S) s.heap.size = A at hD hX ⊢
  have hA : ∀ q : Nat, s.heap.size ≤ q → A q := fun q h => by rw [← hAe]; exact Or.inr h
  have G : cG D ad N A s.heap s.heap [] S := ⟨hP, hD, va_S.rf⟩
  have E : cE p c cX11_blockPower s m ([.ref (ad 0), .int x, .int y, .int z] : List Value).toArray (Cond.code yX11_blockPower cX11_blockPower 4 (some .long) :: wsA) D RX11 tys := ⟨hx, hb, hts, hown, hK⟩
  have hl := lv_entry ([.ref (ad 0), .int x, .int y, .int z]) (n := 4) (Nat.le_of_ble_eq_true rfl)
  rw [lg_entry_eq]
  generalize (lg_sl ([.ref (ad 0), .int x, .int y, .int z]) ++ List.replicate (4 - (lg_sl ([.ref (ad 0), .int x, .int y, .int z])).length) Slot.unset).toArray = ls at hl ⊢
  have hl : lv_has ls 4 [(0, .ref (ad 0)), (1, .int x), (2, .int y), (3, .int z)] := hl
  refine lv_aload_n hx hb dX11_blockPower_0 rfl (lv_at hl 0 rfl) ?_
  refine c_xvv (As := []) (rest := []) E G hA hX rfl hml (k_needCamera l hst D tys ad N S h0N h0 hs hscN hsc hmc) (cwV 0 hts (gaV qA_728 qA_729 qA_730 qA_131 qA_731) rfl rfl rfl (by decide +kernel) ⟨Nat.le_of_ble_eq_true rfl, Nat.le_of_ble_eq_true rfl⟩) h0N h0 rfl rfl hl.1 rfl (lv_room (Nat.le_of_ble_eq_true rfl)) dX11_blockPower_1 ⟨Nat.le_of_ble_eq_true rfl, Nat.le_of_ble_eq_true rfl⟩ (fun E9 ce q9 S1 H locs hp G hce hcv hcl => ?_) (fun S1 H locs hq G => hq.elim)
  obtain ⟨hE, hS1⟩ := hp
  subst hE
  rw [hS1] at G
  exact vx_out (fun x hx => (htab x hx).elim) hlocks hce hcv hcl (fun t ht hvm => ⟨S, trivial, ⟨⟨rfl, rfl⟩, by rw [ht]; exact G.1, va_K.moved hvm hK, G.2.1⟩, G.2.2.F ht⟩) G.2.2.2.2 (Nat.le_refl _) (Nat.le_refl _)
set_option maxHeartbeats 4000000 in
set_option maxRecDepth 100000 in
theorem k_blockBest (l : Launch) (hst : l.stackTraces = false) (D : va_G) (tys : List (ClassId × FieldType)) (ad : Nat → Nat) (N : Nat) (S : Nat → va_E) {fs gs : List Value} {sc : Nat} (h0N : 0 < N) (h0 : S 0 = .inr (11, fs)) (hs : fs[14]? = some (.ref (ad sc))) (hscN : sc < N) (hsc : S sc = .inr (6, gs)) (hmc : gs[5]? = some (.int 0)) (x y : Int32) : cXi l yX11_blockBest (Cond.code yX11_blockBest cX11_blockBest 3 (some .int) :: wsA) 7 101 D tys ad N S [.ref (ad 0), .int x, .int y] (fun _ _ => False) (fun E u => E = xISE ∧ u = S) := by
  intro sz
  refine vx_ofW (cc := cX11_blockBest) (maxL := 3) (ret := (some .int)) (by decide) rfl ?_
  intro p e s m args below meth c s₁ B hml htab hv
  obtain ⟨rfl, hsz, hP, hK, hD0, hX⟩ := hv
  have hx := B.exec
  have hb := B.bytes
  have hr := B.returns
  have hts := atoms_spec (ws := (Cond.code yX11_blockBest cX11_blockBest 3 (some .int) :: wsA)) B.pre
  have hown : s.vm.findClass RX11 = some m.cls := findClass_of_methodNamed B.named
  have hlocks := B.notSynchronized
  subst hsz
  have hD := hD0.self (sz := s.heap.size)
  generalize hAe : va_A (cW ad N S) s.heap.size = A at hD hX ⊢
  have hA : ∀ q : Nat, s.heap.size ≤ q → A q := fun q h => by rw [← hAe]; exact Or.inr h
  have G : cG D ad N A s.heap s.heap [] S := ⟨hP, hD, va_S.rf⟩
  have E : cE p c cX11_blockBest s m ([.ref (ad 0), .int x, .int y] : List Value).toArray (Cond.code yX11_blockBest cX11_blockBest 3 (some .int) :: wsA) D RX11 tys := ⟨hx, hb, hts, hown, hK⟩
  have hl := lv_entry ([.ref (ad 0), .int x, .int y]) (n := 3) (Nat.le_of_ble_eq_true rfl)
  rw [lg_entry_eq]
  generalize (lg_sl ([.ref (ad 0), .int x, .int y]) ++ List.replicate (3 - (lg_sl ([.ref (ad 0), .int x, .int y])).length) Slot.unset).toArray = ls at hl ⊢
  have hl : lv_has ls 3 [(0, .ref (ad 0)), (1, .int x), (2, .int y)] := hl
  refine lv_aload_n hx hb dX11_blockBest_0 rfl (lv_at hl 0 rfl) ?_
  refine c_xvv (As := []) (rest := []) E G hA hX rfl hml (k_needCamera l hst D tys ad N S h0N h0 hs hscN hsc hmc) (cwV 0 hts (gaV qA_728 qA_729 qA_730 qA_131 qA_731) rfl rfl rfl (by decide +kernel) ⟨Nat.le_of_ble_eq_true rfl, Nat.le_of_ble_eq_true rfl⟩) h0N h0 rfl rfl hl.1 rfl (lv_room (Nat.le_of_ble_eq_true rfl)) dX11_blockBest_1 ⟨Nat.le_of_ble_eq_true rfl, Nat.le_of_ble_eq_true rfl⟩ (fun E9 ce q9 S1 H locs hp G hce hcv hcl => ?_) (fun S1 H locs hq G => hq.elim)
  obtain ⟨hE, hS1⟩ := hp
  subst hE
  rw [hS1] at G
  exact vx_out (fun x hx => (htab x hx).elim) hlocks hce hcv hcl (fun t ht hvm => ⟨S, trivial, ⟨⟨rfl, rfl⟩, by rw [ht]; exact G.1, va_K.moved hvm hK, G.2.1⟩, G.2.2.F ht⟩) G.2.2.2.2 (Nat.le_refl _) (Nat.le_refl _)
set_option maxHeartbeats 4000000 in
set_option maxRecDepth 100000 in
theorem k_path (l : Launch) (hst : l.stackTraces = false) (D : va_G) (tys : List (ClassId × FieldType)) (ad : Nat → Nat) (N : Nat) (S : Nat → va_E) {fs gs : List Value} {sc : Nat} (h0N : 0 < N) (h0 : S 0 = .inr (11, fs)) (hs : fs[14]? = some (.ref (ad sc))) (hscN : sc < N) (hsc : S sc = .inr (6, gs)) (hmc : gs[5]? = some (.int 0)) (x : Int32) : cXi l yX11_path (Cond.code yX11_path cX11_path 6 (some .int) :: wsA) 7 101 D tys ad N S [.ref (ad 0), .int x] (fun _ _ => False) (fun E u => E = xISE ∧ u = S) := by
  intro sz
  refine vx_ofW (cc := cX11_path) (maxL := 6) (ret := (some .int)) (by decide) rfl ?_
  intro p e s m args below meth c s₁ B hml htab hv
  obtain ⟨rfl, hsz, hP, hK, hD0, hX⟩ := hv
  have hx := B.exec
  have hb := B.bytes
  have hr := B.returns
  have hts := atoms_spec (ws := (Cond.code yX11_path cX11_path 6 (some .int) :: wsA)) B.pre
  have hown : s.vm.findClass RX11 = some m.cls := findClass_of_methodNamed B.named
  have hlocks := B.notSynchronized
  subst hsz
  have hD := hD0.self (sz := s.heap.size)
  generalize hAe : va_A (cW ad N S) s.heap.size = A at hD hX ⊢
  have hA : ∀ q : Nat, s.heap.size ≤ q → A q := fun q h => by rw [← hAe]; exact Or.inr h
  have G : cG D ad N A s.heap s.heap [] S := ⟨hP, hD, va_S.rf⟩
  have E : cE p c cX11_path s m ([.ref (ad 0), .int x] : List Value).toArray (Cond.code yX11_path cX11_path 6 (some .int) :: wsA) D RX11 tys := ⟨hx, hb, hts, hown, hK⟩
  have hl := lv_entry ([.ref (ad 0), .int x]) (n := 6) (Nat.le_of_ble_eq_true rfl)
  rw [lg_entry_eq]
  generalize (lg_sl ([.ref (ad 0), .int x]) ++ List.replicate (6 - (lg_sl ([.ref (ad 0), .int x])).length) Slot.unset).toArray = ls at hl ⊢
  have hl : lv_has ls 6 [(0, .ref (ad 0)), (1, .int x)] := hl
  refine lv_aload_n hx hb dX11_path_0 rfl (lv_at hl 0 rfl) ?_
  refine c_xvv (As := []) (rest := []) E G hA hX rfl hml (k_needCamera l hst D tys ad N S h0N h0 hs hscN hsc hmc) (cwV 0 hts (gaV qA_728 qA_729 qA_730 qA_131 qA_731) rfl rfl rfl (by decide +kernel) ⟨Nat.le_of_ble_eq_true rfl, Nat.le_of_ble_eq_true rfl⟩) h0N h0 rfl rfl hl.1 rfl (lv_room (Nat.le_of_ble_eq_true rfl)) dX11_path_1 ⟨Nat.le_of_ble_eq_true rfl, Nat.le_of_ble_eq_true rfl⟩ (fun E9 ce q9 S1 H locs hp G hce hcv hcl => ?_) (fun S1 H locs hq G => hq.elim)
  obtain ⟨hE, hS1⟩ := hp
  subst hE
  rw [hS1] at G
  exact vx_out (fun x hx => (htab x hx).elim) hlocks hce hcv hcl (fun t ht hvm => ⟨S, trivial, ⟨⟨rfl, rfl⟩, by rw [ht]; exact G.1, va_K.moved hvm hK, G.2.1⟩, G.2.2.F ht⟩) G.2.2.2.2 (Nat.le_refl _) (Nat.le_refl _)
set_option maxHeartbeats 4000000 in
set_option maxRecDepth 100000 in
theorem k_trackScore (l : Launch) (hst : l.stackTraces = false) (D : va_G) (tys : List (ClassId × FieldType)) (ad : Nat → Nat) (N : Nat) (S : Nat → va_E) {fs gs : List Value} {sc : Nat} (h0N : 0 < N) (h0 : S 0 = .inr (11, fs)) (hs : fs[14]? = some (.ref (ad sc))) (hscN : sc < N) (hsc : S sc = .inr (6, gs)) (hmc : gs[5]? = some (.int 0)) (x : Int32) : cXl l yX11_trackScore (Cond.code yX11_trackScore cX11_trackScore 2 (some .long) :: wsA) 7 101 D tys ad N S [.ref (ad 0), .int x] (fun _ _ => False) (fun E u => E = xISE ∧ u = S) := by
  intro sz
  refine vx_ofW (cc := cX11_trackScore) (maxL := 2) (ret := (some .long)) (by decide) rfl ?_
  intro p e s m args below meth c s₁ B hml htab hv
  obtain ⟨rfl, hsz, hP, hK, hD0, hX⟩ := hv
  have hx := B.exec
  have hb := B.bytes
  have hr := B.returns
  have hts := atoms_spec (ws := (Cond.code yX11_trackScore cX11_trackScore 2 (some .long) :: wsA)) B.pre
  have hown : s.vm.findClass RX11 = some m.cls := findClass_of_methodNamed B.named
  have hlocks := B.notSynchronized
  subst hsz
  have hD := hD0.self (sz := s.heap.size)
  generalize hAe : va_A (cW ad N S) s.heap.size = A at hD hX ⊢
  have hA : ∀ q : Nat, s.heap.size ≤ q → A q := fun q h => by rw [← hAe]; exact Or.inr h
  have G : cG D ad N A s.heap s.heap [] S := ⟨hP, hD, va_S.rf⟩
  have E : cE p c cX11_trackScore s m ([.ref (ad 0), .int x] : List Value).toArray (Cond.code yX11_trackScore cX11_trackScore 2 (some .long) :: wsA) D RX11 tys := ⟨hx, hb, hts, hown, hK⟩
  have hl := lv_entry ([.ref (ad 0), .int x]) (n := 2) (Nat.le_of_ble_eq_true rfl)
  rw [lg_entry_eq]
  generalize (lg_sl ([.ref (ad 0), .int x]) ++ List.replicate (2 - (lg_sl ([.ref (ad 0), .int x])).length) Slot.unset).toArray = ls at hl ⊢
  have hl : lv_has ls 2 [(0, .ref (ad 0)), (1, .int x)] := hl
  refine lv_aload_n hx hb dX11_trackScore_0 rfl (lv_at hl 0 rfl) ?_
  refine c_xvv (As := []) (rest := []) E G hA hX rfl hml (k_needCamera l hst D tys ad N S h0N h0 hs hscN hsc hmc) (cwV 0 hts (gaV qA_728 qA_729 qA_730 qA_131 qA_731) rfl rfl rfl (by decide +kernel) ⟨Nat.le_of_ble_eq_true rfl, Nat.le_of_ble_eq_true rfl⟩) h0N h0 rfl rfl hl.1 rfl (lv_room (Nat.le_of_ble_eq_true rfl)) dX11_trackScore_1 ⟨Nat.le_of_ble_eq_true rfl, Nat.le_of_ble_eq_true rfl⟩ (fun E9 ce q9 S1 H locs hp G hce hcv hcl => ?_) (fun S1 H locs hq G => hq.elim)
  obtain ⟨hE, hS1⟩ := hp
  subst hE
  rw [hS1] at G
  exact vx_out (fun x hx => (htab x hx).elim) hlocks hce hcv hcl (fun t ht hvm => ⟨S, trivial, ⟨⟨rfl, rfl⟩, by rw [ht]; exact G.1, va_K.moved hvm hK, G.2.1⟩, G.2.2.F ht⟩) G.2.2.2.2 (Nat.le_refl _) (Nat.le_refl _)
set_option maxHeartbeats 4000000 in
set_option maxRecDepth 100000 in
theorem k_trackCell (l : Launch) (hst : l.stackTraces = false) (D : va_G) (tys : List (ClassId × FieldType)) (ad : Nat → Nat) (N : Nat) (S : Nat → va_E) {fs gs : List Value} {sc : Nat} (h0N : 0 < N) (h0 : S 0 = .inr (11, fs)) (hs : fs[14]? = some (.ref (ad sc))) (hscN : sc < N) (hsc : S sc = .inr (6, gs)) (hmc : gs[5]? = some (.int 0)) (x y : Int32) : cXi l yX11_trackCell (Cond.code yX11_trackCell cX11_trackCell 4 (some .int) :: wsA) 7 101 D tys ad N S [.ref (ad 0), .int x, .int y] (fun _ _ => False) (fun E u => E = xISE ∧ u = S) := by
  intro sz
  refine vx_ofW (cc := cX11_trackCell) (maxL := 4) (ret := (some .int)) (by decide) rfl ?_
  intro p e s m args below meth c s₁ B hml htab hv
  obtain ⟨rfl, hsz, hP, hK, hD0, hX⟩ := hv
  have hx := B.exec
  have hb := B.bytes
  have hr := B.returns
  have hts := atoms_spec (ws := (Cond.code yX11_trackCell cX11_trackCell 4 (some .int) :: wsA)) B.pre
  have hown : s.vm.findClass RX11 = some m.cls := findClass_of_methodNamed B.named
  have hlocks := B.notSynchronized
  subst hsz
  have hD := hD0.self (sz := s.heap.size)
  generalize hAe : va_A (cW ad N S) s.heap.size = A at hD hX ⊢
  have hA : ∀ q : Nat, s.heap.size ≤ q → A q := fun q h => by rw [← hAe]; exact Or.inr h
  have G : cG D ad N A s.heap s.heap [] S := ⟨hP, hD, va_S.rf⟩
  have E : cE p c cX11_trackCell s m ([.ref (ad 0), .int x, .int y] : List Value).toArray (Cond.code yX11_trackCell cX11_trackCell 4 (some .int) :: wsA) D RX11 tys := ⟨hx, hb, hts, hown, hK⟩
  have hl := lv_entry ([.ref (ad 0), .int x, .int y]) (n := 4) (Nat.le_of_ble_eq_true rfl)
  rw [lg_entry_eq]
  generalize (lg_sl ([.ref (ad 0), .int x, .int y]) ++ List.replicate (4 - (lg_sl ([.ref (ad 0), .int x, .int y])).length) Slot.unset).toArray = ls at hl ⊢
  have hl : lv_has ls 4 [(0, .ref (ad 0)), (1, .int x), (2, .int y)] := hl
  refine lv_aload_n hx hb dX11_trackCell_0 rfl (lv_at hl 0 rfl) ?_
  refine c_xvv (As := []) (rest := []) E G hA hX rfl hml (k_needCamera l hst D tys ad N S h0N h0 hs hscN hsc hmc) (cwV 0 hts (gaV qA_728 qA_729 qA_730 qA_131 qA_731) rfl rfl rfl (by decide +kernel) ⟨Nat.le_of_ble_eq_true rfl, Nat.le_of_ble_eq_true rfl⟩) h0N h0 rfl rfl hl.1 rfl (lv_room (Nat.le_of_ble_eq_true rfl)) dX11_trackCell_1 ⟨Nat.le_of_ble_eq_true rfl, Nat.le_of_ble_eq_true rfl⟩ (fun E9 ce q9 S1 H locs hp G hce hcv hcl => ?_) (fun S1 H locs hq G => hq.elim)
  obtain ⟨hE, hS1⟩ := hp
  subst hE
  rw [hS1] at G
  exact vx_out (fun x hx => (htab x hx).elim) hlocks hce hcv hcl (fun t ht hvm => ⟨S, trivial, ⟨⟨rfl, rfl⟩, by rw [ht]; exact G.1, va_K.moved hvm hK, G.2.1⟩, G.2.2.F ht⟩) G.2.2.2.2 (Nat.le_refl _) (Nat.le_refl _)
set_option maxHeartbeats 4000000 in
set_option maxRecDepth 100000 in
theorem k_movingPower (l : Launch) (hst : l.stackTraces = false) (D : va_G) (tys : List (ClassId × FieldType)) (ad : Nat → Nat) (N : Nat) (S : Nat → va_E) {fs gs : List Value} {sc : Nat} (h0N : 0 < N) (h0 : S 0 = .inr (11, fs)) (hs : fs[14]? = some (.ref (ad sc))) (hscN : sc < N) (hsc : S sc = .inr (6, gs)) (hmc : gs[5]? = some (.int 0)) (x y z : Int32) : cXl l yX11_movingPower (Cond.code yX11_movingPower cX11_movingPower 4 (some .long) :: wsA) 7 101 D tys ad N S [.ref (ad 0), .int x, .int y, .int z] (fun _ _ => False) (fun E u => E = xISE ∧ u = S) := by
  intro sz
  refine vx_ofW (cc := cX11_movingPower) (maxL := 4) (ret := (some .long)) (by decide) rfl ?_
  intro p e s m args below meth c s₁ B hml htab hv
  obtain ⟨rfl, hsz, hP, hK, hD0, hX⟩ := hv
  have hx := B.exec
  have hb := B.bytes
  have hr := B.returns
  have hts := atoms_spec (ws := (Cond.code yX11_movingPower cX11_movingPower 4 (some .long) :: wsA)) B.pre
  have hown : s.vm.findClass RX11 = some m.cls := findClass_of_methodNamed B.named
  have hlocks := B.notSynchronized
  subst hsz
  have hD := hD0.self (sz := s.heap.size)
  generalize hAe : va_A (cW ad N S) s.heap.size = A at hD hX ⊢
  have hA : ∀ q : Nat, s.heap.size ≤ q → A q := fun q h => by rw [← hAe]; exact Or.inr h
  have G : cG D ad N A s.heap s.heap [] S := ⟨hP, hD, va_S.rf⟩
  have E : cE p c cX11_movingPower s m ([.ref (ad 0), .int x, .int y, .int z] : List Value).toArray (Cond.code yX11_movingPower cX11_movingPower 4 (some .long) :: wsA) D RX11 tys := ⟨hx, hb, hts, hown, hK⟩
  have hl := lv_entry ([.ref (ad 0), .int x, .int y, .int z]) (n := 4) (Nat.le_of_ble_eq_true rfl)
  rw [lg_entry_eq]
  generalize (lg_sl ([.ref (ad 0), .int x, .int y, .int z]) ++ List.replicate (4 - (lg_sl ([.ref (ad 0), .int x, .int y, .int z])).length) Slot.unset).toArray = ls at hl ⊢
  have hl : lv_has ls 4 [(0, .ref (ad 0)), (1, .int x), (2, .int y), (3, .int z)] := hl
  refine lv_aload_n hx hb dX11_movingPower_0 rfl (lv_at hl 0 rfl) ?_
  refine c_xvv (As := []) (rest := []) E G hA hX rfl hml (k_needCamera l hst D tys ad N S h0N h0 hs hscN hsc hmc) (cwV 0 hts (gaV qA_728 qA_729 qA_730 qA_131 qA_731) rfl rfl rfl (by decide +kernel) ⟨Nat.le_of_ble_eq_true rfl, Nat.le_of_ble_eq_true rfl⟩) h0N h0 rfl rfl hl.1 rfl (lv_room (Nat.le_of_ble_eq_true rfl)) dX11_movingPower_1 ⟨Nat.le_of_ble_eq_true rfl, Nat.le_of_ble_eq_true rfl⟩ (fun E9 ce q9 S1 H locs hp G hce hcv hcl => ?_) (fun S1 H locs hq G => hq.elim)
  obtain ⟨hE, hS1⟩ := hp
  subst hE
  rw [hS1] at G
  exact vx_out (fun x hx => (htab x hx).elim) hlocks hce hcv hcl (fun t ht hvm => ⟨S, trivial, ⟨⟨rfl, rfl⟩, by rw [ht]; exact G.1, va_K.moved hvm hK, G.2.1⟩, G.2.2.F ht⟩) G.2.2.2.2 (Nat.le_refl _) (Nat.le_refl _)
set_option maxHeartbeats 4000000 in
set_option maxRecDepth 100000 in
theorem k_bestVelocity (l : Launch) (hst : l.stackTraces = false) (D : va_G) (tys : List (ClassId × FieldType)) (ad : Nat → Nat) (N : Nat) (S : Nat → va_E) {fs gs : List Value} {sc : Nat} (h0N : 0 < N) (h0 : S 0 = .inr (11, fs)) (hs : fs[14]? = some (.ref (ad sc))) (hscN : sc < N) (hsc : S sc = .inr (6, gs)) (hmc : gs[5]? = some (.int 0)) (x y z : Int32) : cXi l yX11_bestVelocity (Cond.code yX11_bestVelocity cX11_bestVelocity 7 (some .int) :: wsA) 7 101 D tys ad N S [.ref (ad 0), .int x, .int y, .int z] (fun _ _ => False) (fun E u => E = xISE ∧ u = S) := by
  intro sz
  refine vx_ofW (cc := cX11_bestVelocity) (maxL := 7) (ret := (some .int)) (by decide) rfl ?_
  intro p e s m args below meth c s₁ B hml htab hv
  obtain ⟨rfl, hsz, hP, hK, hD0, hX⟩ := hv
  have hx := B.exec
  have hb := B.bytes
  have hr := B.returns
  have hts := atoms_spec (ws := (Cond.code yX11_bestVelocity cX11_bestVelocity 7 (some .int) :: wsA)) B.pre
  have hown : s.vm.findClass RX11 = some m.cls := findClass_of_methodNamed B.named
  have hlocks := B.notSynchronized
  subst hsz
  have hD := hD0.self (sz := s.heap.size)
  generalize hAe : va_A (cW ad N S) s.heap.size = A at hD hX ⊢
  have hA : ∀ q : Nat, s.heap.size ≤ q → A q := fun q h => by rw [← hAe]; exact Or.inr h
  have G : cG D ad N A s.heap s.heap [] S := ⟨hP, hD, va_S.rf⟩
  have E : cE p c cX11_bestVelocity s m ([.ref (ad 0), .int x, .int y, .int z] : List Value).toArray (Cond.code yX11_bestVelocity cX11_bestVelocity 7 (some .int) :: wsA) D RX11 tys := ⟨hx, hb, hts, hown, hK⟩
  have hl := lv_entry ([.ref (ad 0), .int x, .int y, .int z]) (n := 7) (Nat.le_of_ble_eq_true rfl)
  rw [lg_entry_eq]
  generalize (lg_sl ([.ref (ad 0), .int x, .int y, .int z]) ++ List.replicate (7 - (lg_sl ([.ref (ad 0), .int x, .int y, .int z])).length) Slot.unset).toArray = ls at hl ⊢
  have hl : lv_has ls 7 [(0, .ref (ad 0)), (1, .int x), (2, .int y), (3, .int z)] := hl
  refine lv_aload_n hx hb dX11_bestVelocity_0 rfl (lv_at hl 0 rfl) ?_
  refine c_xvv (As := []) (rest := []) E G hA hX rfl hml (k_needCamera l hst D tys ad N S h0N h0 hs hscN hsc hmc) (cwV 0 hts (gaV qA_728 qA_729 qA_730 qA_131 qA_731) rfl rfl rfl (by decide +kernel) ⟨Nat.le_of_ble_eq_true rfl, Nat.le_of_ble_eq_true rfl⟩) h0N h0 rfl rfl hl.1 rfl (lv_room (Nat.le_of_ble_eq_true rfl)) dX11_bestVelocity_1 ⟨Nat.le_of_ble_eq_true rfl, Nat.le_of_ble_eq_true rfl⟩ (fun E9 ce q9 S1 H locs hp G hce hcv hcl => ?_) (fun S1 H locs hq G => hq.elim)
  obtain ⟨hE, hS1⟩ := hp
  subst hE
  rw [hS1] at G
  exact vx_out (fun x hx => (htab x hx).elim) hlocks hce hcv hcl (fun t ht hvm => ⟨S, trivial, ⟨⟨rfl, rfl⟩, by rw [ht]; exact G.1, va_K.moved hvm hK, G.2.1⟩, G.2.2.F ht⟩) G.2.2.2.2 (Nat.le_refl _) (Nat.le_refl _)
set_option maxHeartbeats 4000000 in
set_option maxRecDepth 100000 in
theorem k_correlation (l : Launch) (hst : l.stackTraces = false) (D : va_G) (tys : List (ClassId × FieldType)) (ad : Nat → Nat) (N : Nat) (S : Nat → va_E) {fs gs : List Value} {sc : Nat} (h0N : 0 < N) (h0 : S 0 = .inr (11, fs)) (hs : fs[14]? = some (.ref (ad sc))) (hscN : sc < N) (hsc : S sc = .inr (6, gs)) (hmc : gs[5]? = some (.int 0)) (x y z : Int32) : cXl l yX11_correlation (Cond.code yX11_correlation cX11_correlation 4 (some .long) :: wsA) 7 101 D tys ad N S [.ref (ad 0), .int x, .int y, .int z] (fun _ _ => False) (fun E u => E = xISE ∧ u = S) := by
  intro sz
  refine vx_ofW (cc := cX11_correlation) (maxL := 4) (ret := (some .long)) (by decide) rfl ?_
  intro p e s m args below meth c s₁ B hml htab hv
  obtain ⟨rfl, hsz, hP, hK, hD0, hX⟩ := hv
  have hx := B.exec
  have hb := B.bytes
  have hr := B.returns
  have hts := atoms_spec (ws := (Cond.code yX11_correlation cX11_correlation 4 (some .long) :: wsA)) B.pre
  have hown : s.vm.findClass RX11 = some m.cls := findClass_of_methodNamed B.named
  have hlocks := B.notSynchronized
  subst hsz
  have hD := hD0.self (sz := s.heap.size)
  generalize hAe : va_A (cW ad N S) s.heap.size = A at hD hX ⊢
  have hA : ∀ q : Nat, s.heap.size ≤ q → A q := fun q h => by rw [← hAe]; exact Or.inr h
  have G : cG D ad N A s.heap s.heap [] S := ⟨hP, hD, va_S.rf⟩
  have E : cE p c cX11_correlation s m ([.ref (ad 0), .int x, .int y, .int z] : List Value).toArray (Cond.code yX11_correlation cX11_correlation 4 (some .long) :: wsA) D RX11 tys := ⟨hx, hb, hts, hown, hK⟩
  have hl := lv_entry ([.ref (ad 0), .int x, .int y, .int z]) (n := 4) (Nat.le_of_ble_eq_true rfl)
  rw [lg_entry_eq]
  generalize (lg_sl ([.ref (ad 0), .int x, .int y, .int z]) ++ List.replicate (4 - (lg_sl ([.ref (ad 0), .int x, .int y, .int z])).length) Slot.unset).toArray = ls at hl ⊢
  have hl : lv_has ls 4 [(0, .ref (ad 0)), (1, .int x), (2, .int y), (3, .int z)] := hl
  refine lv_aload_n hx hb dX11_correlation_0 rfl (lv_at hl 0 rfl) ?_
  refine c_xvv (As := []) (rest := []) E G hA hX rfl hml (k_needCamera l hst D tys ad N S h0N h0 hs hscN hsc hmc) (cwV 0 hts (gaV qA_728 qA_729 qA_730 qA_131 qA_731) rfl rfl rfl (by decide +kernel) ⟨Nat.le_of_ble_eq_true rfl, Nat.le_of_ble_eq_true rfl⟩) h0N h0 rfl rfl hl.1 rfl (lv_room (Nat.le_of_ble_eq_true rfl)) dX11_correlation_1 ⟨Nat.le_of_ble_eq_true rfl, Nat.le_of_ble_eq_true rfl⟩ (fun E9 ce q9 S1 H locs hp G hce hcv hcl => ?_) (fun S1 H locs hq G => hq.elim)
  obtain ⟨hE, hS1⟩ := hp
  subst hE
  rw [hS1] at G
  exact vx_out (fun x hx => (htab x hx).elim) hlocks hce hcv hcl (fun t ht hvm => ⟨S, trivial, ⟨⟨rfl, rfl⟩, by rw [ht]; exact G.1, va_K.moved hvm hK, G.2.1⟩, G.2.2.F ht⟩) G.2.2.2.2 (Nat.le_refl _) (Nat.le_refl _)
set_option maxHeartbeats 4000000 in
set_option maxRecDepth 100000 in
theorem k_bestLag (l : Launch) (hst : l.stackTraces = false) (D : va_G) (tys : List (ClassId × FieldType)) (ad : Nat → Nat) (N : Nat) (S : Nat → va_E) {fs gs : List Value} {sc : Nat} (h0N : 0 < N) (h0 : S 0 = .inr (11, fs)) (hs : fs[14]? = some (.ref (ad sc))) (hscN : sc < N) (hsc : S sc = .inr (6, gs)) (hmc : gs[5]? = some (.int 0)) (x y z : Int32) : cXi l yX11_bestLag (Cond.code yX11_bestLag cX11_bestLag 6 (some .int) :: wsA) 7 101 D tys ad N S [.ref (ad 0), .int x, .int y, .int z] (fun _ _ => False) (fun E u => E = xISE ∧ u = S) := by
  intro sz
  refine vx_ofW (cc := cX11_bestLag) (maxL := 6) (ret := (some .int)) (by decide) rfl ?_
  intro p e s m args below meth c s₁ B hml htab hv
  obtain ⟨rfl, hsz, hP, hK, hD0, hX⟩ := hv
  have hx := B.exec
  have hb := B.bytes
  have hr := B.returns
  have hts := atoms_spec (ws := (Cond.code yX11_bestLag cX11_bestLag 6 (some .int) :: wsA)) B.pre
  have hown : s.vm.findClass RX11 = some m.cls := findClass_of_methodNamed B.named
  have hlocks := B.notSynchronized
  subst hsz
  have hD := hD0.self (sz := s.heap.size)
  generalize hAe : va_A (cW ad N S) s.heap.size = A at hD hX ⊢
  have hA : ∀ q : Nat, s.heap.size ≤ q → A q := fun q h => by rw [← hAe]; exact Or.inr h
  have G : cG D ad N A s.heap s.heap [] S := ⟨hP, hD, va_S.rf⟩
  have E : cE p c cX11_bestLag s m ([.ref (ad 0), .int x, .int y, .int z] : List Value).toArray (Cond.code yX11_bestLag cX11_bestLag 6 (some .int) :: wsA) D RX11 tys := ⟨hx, hb, hts, hown, hK⟩
  have hl := lv_entry ([.ref (ad 0), .int x, .int y, .int z]) (n := 6) (Nat.le_of_ble_eq_true rfl)
  rw [lg_entry_eq]
  generalize (lg_sl ([.ref (ad 0), .int x, .int y, .int z]) ++ List.replicate (6 - (lg_sl ([.ref (ad 0), .int x, .int y, .int z])).length) Slot.unset).toArray = ls at hl ⊢
  have hl : lv_has ls 6 [(0, .ref (ad 0)), (1, .int x), (2, .int y), (3, .int z)] := hl
  refine lv_aload_n hx hb dX11_bestLag_0 rfl (lv_at hl 0 rfl) ?_
  refine c_xvv (As := []) (rest := []) E G hA hX rfl hml (k_needCamera l hst D tys ad N S h0N h0 hs hscN hsc hmc) (cwV 0 hts (gaV qA_728 qA_729 qA_730 qA_131 qA_731) rfl rfl rfl (by decide +kernel) ⟨Nat.le_of_ble_eq_true rfl, Nat.le_of_ble_eq_true rfl⟩) h0N h0 rfl rfl hl.1 rfl (lv_room (Nat.le_of_ble_eq_true rfl)) dX11_bestLag_1 ⟨Nat.le_of_ble_eq_true rfl, Nat.le_of_ble_eq_true rfl⟩ (fun E9 ce q9 S1 H locs hp G hce hcv hcl => ?_) (fun S1 H locs hq G => hq.elim)
  obtain ⟨hE, hS1⟩ := hp
  subst hE
  rw [hS1] at G
  exact vx_out (fun x hx => (htab x hx).elim) hlocks hce hcv hcl (fun t ht hvm => ⟨S, trivial, ⟨⟨rfl, rfl⟩, by rw [ht]; exact G.1, va_K.moved hvm hK, G.2.1⟩, G.2.2.F ht⟩) G.2.2.2.2 (Nat.le_refl _) (Nat.le_refl _)
set_option maxHeartbeats 4000000 in
set_option maxRecDepth 100000 in
theorem k_level (l : Launch) (hst : l.stackTraces = false) (D : va_G) (tys : List (ClassId × FieldType)) (ad : Nat → Nat) (N : Nat) (S : Nat → va_E) {fs gs : List Value} {sc : Nat} (h0N : 0 < N) (h0 : S 0 = .inr (11, fs)) (hs : fs[14]? = some (.ref (ad sc))) (hscN : sc < N) (hsc : S sc = .inr (6, gs)) (hmc : gs[5]? = some (.int 0)) (x : Int32) : cXl l yX11_level (Cond.code yX11_level cX11_level 2 (some .long) :: wsA) 7 101 D tys ad N S [.ref (ad 0), .int x] (fun _ _ => False) (fun E u => E = xISE ∧ u = S) := by
  intro sz
  refine vx_ofW (cc := cX11_level) (maxL := 2) (ret := (some .long)) (by decide) rfl ?_
  intro p e s m args below meth c s₁ B hml htab hv
  obtain ⟨rfl, hsz, hP, hK, hD0, hX⟩ := hv
  have hx := B.exec
  have hb := B.bytes
  have hr := B.returns
  have hts := atoms_spec (ws := (Cond.code yX11_level cX11_level 2 (some .long) :: wsA)) B.pre
  have hown : s.vm.findClass RX11 = some m.cls := findClass_of_methodNamed B.named
  have hlocks := B.notSynchronized
  subst hsz
  have hD := hD0.self (sz := s.heap.size)
  generalize hAe : va_A (cW ad N S) s.heap.size = A at hD hX ⊢
  have hA : ∀ q : Nat, s.heap.size ≤ q → A q := fun q h => by rw [← hAe]; exact Or.inr h
  have G : cG D ad N A s.heap s.heap [] S := ⟨hP, hD, va_S.rf⟩
  have E : cE p c cX11_level s m ([.ref (ad 0), .int x] : List Value).toArray (Cond.code yX11_level cX11_level 2 (some .long) :: wsA) D RX11 tys := ⟨hx, hb, hts, hown, hK⟩
  have hl := lv_entry ([.ref (ad 0), .int x]) (n := 2) (Nat.le_of_ble_eq_true rfl)
  rw [lg_entry_eq]
  generalize (lg_sl ([.ref (ad 0), .int x]) ++ List.replicate (2 - (lg_sl ([.ref (ad 0), .int x])).length) Slot.unset).toArray = ls at hl ⊢
  have hl : lv_has ls 2 [(0, .ref (ad 0)), (1, .int x)] := hl
  refine lv_aload_n hx hb dX11_level_0 rfl (lv_at hl 0 rfl) ?_
  refine c_xvv (As := []) (rest := []) E G hA hX rfl hml (k_needCamera l hst D tys ad N S h0N h0 hs hscN hsc hmc) (cwV 0 hts (gaV qA_728 qA_729 qA_730 qA_131 qA_731) rfl rfl rfl (by decide +kernel) ⟨Nat.le_of_ble_eq_true rfl, Nat.le_of_ble_eq_true rfl⟩) h0N h0 rfl rfl hl.1 rfl (lv_room (Nat.le_of_ble_eq_true rfl)) dX11_level_1 ⟨Nat.le_of_ble_eq_true rfl, Nat.le_of_ble_eq_true rfl⟩ (fun E9 ce q9 S1 H locs hp G hce hcv hcl => ?_) (fun S1 H locs hq G => hq.elim)
  obtain ⟨hE, hS1⟩ := hp
  subst hE
  rw [hS1] at G
  exact vx_out (fun x hx => (htab x hx).elim) hlocks hce hcv hcl (fun t ht hvm => ⟨S, trivial, ⟨⟨rfl, rfl⟩, by rw [ht]; exact G.1, va_K.moved hvm hK, G.2.1⟩, G.2.2.F ht⟩) G.2.2.2.2 (Nat.le_refl _) (Nat.le_refl _)
set_option maxHeartbeats 4000000 in
set_option maxRecDepth 100000 in
theorem k_loudest (l : Launch) (hst : l.stackTraces = false) (D : va_G) (tys : List (ClassId × FieldType)) (ad : Nat → Nat) (N : Nat) (S : Nat → va_E) {fs gs : List Value} {sc : Nat} (h0N : 0 < N) (h0 : S 0 = .inr (11, fs)) (hs : fs[14]? = some (.ref (ad sc))) (hscN : sc < N) (hsc : S sc = .inr (6, gs)) (hmc : gs[5]? = some (.int 0)) (x : Int32) : cXi l yX11_loudest (Cond.code yX11_loudest cX11_loudest 3 (some .int) :: wsA) 7 101 D tys ad N S [.ref (ad 0), .int x] (fun _ _ => False) (fun E u => E = xISE ∧ u = S) := by
  intro sz
  refine vx_ofW (cc := cX11_loudest) (maxL := 3) (ret := (some .int)) (by decide) rfl ?_
  intro p e s m args below meth c s₁ B hml htab hv
  obtain ⟨rfl, hsz, hP, hK, hD0, hX⟩ := hv
  have hx := B.exec
  have hb := B.bytes
  have hr := B.returns
  have hts := atoms_spec (ws := (Cond.code yX11_loudest cX11_loudest 3 (some .int) :: wsA)) B.pre
  have hown : s.vm.findClass RX11 = some m.cls := findClass_of_methodNamed B.named
  have hlocks := B.notSynchronized
  subst hsz
  have hD := hD0.self (sz := s.heap.size)
  generalize hAe : va_A (cW ad N S) s.heap.size = A at hD hX ⊢
  have hA : ∀ q : Nat, s.heap.size ≤ q → A q := fun q h => by rw [← hAe]; exact Or.inr h
  have G : cG D ad N A s.heap s.heap [] S := ⟨hP, hD, va_S.rf⟩
  have E : cE p c cX11_loudest s m ([.ref (ad 0), .int x] : List Value).toArray (Cond.code yX11_loudest cX11_loudest 3 (some .int) :: wsA) D RX11 tys := ⟨hx, hb, hts, hown, hK⟩
  have hl := lv_entry ([.ref (ad 0), .int x]) (n := 3) (Nat.le_of_ble_eq_true rfl)
  rw [lg_entry_eq]
  generalize (lg_sl ([.ref (ad 0), .int x]) ++ List.replicate (3 - (lg_sl ([.ref (ad 0), .int x])).length) Slot.unset).toArray = ls at hl ⊢
  have hl : lv_has ls 3 [(0, .ref (ad 0)), (1, .int x)] := hl
  refine lv_aload_n hx hb dX11_loudest_0 rfl (lv_at hl 0 rfl) ?_
  refine c_xvv (As := []) (rest := []) E G hA hX rfl hml (k_needCamera l hst D tys ad N S h0N h0 hs hscN hsc hmc) (cwV 0 hts (gaV qA_728 qA_729 qA_730 qA_131 qA_731) rfl rfl rfl (by decide +kernel) ⟨Nat.le_of_ble_eq_true rfl, Nat.le_of_ble_eq_true rfl⟩) h0N h0 rfl rfl hl.1 rfl (lv_room (Nat.le_of_ble_eq_true rfl)) dX11_loudest_1 ⟨Nat.le_of_ble_eq_true rfl, Nat.le_of_ble_eq_true rfl⟩ (fun E9 ce q9 S1 H locs hp G hce hcv hcl => ?_) (fun S1 H locs hq G => hq.elim)
  obtain ⟨hE, hS1⟩ := hp
  subst hE
  rw [hS1] at G
  exact vx_out (fun x hx => (htab x hx).elim) hlocks hce hcv hcl (fun t ht hvm => ⟨S, trivial, ⟨⟨rfl, rfl⟩, by rw [ht]; exact G.1, va_K.moved hvm hK, G.2.1⟩, G.2.2.F ht⟩) G.2.2.2.2 (Nat.le_refl _) (Nat.le_refl _)
set_option maxHeartbeats 4000000 in
set_option maxRecDepth 100000 in
theorem k_writeMap (l : Launch) (hst : l.stackTraces = false) (D : va_G) (tys : List (ClassId × FieldType)) (ad : Nat → Nat) (N : Nat) (S : Nat → va_E) {fs gs : List Value} {sc : Nat} (h0N : 0 < N) (h0 : S 0 = .inr (11, fs)) (hs : fs[14]? = some (.ref (ad sc))) (hscN : sc < N) (hsc : S sc = .inr (6, gs)) (hmc : gs[5]? = some (.int 0)) : cXi l yX11_writeMap (Cond.code yX11_writeMap cX11_writeMap 3 (some .int) :: wsA) 7 101 D tys ad N S [.ref (ad 0)] (fun _ _ => False) (fun E u => E = xISE ∧ u = S) := by
  intro sz
  refine vx_ofW (cc := cX11_writeMap) (maxL := 3) (ret := (some .int)) (by decide) rfl ?_
  intro p e s m args below meth c s₁ B hml htab hv
  obtain ⟨rfl, hsz, hP, hK, hD0, hX⟩ := hv
  have hx := B.exec
  have hb := B.bytes
  have hr := B.returns
  have hts := atoms_spec (ws := (Cond.code yX11_writeMap cX11_writeMap 3 (some .int) :: wsA)) B.pre
  have hown : s.vm.findClass RX11 = some m.cls := findClass_of_methodNamed B.named
  have hlocks := B.notSynchronized
  subst hsz
  have hD := hD0.self (sz := s.heap.size)
  generalize hAe : va_A (cW ad N S) s.heap.size = A at hD hX ⊢
  have hA : ∀ q : Nat, s.heap.size ≤ q → A q := fun q h => by rw [← hAe]; exact Or.inr h
  have G : cG D ad N A s.heap s.heap [] S := ⟨hP, hD, va_S.rf⟩
  have E : cE p c cX11_writeMap s m ([.ref (ad 0)] : List Value).toArray (Cond.code yX11_writeMap cX11_writeMap 3 (some .int) :: wsA) D RX11 tys := ⟨hx, hb, hts, hown, hK⟩
  have hl := lv_entry ([.ref (ad 0)]) (n := 3) (Nat.le_of_ble_eq_true rfl)
  rw [lg_entry_eq]
  generalize (lg_sl ([.ref (ad 0)]) ++ List.replicate (3 - (lg_sl ([.ref (ad 0)])).length) Slot.unset).toArray = ls at hl ⊢
  have hl : lv_has ls 3 [(0, .ref (ad 0))] := hl
  refine lv_aload_n hx hb dX11_writeMap_0 rfl (lv_at hl 0 rfl) ?_
  refine c_xvv (As := []) (rest := []) E G hA hX rfl hml (k_needCamera l hst D tys ad N S h0N h0 hs hscN hsc hmc) (cwV 0 hts (gaV qA_728 qA_729 qA_730 qA_131 qA_731) rfl rfl rfl (by decide +kernel) ⟨Nat.le_of_ble_eq_true rfl, Nat.le_of_ble_eq_true rfl⟩) h0N h0 rfl rfl hl.1 rfl (lv_room (Nat.le_of_ble_eq_true rfl)) dX11_writeMap_1 ⟨Nat.le_of_ble_eq_true rfl, Nat.le_of_ble_eq_true rfl⟩ (fun E9 ce q9 S1 H locs hp G hce hcv hcl => ?_) (fun S1 H locs hq G => hq.elim)
  obtain ⟨hE, hS1⟩ := hp
  subst hE
  rw [hS1] at G
  exact vx_out (fun x hx => (htab x hx).elim) hlocks hce hcv hcl (fun t ht hvm => ⟨S, trivial, ⟨⟨rfl, rfl⟩, by rw [ht]; exact G.1, va_K.moved hvm hK, G.2.1⟩, G.2.2.F ht⟩) G.2.2.2.2 (Nat.le_refl _) (Nat.le_refl _)
set_option maxHeartbeats 4000000 in
set_option maxRecDepth 100000 in
theorem k_pointBest (l : Launch) (hst : l.stackTraces = false) (D : va_G) (tys : List (ClassId × FieldType)) (ad : Nat → Nat) (N : Nat) (S : Nat → va_E) {fs gs : List Value} {sc : Nat} (h0N : 0 < N) (h0 : S 0 = .inr (11, fs)) (hs : fs[14]? = some (.ref (ad sc))) (hscN : sc < N) (hsc : S sc = .inr (6, gs)) (hmc : gs[5]? = some (.int 0)) (x y : Int32) : cXi l yX11_pointBest (Cond.code yX11_pointBest cX11_pointBest 3 (some .int) :: wsA) 7 101 D tys ad N S [.ref (ad 0), .int x, .int y] (fun _ _ => False) (fun E u => E = xISE ∧ u = S) := by
  intro sz
  refine vx_ofW (cc := cX11_pointBest) (maxL := 3) (ret := (some .int)) (by decide) rfl ?_
  intro p e s m args below meth c s₁ B hml htab hv
  obtain ⟨rfl, hsz, hP, hK, hD0, hX⟩ := hv
  have hx := B.exec
  have hb := B.bytes
  have hr := B.returns
  have hts := atoms_spec (ws := (Cond.code yX11_pointBest cX11_pointBest 3 (some .int) :: wsA)) B.pre
  have hown : s.vm.findClass RX11 = some m.cls := findClass_of_methodNamed B.named
  have hlocks := B.notSynchronized
  subst hsz
  have hD := hD0.self (sz := s.heap.size)
  generalize hAe : va_A (cW ad N S) s.heap.size = A at hD hX ⊢
  have hA : ∀ q : Nat, s.heap.size ≤ q → A q := fun q h => by rw [← hAe]; exact Or.inr h
  have G : cG D ad N A s.heap s.heap [] S := ⟨hP, hD, va_S.rf⟩
  have E : cE p c cX11_pointBest s m ([.ref (ad 0), .int x, .int y] : List Value).toArray (Cond.code yX11_pointBest cX11_pointBest 3 (some .int) :: wsA) D RX11 tys := ⟨hx, hb, hts, hown, hK⟩
  have hl := lv_entry ([.ref (ad 0), .int x, .int y]) (n := 3) (Nat.le_of_ble_eq_true rfl)
  rw [lg_entry_eq]
  generalize (lg_sl ([.ref (ad 0), .int x, .int y]) ++ List.replicate (3 - (lg_sl ([.ref (ad 0), .int x, .int y])).length) Slot.unset).toArray = ls at hl ⊢
  have hl : lv_has ls 3 [(0, .ref (ad 0)), (1, .int x), (2, .int y)] := hl
  refine lv_aload_n hx hb dX11_pointBest_0 rfl (lv_at hl 0 rfl) ?_
  refine c_xvv (As := []) (rest := []) E G hA hX rfl hml (k_needCamera l hst D tys ad N S h0N h0 hs hscN hsc hmc) (cwV 0 hts (gaV qA_728 qA_729 qA_730 qA_131 qA_731) rfl rfl rfl (by decide +kernel) ⟨Nat.le_of_ble_eq_true rfl, Nat.le_of_ble_eq_true rfl⟩) h0N h0 rfl rfl hl.1 rfl (lv_room (Nat.le_of_ble_eq_true rfl)) dX11_pointBest_1 ⟨Nat.le_of_ble_eq_true rfl, Nat.le_of_ble_eq_true rfl⟩ (fun E9 ce q9 S1 H locs hp G hce hcv hcl => ?_) (fun S1 H locs hq G => hq.elim)
  obtain ⟨hE, hS1⟩ := hp
  subst hE
  rw [hS1] at G
  exact vx_out (fun x hx => (htab x hx).elim) hlocks hce hcv hcl (fun t ht hvm => ⟨S, trivial, ⟨⟨rfl, rfl⟩, by rw [ht]; exact G.1, va_K.moved hvm hK, G.2.1⟩, G.2.2.F ht⟩) G.2.2.2.2 (Nat.le_refl _) (Nat.le_refl _)
set_option maxHeartbeats 4000000 in
set_option maxRecDepth 100000 in
theorem k_pointPower (l : Launch) (hst : l.stackTraces = false) (D : va_G) (tys : List (ClassId × FieldType)) (ad : Nat → Nat) (N : Nat) (S : Nat → va_E) {fs gs : List Value} {sc : Nat} (h0N : 0 < N) (h0 : S 0 = .inr (11, fs)) (hs : fs[14]? = some (.ref (ad sc))) (hscN : sc < N) (hsc : S sc = .inr (6, gs)) (hmc : gs[5]? = some (.int 0)) (x y z : Int32) : cXl l yX11_pointPower (Cond.code yX11_pointPower cX11_pointPower 4 (some .long) :: wsA) 7 101 D tys ad N S [.ref (ad 0), .int x, .int y, .int z] (fun _ _ => False) (fun E u => E = xISE ∧ u = S) := by
  intro sz
  refine vx_ofW (cc := cX11_pointPower) (maxL := 4) (ret := (some .long)) (by decide) rfl ?_
  intro p e s m args below meth c s₁ B hml htab hv
  obtain ⟨rfl, hsz, hP, hK, hD0, hX⟩ := hv
  have hx := B.exec
  have hb := B.bytes
  have hr := B.returns
  have hts := atoms_spec (ws := (Cond.code yX11_pointPower cX11_pointPower 4 (some .long) :: wsA)) B.pre
  have hown : s.vm.findClass RX11 = some m.cls := findClass_of_methodNamed B.named
  have hlocks := B.notSynchronized
  subst hsz
  have hD := hD0.self (sz := s.heap.size)
  generalize hAe : va_A (cW ad N S) s.heap.size = A at hD hX ⊢
  have hA : ∀ q : Nat, s.heap.size ≤ q → A q := fun q h => by rw [← hAe]; exact Or.inr h
  have G : cG D ad N A s.heap s.heap [] S := ⟨hP, hD, va_S.rf⟩
  have E : cE p c cX11_pointPower s m ([.ref (ad 0), .int x, .int y, .int z] : List Value).toArray (Cond.code yX11_pointPower cX11_pointPower 4 (some .long) :: wsA) D RX11 tys := ⟨hx, hb, hts, hown, hK⟩
  have hl := lv_entry ([.ref (ad 0), .int x, .int y, .int z]) (n := 4) (Nat.le_of_ble_eq_true rfl)
  rw [lg_entry_eq]
  generalize (lg_sl ([.ref (ad 0), .int x, .int y, .int z]) ++ List.replicate (4 - (lg_sl ([.ref (ad 0), .int x, .int y, .int z])).length) Slot.unset).toArray = ls at hl ⊢
  have hl : lv_has ls 4 [(0, .ref (ad 0)), (1, .int x), (2, .int y), (3, .int z)] := hl
  refine lv_aload_n hx hb dX11_pointPower_0 rfl (lv_at hl 0 rfl) ?_
  refine c_xvv (As := []) (rest := []) E G hA hX rfl hml (k_needCamera l hst D tys ad N S h0N h0 hs hscN hsc hmc) (cwV 0 hts (gaV qA_728 qA_729 qA_730 qA_131 qA_731) rfl rfl rfl (by decide +kernel) ⟨Nat.le_of_ble_eq_true rfl, Nat.le_of_ble_eq_true rfl⟩) h0N h0 rfl rfl hl.1 rfl (lv_room (Nat.le_of_ble_eq_true rfl)) dX11_pointPower_1 ⟨Nat.le_of_ble_eq_true rfl, Nat.le_of_ble_eq_true rfl⟩ (fun E9 ce q9 S1 H locs hp G hce hcv hcl => ?_) (fun S1 H locs hq G => hq.elim)
  obtain ⟨hE, hS1⟩ := hp
  subst hE
  rw [hS1] at G
  exact vx_out (fun x hx => (htab x hx).elim) hlocks hce hcv hcl (fun t ht hvm => ⟨S, trivial, ⟨⟨rfl, rfl⟩, by rw [ht]; exact G.1, va_K.moved hvm hK, G.2.1⟩, G.2.2.F ht⟩) G.2.2.2.2 (Nat.le_refl _) (Nat.le_refl _)
set_option maxHeartbeats 4000000 in
set_option maxRecDepth 100000 in
theorem k_bestWithout (l : Launch) (hst : l.stackTraces = false) (D : va_G) (tys : List (ClassId × FieldType)) (ad : Nat → Nat) (N : Nat) (S : Nat → va_E) {fs gs : List Value} {sc : Nat} (h0N : 0 < N) (h0 : S 0 = .inr (11, fs)) (hs : fs[14]? = some (.ref (ad sc))) (hscN : sc < N) (hsc : S sc = .inr (6, gs)) (hmc : gs[5]? = some (.int 0)) (x : Int32) : cXi l yX11_bestWithout (Cond.code yX11_bestWithout cX11_bestWithout 2 (some .int) :: wsA) 7 101 D tys ad N S [.ref (ad 0), .int x] (fun _ _ => False) (fun E u => E = xISE ∧ u = S) := by
  intro sz
  refine vx_ofW (cc := cX11_bestWithout) (maxL := 2) (ret := (some .int)) (by decide) rfl ?_
  intro p e s m args below meth c s₁ B hml htab hv
  obtain ⟨rfl, hsz, hP, hK, hD0, hX⟩ := hv
  have hx := B.exec
  have hb := B.bytes
  have hr := B.returns
  have hts := atoms_spec (ws := (Cond.code yX11_bestWithout cX11_bestWithout 2 (some .int) :: wsA)) B.pre
  have hown : s.vm.findClass RX11 = some m.cls := findClass_of_methodNamed B.named
  have hlocks := B.notSynchronized
  subst hsz
  have hD := hD0.self (sz := s.heap.size)
  generalize hAe : va_A (cW ad N S) s.heap.size = A at hD hX ⊢
  have hA : ∀ q : Nat, s.heap.size ≤ q → A q := fun q h => by rw [← hAe]; exact Or.inr h
  have G : cG D ad N A s.heap s.heap [] S := ⟨hP, hD, va_S.rf⟩
  have E : cE p c cX11_bestWithout s m ([.ref (ad 0), .int x] : List Value).toArray (Cond.code yX11_bestWithout cX11_bestWithout 2 (some .int) :: wsA) D RX11 tys := ⟨hx, hb, hts, hown, hK⟩
  have hl := lv_entry ([.ref (ad 0), .int x]) (n := 2) (Nat.le_of_ble_eq_true rfl)
  rw [lg_entry_eq]
  generalize (lg_sl ([.ref (ad 0), .int x]) ++ List.replicate (2 - (lg_sl ([.ref (ad 0), .int x])).length) Slot.unset).toArray = ls at hl ⊢
  have hl : lv_has ls 2 [(0, .ref (ad 0)), (1, .int x)] := hl
  refine lv_aload_n hx hb dX11_bestWithout_0 rfl (lv_at hl 0 rfl) ?_
  refine c_xvv (As := []) (rest := []) E G hA hX rfl hml (k_needCamera l hst D tys ad N S h0N h0 hs hscN hsc hmc) (cwV 0 hts (gaV qA_728 qA_729 qA_730 qA_131 qA_731) rfl rfl rfl (by decide +kernel) ⟨Nat.le_of_ble_eq_true rfl, Nat.le_of_ble_eq_true rfl⟩) h0N h0 rfl rfl hl.1 rfl (lv_room (Nat.le_of_ble_eq_true rfl)) dX11_bestWithout_1 ⟨Nat.le_of_ble_eq_true rfl, Nat.le_of_ble_eq_true rfl⟩ (fun E9 ce q9 S1 H locs hp G hce hcv hcl => ?_) (fun S1 H locs hq G => hq.elim)
  obtain ⟨hE, hS1⟩ := hp
  subst hE
  rw [hS1] at G
  exact vx_out (fun x hx => (htab x hx).elim) hlocks hce hcv hcl (fun t ht hvm => ⟨S, trivial, ⟨⟨rfl, rfl⟩, by rw [ht]; exact G.1, va_K.moved hvm hK, G.2.1⟩, G.2.2.F ht⟩) G.2.2.2.2 (Nat.le_refl _) (Nat.le_refl _)
set_option maxHeartbeats 4000000 in
set_option maxRecDepth 100000 in
theorem k_bestIfOff (l : Launch) (hst : l.stackTraces = false) (D : va_G) (tys : List (ClassId × FieldType)) (ad : Nat → Nat) (N : Nat) (S : Nat → va_E) {fs gs : List Value} {sc : Nat} (h0N : 0 < N) (h0 : S 0 = .inr (11, fs)) (hs : fs[14]? = some (.ref (ad sc))) (hscN : sc < N) (hsc : S sc = .inr (6, gs)) (hmc : gs[5]? = some (.int 0)) (x : Int32) : cXi l yX11_bestIfOff (Cond.code yX11_bestIfOff cX11_bestIfOff 2 (some .int) :: wsA) 7 101 D tys ad N S [.ref (ad 0), .int x] (fun _ _ => False) (fun E u => E = xISE ∧ u = S) := by
  intro sz
  refine vx_ofW (cc := cX11_bestIfOff) (maxL := 2) (ret := (some .int)) (by decide) rfl ?_
  intro p e s m args below meth c s₁ B hml htab hv
  obtain ⟨rfl, hsz, hP, hK, hD0, hX⟩ := hv
  have hx := B.exec
  have hb := B.bytes
  have hr := B.returns
  have hts := atoms_spec (ws := (Cond.code yX11_bestIfOff cX11_bestIfOff 2 (some .int) :: wsA)) B.pre
  have hown : s.vm.findClass RX11 = some m.cls := findClass_of_methodNamed B.named
  have hlocks := B.notSynchronized
  subst hsz
  have hD := hD0.self (sz := s.heap.size)
  generalize hAe : va_A (cW ad N S) s.heap.size = A at hD hX ⊢
  have hA : ∀ q : Nat, s.heap.size ≤ q → A q := fun q h => by rw [← hAe]; exact Or.inr h
  have G : cG D ad N A s.heap s.heap [] S := ⟨hP, hD, va_S.rf⟩
  have E : cE p c cX11_bestIfOff s m ([.ref (ad 0), .int x] : List Value).toArray (Cond.code yX11_bestIfOff cX11_bestIfOff 2 (some .int) :: wsA) D RX11 tys := ⟨hx, hb, hts, hown, hK⟩
  have hl := lv_entry ([.ref (ad 0), .int x]) (n := 2) (Nat.le_of_ble_eq_true rfl)
  rw [lg_entry_eq]
  generalize (lg_sl ([.ref (ad 0), .int x]) ++ List.replicate (2 - (lg_sl ([.ref (ad 0), .int x])).length) Slot.unset).toArray = ls at hl ⊢
  have hl : lv_has ls 2 [(0, .ref (ad 0)), (1, .int x)] := hl
  refine lv_aload_n hx hb dX11_bestIfOff_0 rfl (lv_at hl 0 rfl) ?_
  refine c_xvv (As := []) (rest := []) E G hA hX rfl hml (k_needCamera l hst D tys ad N S h0N h0 hs hscN hsc hmc) (cwV 0 hts (gaV qA_728 qA_729 qA_730 qA_131 qA_731) rfl rfl rfl (by decide +kernel) ⟨Nat.le_of_ble_eq_true rfl, Nat.le_of_ble_eq_true rfl⟩) h0N h0 rfl rfl hl.1 rfl (lv_room (Nat.le_of_ble_eq_true rfl)) dX11_bestIfOff_1 ⟨Nat.le_of_ble_eq_true rfl, Nat.le_of_ble_eq_true rfl⟩ (fun E9 ce q9 S1 H locs hp G hce hcv hcl => ?_) (fun S1 H locs hq G => hq.elim)
  obtain ⟨hE, hS1⟩ := hp
  subst hE
  rw [hS1] at G
  exact vx_out (fun x hx => (htab x hx).elim) hlocks hce hcv hcl (fun t ht hvm => ⟨S, trivial, ⟨⟨rfl, rfl⟩, by rw [ht]; exact G.1, va_K.moved hvm hK, G.2.1⟩, G.2.2.F ht⟩) G.2.2.2.2 (Nat.le_refl _) (Nat.le_refl _)
set_option maxHeartbeats 4000000 in
set_option maxRecDepth 100000 in
theorem k_mute (l : Launch) (hst : l.stackTraces = false) (D : va_G) (tys : List (ClassId × FieldType)) (ad : Nat → Nat) (N : Nat) (S : Nat → va_E) {fs gs : List Value} {sc : Nat} (h0N : 0 < N) (h0 : S 0 = .inr (11, fs)) (hs : fs[14]? = some (.ref (ad sc))) (hscN : sc < N) (hsc : S sc = .inr (6, gs)) (hmc : gs[5]? = some (.int 0)) (x y : Int32) : cXi l yX11_mute (Cond.code yX11_mute cX11_mute 4 (some .boolean) :: wsA) 7 101 D tys ad N S [.ref (ad 0), .int x, .int y] (fun _ _ => False) (fun E u => E = xISE ∧ u = S) := by
  intro sz
  refine vx_ofW (cc := cX11_mute) (maxL := 4) (ret := (some .boolean)) (by decide) rfl ?_
  intro p e s m args below meth c s₁ B hml htab hv
  obtain ⟨rfl, hsz, hP, hK, hD0, hX⟩ := hv
  have hx := B.exec
  have hb := B.bytes
  have hr := B.returns
  have hts := atoms_spec (ws := (Cond.code yX11_mute cX11_mute 4 (some .boolean) :: wsA)) B.pre
  have hown : s.vm.findClass RX11 = some m.cls := findClass_of_methodNamed B.named
  have hlocks := B.notSynchronized
  subst hsz
  have hD := hD0.self (sz := s.heap.size)
  generalize hAe : va_A (cW ad N S) s.heap.size = A at hD hX ⊢
  have hA : ∀ q : Nat, s.heap.size ≤ q → A q := fun q h => by rw [← hAe]; exact Or.inr h
  have G : cG D ad N A s.heap s.heap [] S := ⟨hP, hD, va_S.rf⟩
  have E : cE p c cX11_mute s m ([.ref (ad 0), .int x, .int y] : List Value).toArray (Cond.code yX11_mute cX11_mute 4 (some .boolean) :: wsA) D RX11 tys := ⟨hx, hb, hts, hown, hK⟩
  have hl := lv_entry ([.ref (ad 0), .int x, .int y]) (n := 4) (Nat.le_of_ble_eq_true rfl)
  rw [lg_entry_eq]
  generalize (lg_sl ([.ref (ad 0), .int x, .int y]) ++ List.replicate (4 - (lg_sl ([.ref (ad 0), .int x, .int y])).length) Slot.unset).toArray = ls at hl ⊢
  have hl : lv_has ls 4 [(0, .ref (ad 0)), (1, .int x), (2, .int y)] := hl
  refine lv_aload_n hx hb dX11_mute_0 rfl (lv_at hl 0 rfl) ?_
  refine c_xvv (As := []) (rest := []) E G hA hX rfl hml (k_needCamera l hst D tys ad N S h0N h0 hs hscN hsc hmc) (cwV 0 hts (gaV qA_728 qA_729 qA_730 qA_131 qA_731) rfl rfl rfl (by decide +kernel) ⟨Nat.le_of_ble_eq_true rfl, Nat.le_of_ble_eq_true rfl⟩) h0N h0 rfl rfl hl.1 rfl (lv_room (Nat.le_of_ble_eq_true rfl)) dX11_mute_1 ⟨Nat.le_of_ble_eq_true rfl, Nat.le_of_ble_eq_true rfl⟩ (fun E9 ce q9 S1 H locs hp G hce hcv hcl => ?_) (fun S1 H locs hq G => hq.elim)
  obtain ⟨hE, hS1⟩ := hp
  subst hE
  rw [hS1] at G
  exact vx_out (fun x hx => (htab x hx).elim) hlocks hce hcv hcl (fun t ht hvm => ⟨S, trivial, ⟨⟨rfl, rfl⟩, by rw [ht]; exact G.1, va_K.moved hvm hK, G.2.1⟩, G.2.2.F ht⟩) G.2.2.2.2 (Nat.le_refl _) (Nat.le_refl _)
set_option maxHeartbeats 4000000 in
set_option maxRecDepth 100000 in
theorem k_setWeight (l : Launch) (hst : l.stackTraces = false) (D : va_G) (tys : List (ClassId × FieldType)) (ad : Nat → Nat) (N : Nat) (S : Nat → va_E) {fs gs : List Value} {sc : Nat} (h0N : 0 < N) (h0 : S 0 = .inr (11, fs)) (hs : fs[14]? = some (.ref (ad sc))) (hscN : sc < N) (hsc : S sc = .inr (6, gs)) (hmc : gs[5]? = some (.int 0)) (x y : Int32) : cXi l yX11_setWeight (Cond.code yX11_setWeight cX11_setWeight 4 (some .int) :: wsA) 7 101 D tys ad N S [.ref (ad 0), .int x, .int y] (fun _ _ => False) (fun E u => E = xISE ∧ u = S) := by
  intro sz
  refine vx_ofW (cc := cX11_setWeight) (maxL := 4) (ret := (some .int)) (by decide) rfl ?_
  intro p e s m args below meth c s₁ B hml htab hv
  obtain ⟨rfl, hsz, hP, hK, hD0, hX⟩ := hv
  have hx := B.exec
  have hb := B.bytes
  have hr := B.returns
  have hts := atoms_spec (ws := (Cond.code yX11_setWeight cX11_setWeight 4 (some .int) :: wsA)) B.pre
  have hown : s.vm.findClass RX11 = some m.cls := findClass_of_methodNamed B.named
  have hlocks := B.notSynchronized
  subst hsz
  have hD := hD0.self (sz := s.heap.size)
  generalize hAe : va_A (cW ad N S) s.heap.size = A at hD hX ⊢
  have hA : ∀ q : Nat, s.heap.size ≤ q → A q := fun q h => by rw [← hAe]; exact Or.inr h
  have G : cG D ad N A s.heap s.heap [] S := ⟨hP, hD, va_S.rf⟩
  have E : cE p c cX11_setWeight s m ([.ref (ad 0), .int x, .int y] : List Value).toArray (Cond.code yX11_setWeight cX11_setWeight 4 (some .int) :: wsA) D RX11 tys := ⟨hx, hb, hts, hown, hK⟩
  have hl := lv_entry ([.ref (ad 0), .int x, .int y]) (n := 4) (Nat.le_of_ble_eq_true rfl)
  rw [lg_entry_eq]
  generalize (lg_sl ([.ref (ad 0), .int x, .int y]) ++ List.replicate (4 - (lg_sl ([.ref (ad 0), .int x, .int y])).length) Slot.unset).toArray = ls at hl ⊢
  have hl : lv_has ls 4 [(0, .ref (ad 0)), (1, .int x), (2, .int y)] := hl
  refine lv_aload_n hx hb dX11_setWeight_0 rfl (lv_at hl 0 rfl) ?_
  refine c_xvv (As := []) (rest := []) E G hA hX rfl hml (k_needCamera l hst D tys ad N S h0N h0 hs hscN hsc hmc) (cwV 0 hts (gaV qA_728 qA_729 qA_730 qA_131 qA_731) rfl rfl rfl (by decide +kernel) ⟨Nat.le_of_ble_eq_true rfl, Nat.le_of_ble_eq_true rfl⟩) h0N h0 rfl rfl hl.1 rfl (lv_room (Nat.le_of_ble_eq_true rfl)) dX11_setWeight_1 ⟨Nat.le_of_ble_eq_true rfl, Nat.le_of_ble_eq_true rfl⟩ (fun E9 ce q9 S1 H locs hp G hce hcv hcl => ?_) (fun S1 H locs hq G => hq.elim)
  obtain ⟨hE, hS1⟩ := hp
  subst hE
  rw [hS1] at G
  exact vx_out (fun x hx => (htab x hx).elim) hlocks hce hcv hcl (fun t ht hvm => ⟨S, trivial, ⟨⟨rfl, rfl⟩, by rw [ht]; exact G.1, va_K.moved hvm hK, G.2.1⟩, G.2.2.F ht⟩) G.2.2.2.2 (Nat.le_refl _) (Nat.le_refl _)
set_option maxHeartbeats 4000000 in
set_option maxRecDepth 100000 in
theorem k_setOn (l : Launch) (hst : l.stackTraces = false) (D : va_G) (tys : List (ClassId × FieldType)) (ad : Nat → Nat) (N : Nat) (S : Nat → va_E) {fs gs : List Value} {sc : Nat} (h0N : 0 < N) (h0 : S 0 = .inr (11, fs)) (hs : fs[14]? = some (.ref (ad sc))) (hscN : sc < N) (hsc : S sc = .inr (6, gs)) (hmc : gs[5]? = some (.int 0)) (x y : Int32) : cXi l yX11_setOn (Cond.code yX11_setOn cX11_setOn 4 (some .boolean) :: wsA) 7 101 D tys ad N S [.ref (ad 0), .int x, .int y] (fun _ _ => False) (fun E u => E = xISE ∧ u = S) := by
  intro sz
  refine vx_ofW (cc := cX11_setOn) (maxL := 4) (ret := (some .boolean)) (by decide) rfl ?_
  intro p e s m args below meth c s₁ B hml htab hv
  obtain ⟨rfl, hsz, hP, hK, hD0, hX⟩ := hv
  have hx := B.exec
  have hb := B.bytes
  have hr := B.returns
  have hts := atoms_spec (ws := (Cond.code yX11_setOn cX11_setOn 4 (some .boolean) :: wsA)) B.pre
  have hown : s.vm.findClass RX11 = some m.cls := findClass_of_methodNamed B.named
  have hlocks := B.notSynchronized
  subst hsz
  have hD := hD0.self (sz := s.heap.size)
  generalize hAe : va_A (cW ad N S) s.heap.size = A at hD hX ⊢
  have hA : ∀ q : Nat, s.heap.size ≤ q → A q := fun q h => by rw [← hAe]; exact Or.inr h
  have G : cG D ad N A s.heap s.heap [] S := ⟨hP, hD, va_S.rf⟩
  have E : cE p c cX11_setOn s m ([.ref (ad 0), .int x, .int y] : List Value).toArray (Cond.code yX11_setOn cX11_setOn 4 (some .boolean) :: wsA) D RX11 tys := ⟨hx, hb, hts, hown, hK⟩
  have hl := lv_entry ([.ref (ad 0), .int x, .int y]) (n := 4) (Nat.le_of_ble_eq_true rfl)
  rw [lg_entry_eq]
  generalize (lg_sl ([.ref (ad 0), .int x, .int y]) ++ List.replicate (4 - (lg_sl ([.ref (ad 0), .int x, .int y])).length) Slot.unset).toArray = ls at hl ⊢
  have hl : lv_has ls 4 [(0, .ref (ad 0)), (1, .int x), (2, .int y)] := hl
  refine lv_aload_n hx hb dX11_setOn_0 rfl (lv_at hl 0 rfl) ?_
  refine c_xvv (As := []) (rest := []) E G hA hX rfl hml (k_needCamera l hst D tys ad N S h0N h0 hs hscN hsc hmc) (cwV 0 hts (gaV qA_728 qA_729 qA_730 qA_131 qA_731) rfl rfl rfl (by decide +kernel) ⟨Nat.le_of_ble_eq_true rfl, Nat.le_of_ble_eq_true rfl⟩) h0N h0 rfl rfl hl.1 rfl (lv_room (Nat.le_of_ble_eq_true rfl)) dX11_setOn_1 ⟨Nat.le_of_ble_eq_true rfl, Nat.le_of_ble_eq_true rfl⟩ (fun E9 ce q9 S1 H locs hp G hce hcv hcl => ?_) (fun S1 H locs hq G => hq.elim)
  obtain ⟨hE, hS1⟩ := hp
  subst hE
  rw [hS1] at G
  exact vx_out (fun x hx => (htab x hx).elim) hlocks hce hcv hcl (fun t ht hvm => ⟨S, trivial, ⟨⟨rfl, rfl⟩, by rw [ht]; exact G.1, va_K.moved hvm hK, G.2.1⟩, G.2.2.F ht⟩) G.2.2.2.2 (Nat.le_refl _) (Nat.le_refl _)
set_option maxHeartbeats 4000000 in
set_option maxRecDepth 100000 in
theorem k_moveSource (l : Launch) (hst : l.stackTraces = false) (D : va_G) (tys : List (ClassId × FieldType)) (ad : Nat → Nat) (N : Nat) (S : Nat → va_E) {fs gs : List Value} {sc : Nat} (h0N : 0 < N) (h0 : S 0 = .inr (11, fs)) (hs : fs[14]? = some (.ref (ad sc))) (hscN : sc < N) (hsc : S sc = .inr (6, gs)) (hmc : gs[5]? = some (.int 0)) (x y z : Int32) : cXi l yX11_moveSource (Cond.code yX11_moveSource cX11_moveSource 4 (some .int) :: wsA) 7 101 D tys ad N S [.ref (ad 0), .int x, .int y, .int z] (fun _ _ => False) (fun E u => E = xISE ∧ u = S) := by
  intro sz
  refine vx_ofW (cc := cX11_moveSource) (maxL := 4) (ret := (some .int)) (by decide) rfl ?_
  intro p e s m args below meth c s₁ B hml htab hv
  obtain ⟨rfl, hsz, hP, hK, hD0, hX⟩ := hv
  have hx := B.exec
  have hb := B.bytes
  have hr := B.returns
  have hts := atoms_spec (ws := (Cond.code yX11_moveSource cX11_moveSource 4 (some .int) :: wsA)) B.pre
  have hown : s.vm.findClass RX11 = some m.cls := findClass_of_methodNamed B.named
  have hlocks := B.notSynchronized
  subst hsz
  have hD := hD0.self (sz := s.heap.size)
  generalize hAe : va_A (cW ad N S) s.heap.size = A at hD hX ⊢
  have hA : ∀ q : Nat, s.heap.size ≤ q → A q := fun q h => by rw [← hAe]; exact Or.inr h
  have G : cG D ad N A s.heap s.heap [] S := ⟨hP, hD, va_S.rf⟩
  have E : cE p c cX11_moveSource s m ([.ref (ad 0), .int x, .int y, .int z] : List Value).toArray (Cond.code yX11_moveSource cX11_moveSource 4 (some .int) :: wsA) D RX11 tys := ⟨hx, hb, hts, hown, hK⟩
  have hl := lv_entry ([.ref (ad 0), .int x, .int y, .int z]) (n := 4) (Nat.le_of_ble_eq_true rfl)
  rw [lg_entry_eq]
  generalize (lg_sl ([.ref (ad 0), .int x, .int y, .int z]) ++ List.replicate (4 - (lg_sl ([.ref (ad 0), .int x, .int y, .int z])).length) Slot.unset).toArray = ls at hl ⊢
  have hl : lv_has ls 4 [(0, .ref (ad 0)), (1, .int x), (2, .int y), (3, .int z)] := hl
  refine lv_aload_n hx hb dX11_moveSource_0 rfl (lv_at hl 0 rfl) ?_
  refine c_xvv (As := []) (rest := []) E G hA hX rfl hml (k_needCamera l hst D tys ad N S h0N h0 hs hscN hsc hmc) (cwV 0 hts (gaV qA_728 qA_729 qA_730 qA_131 qA_731) rfl rfl rfl (by decide +kernel) ⟨Nat.le_of_ble_eq_true rfl, Nat.le_of_ble_eq_true rfl⟩) h0N h0 rfl rfl hl.1 rfl (lv_room (Nat.le_of_ble_eq_true rfl)) dX11_moveSource_1 ⟨Nat.le_of_ble_eq_true rfl, Nat.le_of_ble_eq_true rfl⟩ (fun E9 ce q9 S1 H locs hp G hce hcv hcl => ?_) (fun S1 H locs hq G => hq.elim)
  obtain ⟨hE, hS1⟩ := hp
  subst hE
  rw [hS1] at G
  exact vx_out (fun x hx => (htab x hx).elim) hlocks hce hcv hcl (fun t ht hvm => ⟨S, trivial, ⟨⟨rfl, rfl⟩, by rw [ht]; exact G.1, va_K.moved hvm hK, G.2.1⟩, G.2.2.F ht⟩) G.2.2.2.2 (Nat.le_refl _) (Nat.le_refl _)
set_option maxHeartbeats 4000000 in
set_option maxRecDepth 100000 in
theorem k_setVelocity (l : Launch) (hst : l.stackTraces = false) (D : va_G) (tys : List (ClassId × FieldType)) (ad : Nat → Nat) (N : Nat) (S : Nat → va_E) {fs gs : List Value} {sc : Nat} (h0N : 0 < N) (h0 : S 0 = .inr (11, fs)) (hs : fs[14]? = some (.ref (ad sc))) (hscN : sc < N) (hsc : S sc = .inr (6, gs)) (hmc : gs[5]? = some (.int 0)) (x y z : Int32) : cXi l yX11_setVelocity (Cond.code yX11_setVelocity cX11_setVelocity 4 (some .int) :: wsA) 7 101 D tys ad N S [.ref (ad 0), .int x, .int y, .int z] (fun _ _ => False) (fun E u => E = xISE ∧ u = S) := by
  intro sz
  refine vx_ofW (cc := cX11_setVelocity) (maxL := 4) (ret := (some .int)) (by decide) rfl ?_
  intro p e s m args below meth c s₁ B hml htab hv
  obtain ⟨rfl, hsz, hP, hK, hD0, hX⟩ := hv
  have hx := B.exec
  have hb := B.bytes
  have hr := B.returns
  have hts := atoms_spec (ws := (Cond.code yX11_setVelocity cX11_setVelocity 4 (some .int) :: wsA)) B.pre
  have hown : s.vm.findClass RX11 = some m.cls := findClass_of_methodNamed B.named
  have hlocks := B.notSynchronized
  subst hsz
  have hD := hD0.self (sz := s.heap.size)
  generalize hAe : va_A (cW ad N S) s.heap.size = A at hD hX ⊢
  have hA : ∀ q : Nat, s.heap.size ≤ q → A q := fun q h => by rw [← hAe]; exact Or.inr h
  have G : cG D ad N A s.heap s.heap [] S := ⟨hP, hD, va_S.rf⟩
  have E : cE p c cX11_setVelocity s m ([.ref (ad 0), .int x, .int y, .int z] : List Value).toArray (Cond.code yX11_setVelocity cX11_setVelocity 4 (some .int) :: wsA) D RX11 tys := ⟨hx, hb, hts, hown, hK⟩
  have hl := lv_entry ([.ref (ad 0), .int x, .int y, .int z]) (n := 4) (Nat.le_of_ble_eq_true rfl)
  rw [lg_entry_eq]
  generalize (lg_sl ([.ref (ad 0), .int x, .int y, .int z]) ++ List.replicate (4 - (lg_sl ([.ref (ad 0), .int x, .int y, .int z])).length) Slot.unset).toArray = ls at hl ⊢
  have hl : lv_has ls 4 [(0, .ref (ad 0)), (1, .int x), (2, .int y), (3, .int z)] := hl
  refine lv_aload_n hx hb dX11_setVelocity_0 rfl (lv_at hl 0 rfl) ?_
  refine c_xvv (As := []) (rest := []) E G hA hX rfl hml (k_needCamera l hst D tys ad N S h0N h0 hs hscN hsc hmc) (cwV 0 hts (gaV qA_728 qA_729 qA_730 qA_131 qA_731) rfl rfl rfl (by decide +kernel) ⟨Nat.le_of_ble_eq_true rfl, Nat.le_of_ble_eq_true rfl⟩) h0N h0 rfl rfl hl.1 rfl (lv_room (Nat.le_of_ble_eq_true rfl)) dX11_setVelocity_1 ⟨Nat.le_of_ble_eq_true rfl, Nat.le_of_ble_eq_true rfl⟩ (fun E9 ce q9 S1 H locs hp G hce hcv hcl => ?_) (fun S1 H locs hq G => hq.elim)
  obtain ⟨hE, hS1⟩ := hp
  subst hE
  rw [hS1] at G
  exact vx_out (fun x hx => (htab x hx).elim) hlocks hce hcv hcl (fun t ht hvm => ⟨S, trivial, ⟨⟨rfl, rfl⟩, by rw [ht]; exact G.1, va_K.moved hvm hK, G.2.1⟩, G.2.2.F ht⟩) G.2.2.2.2 (Nat.le_refl _) (Nat.le_refl _)
set_option maxHeartbeats 4000000 in
set_option maxRecDepth 100000 in
theorem k_cleaned (l : Launch) (hst : l.stackTraces = false) (D : va_G) (tys : List (ClassId × FieldType)) (ad : Nat → Nat) (N : Nat) (S : Nat → va_E) {fs gs : List Value} {sc : Nat} (h0N : 0 < N) (h0 : S 0 = .inr (11, fs)) (hs : fs[14]? = some (.ref (ad sc))) (hscN : sc < N) (hsc : S sc = .inr (6, gs)) (hmc : gs[5]? = some (.int 0)) : cXi l yX11_cleaned (Cond.code yX11_cleaned cX11_cleaned 1 (some .int) :: wsA) 7 101 D tys ad N S [.ref (ad 0)] (fun _ _ => False) (fun E u => E = xISE ∧ u = S) := by
  intro sz
  refine vx_ofW (cc := cX11_cleaned) (maxL := 1) (ret := (some .int)) (by decide) rfl ?_
  intro p e s m args below meth c s₁ B hml htab hv
  obtain ⟨rfl, hsz, hP, hK, hD0, hX⟩ := hv
  have hx := B.exec
  have hb := B.bytes
  have hr := B.returns
  have hts := atoms_spec (ws := (Cond.code yX11_cleaned cX11_cleaned 1 (some .int) :: wsA)) B.pre
  have hown : s.vm.findClass RX11 = some m.cls := findClass_of_methodNamed B.named
  have hlocks := B.notSynchronized
  subst hsz
  have hD := hD0.self (sz := s.heap.size)
  generalize hAe : va_A (cW ad N S) s.heap.size = A at hD hX ⊢
  have hA : ∀ q : Nat, s.heap.size ≤ q → A q := fun q h => by rw [← hAe]; exact Or.inr h
  have G : cG D ad N A s.heap s.heap [] S := ⟨hP, hD, va_S.rf⟩
  have E : cE p c cX11_cleaned s m ([.ref (ad 0)] : List Value).toArray (Cond.code yX11_cleaned cX11_cleaned 1 (some .int) :: wsA) D RX11 tys := ⟨hx, hb, hts, hown, hK⟩
  have hl := lv_entry ([.ref (ad 0)]) (n := 1) (Nat.le_of_ble_eq_true rfl)
  rw [lg_entry_eq]
  generalize (lg_sl ([.ref (ad 0)]) ++ List.replicate (1 - (lg_sl ([.ref (ad 0)])).length) Slot.unset).toArray = ls at hl ⊢
  have hl : lv_has ls 1 [(0, .ref (ad 0))] := hl
  refine lv_aload_n hx hb dX11_cleaned_0 rfl (lv_at hl 0 rfl) ?_
  refine c_xvv (As := []) (rest := []) E G hA hX rfl hml (k_needCamera l hst D tys ad N S h0N h0 hs hscN hsc hmc) (cwV 0 hts (gaV qA_728 qA_729 qA_730 qA_131 qA_731) rfl rfl rfl (by decide +kernel) ⟨Nat.le_of_ble_eq_true rfl, Nat.le_of_ble_eq_true rfl⟩) h0N h0 rfl rfl hl.1 rfl (lv_room (Nat.le_of_ble_eq_true rfl)) dX11_cleaned_1 ⟨Nat.le_of_ble_eq_true rfl, Nat.le_of_ble_eq_true rfl⟩ (fun E9 ce q9 S1 H locs hp G hce hcv hcl => ?_) (fun S1 H locs hq G => hq.elim)
  obtain ⟨hE, hS1⟩ := hp
  subst hE
  rw [hS1] at G
  exact vx_out (fun x hx => (htab x hx).elim) hlocks hce hcv hcl (fun t ht hvm => ⟨S, trivial, ⟨⟨rfl, rfl⟩, by rw [ht]; exact G.1, va_K.moved hvm hK, G.2.1⟩, G.2.2.F ht⟩) G.2.2.2.2 (Nat.le_refl _) (Nat.le_refl _)
set_option maxHeartbeats 4000000 in
set_option maxRecDepth 100000 in
theorem k_save (l : Launch) (hst : l.stackTraces = false) (D : va_G) (tys : List (ClassId × FieldType)) (ad : Nat → Nat) (N : Nat) (S : Nat → va_E) {fs gs : List Value} {sc : Nat} (h0N : 0 < N) (h0 : S 0 = .inr (11, fs)) (hs : fs[14]? = some (.ref (ad sc))) (hscN : sc < N) (hsc : S sc = .inr (6, gs)) (hmc : gs[5]? = some (.int 0)) (x : Int32) : cXi l yX11_save (Cond.code yX11_save cX11_save 2 (some .int) :: wsA) 7 101 D tys ad N S [.ref (ad 0), .int x] (fun _ _ => False) (fun E u => E = xISE ∧ u = S) := by
  intro sz
  refine vx_ofW (cc := cX11_save) (maxL := 2) (ret := (some .int)) (by decide) rfl ?_
  intro p e s m args below meth c s₁ B hml htab hv
  obtain ⟨rfl, hsz, hP, hK, hD0, hX⟩ := hv
  have hx := B.exec
  have hb := B.bytes
  have hr := B.returns
  have hts := atoms_spec (ws := (Cond.code yX11_save cX11_save 2 (some .int) :: wsA)) B.pre
  have hown : s.vm.findClass RX11 = some m.cls := findClass_of_methodNamed B.named
  have hlocks := B.notSynchronized
  subst hsz
  have hD := hD0.self (sz := s.heap.size)
  generalize hAe : va_A (cW ad N S) s.heap.size = A at hD hX ⊢
  have hA : ∀ q : Nat, s.heap.size ≤ q → A q := fun q h => by rw [← hAe]; exact Or.inr h
  have G : cG D ad N A s.heap s.heap [] S := ⟨hP, hD, va_S.rf⟩
  have E : cE p c cX11_save s m ([.ref (ad 0), .int x] : List Value).toArray (Cond.code yX11_save cX11_save 2 (some .int) :: wsA) D RX11 tys := ⟨hx, hb, hts, hown, hK⟩
  have hl := lv_entry ([.ref (ad 0), .int x]) (n := 2) (Nat.le_of_ble_eq_true rfl)
  rw [lg_entry_eq]
  generalize (lg_sl ([.ref (ad 0), .int x]) ++ List.replicate (2 - (lg_sl ([.ref (ad 0), .int x])).length) Slot.unset).toArray = ls at hl ⊢
  have hl : lv_has ls 2 [(0, .ref (ad 0)), (1, .int x)] := hl
  refine lv_aload_n hx hb dX11_save_0 rfl (lv_at hl 0 rfl) ?_
  refine c_xvv (As := []) (rest := []) E G hA hX rfl hml (k_needCamera l hst D tys ad N S h0N h0 hs hscN hsc hmc) (cwV 0 hts (gaV qA_728 qA_729 qA_730 qA_131 qA_731) rfl rfl rfl (by decide +kernel) ⟨Nat.le_of_ble_eq_true rfl, Nat.le_of_ble_eq_true rfl⟩) h0N h0 rfl rfl hl.1 rfl (lv_room (Nat.le_of_ble_eq_true rfl)) dX11_save_1 ⟨Nat.le_of_ble_eq_true rfl, Nat.le_of_ble_eq_true rfl⟩ (fun E9 ce q9 S1 H locs hp G hce hcv hcl => ?_) (fun S1 H locs hq G => hq.elim)
  obtain ⟨hE, hS1⟩ := hp
  subst hE
  rw [hS1] at G
  exact vx_out (fun x hx => (htab x hx).elim) hlocks hce hcv hcl (fun t ht hvm => ⟨S, trivial, ⟨⟨rfl, rfl⟩, by rw [ht]; exact G.1, va_K.moved hvm hK, G.2.1⟩, G.2.2.F ht⟩) G.2.2.2.2 (Nat.le_refl _) (Nat.le_refl _)
set_option maxHeartbeats 4000000 in
set_option maxRecDepth 100000 in
theorem k_clean (l : Launch) (hst : l.stackTraces = false) (D : va_G) (tys : List (ClassId × FieldType)) (ad : Nat → Nat) (N : Nat) (S : Nat → va_E) {fs gs : List Value} {sc : Nat} (h0N : 0 < N) (h0 : S 0 = .inr (11, fs)) (hs : fs[14]? = some (.ref (ad sc))) (hscN : sc < N) (hsc : S sc = .inr (6, gs)) (hmc : gs[5]? = some (.int 0)) (x : Int32) : cXi l yX11_clean (Cond.code yX11_clean cX11_clean 3 (some .int) :: wsA) 7 101 D tys ad N S [.ref (ad 0), .int x] (fun _ _ => False) (fun E u => E = xISE ∧ u = S) := by
  intro sz
  refine vx_ofW (cc := cX11_clean) (maxL := 3) (ret := (some .int)) (by decide) rfl ?_
  intro p e s m args below meth c s₁ B hml htab hv
  obtain ⟨rfl, hsz, hP, hK, hD0, hX⟩ := hv
  have hx := B.exec
  have hb := B.bytes
  have hr := B.returns
  have hts := atoms_spec (ws := (Cond.code yX11_clean cX11_clean 3 (some .int) :: wsA)) B.pre
  have hown : s.vm.findClass RX11 = some m.cls := findClass_of_methodNamed B.named
  have hlocks := B.notSynchronized
  subst hsz
  have hD := hD0.self (sz := s.heap.size)
  generalize hAe : va_A (cW ad N S) s.heap.size = A at hD hX ⊢
  have hA : ∀ q : Nat, s.heap.size ≤ q → A q := fun q h => by rw [← hAe]; exact Or.inr h
  have G : cG D ad N A s.heap s.heap [] S := ⟨hP, hD, va_S.rf⟩
  have E : cE p c cX11_clean s m ([.ref (ad 0), .int x] : List Value).toArray (Cond.code yX11_clean cX11_clean 3 (some .int) :: wsA) D RX11 tys := ⟨hx, hb, hts, hown, hK⟩
  have hl := lv_entry ([.ref (ad 0), .int x]) (n := 3) (Nat.le_of_ble_eq_true rfl)
  rw [lg_entry_eq]
  generalize (lg_sl ([.ref (ad 0), .int x]) ++ List.replicate (3 - (lg_sl ([.ref (ad 0), .int x])).length) Slot.unset).toArray = ls at hl ⊢
  have hl : lv_has ls 3 [(0, .ref (ad 0)), (1, .int x)] := hl
  refine lv_aload_n hx hb dX11_clean_0 rfl (lv_at hl 0 rfl) ?_
  refine c_xvv (As := []) (rest := []) E G hA hX rfl hml (k_needCamera l hst D tys ad N S h0N h0 hs hscN hsc hmc) (cwV 0 hts (gaV qA_728 qA_729 qA_730 qA_131 qA_731) rfl rfl rfl (by decide +kernel) ⟨Nat.le_of_ble_eq_true rfl, Nat.le_of_ble_eq_true rfl⟩) h0N h0 rfl rfl hl.1 rfl (lv_room (Nat.le_of_ble_eq_true rfl)) dX11_clean_1 ⟨Nat.le_of_ble_eq_true rfl, Nat.le_of_ble_eq_true rfl⟩ (fun E9 ce q9 S1 H locs hp G hce hcv hcl => ?_) (fun S1 H locs hq G => hq.elim)
  obtain ⟨hE, hS1⟩ := hp
  subst hE
  rw [hS1] at G
  exact vx_out (fun x hx => (htab x hx).elim) hlocks hce hcv hcl (fun t ht hvm => ⟨S, trivial, ⟨⟨rfl, rfl⟩, by rw [ht]; exact G.1, va_K.moved hvm hK, G.2.1⟩, G.2.2.F ht⟩) G.2.2.2.2 (Nat.le_refl _) (Nat.le_refl _)
