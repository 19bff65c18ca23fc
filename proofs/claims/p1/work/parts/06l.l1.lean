set_option maxHeartbeats 4000000 in
set_option maxRecDepth 100000 in
theorem w_micAt (l : Launch) (hst : l.stackTraces = false) (D : va_G) (tys : List (ClassId × FieldType)) (ad : Nat → Nat) (N : Nat) (S : Nat → va_E) {fs gs : List Value} {sc : Nat} (h0N : 0 < N) (h0 : S 0 = .inr (11, fs)) (hs : fs[14]? = some (.ref (ad sc))) (hscN : sc < N) (hsc : S sc = .inr (6, gs)) (hmc : gs[5]? = some (.int 0)) (x y : Int32) (ao : Nat) : cWi l yL_micAt (Cond.codeWith yL_micAt cL_micAt 5 (some .int) [(0, 10, 13, 21), (0, 10, 17, 13), (0, 10, 21, 15)] :: wsA) 8 123 D tys ad N S [.ref (ad 0), .int x, .int y, .ref ao] (fun r S1 => r = 1 ∧ S1 = S) := by
  intro sz
  refine va_MetW (cc := cL_micAt) (maxL := 5) (ret := some .int) (by decide) rfl ?_
  intro p e s m args below meth c s₁ B hml hv
  obtain ⟨rfl, hsz, hP, hK, hD0, hX, hN_xIAE_xIOB, hN_xISE_xIOB⟩ := hv
  have hx := B.exec
  have hb := B.bytes
  have hr := B.returns
  have hts := atoms_spec (ws := (Cond.codeWith yL_micAt cL_micAt 5 (some .int) [(0, 10, 13, 21), (0, 10, 17, 13), (0, 10, 21, 15)] :: wsA)) B.pre
  have hown : s.vm.findClass RL = some m.cls := findClass_of_methodNamed B.named
  have hlocks := B.notSynchronized
  have htb := vx_table (x := yL_micAt) B (hts _ (.head _))
  subst hsz
  have hD := hD0.self (sz := s.heap.size)
  generalize hAe : va_A (cW ad N S) s.heap.size = A at hD hX ⊢
  have hA : ∀ q : Nat, s.heap.size ≤ q → A q := fun q h => by rw [← hAe]; exact Or.inr h
  have G : cG D ad N A s.heap s.heap [] S := ⟨hP, hD, va_S.rf⟩
  have E : cE p c cL_micAt s m ([.ref (ad 0), .int x, .int y, .ref ao] : List Value).toArray (Cond.codeWith yL_micAt cL_micAt 5 (some .int) [(0, 10, 13, 21), (0, 10, 17, 13), (0, 10, 21, 15)] :: wsA) D RL tys := ⟨hx, hb, hts, hown, hK⟩
  have hl := lv_entry ([.ref (ad 0), .int x, .int y, .ref ao]) (n := 5) (Nat.le_of_ble_eq_true rfl)
  rw [lg_entry_eq]
  generalize (lg_sl ([.ref (ad 0), .int x, .int y, .ref ao]) ++ List.replicate (5 - (lg_sl ([.ref (ad 0), .int x, .int y, .ref ao])).length) Slot.unset).toArray = ls at hl ⊢
  have hl : lv_has ls 5 [(0, .ref (ad 0)), (1, .int x), (2, .int y), (3, .ref ao)] := hl
  refine lv_aload_n hx hb dL_micAt_0 rfl (lv_at hl 3 rfl) ?_
  refine lv_iconst (v := 0) hx hb dL_micAt_1 (by decide) ?_
  refine lv_aload_n hx hb dL_micAt_2 rfl (lv_at hl 0 rfl) ?_
  refine lv_iload_n hx hb dL_micAt_3 rfl (lv_at hl 1 rfl) ?_
  refine lv_iload_n hx hb dL_micAt_4 rfl (lv_at hl 2 rfl) ?_
  refine c_xvi (As := [.int x, .int y]) (rest := [.int 0, .ref ao]) E G hA hX rfl hml (k_micAt l hst D tys ad N S h0N h0 hs hscN hsc hmc x y) (cwV 2 hts (gaV qA_953 qA_954 qA_955 qA_131 qA_722) rfl rfl rfl (by decide +kernel) ⟨Nat.le_of_ble_eq_true rfl, Nat.le_of_ble_eq_true rfl⟩) h0N h0 rfl rfl hl.1 rfl (lv_room (Nat.le_of_ble_eq_true rfl)) dL_micAt_5 ⟨Nat.le_of_ble_eq_true rfl, Nat.le_of_ble_eq_true rfl⟩ (fun E9 ce q9 S1 H locs hp G hce hcv hcl => ?_) (fun r S1 H locs hq G => hq.elim)
  obtain ⟨hE, hS1⟩ := hp
  subst hE
  rw [hS1] at G
  refine vx_catch (name := xISE) hown [] { startPc := 0, endPc := 10, handlerPc := 13, catchType := 21 } [{ startPc := 0, endPc := 10, handlerPc := 17, catchType := 13 }, { startPc := 0, endPc := 10, handlerPc := 21, catchType := 15 }] htb (fun z hz => absurd hz List.not_mem_nil) (by decide) (by decide) (hts _ (.tail _ qA_952)) (hX.use (.castable xISE xISE) (by decide +kernel)) hce hcv hcl ?_
  refine lv_astore (lv' := [(4, .ref q9), (0, .ref (ad 0)), (1, .int x), (2, .int y), (3, .ref ao)]) hx hb dL_micAt_13 hl (by decide) rfl (fun ls hl => ?_)
  refine lv_iconst (v := 1) hx hb dL_micAt_15 (by decide) ?_
  exact W.iret (v := 1) hx hb hr (fun t ht hW => ⟨⟨1, S, rfl, ⟨rfl, rfl⟩, ⟨by rw [ht]; exact G.1, va_K.moved hW.alike hK, G.2.1⟩⟩, G.2.2.F ht⟩) G.2.2.2.2 dL_micAt_16
set_option maxHeartbeats 4000000 in
set_option maxRecDepth 100000 in
theorem w_isMuted (l : Launch) (hst : l.stackTraces = false) (D : va_G) (tys : List (ClassId × FieldType)) (ad : Nat → Nat) (N : Nat) (S : Nat → va_E) {fs gs : List Value} {sc : Nat} (h0N : 0 < N) (h0 : S 0 = .inr (11, fs)) (hs : fs[14]? = some (.ref (ad sc))) (hscN : sc < N) (hsc : S sc = .inr (6, gs)) (hmc : gs[5]? = some (.int 0)) (x : Int32) (ao : Nat) : cWi l yL_isMuted (Cond.codeWith yL_isMuted cL_isMuted 4 (some .int) [(0, 16, 19, 21), (0, 16, 22, 13)] :: wsA) 8 122 D tys ad N S [.ref (ad 0), .int x, .ref ao] (fun r S1 => r = 1 ∧ S1 = S) := by
  intro sz
  refine va_MetW (cc := cL_isMuted) (maxL := 4) (ret := some .int) (by decide) rfl ?_
  intro p e s m args below meth c s₁ B hml hv
  obtain ⟨rfl, hsz, hP, hK, hD0, hX, hN_xIAE_xIOB, hN_xISE_xIOB⟩ := hv
  have hx := B.exec
  have hb := B.bytes
  have hr := B.returns
  have hts := atoms_spec (ws := (Cond.codeWith yL_isMuted cL_isMuted 4 (some .int) [(0, 16, 19, 21), (0, 16, 22, 13)] :: wsA)) B.pre
  have hown : s.vm.findClass RL = some m.cls := findClass_of_methodNamed B.named
  have hlocks := B.notSynchronized
  have htb := vx_table (x := yL_isMuted) B (hts _ (.head _))
  subst hsz
  have hD := hD0.self (sz := s.heap.size)
  generalize hAe : va_A (cW ad N S) s.heap.size = A at hD hX ⊢
  have hA : ∀ q : Nat, s.heap.size ≤ q → A q := fun q h => by rw [← hAe]; exact Or.inr h
  have G : cG D ad N A s.heap s.heap [] S := ⟨hP, hD, va_S.rf⟩
  have E : cE p c cL_isMuted s m ([.ref (ad 0), .int x, .ref ao] : List Value).toArray (Cond.codeWith yL_isMuted cL_isMuted 4 (some .int) [(0, 16, 19, 21), (0, 16, 22, 13)] :: wsA) D RL tys := ⟨hx, hb, hts, hown, hK⟩
  have hl := lv_entry ([.ref (ad 0), .int x, .ref ao]) (n := 4) (Nat.le_of_ble_eq_true rfl)
  rw [lg_entry_eq]
  generalize (lg_sl ([.ref (ad 0), .int x, .ref ao]) ++ List.replicate (4 - (lg_sl ([.ref (ad 0), .int x, .ref ao])).length) Slot.unset).toArray = ls at hl ⊢
  have hl : lv_has ls 4 [(0, .ref (ad 0)), (1, .int x), (2, .ref ao)] := hl
  refine lv_aload_n hx hb dL_isMuted_0 rfl (lv_at hl 2 rfl) ?_
  refine lv_iconst (v := 0) hx hb dL_isMuted_1 (by decide) ?_
  refine lv_aload_n hx hb dL_isMuted_2 rfl (lv_at hl 0 rfl) ?_
  refine lv_iload_n hx hb dL_isMuted_3 rfl (lv_at hl 1 rfl) ?_
  refine c_xvi (As := [.int x]) (rest := [.int 0, .ref ao]) E G hA hX rfl hml (k_isMuted l hst D tys ad N S h0N h0 hs hscN hsc hmc x) (cwV 1 hts (gaV qA_957 qA_958 qA_959 qA_131 qA_745) rfl rfl rfl (by decide +kernel) ⟨Nat.le_of_ble_eq_true rfl, Nat.le_of_ble_eq_true rfl⟩) h0N h0 rfl rfl hl.1 rfl (lv_room (Nat.le_of_ble_eq_true rfl)) dL_isMuted_4 ⟨Nat.le_of_ble_eq_true rfl, Nat.le_of_ble_eq_true rfl⟩ (fun E9 ce q9 S1 H locs hp G hce hcv hcl => ?_) (fun r S1 H locs hq G => hq.elim)
  obtain ⟨hE, hS1⟩ := hp
  subst hE
  rw [hS1] at G
  refine vx_catch (name := xISE) hown [] { startPc := 0, endPc := 16, handlerPc := 19, catchType := 21 } [{ startPc := 0, endPc := 16, handlerPc := 22, catchType := 13 }] htb (fun z hz => absurd hz List.not_mem_nil) (by decide) (by decide) (hts _ (.tail _ qA_952)) (hX.use (.castable xISE xISE) (by decide +kernel)) hce hcv hcl ?_
  refine lv_astore_n (lv' := [(3, .ref q9), (0, .ref (ad 0)), (1, .int x), (2, .ref ao)]) hx hb dL_isMuted_19 rfl hl (by decide) rfl (fun ls hl => ?_)
  refine lv_iconst (v := 1) hx hb dL_isMuted_20 (by decide) ?_
  exact W.iret (v := 1) hx hb hr (fun t ht hW => ⟨⟨1, S, rfl, ⟨rfl, rfl⟩, ⟨by rw [ht]; exact G.1, va_K.moved hW.alike hK, G.2.1⟩⟩, G.2.2.F ht⟩) G.2.2.2.2 dL_isMuted_21
set_option maxHeartbeats 4000000 in
set_option maxRecDepth 100000 in
theorem w_cellAt (l : Launch) (hst : l.stackTraces = false) (D : va_G) (tys : List (ClassId × FieldType)) (ad : Nat → Nat) (N : Nat) (S : Nat → va_E) {fs gs : List Value} {sc : Nat} (h0N : 0 < N) (h0 : S 0 = .inr (11, fs)) (hs : fs[14]? = some (.ref (ad sc))) (hscN : sc < N) (hsc : S sc = .inr (6, gs)) (hmc : gs[5]? = some (.int 0)) (x y : Int32) (ao : Nat) : cWi l yL_cellAt (Cond.codeWith yL_cellAt cL_cellAt 5 (some .int) [(0, 10, 13, 21), (0, 10, 17, 13), (0, 10, 21, 15)] :: wsA) 8 123 D tys ad N S [.ref (ad 0), .int x, .int y, .ref ao] (fun r S1 => r = 1 ∧ S1 = S) := by
  intro sz
  refine va_MetW (cc := cL_cellAt) (maxL := 5) (ret := some .int) (by decide) rfl ?_
  intro p e s m args below meth c s₁ B hml hv
  obtain ⟨rfl, hsz, hP, hK, hD0, hX, hN_xIAE_xIOB, hN_xISE_xIOB⟩ := hv
  have hx := B.exec
  have hb := B.bytes
  have hr := B.returns
  have hts := atoms_spec (ws := (Cond.codeWith yL_cellAt cL_cellAt 5 (some .int) [(0, 10, 13, 21), (0, 10, 17, 13), (0, 10, 21, 15)] :: wsA)) B.pre
  have hown : s.vm.findClass RL = some m.cls := findClass_of_methodNamed B.named
  have hlocks := B.notSynchronized
  have htb := vx_table (x := yL_cellAt) B (hts _ (.head _))
  subst hsz
  have hD := hD0.self (sz := s.heap.size)
  generalize hAe : va_A (cW ad N S) s.heap.size = A at hD hX ⊢
  have hA : ∀ q : Nat, s.heap.size ≤ q → A q := fun q h => by rw [← hAe]; exact Or.inr h
  have G : cG D ad N A s.heap s.heap [] S := ⟨hP, hD, va_S.rf⟩
  have E : cE p c cL_cellAt s m ([.ref (ad 0), .int x, .int y, .ref ao] : List Value).toArray (Cond.codeWith yL_cellAt cL_cellAt 5 (some .int) [(0, 10, 13, 21), (0, 10, 17, 13), (0, 10, 21, 15)] :: wsA) D RL tys := ⟨hx, hb, hts, hown, hK⟩
  have hl := lv_entry ([.ref (ad 0), .int x, .int y, .ref ao]) (n := 5) (Nat.le_of_ble_eq_true rfl)
  rw [lg_entry_eq]
  generalize (lg_sl ([.ref (ad 0), .int x, .int y, .ref ao]) ++ List.replicate (5 - (lg_sl ([.ref (ad 0), .int x, .int y, .ref ao])).length) Slot.unset).toArray = ls at hl ⊢
  have hl : lv_has ls 5 [(0, .ref (ad 0)), (1, .int x), (2, .int y), (3, .ref ao)] := hl
  refine lv_aload_n hx hb dL_cellAt_0 rfl (lv_at hl 3 rfl) ?_
  refine lv_iconst (v := 0) hx hb dL_cellAt_1 (by decide) ?_
  refine lv_aload_n hx hb dL_cellAt_2 rfl (lv_at hl 0 rfl) ?_
  refine lv_iload_n hx hb dL_cellAt_3 rfl (lv_at hl 1 rfl) ?_
  refine lv_iload_n hx hb dL_cellAt_4 rfl (lv_at hl 2 rfl) ?_
  refine c_xvi (As := [.int x, .int y]) (rest := [.int 0, .ref ao]) E G hA hX rfl hml (k_cellAt l hst D tys ad N S h0N h0 hs hscN hsc hmc x y) (cwV 2 hts (gaV qA_961 qA_962 qA_963 qA_131 qA_751) rfl rfl rfl (by decide +kernel) ⟨Nat.le_of_ble_eq_true rfl, Nat.le_of_ble_eq_true rfl⟩) h0N h0 rfl rfl hl.1 rfl (lv_room (Nat.le_of_ble_eq_true rfl)) dL_cellAt_5 ⟨Nat.le_of_ble_eq_true rfl, Nat.le_of_ble_eq_true rfl⟩ (fun E9 ce q9 S1 H locs hp G hce hcv hcl => ?_) (fun r S1 H locs hq G => hq.elim)
  obtain ⟨hE, hS1⟩ := hp
  subst hE
  rw [hS1] at G
  refine vx_catch (name := xISE) hown [] { startPc := 0, endPc := 10, handlerPc := 13, catchType := 21 } [{ startPc := 0, endPc := 10, handlerPc := 17, catchType := 13 }, { startPc := 0, endPc := 10, handlerPc := 21, catchType := 15 }] htb (fun z hz => absurd hz List.not_mem_nil) (by decide) (by decide) (hts _ (.tail _ qA_952)) (hX.use (.castable xISE xISE) (by decide +kernel)) hce hcv hcl ?_
  refine lv_astore (lv' := [(4, .ref q9), (0, .ref (ad 0)), (1, .int x), (2, .int y), (3, .ref ao)]) hx hb dL_cellAt_13 hl (by decide) rfl (fun ls hl => ?_)
  refine lv_iconst (v := 1) hx hb dL_cellAt_15 (by decide) ?_
  exact W.iret (v := 1) hx hb hr (fun t ht hW => ⟨⟨1, S, rfl, ⟨rfl, rfl⟩, ⟨by rw [ht]; exact G.1, va_K.moved hW.alike hK, G.2.1⟩⟩, G.2.2.F ht⟩) G.2.2.2.2 dL_cellAt_16
set_option maxHeartbeats 4000000 in
set_option maxRecDepth 100000 in
theorem w_sourceAt (l : Launch) (hst : l.stackTraces = false) (D : va_G) (tys : List (ClassId × FieldType)) (ad : Nat → Nat) (N : Nat) (S : Nat → va_E) {fs gs : List Value} {sc : Nat} (h0N : 0 < N) (h0 : S 0 = .inr (11, fs)) (hs : fs[14]? = some (.ref (ad sc))) (hscN : sc < N) (hsc : S sc = .inr (6, gs)) (hmc : gs[5]? = some (.int 0)) (x y z : Int32) (ao : Nat) : cWi l yL_sourceAt (Cond.codeWith yL_sourceAt cL_sourceAt 6 (some .int) [(0, 12, 15, 21), (0, 12, 19, 13), (0, 12, 23, 15)] :: wsA) 8 124 D tys ad N S [.ref (ad 0), .int x, .int y, .int z, .ref ao] (fun r S1 => r = 1 ∧ S1 = S) := by
  intro sz
  refine va_MetW (cc := cL_sourceAt) (maxL := 6) (ret := some .int) (by decide) rfl ?_
  intro p e s m args below meth c s₁ B hml hv
  obtain ⟨rfl, hsz, hP, hK, hD0, hX, hN_xIAE_xIOB, hN_xISE_xIOB⟩ := hv
  have hx := B.exec
  have hb := B.bytes
  have hr := B.returns
  have hts := atoms_spec (ws := (Cond.codeWith yL_sourceAt cL_sourceAt 6 (some .int) [(0, 12, 15, 21), (0, 12, 19, 13), (0, 12, 23, 15)] :: wsA)) B.pre
  have hown : s.vm.findClass RL = some m.cls := findClass_of_methodNamed B.named
  have hlocks := B.notSynchronized
  have htb := vx_table (x := yL_sourceAt) B (hts _ (.head _))
  subst hsz
  have hD := hD0.self (sz := s.heap.size)
  generalize hAe : va_A (cW ad N S) s.heap.size = A at hD hX ⊢
  have hA : ∀ q : Nat, s.heap.size ≤ q → A q := fun q h => by rw [← hAe]; exact Or.inr h
  have G : cG D ad N A s.heap s.heap [] S := ⟨hP, hD, va_S.rf⟩
  have E : cE p c cL_sourceAt s m ([.ref (ad 0), .int x, .int y, .int z, .ref ao] : List Value).toArray (Cond.codeWith yL_sourceAt cL_sourceAt 6 (some .int) [(0, 12, 15, 21), (0, 12, 19, 13), (0, 12, 23, 15)] :: wsA) D RL tys := ⟨hx, hb, hts, hown, hK⟩
  have hl := lv_entry ([.ref (ad 0), .int x, .int y, .int z, .ref ao]) (n := 6) (Nat.le_of_ble_eq_true rfl)
  rw [lg_entry_eq]
  generalize (lg_sl ([.ref (ad 0), .int x, .int y, .int z, .ref ao]) ++ List.replicate (6 - (lg_sl ([.ref (ad 0), .int x, .int y, .int z, .ref ao])).length) Slot.unset).toArray = ls at hl ⊢
  have hl : lv_has ls 6 [(0, .ref (ad 0)), (1, .int x), (2, .int y), (3, .int z), (4, .ref ao)] := hl
  refine lv_aload hx hb dL_sourceAt_0 (lv_at hl 4 rfl) ?_
  refine lv_iconst (v := 0) hx hb dL_sourceAt_2 (by decide) ?_
  refine lv_aload_n hx hb dL_sourceAt_3 rfl (lv_at hl 0 rfl) ?_
  refine lv_iload_n hx hb dL_sourceAt_4 rfl (lv_at hl 1 rfl) ?_
  refine lv_iload_n hx hb dL_sourceAt_5 rfl (lv_at hl 2 rfl) ?_
  refine lv_iload_n hx hb dL_sourceAt_6 rfl (lv_at hl 3 rfl) ?_
  refine c_xvi (As := [.int x, .int y, .int z]) (rest := [.int 0, .ref ao]) E G hA hX rfl hml (k_sourceAt l hst D tys ad N S h0N h0 hs hscN hsc hmc x y z) (cwV 3 hts (gaV qA_965 qA_966 qA_967 qA_131 qA_760) rfl rfl rfl (by decide +kernel) ⟨Nat.le_of_ble_eq_true rfl, Nat.le_of_ble_eq_true rfl⟩) h0N h0 rfl rfl hl.1 rfl (lv_room (Nat.le_of_ble_eq_true rfl)) dL_sourceAt_7 ⟨Nat.le_of_ble_eq_true rfl, Nat.le_of_ble_eq_true rfl⟩ (fun E9 ce q9 S1 H locs hp G hce hcv hcl => ?_) (fun r S1 H locs hq G => hq.elim)
  obtain ⟨hE, hS1⟩ := hp
  subst hE
  rw [hS1] at G
  refine vx_catch (name := xISE) hown [] { startPc := 0, endPc := 12, handlerPc := 15, catchType := 21 } [{ startPc := 0, endPc := 12, handlerPc := 19, catchType := 13 }, { startPc := 0, endPc := 12, handlerPc := 23, catchType := 15 }] htb (fun z hz => absurd hz List.not_mem_nil) (by decide) (by decide) (hts _ (.tail _ qA_952)) (hX.use (.castable xISE xISE) (by decide +kernel)) hce hcv hcl ?_
  refine lv_astore (lv' := [(5, .ref q9), (0, .ref (ad 0)), (1, .int x), (2, .int y), (3, .int z), (4, .ref ao)]) hx hb dL_sourceAt_15 hl (by decide) rfl (fun ls hl => ?_)
  refine lv_iconst (v := 1) hx hb dL_sourceAt_17 (by decide) ?_
  exact W.iret (v := 1) hx hb hr (fun t ht hW => ⟨⟨1, S, rfl, ⟨rfl, rfl⟩, ⟨by rw [ht]; exact G.1, va_K.moved hW.alike hK, G.2.1⟩⟩, G.2.2.F ht⟩) G.2.2.2.2 dL_sourceAt_18
set_option maxHeartbeats 4000000 in
set_option maxRecDepth 100000 in
theorem w_isOn (l : Launch) (hst : l.stackTraces = false) (D : va_G) (tys : List (ClassId × FieldType)) (ad : Nat → Nat) (N : Nat) (S : Nat → va_E) {fs gs : List Value} {sc : Nat} (h0N : 0 < N) (h0 : S 0 = .inr (11, fs)) (hs : fs[14]? = some (.ref (ad sc))) (hscN : sc < N) (hsc : S sc = .inr (6, gs)) (hmc : gs[5]? = some (.int 0)) (x : Int32) (ao : Nat) : cWi l yL_isOn (Cond.codeWith yL_isOn cL_isOn 4 (some .int) [(0, 16, 19, 21), (0, 16, 22, 13)] :: wsA) 8 122 D tys ad N S [.ref (ad 0), .int x, .ref ao] (fun r S1 => r = 1 ∧ S1 = S) := by
  intro sz
  refine va_MetW (cc := cL_isOn) (maxL := 4) (ret := some .int) (by decide) rfl ?_
  intro p e s m args below meth c s₁ B hml hv
  obtain ⟨rfl, hsz, hP, hK, hD0, hX, hN_xIAE_xIOB, hN_xISE_xIOB⟩ := hv
  have hx := B.exec
  have hb := B.bytes
  have hr := B.returns
  have hts := atoms_spec (ws := (Cond.codeWith yL_isOn cL_isOn 4 (some .int) [(0, 16, 19, 21), (0, 16, 22, 13)] :: wsA)) B.pre
  have hown : s.vm.findClass RL = some m.cls := findClass_of_methodNamed B.named
  have hlocks := B.notSynchronized
  have htb := vx_table (x := yL_isOn) B (hts _ (.head _))
  subst hsz
  have hD := hD0.self (sz := s.heap.size)
  generalize hAe : va_A (cW ad N S) s.heap.size = A at hD hX ⊢
  have hA : ∀ q : Nat, s.heap.size ≤ q → A q := fun q h => by rw [← hAe]; exact Or.inr h
  have G : cG D ad N A s.heap s.heap [] S := ⟨hP, hD, va_S.rf⟩
  have E : cE p c cL_isOn s m ([.ref (ad 0), .int x, .ref ao] : List Value).toArray (Cond.codeWith yL_isOn cL_isOn 4 (some .int) [(0, 16, 19, 21), (0, 16, 22, 13)] :: wsA) D RL tys := ⟨hx, hb, hts, hown, hK⟩
  have hl := lv_entry ([.ref (ad 0), .int x, .ref ao]) (n := 4) (Nat.le_of_ble_eq_true rfl)
  rw [lg_entry_eq]
  generalize (lg_sl ([.ref (ad 0), .int x, .ref ao]) ++ List.replicate (4 - (lg_sl ([.ref (ad 0), .int x, .ref ao])).length) Slot.unset).toArray = ls at hl ⊢
  have hl : lv_has ls 4 [(0, .ref (ad 0)), (1, .int x), (2, .ref ao)] := hl
  refine lv_aload_n hx hb dL_isOn_0 rfl (lv_at hl 2 rfl) ?_
  refine lv_iconst (v := 0) hx hb dL_isOn_1 (by decide) ?_
  refine lv_aload_n hx hb dL_isOn_2 rfl (lv_at hl 0 rfl) ?_
  refine lv_iload_n hx hb dL_isOn_3 rfl (lv_at hl 1 rfl) ?_
  refine c_xvi (As := [.int x]) (rest := [.int 0, .ref ao]) E G hA hX rfl hml (k_isOn l hst D tys ad N S h0N h0 hs hscN hsc hmc x) (cwV 1 hts (gaV qA_969 qA_970 qA_971 qA_131 qA_771) rfl rfl rfl (by decide +kernel) ⟨Nat.le_of_ble_eq_true rfl, Nat.le_of_ble_eq_true rfl⟩) h0N h0 rfl rfl hl.1 rfl (lv_room (Nat.le_of_ble_eq_true rfl)) dL_isOn_4 ⟨Nat.le_of_ble_eq_true rfl, Nat.le_of_ble_eq_true rfl⟩ (fun E9 ce q9 S1 H locs hp G hce hcv hcl => ?_) (fun r S1 H locs hq G => hq.elim)
  obtain ⟨hE, hS1⟩ := hp
  subst hE
  rw [hS1] at G
  refine vx_catch (name := xISE) hown [] { startPc := 0, endPc := 16, handlerPc := 19, catchType := 21 } [{ startPc := 0, endPc := 16, handlerPc := 22, catchType := 13 }] htb (fun z hz => absurd hz List.not_mem_nil) (by decide) (by decide) (hts _ (.tail _ qA_952)) (hX.use (.castable xISE xISE) (by decide +kernel)) hce hcv hcl ?_
  refine lv_astore_n (lv' := [(3, .ref q9), (0, .ref (ad 0)), (1, .int x), (2, .ref ao)]) hx hb dL_isOn_19 rfl hl (by decide) rfl (fun ls hl => ?_)
  refine lv_iconst (v := 1) hx hb dL_isOn_20 (by decide) ?_
  exact W.iret (v := 1) hx hb hr (fun t ht hW => ⟨⟨1, S, rfl, ⟨rfl, rfl⟩, ⟨by rw [ht]; exact G.1, va_K.moved hW.alike hK, G.2.1⟩⟩, G.2.2.F ht⟩) G.2.2.2.2 dL_isOn_21
set_option maxHeartbeats 4000000 in
set_option maxRecDepth 100000 in
theorem w_waveAt (l : Launch) (hst : l.stackTraces = false) (D : va_G) (tys : List (ClassId × FieldType)) (ad : Nat → Nat) (N : Nat) (S : Nat → va_E) {fs gs : List Value} {sc : Nat} (h0N : 0 < N) (h0 : S 0 = .inr (11, fs)) (hs : fs[14]? = some (.ref (ad sc))) (hscN : sc < N) (hsc : S sc = .inr (6, gs)) (hmc : gs[5]? = some (.int 0)) (x y : Int32) (ao : Nat) : cWi l yL_waveAt (Cond.codeWith yL_waveAt cL_waveAt 5 (some .int) [(0, 10, 13, 21), (0, 10, 17, 13), (0, 10, 21, 15)] :: wsA) 8 123 D tys ad N S [.ref (ad 0), .int x, .int y, .ref ao] (fun r S1 => r = 1 ∧ S1 = S) := by
  intro sz
  refine va_MetW (cc := cL_waveAt) (maxL := 5) (ret := some .int) (by decide) rfl ?_
  intro p e s m args below meth c s₁ B hml hv
  obtain ⟨rfl, hsz, hP, hK, hD0, hX, hN_xIAE_xIOB, hN_xISE_xIOB⟩ := hv
  have hx := B.exec
  have hb := B.bytes
  have hr := B.returns
  have hts := atoms_spec (ws := (Cond.codeWith yL_waveAt cL_waveAt 5 (some .int) [(0, 10, 13, 21), (0, 10, 17, 13), (0, 10, 21, 15)] :: wsA)) B.pre
  have hown : s.vm.findClass RL = some m.cls := findClass_of_methodNamed B.named
  have hlocks := B.notSynchronized
  have htb := vx_table (x := yL_waveAt) B (hts _ (.head _))
  subst hsz
  have hD := hD0.self (sz := s.heap.size)
  generalize hAe : va_A (cW ad N S) s.heap.size = A at hD hX ⊢
  have hA : ∀ q : Nat, s.heap.size ≤ q → A q := fun q h => by rw [← hAe]; exact Or.inr h
  have G : cG D ad N A s.heap s.heap [] S := ⟨hP, hD, va_S.rf⟩
  have E : cE p c cL_waveAt s m ([.ref (ad 0), .int x, .int y, .ref ao] : List Value).toArray (Cond.codeWith yL_waveAt cL_waveAt 5 (some .int) [(0, 10, 13, 21), (0, 10, 17, 13), (0, 10, 21, 15)] :: wsA) D RL tys := ⟨hx, hb, hts, hown, hK⟩
  have hl := lv_entry ([.ref (ad 0), .int x, .int y, .ref ao]) (n := 5) (Nat.le_of_ble_eq_true rfl)
  rw [lg_entry_eq]
  generalize (lg_sl ([.ref (ad 0), .int x, .int y, .ref ao]) ++ List.replicate (5 - (lg_sl ([.ref (ad 0), .int x, .int y, .ref ao])).length) Slot.unset).toArray = ls at hl ⊢
  have hl : lv_has ls 5 [(0, .ref (ad 0)), (1, .int x), (2, .int y), (3, .ref ao)] := hl
  refine lv_aload_n hx hb dL_waveAt_0 rfl (lv_at hl 3 rfl) ?_
  refine lv_iconst (v := 0) hx hb dL_waveAt_1 (by decide) ?_
  refine lv_aload_n hx hb dL_waveAt_2 rfl (lv_at hl 0 rfl) ?_
  refine lv_iload_n hx hb dL_waveAt_3 rfl (lv_at hl 1 rfl) ?_
  refine lv_iload_n hx hb dL_waveAt_4 rfl (lv_at hl 2 rfl) ?_
  refine c_xvi (As := [.int x, .int y]) (rest := [.int 0, .ref ao]) E G hA hX rfl hml (k_waveAt l hst D tys ad N S h0N h0 hs hscN hsc hmc x y) (cwV 2 hts (gaV qA_973 qA_974 qA_975 qA_131 qA_773) rfl rfl rfl (by decide +kernel) ⟨Nat.le_of_ble_eq_true rfl, Nat.le_of_ble_eq_true rfl⟩) h0N h0 rfl rfl hl.1 rfl (lv_room (Nat.le_of_ble_eq_true rfl)) dL_waveAt_5 ⟨Nat.le_of_ble_eq_true rfl, Nat.le_of_ble_eq_true rfl⟩ (fun E9 ce q9 S1 H locs hp G hce hcv hcl => ?_) (fun r S1 H locs hq G => hq.elim)
  obtain ⟨hE, hS1⟩ := hp
  subst hE
  rw [hS1] at G
  refine vx_catch (name := xISE) hown [] { startPc := 0, endPc := 10, handlerPc := 13, catchType := 21 } [{ startPc := 0, endPc := 10, handlerPc := 17, catchType := 13 }, { startPc := 0, endPc := 10, handlerPc := 21, catchType := 15 }] htb (fun z hz => absurd hz List.not_mem_nil) (by decide) (by decide) (hts _ (.tail _ qA_952)) (hX.use (.castable xISE xISE) (by decide +kernel)) hce hcv hcl ?_
  refine lv_astore (lv' := [(4, .ref q9), (0, .ref (ad 0)), (1, .int x), (2, .int y), (3, .ref ao)]) hx hb dL_waveAt_13 hl (by decide) rfl (fun ls hl => ?_)
  refine lv_iconst (v := 1) hx hb dL_waveAt_15 (by decide) ?_
  exact W.iret (v := 1) hx hb hr (fun t ht hW => ⟨⟨1, S, rfl, ⟨rfl, rfl⟩, ⟨by rw [ht]; exact G.1, va_K.moved hW.alike hK, G.2.1⟩⟩, G.2.2.F ht⟩) G.2.2.2.2 dL_waveAt_16
set_option maxHeartbeats 4000000 in
set_option maxRecDepth 100000 in
theorem w_delay (l : Launch) (hst : l.stackTraces = false) (D : va_G) (tys : List (ClassId × FieldType)) (ad : Nat → Nat) (N : Nat) (S : Nat → va_E) {fs gs : List Value} {sc : Nat} (h0N : 0 < N) (h0 : S 0 = .inr (11, fs)) (hs : fs[14]? = some (.ref (ad sc))) (hscN : sc < N) (hsc : S sc = .inr (6, gs)) (hmc : gs[5]? = some (.int 0)) (x y : Int32) (ao : Nat) : cWi l yL_delay (Cond.codeWith yL_delay cL_delay 5 (some .int) [(0, 10, 13, 21), (0, 10, 17, 13)] :: wsA) 8 123 D tys ad N S [.ref (ad 0), .int x, .int y, .ref ao] (fun r S1 => r = 1 ∧ S1 = S) := by
  intro sz
  refine va_MetW (cc := cL_delay) (maxL := 5) (ret := some .int) (by decide) rfl ?_
  intro p e s m args below meth c s₁ B hml hv
  obtain ⟨rfl, hsz, hP, hK, hD0, hX, hN_xIAE_xIOB, hN_xISE_xIOB⟩ := hv
  have hx := B.exec
  have hb := B.bytes
  have hr := B.returns
  have hts := atoms_spec (ws := (Cond.codeWith yL_delay cL_delay 5 (some .int) [(0, 10, 13, 21), (0, 10, 17, 13)] :: wsA)) B.pre
  have hown : s.vm.findClass RL = some m.cls := findClass_of_methodNamed B.named
  have hlocks := B.notSynchronized
  have htb := vx_table (x := yL_delay) B (hts _ (.head _))
  subst hsz
  have hD := hD0.self (sz := s.heap.size)
  generalize hAe : va_A (cW ad N S) s.heap.size = A at hD hX ⊢
  have hA : ∀ q : Nat, s.heap.size ≤ q → A q := fun q h => by rw [← hAe]; exact Or.inr h
  have G : cG D ad N A s.heap s.heap [] S := ⟨hP, hD, va_S.rf⟩
  have E : cE p c cL_delay s m ([.ref (ad 0), .int x, .int y, .ref ao] : List Value).toArray (Cond.codeWith yL_delay cL_delay 5 (some .int) [(0, 10, 13, 21), (0, 10, 17, 13)] :: wsA) D RL tys := ⟨hx, hb, hts, hown, hK⟩
  have hl := lv_entry ([.ref (ad 0), .int x, .int y, .ref ao]) (n := 5) (Nat.le_of_ble_eq_true rfl)
  rw [lg_entry_eq]
  generalize (lg_sl ([.ref (ad 0), .int x, .int y, .ref ao]) ++ List.replicate (5 - (lg_sl ([.ref (ad 0), .int x, .int y, .ref ao])).length) Slot.unset).toArray = ls at hl ⊢
  have hl : lv_has ls 5 [(0, .ref (ad 0)), (1, .int x), (2, .int y), (3, .ref ao)] := hl
  refine lv_aload_n hx hb dL_delay_0 rfl (lv_at hl 3 rfl) ?_
  refine lv_iconst (v := 0) hx hb dL_delay_1 (by decide) ?_
  refine lv_aload_n hx hb dL_delay_2 rfl (lv_at hl 0 rfl) ?_
  refine lv_iload_n hx hb dL_delay_3 rfl (lv_at hl 1 rfl) ?_
  refine lv_iload_n hx hb dL_delay_4 rfl (lv_at hl 2 rfl) ?_
  refine c_xvi (As := [.int x, .int y]) (rest := [.int 0, .ref ao]) E G hA hX rfl hml (k_delay l hst D tys ad N S h0N h0 hs hscN hsc hmc x y) (cwV 2 hts (gaV qA_977 qA_978 qA_979 qA_131 qA_777) rfl rfl rfl (by decide +kernel) ⟨Nat.le_of_ble_eq_true rfl, Nat.le_of_ble_eq_true rfl⟩) h0N h0 rfl rfl hl.1 rfl (lv_room (Nat.le_of_ble_eq_true rfl)) dL_delay_5 ⟨Nat.le_of_ble_eq_true rfl, Nat.le_of_ble_eq_true rfl⟩ (fun E9 ce q9 S1 H locs hp G hce hcv hcl => ?_) (fun r S1 H locs hq G => hq.elim)
  obtain ⟨hE, hS1⟩ := hp
  subst hE
  rw [hS1] at G
  refine vx_catch (name := xISE) hown [] { startPc := 0, endPc := 10, handlerPc := 13, catchType := 21 } [{ startPc := 0, endPc := 10, handlerPc := 17, catchType := 13 }] htb (fun z hz => absurd hz List.not_mem_nil) (by decide) (by decide) (hts _ (.tail _ qA_952)) (hX.use (.castable xISE xISE) (by decide +kernel)) hce hcv hcl ?_
  refine lv_astore (lv' := [(4, .ref q9), (0, .ref (ad 0)), (1, .int x), (2, .int y), (3, .ref ao)]) hx hb dL_delay_13 hl (by decide) rfl (fun ls hl => ?_)
  refine lv_iconst (v := 1) hx hb dL_delay_15 (by decide) ?_
  exact W.iret (v := 1) hx hb hr (fun t ht hW => ⟨⟨1, S, rfl, ⟨rfl, rfl⟩, ⟨by rw [ht]; exact G.1, va_K.moved hW.alike hK, G.2.1⟩⟩, G.2.2.F ht⟩) G.2.2.2.2 dL_delay_16
set_option maxHeartbeats 4000000 in
set_option maxRecDepth 100000 in
theorem w_delayTo (l : Launch) (hst : l.stackTraces = false) (D : va_G) (tys : List (ClassId × FieldType)) (ad : Nat → Nat) (N : Nat) (S : Nat → va_E) {fs gs : List Value} {sc : Nat} (h0N : 0 < N) (h0 : S 0 = .inr (11, fs)) (hs : fs[14]? = some (.ref (ad sc))) (hscN : sc < N) (hsc : S sc = .inr (6, gs)) (hmc : gs[5]? = some (.int 0)) (x y z : Int32) (ao : Nat) : cWi l yL_delayTo (Cond.codeWith yL_delayTo cL_delayTo 6 (some .int) [(0, 12, 15, 21), (0, 12, 19, 13), (0, 12, 23, 15)] :: wsA) 8 124 D tys ad N S [.ref (ad 0), .int x, .int y, .int z, .ref ao] (fun r S1 => r = 1 ∧ S1 = S) := by
  intro sz
  refine va_MetW (cc := cL_delayTo) (maxL := 6) (ret := some .int) (by decide) rfl ?_
  intro p e s m args below meth c s₁ B hml hv
  obtain ⟨rfl, hsz, hP, hK, hD0, hX, hN_xIAE_xIOB, hN_xISE_xIOB⟩ := hv
  have hx := B.exec
  have hb := B.bytes
  have hr := B.returns
  have hts := atoms_spec (ws := (Cond.codeWith yL_delayTo cL_delayTo 6 (some .int) [(0, 12, 15, 21), (0, 12, 19, 13), (0, 12, 23, 15)] :: wsA)) B.pre
  have hown : s.vm.findClass RL = some m.cls := findClass_of_methodNamed B.named
  have hlocks := B.notSynchronized
  have htb := vx_table (x := yL_delayTo) B (hts _ (.head _))
  subst hsz
  have hD := hD0.self (sz := s.heap.size)
  generalize hAe : va_A (cW ad N S) s.heap.size = A at hD hX ⊢
  have hA : ∀ q : Nat, s.heap.size ≤ q → A q := fun q h => by rw [← hAe]; exact Or.inr h
  have G : cG D ad N A s.heap s.heap [] S := ⟨hP, hD, va_S.rf⟩
  have E : cE p c cL_delayTo s m ([.ref (ad 0), .int x, .int y, .int z, .ref ao] : List Value).toArray (Cond.codeWith yL_delayTo cL_delayTo 6 (some .int) [(0, 12, 15, 21), (0, 12, 19, 13), (0, 12, 23, 15)] :: wsA) D RL tys := ⟨hx, hb, hts, hown, hK⟩
  have hl := lv_entry ([.ref (ad 0), .int x, .int y, .int z, .ref ao]) (n := 6) (Nat.le_of_ble_eq_true rfl)
  rw [lg_entry_eq]
  generalize (lg_sl ([.ref (ad 0), .int x, .int y, .int z, .ref ao]) ++ List.replicate (6 - (lg_sl ([.ref (ad 0), .int x, .int y, .int z, .ref ao])).length) Slot.unset).toArray = ls at hl ⊢
  have hl : lv_has ls 6 [(0, .ref (ad 0)), (1, .int x), (2, .int y), (3, .int z), (4, .ref ao)] := hl
  refine lv_aload hx hb dL_delayTo_0 (lv_at hl 4 rfl) ?_
  refine lv_iconst (v := 0) hx hb dL_delayTo_2 (by decide) ?_
  refine lv_aload_n hx hb dL_delayTo_3 rfl (lv_at hl 0 rfl) ?_
  refine lv_iload_n hx hb dL_delayTo_4 rfl (lv_at hl 1 rfl) ?_
  refine lv_iload_n hx hb dL_delayTo_5 rfl (lv_at hl 2 rfl) ?_
  refine lv_iload_n hx hb dL_delayTo_6 rfl (lv_at hl 3 rfl) ?_
  refine c_xvi (As := [.int x, .int y, .int z]) (rest := [.int 0, .ref ao]) E G hA hX rfl hml (k_delayTo l hst D tys ad N S h0N h0 hs hscN hsc hmc x y z) (cwV 3 hts (gaV qA_981 qA_982 qA_983 qA_131 qA_779) rfl rfl rfl (by decide +kernel) ⟨Nat.le_of_ble_eq_true rfl, Nat.le_of_ble_eq_true rfl⟩) h0N h0 rfl rfl hl.1 rfl (lv_room (Nat.le_of_ble_eq_true rfl)) dL_delayTo_7 ⟨Nat.le_of_ble_eq_true rfl, Nat.le_of_ble_eq_true rfl⟩ (fun E9 ce q9 S1 H locs hp G hce hcv hcl => ?_) (fun r S1 H locs hq G => hq.elim)
  obtain ⟨hE, hS1⟩ := hp
  subst hE
  rw [hS1] at G
  refine vx_catch (name := xISE) hown [] { startPc := 0, endPc := 12, handlerPc := 15, catchType := 21 } [{ startPc := 0, endPc := 12, handlerPc := 19, catchType := 13 }, { startPc := 0, endPc := 12, handlerPc := 23, catchType := 15 }] htb (fun z hz => absurd hz List.not_mem_nil) (by decide) (by decide) (hts _ (.tail _ qA_952)) (hX.use (.castable xISE xISE) (by decide +kernel)) hce hcv hcl ?_
  refine lv_astore (lv' := [(5, .ref q9), (0, .ref (ad 0)), (1, .int x), (2, .int y), (3, .int z), (4, .ref ao)]) hx hb dL_delayTo_15 hl (by decide) rfl (fun ls hl => ?_)
  refine lv_iconst (v := 1) hx hb dL_delayTo_17 (by decide) ?_
  exact W.iret (v := 1) hx hb hr (fun t ht hW => ⟨⟨1, S, rfl, ⟨rfl, rfl⟩, ⟨by rw [ht]; exact G.1, va_K.moved hW.alike hK, G.2.1⟩⟩, G.2.2.F ht⟩) G.2.2.2.2 dL_delayTo_18
set_option maxHeartbeats 4000000 in
set_option maxRecDepth 100000 in
theorem w_spread (l : Launch) (hst : l.stackTraces = false) (D : va_G) (tys : List (ClassId × FieldType)) (ad : Nat → Nat) (N : Nat) (S : Nat → va_E) {fs gs : List Value} {sc : Nat} (h0N : 0 < N) (h0 : S 0 = .inr (11, fs)) (hs : fs[14]? = some (.ref (ad sc))) (hscN : sc < N) (hsc : S sc = .inr (6, gs)) (hmc : gs[5]? = some (.int 0)) (x : Int32) (ao : Nat) : cWi l yL_spread (Cond.codeWith yL_spread cL_spread 4 (some .int) [(0, 9, 12, 21), (0, 9, 15, 13)] :: wsA) 8 123 D tys ad N S [.ref (ad 0), .int x, .ref ao] (fun r S1 => r = 1 ∧ S1 = S) := by
  intro sz
  refine va_MetW (cc := cL_spread) (maxL := 4) (ret := some .int) (by decide) rfl ?_
  intro p e s m args below meth c s₁ B hml hv
  obtain ⟨rfl, hsz, hP, hK, hD0, hX, hN_xIAE_xIOB, hN_xISE_xIOB⟩ := hv
  have hx := B.exec
  have hb := B.bytes
  have hr := B.returns
  have hts := atoms_spec (ws := (Cond.codeWith yL_spread cL_spread 4 (some .int) [(0, 9, 12, 21), (0, 9, 15, 13)] :: wsA)) B.pre
  have hown : s.vm.findClass RL = some m.cls := findClass_of_methodNamed B.named
  have hlocks := B.notSynchronized
  have htb := vx_table (x := yL_spread) B (hts _ (.head _))
  subst hsz
  have hD := hD0.self (sz := s.heap.size)
  generalize hAe : va_A (cW ad N S) s.heap.size = A at hD hX ⊢
  have hA : ∀ q : Nat, s.heap.size ≤ q → A q := fun q h => by rw [← hAe]; exact Or.inr h
  have G : cG D ad N A s.heap s.heap [] S := ⟨hP, hD, va_S.rf⟩
  have E : cE p c cL_spread s m ([.ref (ad 0), .int x, .ref ao] : List Value).toArray (Cond.codeWith yL_spread cL_spread 4 (some .int) [(0, 9, 12, 21), (0, 9, 15, 13)] :: wsA) D RL tys := ⟨hx, hb, hts, hown, hK⟩
  have hl := lv_entry ([.ref (ad 0), .int x, .ref ao]) (n := 4) (Nat.le_of_ble_eq_true rfl)
  rw [lg_entry_eq]
  generalize (lg_sl ([.ref (ad 0), .int x, .ref ao]) ++ List.replicate (4 - (lg_sl ([.ref (ad 0), .int x, .ref ao])).length) Slot.unset).toArray = ls at hl ⊢
  have hl : lv_has ls 4 [(0, .ref (ad 0)), (1, .int x), (2, .ref ao)] := hl
  refine lv_aload_n hx hb dL_spread_0 rfl (lv_at hl 2 rfl) ?_
  refine lv_iconst (v := 0) hx hb dL_spread_1 (by decide) ?_
  refine lv_aload_n hx hb dL_spread_2 rfl (lv_at hl 0 rfl) ?_
  refine lv_iload_n hx hb dL_spread_3 rfl (lv_at hl 1 rfl) ?_
  refine c_xvi (As := [.int x]) (rest := [.int 0, .ref ao]) E G hA hX rfl hml (k_spread l hst D tys ad N S h0N h0 hs hscN hsc hmc x) (cwV 1 hts (gaV qA_985 qA_986 qA_987 qA_131 qA_781) rfl rfl rfl (by decide +kernel) ⟨Nat.le_of_ble_eq_true rfl, Nat.le_of_ble_eq_true rfl⟩) h0N h0 rfl rfl hl.1 rfl (lv_room (Nat.le_of_ble_eq_true rfl)) dL_spread_4 ⟨Nat.le_of_ble_eq_true rfl, Nat.le_of_ble_eq_true rfl⟩ (fun E9 ce q9 S1 H locs hp G hce hcv hcl => ?_) (fun r S1 H locs hq G => hq.elim)
  obtain ⟨hE, hS1⟩ := hp
  subst hE
  rw [hS1] at G
  refine vx_catch (name := xISE) hown [] { startPc := 0, endPc := 9, handlerPc := 12, catchType := 21 } [{ startPc := 0, endPc := 9, handlerPc := 15, catchType := 13 }] htb (fun z hz => absurd hz List.not_mem_nil) (by decide) (by decide) (hts _ (.tail _ qA_952)) (hX.use (.castable xISE xISE) (by decide +kernel)) hce hcv hcl ?_
  refine lv_astore_n (lv' := [(3, .ref q9), (0, .ref (ad 0)), (1, .int x), (2, .ref ao)]) hx hb dL_spread_12 rfl hl (by decide) rfl (fun ls hl => ?_)
  refine lv_iconst (v := 1) hx hb dL_spread_13 (by decide) ?_
  exact W.iret (v := 1) hx hb hr (fun t ht hW => ⟨⟨1, S, rfl, ⟨rfl, rfl⟩, ⟨by rw [ht]; exact G.1, va_K.moved hW.alike hK, G.2.1⟩⟩, G.2.2.F ht⟩) G.2.2.2.2 dL_spread_14
set_option maxHeartbeats 4000000 in
set_option maxRecDepth 100000 in
theorem w_window (l : Launch) (hst : l.stackTraces = false) (D : va_G) (tys : List (ClassId × FieldType)) (ad : Nat → Nat) (N : Nat) (S : Nat → va_E) {fs gs : List Value} {sc : Nat} (h0N : 0 < N) (h0 : S 0 = .inr (11, fs)) (hs : fs[14]? = some (.ref (ad sc))) (hscN : sc < N) (hsc : S sc = .inr (6, gs)) (hmc : gs[5]? = some (.int 0)) (x : Int32) (ao : Nat) : cWi l yL_window (Cond.codeWith yL_window cL_window 4 (some .int) [(0, 9, 12, 21), (0, 9, 15, 13)] :: wsA) 8 122 D tys ad N S [.ref (ad 0), .int x, .ref ao] (fun r S1 => r = 1 ∧ S1 = S) := by
  intro sz
  refine va_MetW (cc := cL_window) (maxL := 4) (ret := some .int) (by decide) rfl ?_
  intro p e s m args below meth c s₁ B hml hv
  obtain ⟨rfl, hsz, hP, hK, hD0, hX, hN_xIAE_xIOB, hN_xISE_xIOB⟩ := hv
  have hx := B.exec
  have hb := B.bytes
  have hr := B.returns
  have hts := atoms_spec (ws := (Cond.codeWith yL_window cL_window 4 (some .int) [(0, 9, 12, 21), (0, 9, 15, 13)] :: wsA)) B.pre
  have hown : s.vm.findClass RL = some m.cls := findClass_of_methodNamed B.named
  have hlocks := B.notSynchronized
  have htb := vx_table (x := yL_window) B (hts _ (.head _))
  subst hsz
  have hD := hD0.self (sz := s.heap.size)
  generalize hAe : va_A (cW ad N S) s.heap.size = A at hD hX ⊢
  have hA : ∀ q : Nat, s.heap.size ≤ q → A q := fun q h => by rw [← hAe]; exact Or.inr h
  have G : cG D ad N A s.heap s.heap [] S := ⟨hP, hD, va_S.rf⟩
  have E : cE p c cL_window s m ([.ref (ad 0), .int x, .ref ao] : List Value).toArray (Cond.codeWith yL_window cL_window 4 (some .int) [(0, 9, 12, 21), (0, 9, 15, 13)] :: wsA) D RL tys := ⟨hx, hb, hts, hown, hK⟩
  have hl := lv_entry ([.ref (ad 0), .int x, .ref ao]) (n := 4) (Nat.le_of_ble_eq_true rfl)
  rw [lg_entry_eq]
  generalize (lg_sl ([.ref (ad 0), .int x, .ref ao]) ++ List.replicate (4 - (lg_sl ([.ref (ad 0), .int x, .ref ao])).length) Slot.unset).toArray = ls at hl ⊢
  have hl : lv_has ls 4 [(0, .ref (ad 0)), (1, .int x), (2, .ref ao)] := hl
  refine lv_aload_n hx hb dL_window_0 rfl (lv_at hl 2 rfl) ?_
  refine lv_iconst (v := 0) hx hb dL_window_1 (by decide) ?_
  refine lv_aload_n hx hb dL_window_2 rfl (lv_at hl 0 rfl) ?_
  refine lv_iload_n hx hb dL_window_3 rfl (lv_at hl 1 rfl) ?_
  refine c_xvi (As := [.int x]) (rest := [.int 0, .ref ao]) E G hA hX rfl hml (k_window l hst D tys ad N S h0N h0 hs hscN hsc hmc x) (cwV 1 hts (gaV qA_989 qA_990 qA_991 qA_131 qA_786) rfl rfl rfl (by decide +kernel) ⟨Nat.le_of_ble_eq_true rfl, Nat.le_of_ble_eq_true rfl⟩) h0N h0 rfl rfl hl.1 rfl (lv_room (Nat.le_of_ble_eq_true rfl)) dL_window_4 ⟨Nat.le_of_ble_eq_true rfl, Nat.le_of_ble_eq_true rfl⟩ (fun E9 ce q9 S1 H locs hp G hce hcv hcl => ?_) (fun r S1 H locs hq G => hq.elim)
  obtain ⟨hE, hS1⟩ := hp
  subst hE
  rw [hS1] at G
  refine vx_catch (name := xISE) hown [] { startPc := 0, endPc := 9, handlerPc := 12, catchType := 21 } [{ startPc := 0, endPc := 9, handlerPc := 15, catchType := 13 }] htb (fun z hz => absurd hz List.not_mem_nil) (by decide) (by decide) (hts _ (.tail _ qA_952)) (hX.use (.castable xISE xISE) (by decide +kernel)) hce hcv hcl ?_
  refine lv_astore_n (lv' := [(3, .ref q9), (0, .ref (ad 0)), (1, .int x), (2, .ref ao)]) hx hb dL_window_12 rfl hl (by decide) rfl (fun ls hl => ?_)
  refine lv_iconst (v := 1) hx hb dL_window_13 (by decide) ?_
  exact W.iret (v := 1) hx hb hr (fun t ht hW => ⟨⟨1, S, rfl, ⟨rfl, rfl⟩, ⟨by rw [ht]; exact G.1, va_K.moved hW.alike hK, G.2.1⟩⟩, G.2.2.F ht⟩) G.2.2.2.2 dL_window_14
set_option maxHeartbeats 4000000 in
set_option maxRecDepth 100000 in
theorem w_sample (l : Launch) (hst : l.stackTraces = false) (D : va_G) (tys : List (ClassId × FieldType)) (ad : Nat → Nat) (N : Nat) (S : Nat → va_E) {fs gs : List Value} {sc : Nat} (h0N : 0 < N) (h0 : S 0 = .inr (11, fs)) (hs : fs[14]? = some (.ref (ad sc))) (hscN : sc < N) (hsc : S sc = .inr (6, gs)) (hmc : gs[5]? = some (.int 0)) (x y : Int32) (ao : Nat) : cWi l yL_sample (Cond.codeWith yL_sample cL_sample 5 (some .int) [(0, 10, 13, 21), (0, 10, 17, 13), (0, 10, 21, 15)] :: wsA) 8 123 D tys ad N S [.ref (ad 0), .int x, .int y, .ref ao] (fun r S1 => r = 1 ∧ S1 = S) := by
  intro sz
  refine va_MetW (cc := cL_sample) (maxL := 5) (ret := some .int) (by decide) rfl ?_
  intro p e s m args below meth c s₁ B hml hv
  obtain ⟨rfl, hsz, hP, hK, hD0, hX, hN_xIAE_xIOB, hN_xISE_xIOB⟩ := hv
  have hx := B.exec
  have hb := B.bytes
  have hr := B.returns
  have hts := atoms_spec (ws := (Cond.codeWith yL_sample cL_sample 5 (some .int) [(0, 10, 13, 21), (0, 10, 17, 13), (0, 10, 21, 15)] :: wsA)) B.pre
  have hown : s.vm.findClass RL = some m.cls := findClass_of_methodNamed B.named
  have hlocks := B.notSynchronized
  have htb := vx_table (x := yL_sample) B (hts _ (.head _))
  subst hsz
  have hD := hD0.self (sz := s.heap.size)
  generalize hAe : va_A (cW ad N S) s.heap.size = A at hD hX ⊢
  have hA : ∀ q : Nat, s.heap.size ≤ q → A q := fun q h => by rw [← hAe]; exact Or.inr h
  have G : cG D ad N A s.heap s.heap [] S := ⟨hP, hD, va_S.rf⟩
  have E : cE p c cL_sample s m ([.ref (ad 0), .int x, .int y, .ref ao] : List Value).toArray (Cond.codeWith yL_sample cL_sample 5 (some .int) [(0, 10, 13, 21), (0, 10, 17, 13), (0, 10, 21, 15)] :: wsA) D RL tys := ⟨hx, hb, hts, hown, hK⟩
  have hl := lv_entry ([.ref (ad 0), .int x, .int y, .ref ao]) (n := 5) (Nat.le_of_ble_eq_true rfl)
  rw [lg_entry_eq]
  generalize (lg_sl ([.ref (ad 0), .int x, .int y, .ref ao]) ++ List.replicate (5 - (lg_sl ([.ref (ad 0), .int x, .int y, .ref ao])).length) Slot.unset).toArray = ls at hl ⊢
  have hl : lv_has ls 5 [(0, .ref (ad 0)), (1, .int x), (2, .int y), (3, .ref ao)] := hl
  refine lv_aload_n hx hb dL_sample_0 rfl (lv_at hl 3 rfl) ?_
  refine lv_iconst (v := 0) hx hb dL_sample_1 (by decide) ?_
  refine lv_aload_n hx hb dL_sample_2 rfl (lv_at hl 0 rfl) ?_
  refine lv_iload_n hx hb dL_sample_3 rfl (lv_at hl 1 rfl) ?_
  refine lv_iload_n hx hb dL_sample_4 rfl (lv_at hl 2 rfl) ?_
  refine c_xvi (As := [.int x, .int y]) (rest := [.int 0, .ref ao]) E G hA hX rfl hml (k_sample l hst D tys ad N S h0N h0 hs hscN hsc hmc x y) (cwV 2 hts (gaV qA_993 qA_994 qA_995 qA_131 qA_788) rfl rfl rfl (by decide +kernel) ⟨Nat.le_of_ble_eq_true rfl, Nat.le_of_ble_eq_true rfl⟩) h0N h0 rfl rfl hl.1 rfl (lv_room (Nat.le_of_ble_eq_true rfl)) dL_sample_5 ⟨Nat.le_of_ble_eq_true rfl, Nat.le_of_ble_eq_true rfl⟩ (fun E9 ce q9 S1 H locs hp G hce hcv hcl => ?_) (fun r S1 H locs hq G => hq.elim)
  obtain ⟨hE, hS1⟩ := hp
  subst hE
  rw [hS1] at G
  refine vx_catch (name := xISE) hown [] { startPc := 0, endPc := 10, handlerPc := 13, catchType := 21 } [{ startPc := 0, endPc := 10, handlerPc := 17, catchType := 13 }, { startPc := 0, endPc := 10, handlerPc := 21, catchType := 15 }] htb (fun z hz => absurd hz List.not_mem_nil) (by decide) (by decide) (hts _ (.tail _ qA_952)) (hX.use (.castable xISE xISE) (by decide +kernel)) hce hcv hcl ?_
  refine lv_astore (lv' := [(4, .ref q9), (0, .ref (ad 0)), (1, .int x), (2, .int y), (3, .ref ao)]) hx hb dL_sample_13 hl (by decide) rfl (fun ls hl => ?_)
  refine lv_iconst (v := 1) hx hb dL_sample_15 (by decide) ?_
  exact W.iret (v := 1) hx hb hr (fun t ht hW => ⟨⟨1, S, rfl, ⟨rfl, rfl⟩, ⟨by rw [ht]; exact G.1, va_K.moved hW.alike hK, G.2.1⟩⟩, G.2.2.F ht⟩) G.2.2.2.2 dL_sample_16
set_option maxHeartbeats 4000000 in
set_option maxRecDepth 100000 in
theorem w_beam (l : Launch) (hst : l.stackTraces = false) (D : va_G) (tys : List (ClassId × FieldType)) (ad : Nat → Nat) (N : Nat) (S : Nat → va_E) {fs gs : List Value} {sc : Nat} (h0N : 0 < N) (h0 : S 0 = .inr (11, fs)) (hs : fs[14]? = some (.ref (ad sc))) (hscN : sc < N) (hsc : S sc = .inr (6, gs)) (hmc : gs[5]? = some (.int 0)) (x y : Int32) (ao : Nat) : cWi l yL_beam (Cond.codeWith yL_beam cL_beam 5 (some .int) [(0, 10, 13, 21), (0, 10, 17, 13), (0, 10, 21, 15)] :: wsA) 8 123 D tys ad N S [.ref (ad 0), .int x, .int y, .ref ao] (fun r S1 => r = 1 ∧ S1 = S) := by
  intro sz
  refine va_MetW (cc := cL_beam) (maxL := 5) (ret := some .int) (by decide) rfl ?_
  intro p e s m args below meth c s₁ B hml hv
  obtain ⟨rfl, hsz, hP, hK, hD0, hX, hN_xIAE_xIOB, hN_xISE_xIOB⟩ := hv
  have hx := B.exec
  have hb := B.bytes
  have hr := B.returns
  have hts := atoms_spec (ws := (Cond.codeWith yL_beam cL_beam 5 (some .int) [(0, 10, 13, 21), (0, 10, 17, 13), (0, 10, 21, 15)] :: wsA)) B.pre
  have hown : s.vm.findClass RL = some m.cls := findClass_of_methodNamed B.named
  have hlocks := B.notSynchronized
  have htb := vx_table (x := yL_beam) B (hts _ (.head _))
  subst hsz
  have hD := hD0.self (sz := s.heap.size)
  generalize hAe : va_A (cW ad N S) s.heap.size = A at hD hX ⊢
  have hA : ∀ q : Nat, s.heap.size ≤ q → A q := fun q h => by rw [← hAe]; exact Or.inr h
  have G : cG D ad N A s.heap s.heap [] S := ⟨hP, hD, va_S.rf⟩
  have E : cE p c cL_beam s m ([.ref (ad 0), .int x, .int y, .ref ao] : List Value).toArray (Cond.codeWith yL_beam cL_beam 5 (some .int) [(0, 10, 13, 21), (0, 10, 17, 13), (0, 10, 21, 15)] :: wsA) D RL tys := ⟨hx, hb, hts, hown, hK⟩
  have hl := lv_entry ([.ref (ad 0), .int x, .int y, .ref ao]) (n := 5) (Nat.le_of_ble_eq_true rfl)
  rw [lg_entry_eq]
  generalize (lg_sl ([.ref (ad 0), .int x, .int y, .ref ao]) ++ List.replicate (5 - (lg_sl ([.ref (ad 0), .int x, .int y, .ref ao])).length) Slot.unset).toArray = ls at hl ⊢
  have hl : lv_has ls 5 [(0, .ref (ad 0)), (1, .int x), (2, .int y), (3, .ref ao)] := hl
  refine lv_aload_n hx hb dL_beam_0 rfl (lv_at hl 3 rfl) ?_
  refine lv_iconst (v := 0) hx hb dL_beam_1 (by decide) ?_
  refine lv_aload_n hx hb dL_beam_2 rfl (lv_at hl 0 rfl) ?_
  refine lv_iload_n hx hb dL_beam_3 rfl (lv_at hl 1 rfl) ?_
  refine lv_iload_n hx hb dL_beam_4 rfl (lv_at hl 2 rfl) ?_
  refine c_xvi (As := [.int x, .int y]) (rest := [.int 0, .ref ao]) E G hA hX rfl hml (k_beam l hst D tys ad N S h0N h0 hs hscN hsc hmc x y) (cwV 2 hts (gaV qA_997 qA_998 qA_999 qA_131 qA_794) rfl rfl rfl (by decide +kernel) ⟨Nat.le_of_ble_eq_true rfl, Nat.le_of_ble_eq_true rfl⟩) h0N h0 rfl rfl hl.1 rfl (lv_room (Nat.le_of_ble_eq_true rfl)) dL_beam_5 ⟨Nat.le_of_ble_eq_true rfl, Nat.le_of_ble_eq_true rfl⟩ (fun E9 ce q9 S1 H locs hp G hce hcv hcl => ?_) (fun r S1 H locs hq G => hq.elim)
  obtain ⟨hE, hS1⟩ := hp
  subst hE
  rw [hS1] at G
  refine vx_catch (name := xISE) hown [] { startPc := 0, endPc := 10, handlerPc := 13, catchType := 21 } [{ startPc := 0, endPc := 10, handlerPc := 17, catchType := 13 }, { startPc := 0, endPc := 10, handlerPc := 21, catchType := 15 }] htb (fun z hz => absurd hz List.not_mem_nil) (by decide) (by decide) (hts _ (.tail _ qA_952)) (hX.use (.castable xISE xISE) (by decide +kernel)) hce hcv hcl ?_
  refine lv_astore (lv' := [(4, .ref q9), (0, .ref (ad 0)), (1, .int x), (2, .int y), (3, .ref ao)]) hx hb dL_beam_13 hl (by decide) rfl (fun ls hl => ?_)
  refine lv_iconst (v := 1) hx hb dL_beam_15 (by decide) ?_
  exact W.iret (v := 1) hx hb hr (fun t ht hW => ⟨⟨1, S, rfl, ⟨rfl, rfl⟩, ⟨by rw [ht]; exact G.1, va_K.moved hW.alike hK, G.2.1⟩⟩, G.2.2.F ht⟩) G.2.2.2.2 dL_beam_16
set_option maxHeartbeats 4000000 in
set_option maxRecDepth 100000 in
theorem w_power (l : Launch) (hst : l.stackTraces = false) (D : va_G) (tys : List (ClassId × FieldType)) (ad : Nat → Nat) (N : Nat) (S : Nat → va_E) {fs gs : List Value} {sc : Nat} (h0N : 0 < N) (h0 : S 0 = .inr (11, fs)) (hs : fs[14]? = some (.ref (ad sc))) (hscN : sc < N) (hsc : S sc = .inr (6, gs)) (hmc : gs[5]? = some (.int 0)) (x : Int32) (ao : Nat) : cWi l yL_power (Cond.codeWith yL_power cL_power 4 (some .int) [(0, 8, 11, 21), (0, 8, 14, 13)] :: wsA) 8 122 D tys ad N S [.ref (ad 0), .int x, .ref ao] (fun r S1 => r = 1 ∧ S1 = S) := by
  intro sz
  refine va_MetW (cc := cL_power) (maxL := 4) (ret := some .int) (by decide) rfl ?_
  intro p e s m args below meth c s₁ B hml hv
  obtain ⟨rfl, hsz, hP, hK, hD0, hX, hN_xIAE_xIOB, hN_xISE_xIOB⟩ := hv
  have hx := B.exec
  have hb := B.bytes
  have hr := B.returns
  have hts := atoms_spec (ws := (Cond.codeWith yL_power cL_power 4 (some .int) [(0, 8, 11, 21), (0, 8, 14, 13)] :: wsA)) B.pre
  have hown : s.vm.findClass RL = some m.cls := findClass_of_methodNamed B.named
  have hlocks := B.notSynchronized
  have htb := vx_table (x := yL_power) B (hts _ (.head _))
  subst hsz
  have hD := hD0.self (sz := s.heap.size)
  generalize hAe : va_A (cW ad N S) s.heap.size = A at hD hX ⊢
  have hA : ∀ q : Nat, s.heap.size ≤ q → A q := fun q h => by rw [← hAe]; exact Or.inr h
  have G : cG D ad N A s.heap s.heap [] S := ⟨hP, hD, va_S.rf⟩
  have E : cE p c cL_power s m ([.ref (ad 0), .int x, .ref ao] : List Value).toArray (Cond.codeWith yL_power cL_power 4 (some .int) [(0, 8, 11, 21), (0, 8, 14, 13)] :: wsA) D RL tys := ⟨hx, hb, hts, hown, hK⟩
  have hl := lv_entry ([.ref (ad 0), .int x, .ref ao]) (n := 4) (Nat.le_of_ble_eq_true rfl)
  rw [lg_entry_eq]
  generalize (lg_sl ([.ref (ad 0), .int x, .ref ao]) ++ List.replicate (4 - (lg_sl ([.ref (ad 0), .int x, .ref ao])).length) Slot.unset).toArray = ls at hl ⊢
  have hl : lv_has ls 4 [(0, .ref (ad 0)), (1, .int x), (2, .ref ao)] := hl
  refine lv_aload_n hx hb dL_power_0 rfl (lv_at hl 2 rfl) ?_
  refine lv_iconst (v := 0) hx hb dL_power_1 (by decide) ?_
  refine lv_aload_n hx hb dL_power_2 rfl (lv_at hl 0 rfl) ?_
  refine lv_iload_n hx hb dL_power_3 rfl (lv_at hl 1 rfl) ?_
  refine c_xvl (As := [.int x]) (rest := [.int 0, .ref ao]) E G hA hX rfl hml (k_power l hst D tys ad N S h0N h0 hs hscN hsc hmc x) (cwV 1 hts (gaV qA_1001 qA_1002 qA_1003 qA_131 qA_797) rfl rfl rfl (by decide +kernel) ⟨Nat.le_of_ble_eq_true rfl, Nat.le_of_ble_eq_true rfl⟩) h0N h0 rfl rfl hl.1 rfl (lv_room (Nat.le_of_ble_eq_true rfl)) dL_power_4 ⟨Nat.le_of_ble_eq_true rfl, Nat.le_of_ble_eq_true rfl⟩ (fun E9 ce q9 S1 H locs hp G hce hcv hcl => ?_) (fun r S1 H locs hq G => hq.elim)
  obtain ⟨hE, hS1⟩ := hp
  subst hE
  rw [hS1] at G
  refine vx_catch (name := xISE) hown [] { startPc := 0, endPc := 8, handlerPc := 11, catchType := 21 } [{ startPc := 0, endPc := 8, handlerPc := 14, catchType := 13 }] htb (fun z hz => absurd hz List.not_mem_nil) (by decide) (by decide) (hts _ (.tail _ qA_952)) (hX.use (.castable xISE xISE) (by decide +kernel)) hce hcv hcl ?_
  refine lv_astore_n (lv' := [(3, .ref q9), (0, .ref (ad 0)), (1, .int x), (2, .ref ao)]) hx hb dL_power_11 rfl hl (by decide) rfl (fun ls hl => ?_)
  refine lv_iconst (v := 1) hx hb dL_power_12 (by decide) ?_
  exact W.iret (v := 1) hx hb hr (fun t ht hW => ⟨⟨1, S, rfl, ⟨rfl, rfl⟩, ⟨by rw [ht]; exact G.1, va_K.moved hW.alike hK, G.2.1⟩⟩, G.2.2.F ht⟩) G.2.2.2.2 dL_power_13
set_option maxHeartbeats 4000000 in
set_option maxRecDepth 100000 in
theorem w_powerAt (l : Launch) (hst : l.stackTraces = false) (D : va_G) (tys : List (ClassId × FieldType)) (ad : Nat → Nat) (N : Nat) (S : Nat → va_E) {fs gs : List Value} {sc : Nat} (h0N : 0 < N) (h0 : S 0 = .inr (11, fs)) (hs : fs[14]? = some (.ref (ad sc))) (hscN : sc < N) (hsc : S sc = .inr (6, gs)) (hmc : gs[5]? = some (.int 0)) (x y : Int32) (ao : Nat) : cWi l yL_powerAt (Cond.codeWith yL_powerAt cL_powerAt 5 (some .int) [(0, 9, 12, 21), (0, 9, 16, 15)] :: wsA) 8 123 D tys ad N S [.ref (ad 0), .int x, .int y, .ref ao] (fun r S1 => r = 1 ∧ S1 = S) := by
  intro sz
  refine va_MetW (cc := cL_powerAt) (maxL := 5) (ret := some .int) (by decide) rfl ?_
  intro p e s m args below meth c s₁ B hml hv
  obtain ⟨rfl, hsz, hP, hK, hD0, hX, hN_xIAE_xIOB, hN_xISE_xIOB⟩ := hv
  have hx := B.exec
  have hb := B.bytes
  have hr := B.returns
  have hts := atoms_spec (ws := (Cond.codeWith yL_powerAt cL_powerAt 5 (some .int) [(0, 9, 12, 21), (0, 9, 16, 15)] :: wsA)) B.pre
  have hown : s.vm.findClass RL = some m.cls := findClass_of_methodNamed B.named
  have hlocks := B.notSynchronized
  have htb := vx_table (x := yL_powerAt) B (hts _ (.head _))
  subst hsz
  have hD := hD0.self (sz := s.heap.size)
  generalize hAe : va_A (cW ad N S) s.heap.size = A at hD hX ⊢
  have hA : ∀ q : Nat, s.heap.size ≤ q → A q := fun q h => by rw [← hAe]; exact Or.inr h
  have G : cG D ad N A s.heap s.heap [] S := ⟨hP, hD, va_S.rf⟩
  have E : cE p c cL_powerAt s m ([.ref (ad 0), .int x, .int y, .ref ao] : List Value).toArray (Cond.codeWith yL_powerAt cL_powerAt 5 (some .int) [(0, 9, 12, 21), (0, 9, 16, 15)] :: wsA) D RL tys := ⟨hx, hb, hts, hown, hK⟩
  have hl := lv_entry ([.ref (ad 0), .int x, .int y, .ref ao]) (n := 5) (Nat.le_of_ble_eq_true rfl)
  rw [lg_entry_eq]
  generalize (lg_sl ([.ref (ad 0), .int x, .int y, .ref ao]) ++ List.replicate (5 - (lg_sl ([.ref (ad 0), .int x, .int y, .ref ao])).length) Slot.unset).toArray = ls at hl ⊢
  have hl : lv_has ls 5 [(0, .ref (ad 0)), (1, .int x), (2, .int y), (3, .ref ao)] := hl
  refine lv_aload_n hx hb dL_powerAt_0 rfl (lv_at hl 3 rfl) ?_
  refine lv_iconst (v := 0) hx hb dL_powerAt_1 (by decide) ?_
  refine lv_aload_n hx hb dL_powerAt_2 rfl (lv_at hl 0 rfl) ?_
  refine lv_iload_n hx hb dL_powerAt_3 rfl (lv_at hl 1 rfl) ?_
  refine lv_iload_n hx hb dL_powerAt_4 rfl (lv_at hl 2 rfl) ?_
  refine c_xvl (As := [.int x, .int y]) (rest := [.int 0, .ref ao]) E G hA hX rfl hml (k_powerAt l hst D tys ad N S h0N h0 hs hscN hsc hmc x y) (cwV 2 hts (gaV qA_1005 qA_1006 qA_1007 qA_131 qA_806) rfl rfl rfl (by decide +kernel) ⟨Nat.le_of_ble_eq_true rfl, Nat.le_of_ble_eq_true rfl⟩) h0N h0 rfl rfl hl.1 rfl (lv_room (Nat.le_of_ble_eq_true rfl)) dL_powerAt_5 ⟨Nat.le_of_ble_eq_true rfl, Nat.le_of_ble_eq_true rfl⟩ (fun E9 ce q9 S1 H locs hp G hce hcv hcl => ?_) (fun r S1 H locs hq G => hq.elim)
  obtain ⟨hE, hS1⟩ := hp
  subst hE
  rw [hS1] at G
  refine vx_catch (name := xISE) hown [] { startPc := 0, endPc := 9, handlerPc := 12, catchType := 21 } [{ startPc := 0, endPc := 9, handlerPc := 16, catchType := 15 }] htb (fun z hz => absurd hz List.not_mem_nil) (by decide) (by decide) (hts _ (.tail _ qA_952)) (hX.use (.castable xISE xISE) (by decide +kernel)) hce hcv hcl ?_
  refine lv_astore (lv' := [(4, .ref q9), (0, .ref (ad 0)), (1, .int x), (2, .int y), (3, .ref ao)]) hx hb dL_powerAt_12 hl (by decide) rfl (fun ls hl => ?_)
  refine lv_iconst (v := 1) hx hb dL_powerAt_14 (by decide) ?_
  exact W.iret (v := 1) hx hb hr (fun t ht hW => ⟨⟨1, S, rfl, ⟨rfl, rfl⟩, ⟨by rw [ht]; exact G.1, va_K.moved hW.alike hK, G.2.1⟩⟩, G.2.2.F ht⟩) G.2.2.2.2 dL_powerAt_15
set_option maxHeartbeats 4000000 in
set_option maxRecDepth 100000 in
theorem w_best (l : Launch) (hst : l.stackTraces = false) (D : va_G) (tys : List (ClassId × FieldType)) (ad : Nat → Nat) (N : Nat) (S : Nat → va_E) {fs gs : List Value} {sc : Nat} (h0N : 0 < N) (h0 : S 0 = .inr (11, fs)) (hs : fs[14]? = some (.ref (ad sc))) (hscN : sc < N) (hsc : S sc = .inr (6, gs)) (hmc : gs[5]? = some (.int 0)) (ao : Nat) : cWi l yL_best (Cond.codeWith yL_best cL_best 3 (some .int) [(0, 8, 11, 21)] :: wsA) 8 121 D tys ad N S [.ref (ad 0), .ref ao] (fun r S1 => r = 1 ∧ S1 = S) := by
  intro sz
  refine va_MetW (cc := cL_best) (maxL := 3) (ret := some .int) (by decide) rfl ?_
  intro p e s m args below meth c s₁ B hml hv
  obtain ⟨rfl, hsz, hP, hK, hD0, hX, hN_xIAE_xIOB, hN_xISE_xIOB⟩ := hv
  have hx := B.exec
  have hb := B.bytes
  have hr := B.returns
  have hts := atoms_spec (ws := (Cond.codeWith yL_best cL_best 3 (some .int) [(0, 8, 11, 21)] :: wsA)) B.pre
  have hown : s.vm.findClass RL = some m.cls := findClass_of_methodNamed B.named
  have hlocks := B.notSynchronized
  have htb := vx_table (x := yL_best) B (hts _ (.head _))
  subst hsz
  have hD := hD0.self (sz := s.heap.size)
  generalize hAe : va_A (cW ad N S) s.heap.size = A at hD hX ⊢
  have hA : ∀ q : Nat, s.heap.size ≤ q → A q := fun q h => by rw [← hAe]; exact Or.inr h
  have G : cG D ad N A s.heap s.heap [] S := ⟨hP, hD, va_S.rf⟩
  have E : cE p c cL_best s m ([.ref (ad 0), .ref ao] : List Value).toArray (Cond.codeWith yL_best cL_best 3 (some .int) [(0, 8, 11, 21)] :: wsA) D RL tys := ⟨hx, hb, hts, hown, hK⟩
  have hl := lv_entry ([.ref (ad 0), .ref ao]) (n := 3) (Nat.le_of_ble_eq_true rfl)
  rw [lg_entry_eq]
  generalize (lg_sl ([.ref (ad 0), .ref ao]) ++ List.replicate (3 - (lg_sl ([.ref (ad 0), .ref ao])).length) Slot.unset).toArray = ls at hl ⊢
  have hl : lv_has ls 3 [(0, .ref (ad 0)), (1, .ref ao)] := hl
  refine lv_aload_n hx hb dL_best_0 rfl (lv_at hl 1 rfl) ?_
  refine lv_iconst (v := 0) hx hb dL_best_1 (by decide) ?_
  refine lv_aload_n hx hb dL_best_2 rfl (lv_at hl 0 rfl) ?_
  refine c_xvi (As := []) (rest := [.int 0, .ref ao]) E G hA hX rfl hml (k_best l hst D tys ad N S h0N h0 hs hscN hsc hmc) (cwV 0 hts (gaV qA_1009 qA_1010 qA_1011 qA_131 qA_811) rfl rfl rfl (by decide +kernel) ⟨Nat.le_of_ble_eq_true rfl, Nat.le_of_ble_eq_true rfl⟩) h0N h0 rfl rfl hl.1 rfl (lv_room (Nat.le_of_ble_eq_true rfl)) dL_best_3 ⟨Nat.le_of_ble_eq_true rfl, Nat.le_of_ble_eq_true rfl⟩ (fun E9 ce q9 S1 H locs hp G hce hcv hcl => ?_) (fun r S1 H locs hq G => hq.elim)
  obtain ⟨hE, hS1⟩ := hp
  subst hE
  rw [hS1] at G
  refine vx_catch (name := xISE) hown [] { startPc := 0, endPc := 8, handlerPc := 11, catchType := 21 } [] htb (fun z hz => absurd hz List.not_mem_nil) (by decide) (by decide) (hts _ (.tail _ qA_952)) (hX.use (.castable xISE xISE) (by decide +kernel)) hce hcv hcl ?_
  refine lv_astore_n (lv' := [(2, .ref q9), (0, .ref (ad 0)), (1, .ref ao)]) hx hb dL_best_11 rfl hl (by decide) rfl (fun ls hl => ?_)
  refine lv_iconst (v := 1) hx hb dL_best_12 (by decide) ?_
  exact W.iret (v := 1) hx hb hr (fun t ht hW => ⟨⟨1, S, rfl, ⟨rfl, rfl⟩, ⟨by rw [ht]; exact G.1, va_K.moved hW.alike hK, G.2.1⟩⟩, G.2.2.F ht⟩) G.2.2.2.2 dL_best_13
set_option maxHeartbeats 4000000 in
set_option maxRecDepth 100000 in
theorem w_bestPower (l : Launch) (hst : l.stackTraces = false) (D : va_G) (tys : List (ClassId × FieldType)) (ad : Nat → Nat) (N : Nat) (S : Nat → va_E) {fs gs : List Value} {sc : Nat} (h0N : 0 < N) (h0 : S 0 = .inr (11, fs)) (hs : fs[14]? = some (.ref (ad sc))) (hscN : sc < N) (hsc : S sc = .inr (6, gs)) (hmc : gs[5]? = some (.int 0)) (ao : Nat) : cWi l yL_bestPower (Cond.codeWith yL_bestPower cL_bestPower 3 (some .int) [(0, 7, 10, 21)] :: wsA) 8 122 D tys ad N S [.ref (ad 0), .ref ao] (fun r S1 => r = 1 ∧ S1 = S) := by
  intro sz
  refine va_MetW (cc := cL_bestPower) (maxL := 3) (ret := some .int) (by decide) rfl ?_
  intro p e s m args below meth c s₁ B hml hv
  obtain ⟨rfl, hsz, hP, hK, hD0, hX, hN_xIAE_xIOB, hN_xISE_xIOB⟩ := hv
  have hx := B.exec
  have hb := B.bytes
  have hr := B.returns
  have hts := atoms_spec (ws := (Cond.codeWith yL_bestPower cL_bestPower 3 (some .int) [(0, 7, 10, 21)] :: wsA)) B.pre
  have hown : s.vm.findClass RL = some m.cls := findClass_of_methodNamed B.named
  have hlocks := B.notSynchronized
  have htb := vx_table (x := yL_bestPower) B (hts _ (.head _))
  subst hsz
  have hD := hD0.self (sz := s.heap.size)
  generalize hAe : va_A (cW ad N S) s.heap.size = A at hD hX ⊢
  have hA : ∀ q : Nat, s.heap.size ≤ q → A q := fun q h => by rw [← hAe]; exact Or.inr h
  have G : cG D ad N A s.heap s.heap [] S := ⟨hP, hD, va_S.rf⟩
  have E : cE p c cL_bestPower s m ([.ref (ad 0), .ref ao] : List Value).toArray (Cond.codeWith yL_bestPower cL_bestPower 3 (some .int) [(0, 7, 10, 21)] :: wsA) D RL tys := ⟨hx, hb, hts, hown, hK⟩
  have hl := lv_entry ([.ref (ad 0), .ref ao]) (n := 3) (Nat.le_of_ble_eq_true rfl)
  rw [lg_entry_eq]
  generalize (lg_sl ([.ref (ad 0), .ref ao]) ++ List.replicate (3 - (lg_sl ([.ref (ad 0), .ref ao])).length) Slot.unset).toArray = ls at hl ⊢
  have hl : lv_has ls 3 [(0, .ref (ad 0)), (1, .ref ao)] := hl
  refine lv_aload_n hx hb dL_bestPower_0 rfl (lv_at hl 1 rfl) ?_
  refine lv_iconst (v := 0) hx hb dL_bestPower_1 (by decide) ?_
  refine lv_aload_n hx hb dL_bestPower_2 rfl (lv_at hl 0 rfl) ?_
  refine c_xvl (As := []) (rest := [.int 0, .ref ao]) E G hA hX rfl hml (k_bestPower l hst D tys ad N S h0N h0 hs hscN hsc hmc) (cwV 0 hts (gaV qA_1013 qA_1014 qA_1015 qA_131 qA_813) rfl rfl rfl (by decide +kernel) ⟨Nat.le_of_ble_eq_true rfl, Nat.le_of_ble_eq_true rfl⟩) h0N h0 rfl rfl hl.1 rfl (lv_room (Nat.le_of_ble_eq_true rfl)) dL_bestPower_3 ⟨Nat.le_of_ble_eq_true rfl, Nat.le_of_ble_eq_true rfl⟩ (fun E9 ce q9 S1 H locs hp G hce hcv hcl => ?_) (fun r S1 H locs hq G => hq.elim)
  obtain ⟨hE, hS1⟩ := hp
  subst hE
  rw [hS1] at G
  refine vx_catch (name := xISE) hown [] { startPc := 0, endPc := 7, handlerPc := 10, catchType := 21 } [] htb (fun z hz => absurd hz List.not_mem_nil) (by decide) (by decide) (hts _ (.tail _ qA_952)) (hX.use (.castable xISE xISE) (by decide +kernel)) hce hcv hcl ?_
  refine lv_astore_n (lv' := [(2, .ref q9), (0, .ref (ad 0)), (1, .ref ao)]) hx hb dL_bestPower_10 rfl hl (by decide) rfl (fun ls hl => ?_)
  refine lv_iconst (v := 1) hx hb dL_bestPower_11 (by decide) ?_
  exact W.iret (v := 1) hx hb hr (fun t ht hW => ⟨⟨1, S, rfl, ⟨rfl, rfl⟩, ⟨by rw [ht]; exact G.1, va_K.moved hW.alike hK, G.2.1⟩⟩, G.2.2.F ht⟩) G.2.2.2.2 dL_bestPower_12
set_option maxHeartbeats 4000000 in
set_option maxRecDepth 100000 in
theorem w_meanPower (l : Launch) (hst : l.stackTraces = false) (D : va_G) (tys : List (ClassId × FieldType)) (ad : Nat → Nat) (N : Nat) (S : Nat → va_E) {fs gs : List Value} {sc : Nat} (h0N : 0 < N) (h0 : S 0 = .inr (11, fs)) (hs : fs[14]? = some (.ref (ad sc))) (hscN : sc < N) (hsc : S sc = .inr (6, gs)) (hmc : gs[5]? = some (.int 0)) (ao : Nat) : cWi l yL_meanPower (Cond.codeWith yL_meanPower cL_meanPower 3 (some .int) [(0, 7, 10, 21)] :: wsA) 8 121 D tys ad N S [.ref (ad 0), .ref ao] (fun r S1 => r = 1 ∧ S1 = S) := by
  intro sz
  refine va_MetW (cc := cL_meanPower) (maxL := 3) (ret := some .int) (by decide) rfl ?_
  intro p e s m args below meth c s₁ B hml hv
  obtain ⟨rfl, hsz, hP, hK, hD0, hX, hN_xIAE_xIOB, hN_xISE_xIOB⟩ := hv
  have hx := B.exec
  have hb := B.bytes
  have hr := B.returns
  have hts := atoms_spec (ws := (Cond.codeWith yL_meanPower cL_meanPower 3 (some .int) [(0, 7, 10, 21)] :: wsA)) B.pre
  have hown : s.vm.findClass RL = some m.cls := findClass_of_methodNamed B.named
  have hlocks := B.notSynchronized
  have htb := vx_table (x := yL_meanPower) B (hts _ (.head _))
  subst hsz
  have hD := hD0.self (sz := s.heap.size)
  generalize hAe : va_A (cW ad N S) s.heap.size = A at hD hX ⊢
  have hA : ∀ q : Nat, s.heap.size ≤ q → A q := fun q h => by rw [← hAe]; exact Or.inr h
  have G : cG D ad N A s.heap s.heap [] S := ⟨hP, hD, va_S.rf⟩
  have E : cE p c cL_meanPower s m ([.ref (ad 0), .ref ao] : List Value).toArray (Cond.codeWith yL_meanPower cL_meanPower 3 (some .int) [(0, 7, 10, 21)] :: wsA) D RL tys := ⟨hx, hb, hts, hown, hK⟩
  have hl := lv_entry ([.ref (ad 0), .ref ao]) (n := 3) (Nat.le_of_ble_eq_true rfl)
  rw [lg_entry_eq]
  generalize (lg_sl ([.ref (ad 0), .ref ao]) ++ List.replicate (3 - (lg_sl ([.ref (ad 0), .ref ao])).length) Slot.unset).toArray = ls at hl ⊢
  have hl : lv_has ls 3 [(0, .ref (ad 0)), (1, .ref ao)] := hl
  refine lv_aload_n hx hb dL_meanPower_0 rfl (lv_at hl 1 rfl) ?_
  refine lv_iconst (v := 0) hx hb dL_meanPower_1 (by decide) ?_
  refine lv_aload_n hx hb dL_meanPower_2 rfl (lv_at hl 0 rfl) ?_
  refine c_xvl (As := []) (rest := [.int 0, .ref ao]) E G hA hX rfl hml (k_meanPower l hst D tys ad N S h0N h0 hs hscN hsc hmc) (cwV 0 hts (gaV qA_1017 qA_1018 qA_1019 qA_131 qA_814) rfl rfl rfl (by decide +kernel) ⟨Nat.le_of_ble_eq_true rfl, Nat.le_of_ble_eq_true rfl⟩) h0N h0 rfl rfl hl.1 rfl (lv_room (Nat.le_of_ble_eq_true rfl)) dL_meanPower_3 ⟨Nat.le_of_ble_eq_true rfl, Nat.le_of_ble_eq_true rfl⟩ (fun E9 ce q9 S1 H locs hp G hce hcv hcl => ?_) (fun r S1 H locs hq G => hq.elim)
  obtain ⟨hE, hS1⟩ := hp
  subst hE
  rw [hS1] at G
  refine vx_catch (name := xISE) hown [] { startPc := 0, endPc := 7, handlerPc := 10, catchType := 21 } [] htb (fun z hz => absurd hz List.not_mem_nil) (by decide) (by decide) (hts _ (.tail _ qA_952)) (hX.use (.castable xISE xISE) (by decide +kernel)) hce hcv hcl ?_
  refine lv_astore_n (lv' := [(2, .ref q9), (0, .ref (ad 0)), (1, .ref ao)]) hx hb dL_meanPower_10 rfl hl (by decide) rfl (fun ls hl => ?_)
  refine lv_iconst (v := 1) hx hb dL_meanPower_11 (by decide) ?_
  exact W.iret (v := 1) hx hb hr (fun t ht hW => ⟨⟨1, S, rfl, ⟨rfl, rfl⟩, ⟨by rw [ht]; exact G.1, va_K.moved hW.alike hK, G.2.1⟩⟩, G.2.2.F ht⟩) G.2.2.2.2 dL_meanPower_12
set_option maxHeartbeats 4000000 in
set_option maxRecDepth 100000 in
theorem w_peaks (l : Launch) (hst : l.stackTraces = false) (D : va_G) (tys : List (ClassId × FieldType)) (ad : Nat → Nat) (N : Nat) (S : Nat → va_E) {fs gs : List Value} {sc : Nat} (h0N : 0 < N) (h0 : S 0 = .inr (11, fs)) (hs : fs[14]? = some (.ref (ad sc))) (hscN : sc < N) (hsc : S sc = .inr (6, gs)) (hmc : gs[5]? = some (.int 0)) (ao : Nat) : cWi l yL_peaks (Cond.codeWith yL_peaks cL_peaks 3 (some .int) [(0, 8, 11, 21)] :: wsA) 8 121 D tys ad N S [.ref (ad 0), .ref ao] (fun r S1 => r = 1 ∧ S1 = S) := by
  intro sz
  refine va_MetW (cc := cL_peaks) (maxL := 3) (ret := some .int) (by decide) rfl ?_
  intro p e s m args below meth c s₁ B hml hv
  obtain ⟨rfl, hsz, hP, hK, hD0, hX, hN_xIAE_xIOB, hN_xISE_xIOB⟩ := hv
  have hx := B.exec
  have hb := B.bytes
  have hr := B.returns
  have hts := atoms_spec (ws := (Cond.codeWith yL_peaks cL_peaks 3 (some .int) [(0, 8, 11, 21)] :: wsA)) B.pre
  have hown : s.vm.findClass RL = some m.cls := findClass_of_methodNamed B.named
  have hlocks := B.notSynchronized
  have htb := vx_table (x := yL_peaks) B (hts _ (.head _))
  subst hsz
  have hD := hD0.self (sz := s.heap.size)
  generalize hAe : va_A (cW ad N S) s.heap.size = A at hD hX ⊢
  have hA : ∀ q : Nat, s.heap.size ≤ q → A q := fun q h => by rw [← hAe]; exact Or.inr h
  have G : cG D ad N A s.heap s.heap [] S := ⟨hP, hD, va_S.rf⟩
  have E : cE p c cL_peaks s m ([.ref (ad 0), .ref ao] : List Value).toArray (Cond.codeWith yL_peaks cL_peaks 3 (some .int) [(0, 8, 11, 21)] :: wsA) D RL tys := ⟨hx, hb, hts, hown, hK⟩
  have hl := lv_entry ([.ref (ad 0), .ref ao]) (n := 3) (Nat.le_of_ble_eq_true rfl)
  rw [lg_entry_eq]
  generalize (lg_sl ([.ref (ad 0), .ref ao]) ++ List.replicate (3 - (lg_sl ([.ref (ad 0), .ref ao])).length) Slot.unset).toArray = ls at hl ⊢
  have hl : lv_has ls 3 [(0, .ref (ad 0)), (1, .ref ao)] := hl
  refine lv_aload_n hx hb dL_peaks_0 rfl (lv_at hl 1 rfl) ?_
  refine lv_iconst (v := 0) hx hb dL_peaks_1 (by decide) ?_
  refine lv_aload_n hx hb dL_peaks_2 rfl (lv_at hl 0 rfl) ?_
  refine c_xvi (As := []) (rest := [.int 0, .ref ao]) E G hA hX rfl hml (k_peaks l hst D tys ad N S h0N h0 hs hscN hsc hmc) (cwV 0 hts (gaV qA_1021 qA_1022 qA_1023 qA_131 qA_820) rfl rfl rfl (by decide +kernel) ⟨Nat.le_of_ble_eq_true rfl, Nat.le_of_ble_eq_true rfl⟩) h0N h0 rfl rfl hl.1 rfl (lv_room (Nat.le_of_ble_eq_true rfl)) dL_peaks_3 ⟨Nat.le_of_ble_eq_true rfl, Nat.le_of_ble_eq_true rfl⟩ (fun E9 ce q9 S1 H locs hp G hce hcv hcl => ?_) (fun r S1 H locs hq G => hq.elim)
  obtain ⟨hE, hS1⟩ := hp
  subst hE
  rw [hS1] at G
  refine vx_catch (name := xISE) hown [] { startPc := 0, endPc := 8, handlerPc := 11, catchType := 21 } [] htb (fun z hz => absurd hz List.not_mem_nil) (by decide) (by decide) (hts _ (.tail _ qA_952)) (hX.use (.castable xISE xISE) (by decide +kernel)) hce hcv hcl ?_
  refine lv_astore_n (lv' := [(2, .ref q9), (0, .ref (ad 0)), (1, .ref ao)]) hx hb dL_peaks_11 rfl hl (by decide) rfl (fun ls hl => ?_)
  refine lv_iconst (v := 1) hx hb dL_peaks_12 (by decide) ?_
  exact W.iret (v := 1) hx hb hr (fun t ht hW => ⟨⟨1, S, rfl, ⟨rfl, rfl⟩, ⟨by rw [ht]; exact G.1, va_K.moved hW.alike hK, G.2.1⟩⟩, G.2.2.F ht⟩) G.2.2.2.2 dL_peaks_13
set_option maxHeartbeats 4000000 in
set_option maxRecDepth 100000 in
theorem w_peakAt (l : Launch) (hst : l.stackTraces = false) (D : va_G) (tys : List (ClassId × FieldType)) (ad : Nat → Nat) (N : Nat) (S : Nat → va_E) {fs gs : List Value} {sc : Nat} (h0N : 0 < N) (h0 : S 0 = .inr (11, fs)) (hs : fs[14]? = some (.ref (ad sc))) (hscN : sc < N) (hsc : S sc = .inr (6, gs)) (hmc : gs[5]? = some (.int 0)) (x : Int32) (ao : Nat) : cWi l yL_peakAt (Cond.codeWith yL_peakAt cL_peakAt 4 (some .int) [(0, 9, 12, 21), (0, 9, 15, 13)] :: wsA) 8 123 D tys ad N S [.ref (ad 0), .int x, .ref ao] (fun r S1 => r = 1 ∧ S1 = S) := by
  intro sz
  refine va_MetW (cc := cL_peakAt) (maxL := 4) (ret := some .int) (by decide) rfl ?_
  intro p e s m args below meth c s₁ B hml hv
  obtain ⟨rfl, hsz, hP, hK, hD0, hX, hN_xIAE_xIOB, hN_xISE_xIOB⟩ := hv
  have hx := B.exec
  have hb := B.bytes
  have hr := B.returns
  have hts := atoms_spec (ws := (Cond.codeWith yL_peakAt cL_peakAt 4 (some .int) [(0, 9, 12, 21), (0, 9, 15, 13)] :: wsA)) B.pre
  have hown : s.vm.findClass RL = some m.cls := findClass_of_methodNamed B.named
  have hlocks := B.notSynchronized
  have htb := vx_table (x := yL_peakAt) B (hts _ (.head _))
  subst hsz
  have hD := hD0.self (sz := s.heap.size)
  generalize hAe : va_A (cW ad N S) s.heap.size = A at hD hX ⊢
  have hA : ∀ q : Nat, s.heap.size ≤ q → A q := fun q h => by rw [← hAe]; exact Or.inr h
  have G : cG D ad N A s.heap s.heap [] S := ⟨hP, hD, va_S.rf⟩
  have E : cE p c cL_peakAt s m ([.ref (ad 0), .int x, .ref ao] : List Value).toArray (Cond.codeWith yL_peakAt cL_peakAt 4 (some .int) [(0, 9, 12, 21), (0, 9, 15, 13)] :: wsA) D RL tys := ⟨hx, hb, hts, hown, hK⟩
  have hl := lv_entry ([.ref (ad 0), .int x, .ref ao]) (n := 4) (Nat.le_of_ble_eq_true rfl)
  rw [lg_entry_eq]
  generalize (lg_sl ([.ref (ad 0), .int x, .ref ao]) ++ List.replicate (4 - (lg_sl ([.ref (ad 0), .int x, .ref ao])).length) Slot.unset).toArray = ls at hl ⊢
  have hl : lv_has ls 4 [(0, .ref (ad 0)), (1, .int x), (2, .ref ao)] := hl
  refine lv_aload_n hx hb dL_peakAt_0 rfl (lv_at hl 2 rfl) ?_
  refine lv_iconst (v := 0) hx hb dL_peakAt_1 (by decide) ?_
  refine lv_aload_n hx hb dL_peakAt_2 rfl (lv_at hl 0 rfl) ?_
  refine lv_iload_n hx hb dL_peakAt_3 rfl (lv_at hl 1 rfl) ?_
  refine c_xvi (As := [.int x]) (rest := [.int 0, .ref ao]) E G hA hX rfl hml (k_peakAt l hst D tys ad N S h0N h0 hs hscN hsc hmc x) (cwV 1 hts (gaV qA_1025 qA_1026 qA_1027 qA_131 qA_822) rfl rfl rfl (by decide +kernel) ⟨Nat.le_of_ble_eq_true rfl, Nat.le_of_ble_eq_true rfl⟩) h0N h0 rfl rfl hl.1 rfl (lv_room (Nat.le_of_ble_eq_true rfl)) dL_peakAt_4 ⟨Nat.le_of_ble_eq_true rfl, Nat.le_of_ble_eq_true rfl⟩ (fun E9 ce q9 S1 H locs hp G hce hcv hcl => ?_) (fun r S1 H locs hq G => hq.elim)
  obtain ⟨hE, hS1⟩ := hp
  subst hE
  rw [hS1] at G
  refine vx_catch (name := xISE) hown [] { startPc := 0, endPc := 9, handlerPc := 12, catchType := 21 } [{ startPc := 0, endPc := 9, handlerPc := 15, catchType := 13 }] htb (fun z hz => absurd hz List.not_mem_nil) (by decide) (by decide) (hts _ (.tail _ qA_952)) (hX.use (.castable xISE xISE) (by decide +kernel)) hce hcv hcl ?_
  refine lv_astore_n (lv' := [(3, .ref q9), (0, .ref (ad 0)), (1, .int x), (2, .ref ao)]) hx hb dL_peakAt_12 rfl hl (by decide) rfl (fun ls hl => ?_)
  refine lv_iconst (v := 1) hx hb dL_peakAt_13 (by decide) ?_
  exact W.iret (v := 1) hx hb hr (fun t ht hW => ⟨⟨1, S, rfl, ⟨rfl, rfl⟩, ⟨by rw [ht]; exact G.1, va_K.moved hW.alike hK, G.2.1⟩⟩, G.2.2.F ht⟩) G.2.2.2.2 dL_peakAt_14
set_option maxHeartbeats 4000000 in
set_option maxRecDepth 100000 in
theorem w_isPeak (l : Launch) (hst : l.stackTraces = false) (D : va_G) (tys : List (ClassId × FieldType)) (ad : Nat → Nat) (N : Nat) (S : Nat → va_E) {fs gs : List Value} {sc : Nat} (h0N : 0 < N) (h0 : S 0 = .inr (11, fs)) (hs : fs[14]? = some (.ref (ad sc))) (hscN : sc < N) (hsc : S sc = .inr (6, gs)) (hmc : gs[5]? = some (.int 0)) (x : Int32) (ao : Nat) : cWi l yL_isPeak (Cond.codeWith yL_isPeak cL_isPeak 4 (some .int) [(0, 16, 19, 21), (0, 16, 22, 13)] :: wsA) 8 122 D tys ad N S [.ref (ad 0), .int x, .ref ao] (fun r S1 => r = 1 ∧ S1 = S) := by
  intro sz
  refine va_MetW (cc := cL_isPeak) (maxL := 4) (ret := some .int) (by decide) rfl ?_
  intro p e s m args below meth c s₁ B hml hv
  obtain ⟨rfl, hsz, hP, hK, hD0, hX, hN_xIAE_xIOB, hN_xISE_xIOB⟩ := hv
  have hx := B.exec
  have hb := B.bytes
  have hr := B.returns
  have hts := atoms_spec (ws := (Cond.codeWith yL_isPeak cL_isPeak 4 (some .int) [(0, 16, 19, 21), (0, 16, 22, 13)] :: wsA)) B.pre
  have hown : s.vm.findClass RL = some m.cls := findClass_of_methodNamed B.named
  have hlocks := B.notSynchronized
  have htb := vx_table (x := yL_isPeak) B (hts _ (.head _))
  subst hsz
  have hD := hD0.self (sz := s.heap.size)
  generalize hAe : va_A (cW ad N S) s.heap.size = A at hD hX ⊢
  have hA : ∀ q : Nat, s.heap.size ≤ q → A q := fun q h => by rw [← hAe]; exact Or.inr h
  have G : cG D ad N A s.heap s.heap [] S := ⟨hP, hD, va_S.rf⟩
  have E : cE p c cL_isPeak s m ([.ref (ad 0), .int x, .ref ao] : List Value).toArray (Cond.codeWith yL_isPeak cL_isPeak 4 (some .int) [(0, 16, 19, 21), (0, 16, 22, 13)] :: wsA) D RL tys := ⟨hx, hb, hts, hown, hK⟩
  have hl := lv_entry ([.ref (ad 0), .int x, .ref ao]) (n := 4) (Nat.le_of_ble_eq_true rfl)
  rw [lg_entry_eq]
  generalize (lg_sl ([.ref (ad 0), .int x, .ref ao]) ++ List.replicate (4 - (lg_sl ([.ref (ad 0), .int x, .ref ao])).length) Slot.unset).toArray = ls at hl ⊢
  have hl : lv_has ls 4 [(0, .ref (ad 0)), (1, .int x), (2, .ref ao)] := hl
  refine lv_aload_n hx hb dL_isPeak_0 rfl (lv_at hl 2 rfl) ?_
  refine lv_iconst (v := 0) hx hb dL_isPeak_1 (by decide) ?_
  refine lv_aload_n hx hb dL_isPeak_2 rfl (lv_at hl 0 rfl) ?_
  refine lv_iload_n hx hb dL_isPeak_3 rfl (lv_at hl 1 rfl) ?_
  refine c_xvi (As := [.int x]) (rest := [.int 0, .ref ao]) E G hA hX rfl hml (k_isPeak l hst D tys ad N S h0N h0 hs hscN hsc hmc x) (cwV 1 hts (gaV qA_1029 qA_1030 qA_1031 qA_131 qA_826) rfl rfl rfl (by decide +kernel) ⟨Nat.le_of_ble_eq_true rfl, Nat.le_of_ble_eq_true rfl⟩) h0N h0 rfl rfl hl.1 rfl (lv_room (Nat.le_of_ble_eq_true rfl)) dL_isPeak_4 ⟨Nat.le_of_ble_eq_true rfl, Nat.le_of_ble_eq_true rfl⟩ (fun E9 ce q9 S1 H locs hp G hce hcv hcl => ?_) (fun r S1 H locs hq G => hq.elim)
  obtain ⟨hE, hS1⟩ := hp
  subst hE
  rw [hS1] at G
  refine vx_catch (name := xISE) hown [] { startPc := 0, endPc := 16, handlerPc := 19, catchType := 21 } [{ startPc := 0, endPc := 16, handlerPc := 22, catchType := 13 }] htb (fun z hz => absurd hz List.not_mem_nil) (by decide) (by decide) (hts _ (.tail _ qA_952)) (hX.use (.castable xISE xISE) (by decide +kernel)) hce hcv hcl ?_
  refine lv_astore_n (lv' := [(3, .ref q9), (0, .ref (ad 0)), (1, .int x), (2, .ref ao)]) hx hb dL_isPeak_19 rfl hl (by decide) rfl (fun ls hl => ?_)
  refine lv_iconst (v := 1) hx hb dL_isPeak_20 (by decide) ?_
  exact W.iret (v := 1) hx hb hr (fun t ht hW => ⟨⟨1, S, rfl, ⟨rfl, rfl⟩, ⟨by rw [ht]; exact G.1, va_K.moved hW.alike hK, G.2.1⟩⟩, G.2.2.F ht⟩) G.2.2.2.2 dL_isPeak_21
set_option maxHeartbeats 4000000 in
set_option maxRecDepth 100000 in
theorem w_zonePower (l : Launch) (hst : l.stackTraces = false) (D : va_G) (tys : List (ClassId × FieldType)) (ad : Nat → Nat) (N : Nat) (S : Nat → va_E) {fs gs : List Value} {sc : Nat} (h0N : 0 < N) (h0 : S 0 = .inr (11, fs)) (hs : fs[14]? = some (.ref (ad sc))) (hscN : sc < N) (hsc : S sc = .inr (6, gs)) (hmc : gs[5]? = some (.int 0)) (x : Int32) (ao : Nat) : cWi l yL_zonePower (Cond.codeWith yL_zonePower cL_zonePower 4 (some .int) [(0, 8, 11, 21), (0, 8, 14, 13)] :: wsA) 8 122 D tys ad N S [.ref (ad 0), .int x, .ref ao] (fun r S1 => r = 1 ∧ S1 = S) := by
  intro sz
  refine va_MetW (cc := cL_zonePower) (maxL := 4) (ret := some .int) (by decide) rfl ?_
  intro p e s m args below meth c s₁ B hml hv
  obtain ⟨rfl, hsz, hP, hK, hD0, hX, hN_xIAE_xIOB, hN_xISE_xIOB⟩ := hv
  have hx := B.exec
  have hb := B.bytes
  have hr := B.returns
  have hts := atoms_spec (ws := (Cond.codeWith yL_zonePower cL_zonePower 4 (some .int) [(0, 8, 11, 21), (0, 8, 14, 13)] :: wsA)) B.pre
  have hown : s.vm.findClass RL = some m.cls := findClass_of_methodNamed B.named
  have hlocks := B.notSynchronized
  have htb := vx_table (x := yL_zonePower) B (hts _ (.head _))
  subst hsz
  have hD := hD0.self (sz := s.heap.size)
  generalize hAe : va_A (cW ad N S) s.heap.size = A at hD hX ⊢
  have hA : ∀ q : Nat, s.heap.size ≤ q → A q := fun q h => by rw [← hAe]; exact Or.inr h
  have G : cG D ad N A s.heap s.heap [] S := ⟨hP, hD, va_S.rf⟩
  have E : cE p c cL_zonePower s m ([.ref (ad 0), .int x, .ref ao] : List Value).toArray (Cond.codeWith yL_zonePower cL_zonePower 4 (some .int) [(0, 8, 11, 21), (0, 8, 14, 13)] :: wsA) D RL tys := ⟨hx, hb, hts, hown, hK⟩
  have hl := lv_entry ([.ref (ad 0), .int x, .ref ao]) (n := 4) (Nat.le_of_ble_eq_true rfl)
  rw [lg_entry_eq]
  generalize (lg_sl ([.ref (ad 0), .int x, .ref ao]) ++ List.replicate (4 - (lg_sl ([.ref (ad 0), .int x, .ref ao])).length) Slot.unset).toArray = ls at hl ⊢
  have hl : lv_has ls 4 [(0, .ref (ad 0)), (1, .int x), (2, .ref ao)] := hl
  refine lv_aload_n hx hb dL_zonePower_0 rfl (lv_at hl 2 rfl) ?_
  refine lv_iconst (v := 0) hx hb dL_zonePower_1 (by decide) ?_
  refine lv_aload_n hx hb dL_zonePower_2 rfl (lv_at hl 0 rfl) ?_
  refine lv_iload_n hx hb dL_zonePower_3 rfl (lv_at hl 1 rfl) ?_
  refine c_xvl (As := [.int x]) (rest := [.int 0, .ref ao]) E G hA hX rfl hml (k_zonePower l hst D tys ad N S h0N h0 hs hscN hsc hmc x) (cwV 1 hts (gaV qA_1033 qA_1034 qA_1035 qA_131 qA_828) rfl rfl rfl (by decide +kernel) ⟨Nat.le_of_ble_eq_true rfl, Nat.le_of_ble_eq_true rfl⟩) h0N h0 rfl rfl hl.1 rfl (lv_room (Nat.le_of_ble_eq_true rfl)) dL_zonePower_4 ⟨Nat.le_of_ble_eq_true rfl, Nat.le_of_ble_eq_true rfl⟩ (fun E9 ce q9 S1 H locs hp G hce hcv hcl => ?_) (fun r S1 H locs hq G => hq.elim)
  obtain ⟨hE, hS1⟩ := hp
  subst hE
  rw [hS1] at G
  refine vx_catch (name := xISE) hown [] { startPc := 0, endPc := 8, handlerPc := 11, catchType := 21 } [{ startPc := 0, endPc := 8, handlerPc := 14, catchType := 13 }] htb (fun z hz => absurd hz List.not_mem_nil) (by decide) (by decide) (hts _ (.tail _ qA_952)) (hX.use (.castable xISE xISE) (by decide +kernel)) hce hcv hcl ?_
  refine lv_astore_n (lv' := [(3, .ref q9), (0, .ref (ad 0)), (1, .int x), (2, .ref ao)]) hx hb dL_zonePower_11 rfl hl (by decide) rfl (fun ls hl => ?_)
  refine lv_iconst (v := 1) hx hb dL_zonePower_12 (by decide) ?_
  exact W.iret (v := 1) hx hb hr (fun t ht hW => ⟨⟨1, S, rfl, ⟨rfl, rfl⟩, ⟨by rw [ht]; exact G.1, va_K.moved hW.alike hK, G.2.1⟩⟩, G.2.2.F ht⟩) G.2.2.2.2 dL_zonePower_13
set_option maxHeartbeats 4000000 in
set_option maxRecDepth 100000 in
theorem w_zoneBest (l : Launch) (hst : l.stackTraces = false) (D : va_G) (tys : List (ClassId × FieldType)) (ad : Nat → Nat) (N : Nat) (S : Nat → va_E) {fs gs : List Value} {sc : Nat} (h0N : 0 < N) (h0 : S 0 = .inr (11, fs)) (hs : fs[14]? = some (.ref (ad sc))) (hscN : sc < N) (hsc : S sc = .inr (6, gs)) (hmc : gs[5]? = some (.int 0)) (x : Int32) (ao : Nat) : cWi l yL_zoneBest (Cond.codeWith yL_zoneBest cL_zoneBest 4 (some .int) [(0, 9, 12, 21), (0, 9, 15, 13)] :: wsA) 8 122 D tys ad N S [.ref (ad 0), .int x, .ref ao] (fun r S1 => r = 1 ∧ S1 = S) := by
  intro sz
  refine va_MetW (cc := cL_zoneBest) (maxL := 4) (ret := some .int) (by decide) rfl ?_
  intro p e s m args below meth c s₁ B hml hv
  obtain ⟨rfl, hsz, hP, hK, hD0, hX, hN_xIAE_xIOB, hN_xISE_xIOB⟩ := hv
  have hx := B.exec
  have hb := B.bytes
  have hr := B.returns
  have hts := atoms_spec (ws := (Cond.codeWith yL_zoneBest cL_zoneBest 4 (some .int) [(0, 9, 12, 21), (0, 9, 15, 13)] :: wsA)) B.pre
  have hown : s.vm.findClass RL = some m.cls := findClass_of_methodNamed B.named
  have hlocks := B.notSynchronized
  have htb := vx_table (x := yL_zoneBest) B (hts _ (.head _))
  subst hsz
  have hD := hD0.self (sz := s.heap.size)
  generalize hAe : va_A (cW ad N S) s.heap.size = A at hD hX ⊢
  have hA : ∀ q : Nat, s.heap.size ≤ q → A q := fun q h => by rw [← hAe]; exact Or.inr h
  have G : cG D ad N A s.heap s.heap [] S := ⟨hP, hD, va_S.rf⟩
  have E : cE p c cL_zoneBest s m ([.ref (ad 0), .int x, .ref ao] : List Value).toArray (Cond.codeWith yL_zoneBest cL_zoneBest 4 (some .int) [(0, 9, 12, 21), (0, 9, 15, 13)] :: wsA) D RL tys := ⟨hx, hb, hts, hown, hK⟩
  have hl := lv_entry ([.ref (ad 0), .int x, .ref ao]) (n := 4) (Nat.le_of_ble_eq_true rfl)
  rw [lg_entry_eq]
  generalize (lg_sl ([.ref (ad 0), .int x, .ref ao]) ++ List.replicate (4 - (lg_sl ([.ref (ad 0), .int x, .ref ao])).length) Slot.unset).toArray = ls at hl ⊢
  have hl : lv_has ls 4 [(0, .ref (ad 0)), (1, .int x), (2, .ref ao)] := hl
  refine lv_aload_n hx hb dL_zoneBest_0 rfl (lv_at hl 2 rfl) ?_
  refine lv_iconst (v := 0) hx hb dL_zoneBest_1 (by decide) ?_
  refine lv_aload_n hx hb dL_zoneBest_2 rfl (lv_at hl 0 rfl) ?_
  refine lv_iload_n hx hb dL_zoneBest_3 rfl (lv_at hl 1 rfl) ?_
  refine c_xvi (As := [.int x]) (rest := [.int 0, .ref ao]) E G hA hX rfl hml (k_zoneBest l hst D tys ad N S h0N h0 hs hscN hsc hmc x) (cwV 1 hts (gaV qA_1037 qA_1038 qA_1039 qA_131 qA_831) rfl rfl rfl (by decide +kernel) ⟨Nat.le_of_ble_eq_true rfl, Nat.le_of_ble_eq_true rfl⟩) h0N h0 rfl rfl hl.1 rfl (lv_room (Nat.le_of_ble_eq_true rfl)) dL_zoneBest_4 ⟨Nat.le_of_ble_eq_true rfl, Nat.le_of_ble_eq_true rfl⟩ (fun E9 ce q9 S1 H locs hp G hce hcv hcl => ?_) (fun r S1 H locs hq G => hq.elim)
  obtain ⟨hE, hS1⟩ := hp
  subst hE
  rw [hS1] at G
  refine vx_catch (name := xISE) hown [] { startPc := 0, endPc := 9, handlerPc := 12, catchType := 21 } [{ startPc := 0, endPc := 9, handlerPc := 15, catchType := 13 }] htb (fun z hz => absurd hz List.not_mem_nil) (by decide) (by decide) (hts _ (.tail _ qA_952)) (hX.use (.castable xISE xISE) (by decide +kernel)) hce hcv hcl ?_
  refine lv_astore_n (lv' := [(3, .ref q9), (0, .ref (ad 0)), (1, .int x), (2, .ref ao)]) hx hb dL_zoneBest_12 rfl hl (by decide) rfl (fun ls hl => ?_)
  refine lv_iconst (v := 1) hx hb dL_zoneBest_13 (by decide) ?_
  exact W.iret (v := 1) hx hb hr (fun t ht hW => ⟨⟨1, S, rfl, ⟨rfl, rfl⟩, ⟨by rw [ht]; exact G.1, va_K.moved hW.alike hK, G.2.1⟩⟩, G.2.2.F ht⟩) G.2.2.2.2 dL_zoneBest_14
set_option maxHeartbeats 4000000 in
set_option maxRecDepth 100000 in
theorem w_contrast (l : Launch) (hst : l.stackTraces = false) (D : va_G) (tys : List (ClassId × FieldType)) (ad : Nat → Nat) (N : Nat) (S : Nat → va_E) {fs gs : List Value} {sc : Nat} (h0N : 0 < N) (h0 : S 0 = .inr (11, fs)) (hs : fs[14]? = some (.ref (ad sc))) (hscN : sc < N) (hsc : S sc = .inr (6, gs)) (hmc : gs[5]? = some (.int 0)) (ao : Nat) : cWi l yL_contrast (Cond.codeWith yL_contrast cL_contrast 3 (some .int) [(0, 8, 11, 21)] :: wsA) 8 123 D tys ad N S [.ref (ad 0), .ref ao] (fun r S1 => r = 1 ∧ S1 = S) := by
  intro sz
  refine va_MetW (cc := cL_contrast) (maxL := 3) (ret := some .int) (by decide) rfl ?_
  intro p e s m args below meth c s₁ B hml hv
  obtain ⟨rfl, hsz, hP, hK, hD0, hX, hN_xIAE_xIOB, hN_xISE_xIOB⟩ := hv
  have hx := B.exec
  have hb := B.bytes
  have hr := B.returns
  have hts := atoms_spec (ws := (Cond.codeWith yL_contrast cL_contrast 3 (some .int) [(0, 8, 11, 21)] :: wsA)) B.pre
  have hown : s.vm.findClass RL = some m.cls := findClass_of_methodNamed B.named
  have hlocks := B.notSynchronized
  have htb := vx_table (x := yL_contrast) B (hts _ (.head _))
  subst hsz
  have hD := hD0.self (sz := s.heap.size)
  generalize hAe : va_A (cW ad N S) s.heap.size = A at hD hX ⊢
  have hA : ∀ q : Nat, s.heap.size ≤ q → A q := fun q h => by rw [← hAe]; exact Or.inr h
  have G : cG D ad N A s.heap s.heap [] S := ⟨hP, hD, va_S.rf⟩
  have E : cE p c cL_contrast s m ([.ref (ad 0), .ref ao] : List Value).toArray (Cond.codeWith yL_contrast cL_contrast 3 (some .int) [(0, 8, 11, 21)] :: wsA) D RL tys := ⟨hx, hb, hts, hown, hK⟩
  have hl := lv_entry ([.ref (ad 0), .ref ao]) (n := 3) (Nat.le_of_ble_eq_true rfl)
  rw [lg_entry_eq]
  generalize (lg_sl ([.ref (ad 0), .ref ao]) ++ List.replicate (3 - (lg_sl ([.ref (ad 0), .ref ao])).length) Slot.unset).toArray = ls at hl ⊢
  have hl : lv_has ls 3 [(0, .ref (ad 0)), (1, .ref ao)] := hl
  refine lv_aload_n hx hb dL_contrast_0 rfl (lv_at hl 1 rfl) ?_
  refine lv_iconst (v := 0) hx hb dL_contrast_1 (by decide) ?_
  refine lv_aload_n hx hb dL_contrast_2 rfl (lv_at hl 0 rfl) ?_
  refine c_xvf (As := []) (rest := [.int 0, .ref ao]) E G hA hX rfl hml (k_contrast l hst D tys ad N S h0N h0 hs hscN hsc hmc) (cwV 0 hts (gaV qA_1041 qA_1042 qA_1043 qA_131 qA_833) rfl rfl rfl (by decide +kernel) ⟨Nat.le_of_ble_eq_true rfl, Nat.le_of_ble_eq_true rfl⟩) h0N h0 rfl rfl hl.1 rfl (lv_room (Nat.le_of_ble_eq_true rfl)) dL_contrast_3 ⟨Nat.le_of_ble_eq_true rfl, Nat.le_of_ble_eq_true rfl⟩ (fun E9 ce q9 S1 H locs hp G hce hcv hcl => ?_) (fun r S1 H locs hq G => hq.elim)
  obtain ⟨hE, hS1⟩ := hp
  subst hE
  rw [hS1] at G
  refine vx_catch (name := xISE) hown [] { startPc := 0, endPc := 8, handlerPc := 11, catchType := 21 } [] htb (fun z hz => absurd hz List.not_mem_nil) (by decide) (by decide) (hts _ (.tail _ qA_952)) (hX.use (.castable xISE xISE) (by decide +kernel)) hce hcv hcl ?_
  refine lv_astore_n (lv' := [(2, .ref q9), (0, .ref (ad 0)), (1, .ref ao)]) hx hb dL_contrast_11 rfl hl (by decide) rfl (fun ls hl => ?_)
  refine lv_iconst (v := 1) hx hb dL_contrast_12 (by decide) ?_
  exact W.iret (v := 1) hx hb hr (fun t ht hW => ⟨⟨1, S, rfl, ⟨rfl, rfl⟩, ⟨by rw [ht]; exact G.1, va_K.moved hW.alike hK, G.2.1⟩⟩, G.2.2.F ht⟩) G.2.2.2.2 dL_contrast_13
set_option maxHeartbeats 4000000 in
set_option maxRecDepth 100000 in
theorem w_alias (l : Launch) (hst : l.stackTraces = false) (D : va_G) (tys : List (ClassId × FieldType)) (ad : Nat → Nat) (N : Nat) (S : Nat → va_E) {fs gs : List Value} {sc : Nat} (h0N : 0 < N) (h0 : S 0 = .inr (11, fs)) (hs : fs[14]? = some (.ref (ad sc))) (hscN : sc < N) (hsc : S sc = .inr (6, gs)) (hmc : gs[5]? = some (.int 0)) (x y z : Int32) (ao : Nat) : cWi l yL_alias (Cond.codeWith yL_alias cL_alias 6 (some .int) [(0, 12, 15, 21), (0, 12, 19, 13), (0, 12, 23, 15)] :: wsA) 8 124 D tys ad N S [.ref (ad 0), .int x, .int y, .int z, .ref ao] (fun r S1 => r = 1 ∧ S1 = S) := by
  intro sz
  refine va_MetW (cc := cL_alias) (maxL := 6) (ret := some .int) (by decide) rfl ?_
  intro p e s m args below meth c s₁ B hml hv
  obtain ⟨rfl, hsz, hP, hK, hD0, hX, hN_xIAE_xIOB, hN_xISE_xIOB⟩ := hv
  have hx := B.exec
  have hb := B.bytes
  have hr := B.returns
  have hts := atoms_spec (ws := (Cond.codeWith yL_alias cL_alias 6 (some .int) [(0, 12, 15, 21), (0, 12, 19, 13), (0, 12, 23, 15)] :: wsA)) B.pre
  have hown : s.vm.findClass RL = some m.cls := findClass_of_methodNamed B.named
  have hlocks := B.notSynchronized
  have htb := vx_table (x := yL_alias) B (hts _ (.head _))
  subst hsz
  have hD := hD0.self (sz := s.heap.size)
  generalize hAe : va_A (cW ad N S) s.heap.size = A at hD hX ⊢
  have hA : ∀ q : Nat, s.heap.size ≤ q → A q := fun q h => by rw [← hAe]; exact Or.inr h
  have G : cG D ad N A s.heap s.heap [] S := ⟨hP, hD, va_S.rf⟩
  have E : cE p c cL_alias s m ([.ref (ad 0), .int x, .int y, .int z, .ref ao] : List Value).toArray (Cond.codeWith yL_alias cL_alias 6 (some .int) [(0, 12, 15, 21), (0, 12, 19, 13), (0, 12, 23, 15)] :: wsA) D RL tys := ⟨hx, hb, hts, hown, hK⟩
  have hl := lv_entry ([.ref (ad 0), .int x, .int y, .int z, .ref ao]) (n := 6) (Nat.le_of_ble_eq_true rfl)
  rw [lg_entry_eq]
  generalize (lg_sl ([.ref (ad 0), .int x, .int y, .int z, .ref ao]) ++ List.replicate (6 - (lg_sl ([.ref (ad 0), .int x, .int y, .int z, .ref ao])).length) Slot.unset).toArray = ls at hl ⊢
  have hl : lv_has ls 6 [(0, .ref (ad 0)), (1, .int x), (2, .int y), (3, .int z), (4, .ref ao)] := hl
  refine lv_aload hx hb dL_alias_0 (lv_at hl 4 rfl) ?_
  refine lv_iconst (v := 0) hx hb dL_alias_2 (by decide) ?_
  refine lv_aload_n hx hb dL_alias_3 rfl (lv_at hl 0 rfl) ?_
  refine lv_iload_n hx hb dL_alias_4 rfl (lv_at hl 1 rfl) ?_
  refine lv_iload_n hx hb dL_alias_5 rfl (lv_at hl 2 rfl) ?_
  refine lv_iload_n hx hb dL_alias_6 rfl (lv_at hl 3 rfl) ?_
  refine c_xvi (As := [.int x, .int y, .int z]) (rest := [.int 0, .ref ao]) E G hA hX rfl hml (k_alias l hst D tys ad N S h0N h0 hs hscN hsc hmc x y z) (cwV 3 hts (gaV qA_1045 qA_1046 qA_1047 qA_131 qA_840) rfl rfl rfl (by decide +kernel) ⟨Nat.le_of_ble_eq_true rfl, Nat.le_of_ble_eq_true rfl⟩) h0N h0 rfl rfl hl.1 rfl (lv_room (Nat.le_of_ble_eq_true rfl)) dL_alias_7 ⟨Nat.le_of_ble_eq_true rfl, Nat.le_of_ble_eq_true rfl⟩ (fun E9 ce q9 S1 H locs hp G hce hcv hcl => ?_) (fun r S1 H locs hq G => hq.elim)
  obtain ⟨hE, hS1⟩ := hp
  subst hE
  rw [hS1] at G
  refine vx_catch (name := xISE) hown [] { startPc := 0, endPc := 12, handlerPc := 15, catchType := 21 } [{ startPc := 0, endPc := 12, handlerPc := 19, catchType := 13 }, { startPc := 0, endPc := 12, handlerPc := 23, catchType := 15 }] htb (fun z hz => absurd hz List.not_mem_nil) (by decide) (by decide) (hts _ (.tail _ qA_952)) (hX.use (.castable xISE xISE) (by decide +kernel)) hce hcv hcl ?_
  refine lv_astore (lv' := [(5, .ref q9), (0, .ref (ad 0)), (1, .int x), (2, .int y), (3, .int z), (4, .ref ao)]) hx hb dL_alias_15 hl (by decide) rfl (fun ls hl => ?_)
  refine lv_iconst (v := 1) hx hb dL_alias_17 (by decide) ?_
  exact W.iret (v := 1) hx hb hr (fun t ht hW => ⟨⟨1, S, rfl, ⟨rfl, rfl⟩, ⟨by rw [ht]; exact G.1, va_K.moved hW.alike hK, G.2.1⟩⟩, G.2.2.F ht⟩) G.2.2.2.2 dL_alias_18
set_option maxHeartbeats 4000000 in
set_option maxRecDepth 100000 in
theorem w_isAlias (l : Launch) (hst : l.stackTraces = false) (D : va_G) (tys : List (ClassId × FieldType)) (ad : Nat → Nat) (N : Nat) (S : Nat → va_E) {fs gs : List Value} {sc : Nat} (h0N : 0 < N) (h0 : S 0 = .inr (11, fs)) (hs : fs[14]? = some (.ref (ad sc))) (hscN : sc < N) (hsc : S sc = .inr (6, gs)) (hmc : gs[5]? = some (.int 0)) (x y z : Int32) (ao : Nat) : cWi l yL_isAlias (Cond.codeWith yL_isAlias cL_isAlias 6 (some .int) [(0, 19, 22, 21), (0, 19, 26, 13), (0, 19, 30, 15)] :: wsA) 8 124 D tys ad N S [.ref (ad 0), .int x, .int y, .int z, .ref ao] (fun r S1 => r = 1 ∧ S1 = S) := by
  intro sz
  refine va_MetW (cc := cL_isAlias) (maxL := 6) (ret := some .int) (by decide) rfl ?_
  intro p e s m args below meth c s₁ B hml hv
  obtain ⟨rfl, hsz, hP, hK, hD0, hX, hN_xIAE_xIOB, hN_xISE_xIOB⟩ := hv
  have hx := B.exec
  have hb := B.bytes
  have hr := B.returns
  have hts := atoms_spec (ws := (Cond.codeWith yL_isAlias cL_isAlias 6 (some .int) [(0, 19, 22, 21), (0, 19, 26, 13), (0, 19, 30, 15)] :: wsA)) B.pre
  have hown : s.vm.findClass RL = some m.cls := findClass_of_methodNamed B.named
  have hlocks := B.notSynchronized
  have htb := vx_table (x := yL_isAlias) B (hts _ (.head _))
  subst hsz
  have hD := hD0.self (sz := s.heap.size)
  generalize hAe : va_A (cW ad N S) s.heap.size = A at hD hX ⊢
  have hA : ∀ q : Nat, s.heap.size ≤ q → A q := fun q h => by rw [← hAe]; exact Or.inr h
  have G : cG D ad N A s.heap s.heap [] S := ⟨hP, hD, va_S.rf⟩
  have E : cE p c cL_isAlias s m ([.ref (ad 0), .int x, .int y, .int z, .ref ao] : List Value).toArray (Cond.codeWith yL_isAlias cL_isAlias 6 (some .int) [(0, 19, 22, 21), (0, 19, 26, 13), (0, 19, 30, 15)] :: wsA) D RL tys := ⟨hx, hb, hts, hown, hK⟩
  have hl := lv_entry ([.ref (ad 0), .int x, .int y, .int z, .ref ao]) (n := 6) (Nat.le_of_ble_eq_true rfl)
  rw [lg_entry_eq]
  generalize (lg_sl ([.ref (ad 0), .int x, .int y, .int z, .ref ao]) ++ List.replicate (6 - (lg_sl ([.ref (ad 0), .int x, .int y, .int z, .ref ao])).length) Slot.unset).toArray = ls at hl ⊢
  have hl : lv_has ls 6 [(0, .ref (ad 0)), (1, .int x), (2, .int y), (3, .int z), (4, .ref ao)] := hl
  refine lv_aload hx hb dL_isAlias_0 (lv_at hl 4 rfl) ?_
  refine lv_iconst (v := 0) hx hb dL_isAlias_2 (by decide) ?_
  refine lv_aload_n hx hb dL_isAlias_3 rfl (lv_at hl 0 rfl) ?_
  refine lv_iload_n hx hb dL_isAlias_4 rfl (lv_at hl 1 rfl) ?_
  refine lv_iload_n hx hb dL_isAlias_5 rfl (lv_at hl 2 rfl) ?_
  refine lv_iload_n hx hb dL_isAlias_6 rfl (lv_at hl 3 rfl) ?_
  refine c_xvi (As := [.int x, .int y, .int z]) (rest := [.int 0, .ref ao]) E G hA hX rfl hml (k_isAlias l hst D tys ad N S h0N h0 hs hscN hsc hmc x y z) (cwV 3 hts (gaV qA_1049 qA_1050 qA_1051 qA_131 qA_847) rfl rfl rfl (by decide +kernel) ⟨Nat.le_of_ble_eq_true rfl, Nat.le_of_ble_eq_true rfl⟩) h0N h0 rfl rfl hl.1 rfl (lv_room (Nat.le_of_ble_eq_true rfl)) dL_isAlias_7 ⟨Nat.le_of_ble_eq_true rfl, Nat.le_of_ble_eq_true rfl⟩ (fun E9 ce q9 S1 H locs hp G hce hcv hcl => ?_) (fun r S1 H locs hq G => hq.elim)
  obtain ⟨hE, hS1⟩ := hp
  subst hE
  rw [hS1] at G
  refine vx_catch (name := xISE) hown [] { startPc := 0, endPc := 19, handlerPc := 22, catchType := 21 } [{ startPc := 0, endPc := 19, handlerPc := 26, catchType := 13 }, { startPc := 0, endPc := 19, handlerPc := 30, catchType := 15 }] htb (fun z hz => absurd hz List.not_mem_nil) (by decide) (by decide) (hts _ (.tail _ qA_952)) (hX.use (.castable xISE xISE) (by decide +kernel)) hce hcv hcl ?_
  refine lv_astore (lv' := [(5, .ref q9), (0, .ref (ad 0)), (1, .int x), (2, .int y), (3, .int z), (4, .ref ao)]) hx hb dL_isAlias_22 hl (by decide) rfl (fun ls hl => ?_)
  refine lv_iconst (v := 1) hx hb dL_isAlias_24 (by decide) ?_
  exact W.iret (v := 1) hx hb hr (fun t ht hW => ⟨⟨1, S, rfl, ⟨rfl, rfl⟩, ⟨by rw [ht]; exact G.1, va_K.moved hW.alike hK, G.2.1⟩⟩, G.2.2.F ht⟩) G.2.2.2.2 dL_isAlias_25
set_option maxHeartbeats 4000000 in
set_option maxRecDepth 100000 in
theorem w_aliases (l : Launch) (hst : l.stackTraces = false) (D : va_G) (tys : List (ClassId × FieldType)) (ad : Nat → Nat) (N : Nat) (S : Nat → va_E) {fs gs : List Value} {sc : Nat} (h0N : 0 < N) (h0 : S 0 = .inr (11, fs)) (hs : fs[14]? = some (.ref (ad sc))) (hscN : sc < N) (hsc : S sc = .inr (6, gs)) (hmc : gs[5]? = some (.int 0)) (x y : Int32) (ao : Nat) : cWi l yL_aliases (Cond.codeWith yL_aliases cL_aliases 5 (some .int) [(0, 10, 13, 21), (0, 10, 17, 15)] :: wsA) 8 126 D tys ad N S [.ref (ad 0), .int x, .int y, .ref ao] (fun r S1 => r = 1 ∧ S1 = S) := by
  intro sz
  refine va_MetW (cc := cL_aliases) (maxL := 5) (ret := some .int) (by decide) rfl ?_
  intro p e s m args below meth c s₁ B hml hv
  obtain ⟨rfl, hsz, hP, hK, hD0, hX, hN_xIAE_xIOB, hN_xISE_xIOB⟩ := hv
  have hx := B.exec
  have hb := B.bytes
  have hr := B.returns
  have hts := atoms_spec (ws := (Cond.codeWith yL_aliases cL_aliases 5 (some .int) [(0, 10, 13, 21), (0, 10, 17, 15)] :: wsA)) B.pre
  have hown : s.vm.findClass RL = some m.cls := findClass_of_methodNamed B.named
  have hlocks := B.notSynchronized
  have htb := vx_table (x := yL_aliases) B (hts _ (.head _))
  subst hsz
  have hD := hD0.self (sz := s.heap.size)
  generalize hAe : va_A (cW ad N S) s.heap.size = A at hD hX ⊢
  have hA : ∀ q : Nat, s.heap.size ≤ q → A q := fun q h => by rw [← hAe]; exact Or.inr h
  have G : cG D ad N A s.heap s.heap [] S := ⟨hP, hD, va_S.rf⟩
  have E : cE p c cL_aliases s m ([.ref (ad 0), .int x, .int y, .ref ao] : List Value).toArray (Cond.codeWith yL_aliases cL_aliases 5 (some .int) [(0, 10, 13, 21), (0, 10, 17, 15)] :: wsA) D RL tys := ⟨hx, hb, hts, hown, hK⟩
  have hl := lv_entry ([.ref (ad 0), .int x, .int y, .ref ao]) (n := 5) (Nat.le_of_ble_eq_true rfl)
  rw [lg_entry_eq]
  generalize (lg_sl ([.ref (ad 0), .int x, .int y, .ref ao]) ++ List.replicate (5 - (lg_sl ([.ref (ad 0), .int x, .int y, .ref ao])).length) Slot.unset).toArray = ls at hl ⊢
  have hl : lv_has ls 5 [(0, .ref (ad 0)), (1, .int x), (2, .int y), (3, .ref ao)] := hl
  refine lv_aload_n hx hb dL_aliases_0 rfl (lv_at hl 3 rfl) ?_
  refine lv_iconst (v := 0) hx hb dL_aliases_1 (by decide) ?_
  refine lv_aload_n hx hb dL_aliases_2 rfl (lv_at hl 0 rfl) ?_
  refine lv_iload_n hx hb dL_aliases_3 rfl (lv_at hl 1 rfl) ?_
  refine lv_iload_n hx hb dL_aliases_4 rfl (lv_at hl 2 rfl) ?_
  refine c_xvi (As := [.int x, .int y]) (rest := [.int 0, .ref ao]) E G hA hX rfl hml (k_aliases l hst D tys ad N S h0N h0 hs hscN hsc hmc x y) (cwV 2 hts (gaV qA_1053 qA_1054 qA_1055 qA_131 qA_855) rfl rfl rfl (by decide +kernel) ⟨Nat.le_of_ble_eq_true rfl, Nat.le_of_ble_eq_true rfl⟩) h0N h0 rfl rfl hl.1 rfl (lv_room (Nat.le_of_ble_eq_true rfl)) dL_aliases_5 ⟨Nat.le_of_ble_eq_true rfl, Nat.le_of_ble_eq_true rfl⟩ (fun E9 ce q9 S1 H locs hp G hce hcv hcl => ?_) (fun r S1 H locs hq G => hq.elim)
  obtain ⟨hE, hS1⟩ := hp
  subst hE
  rw [hS1] at G
  refine vx_catch (name := xISE) hown [] { startPc := 0, endPc := 10, handlerPc := 13, catchType := 21 } [{ startPc := 0, endPc := 10, handlerPc := 17, catchType := 15 }] htb (fun z hz => absurd hz List.not_mem_nil) (by decide) (by decide) (hts _ (.tail _ qA_952)) (hX.use (.castable xISE xISE) (by decide +kernel)) hce hcv hcl ?_
  refine lv_astore (lv' := [(4, .ref q9), (0, .ref (ad 0)), (1, .int x), (2, .int y), (3, .ref ao)]) hx hb dL_aliases_13 hl (by decide) rfl (fun ls hl => ?_)
  refine lv_iconst (v := 1) hx hb dL_aliases_15 (by decide) ?_
  exact W.iret (v := 1) hx hb hr (fun t ht hW => ⟨⟨1, S, rfl, ⟨rfl, rfl⟩, ⟨by rw [ht]; exact G.1, va_K.moved hW.alike hK, G.2.1⟩⟩, G.2.2.F ht⟩) G.2.2.2.2 dL_aliases_16
set_option maxHeartbeats 4000000 in
set_option maxRecDepth 100000 in
theorem w_blockPower (l : Launch) (hst : l.stackTraces = false) (D : va_G) (tys : List (ClassId × FieldType)) (ad : Nat → Nat) (N : Nat) (S : Nat → va_E) {fs gs : List Value} {sc : Nat} (h0N : 0 < N) (h0 : S 0 = .inr (11, fs)) (hs : fs[14]? = some (.ref (ad sc))) (hscN : sc < N) (hsc : S sc = .inr (6, gs)) (hmc : gs[5]? = some (.int 0)) (x y z : Int32) (ao : Nat) : cWi l yL_blockPower (Cond.codeWith yL_blockPower cL_blockPower 6 (some .int) [(0, 11, 14, 21), (0, 11, 18, 13), (0, 11, 22, 15)] :: wsA) 8 124 D tys ad N S [.ref (ad 0), .int x, .int y, .int z, .ref ao] (fun r S1 => r = 1 ∧ S1 = S) := by
  intro sz
  refine va_MetW (cc := cL_blockPower) (maxL := 6) (ret := some .int) (by decide) rfl ?_
  intro p e s m args below meth c s₁ B hml hv
  obtain ⟨rfl, hsz, hP, hK, hD0, hX, hN_xIAE_xIOB, hN_xISE_xIOB⟩ := hv
  have hx := B.exec
  have hb := B.bytes
  have hr := B.returns
  have hts := atoms_spec (ws := (Cond.codeWith yL_blockPower cL_blockPower 6 (some .int) [(0, 11, 14, 21), (0, 11, 18, 13), (0, 11, 22, 15)] :: wsA)) B.pre
  have hown : s.vm.findClass RL = some m.cls := findClass_of_methodNamed B.named
  have hlocks := B.notSynchronized
  have htb := vx_table (x := yL_blockPower) B (hts _ (.head _))
  subst hsz
  have hD := hD0.self (sz := s.heap.size)
  generalize hAe : va_A (cW ad N S) s.heap.size = A at hD hX ⊢
  have hA : ∀ q : Nat, s.heap.size ≤ q → A q := fun q h => by rw [← hAe]; exact Or.inr h
  have G : cG D ad N A s.heap s.heap [] S := ⟨hP, hD, va_S.rf⟩
  have E : cE p c cL_blockPower s m ([.ref (ad 0), .int x, .int y, .int z, .ref ao] : List Value).toArray (Cond.codeWith yL_blockPower cL_blockPower 6 (some .int) [(0, 11, 14, 21), (0, 11, 18, 13), (0, 11, 22, 15)] :: wsA) D RL tys := ⟨hx, hb, hts, hown, hK⟩
  have hl := lv_entry ([.ref (ad 0), .int x, .int y, .int z, .ref ao]) (n := 6) (Nat.le_of_ble_eq_true rfl)
  rw [lg_entry_eq]
  generalize (lg_sl ([.ref (ad 0), .int x, .int y, .int z, .ref ao]) ++ List.replicate (6 - (lg_sl ([.ref (ad 0), .int x, .int y, .int z, .ref ao])).length) Slot.unset).toArray = ls at hl ⊢
  have hl : lv_has ls 6 [(0, .ref (ad 0)), (1, .int x), (2, .int y), (3, .int z), (4, .ref ao)] := hl
  refine lv_aload hx hb dL_blockPower_0 (lv_at hl 4 rfl) ?_
  refine lv_iconst (v := 0) hx hb dL_blockPower_2 (by decide) ?_
  refine lv_aload_n hx hb dL_blockPower_3 rfl (lv_at hl 0 rfl) ?_
  refine lv_iload_n hx hb dL_blockPower_4 rfl (lv_at hl 1 rfl) ?_
  refine lv_iload_n hx hb dL_blockPower_5 rfl (lv_at hl 2 rfl) ?_
  refine lv_iload_n hx hb dL_blockPower_6 rfl (lv_at hl 3 rfl) ?_
  refine c_xvl (As := [.int x, .int y, .int z]) (rest := [.int 0, .ref ao]) E G hA hX rfl hml (k_blockPower l hst D tys ad N S h0N h0 hs hscN hsc hmc x y z) (cwV 3 hts (gaV qA_1057 qA_1058 qA_1059 qA_131 qA_856) rfl rfl rfl (by decide +kernel) ⟨Nat.le_of_ble_eq_true rfl, Nat.le_of_ble_eq_true rfl⟩) h0N h0 rfl rfl hl.1 rfl (lv_room (Nat.le_of_ble_eq_true rfl)) dL_blockPower_7 ⟨Nat.le_of_ble_eq_true rfl, Nat.le_of_ble_eq_true rfl⟩ (fun E9 ce q9 S1 H locs hp G hce hcv hcl => ?_) (fun r S1 H locs hq G => hq.elim)
  obtain ⟨hE, hS1⟩ := hp
  subst hE
  rw [hS1] at G
  refine vx_catch (name := xISE) hown [] { startPc := 0, endPc := 11, handlerPc := 14, catchType := 21 } [{ startPc := 0, endPc := 11, handlerPc := 18, catchType := 13 }, { startPc := 0, endPc := 11, handlerPc := 22, catchType := 15 }] htb (fun z hz => absurd hz List.not_mem_nil) (by decide) (by decide) (hts _ (.tail _ qA_952)) (hX.use (.castable xISE xISE) (by decide +kernel)) hce hcv hcl ?_
  refine lv_astore (lv' := [(5, .ref q9), (0, .ref (ad 0)), (1, .int x), (2, .int y), (3, .int z), (4, .ref ao)]) hx hb dL_blockPower_14 hl (by decide) rfl (fun ls hl => ?_)
  refine lv_iconst (v := 1) hx hb dL_blockPower_16 (by decide) ?_
  exact W.iret (v := 1) hx hb hr (fun t ht hW => ⟨⟨1, S, rfl, ⟨rfl, rfl⟩, ⟨by rw [ht]; exact G.1, va_K.moved hW.alike hK, G.2.1⟩⟩, G.2.2.F ht⟩) G.2.2.2.2 dL_blockPower_17
set_option maxHeartbeats 4000000 in
set_option maxRecDepth 100000 in
theorem w_blockBest (l : Launch) (hst : l.stackTraces = false) (D : va_G) (tys : List (ClassId × FieldType)) (ad : Nat → Nat) (N : Nat) (S : Nat → va_E) {fs gs : List Value} {sc : Nat} (h0N : 0 < N) (h0 : S 0 = .inr (11, fs)) (hs : fs[14]? = some (.ref (ad sc))) (hscN : sc < N) (hsc : S sc = .inr (6, gs)) (hmc : gs[5]? = some (.int 0)) (x y : Int32) (ao : Nat) : cWi l yL_blockBest (Cond.codeWith yL_blockBest cL_blockBest 5 (some .int) [(0, 10, 13, 21), (0, 10, 17, 15)] :: wsA) 8 123 D tys ad N S [.ref (ad 0), .int x, .int y, .ref ao] (fun r S1 => r = 1 ∧ S1 = S) := by
  intro sz
  refine va_MetW (cc := cL_blockBest) (maxL := 5) (ret := some .int) (by decide) rfl ?_
  intro p e s m args below meth c s₁ B hml hv
  obtain ⟨rfl, hsz, hP, hK, hD0, hX, hN_xIAE_xIOB, hN_xISE_xIOB⟩ := hv
  have hx := B.exec
  have hb := B.bytes
  have hr := B.returns
  have hts := atoms_spec (ws := (Cond.codeWith yL_blockBest cL_blockBest 5 (some .int) [(0, 10, 13, 21), (0, 10, 17, 15)] :: wsA)) B.pre
  have hown : s.vm.findClass RL = some m.cls := findClass_of_methodNamed B.named
  have hlocks := B.notSynchronized
  have htb := vx_table (x := yL_blockBest) B (hts _ (.head _))
  subst hsz
  have hD := hD0.self (sz := s.heap.size)
  generalize hAe : va_A (cW ad N S) s.heap.size = A at hD hX ⊢
  have hA : ∀ q : Nat, s.heap.size ≤ q → A q := fun q h => by rw [← hAe]; exact Or.inr h
  have G : cG D ad N A s.heap s.heap [] S := ⟨hP, hD, va_S.rf⟩
  have E : cE p c cL_blockBest s m ([.ref (ad 0), .int x, .int y, .ref ao] : List Value).toArray (Cond.codeWith yL_blockBest cL_blockBest 5 (some .int) [(0, 10, 13, 21), (0, 10, 17, 15)] :: wsA) D RL tys := ⟨hx, hb, hts, hown, hK⟩
  have hl := lv_entry ([.ref (ad 0), .int x, .int y, .ref ao]) (n := 5) (Nat.le_of_ble_eq_true rfl)
  rw [lg_entry_eq]
  generalize (lg_sl ([.ref (ad 0), .int x, .int y, .ref ao]) ++ List.replicate (5 - (lg_sl ([.ref (ad 0), .int x, .int y, .ref ao])).length) Slot.unset).toArray = ls at hl ⊢
  have hl : lv_has ls 5 [(0, .ref (ad 0)), (1, .int x), (2, .int y), (3, .ref ao)] := hl
  refine lv_aload_n hx hb dL_blockBest_0 rfl (lv_at hl 3 rfl) ?_
  refine lv_iconst (v := 0) hx hb dL_blockBest_1 (by decide) ?_
  refine lv_aload_n hx hb dL_blockBest_2 rfl (lv_at hl 0 rfl) ?_
  refine lv_iload_n hx hb dL_blockBest_3 rfl (lv_at hl 1 rfl) ?_
  refine lv_iload_n hx hb dL_blockBest_4 rfl (lv_at hl 2 rfl) ?_
  refine c_xvi (As := [.int x, .int y]) (rest := [.int 0, .ref ao]) E G hA hX rfl hml (k_blockBest l hst D tys ad N S h0N h0 hs hscN hsc hmc x y) (cwV 2 hts (gaV qA_1061 qA_1062 qA_1063 qA_131 qA_858) rfl rfl rfl (by decide +kernel) ⟨Nat.le_of_ble_eq_true rfl, Nat.le_of_ble_eq_true rfl⟩) h0N h0 rfl rfl hl.1 rfl (lv_room (Nat.le_of_ble_eq_true rfl)) dL_blockBest_5 ⟨Nat.le_of_ble_eq_true rfl, Nat.le_of_ble_eq_true rfl⟩ (fun E9 ce q9 S1 H locs hp G hce hcv hcl => ?_) (fun r S1 H locs hq G => hq.elim)
  obtain ⟨hE, hS1⟩ := hp
  subst hE
  rw [hS1] at G
  refine vx_catch (name := xISE) hown [] { startPc := 0, endPc := 10, handlerPc := 13, catchType := 21 } [{ startPc := 0, endPc := 10, handlerPc := 17, catchType := 15 }] htb (fun z hz => absurd hz List.not_mem_nil) (by decide) (by decide) (hts _ (.tail _ qA_952)) (hX.use (.castable xISE xISE) (by decide +kernel)) hce hcv hcl ?_
  refine lv_astore (lv' := [(4, .ref q9), (0, .ref (ad 0)), (1, .int x), (2, .int y), (3, .ref ao)]) hx hb dL_blockBest_13 hl (by decide) rfl (fun ls hl => ?_)
  refine lv_iconst (v := 1) hx hb dL_blockBest_15 (by decide) ?_
  exact W.iret (v := 1) hx hb hr (fun t ht hW => ⟨⟨1, S, rfl, ⟨rfl, rfl⟩, ⟨by rw [ht]; exact G.1, va_K.moved hW.alike hK, G.2.1⟩⟩, G.2.2.F ht⟩) G.2.2.2.2 dL_blockBest_16
set_option maxHeartbeats 4000000 in
set_option maxRecDepth 100000 in
theorem w_path (l : Launch) (hst : l.stackTraces = false) (D : va_G) (tys : List (ClassId × FieldType)) (ad : Nat → Nat) (N : Nat) (S : Nat → va_E) {fs gs : List Value} {sc : Nat} (h0N : 0 < N) (h0 : S 0 = .inr (11, fs)) (hs : fs[14]? = some (.ref (ad sc))) (hscN : sc < N) (hsc : S sc = .inr (6, gs)) (hmc : gs[5]? = some (.int 0)) (x : Int32) (ao : Nat) : cWi l yL_path (Cond.codeWith yL_path cL_path 4 (some .int) [(0, 9, 12, 21), (0, 9, 15, 15)] :: wsA) 8 126 D tys ad N S [.ref (ad 0), .int x, .ref ao] (fun r S1 => r = 1 ∧ S1 = S) := by
  intro sz
  refine va_MetW (cc := cL_path) (maxL := 4) (ret := some .int) (by decide) rfl ?_
  intro p e s m args below meth c s₁ B hml hv
  obtain ⟨rfl, hsz, hP, hK, hD0, hX, hN_xIAE_xIOB, hN_xISE_xIOB⟩ := hv
  have hx := B.exec
  have hb := B.bytes
  have hr := B.returns
  have hts := atoms_spec (ws := (Cond.codeWith yL_path cL_path 4 (some .int) [(0, 9, 12, 21), (0, 9, 15, 15)] :: wsA)) B.pre
  have hown : s.vm.findClass RL = some m.cls := findClass_of_methodNamed B.named
  have hlocks := B.notSynchronized
  have htb := vx_table (x := yL_path) B (hts _ (.head _))
  subst hsz
  have hD := hD0.self (sz := s.heap.size)
  generalize hAe : va_A (cW ad N S) s.heap.size = A at hD hX ⊢
  have hA : ∀ q : Nat, s.heap.size ≤ q → A q := fun q h => by rw [← hAe]; exact Or.inr h
  have G : cG D ad N A s.heap s.heap [] S := ⟨hP, hD, va_S.rf⟩
  have E : cE p c cL_path s m ([.ref (ad 0), .int x, .ref ao] : List Value).toArray (Cond.codeWith yL_path cL_path 4 (some .int) [(0, 9, 12, 21), (0, 9, 15, 15)] :: wsA) D RL tys := ⟨hx, hb, hts, hown, hK⟩
  have hl := lv_entry ([.ref (ad 0), .int x, .ref ao]) (n := 4) (Nat.le_of_ble_eq_true rfl)
  rw [lg_entry_eq]
  generalize (lg_sl ([.ref (ad 0), .int x, .ref ao]) ++ List.replicate (4 - (lg_sl ([.ref (ad 0), .int x, .ref ao])).length) Slot.unset).toArray = ls at hl ⊢
  have hl : lv_has ls 4 [(0, .ref (ad 0)), (1, .int x), (2, .ref ao)] := hl
  refine lv_aload_n hx hb dL_path_0 rfl (lv_at hl 2 rfl) ?_
  refine lv_iconst (v := 0) hx hb dL_path_1 (by decide) ?_
  refine lv_aload_n hx hb dL_path_2 rfl (lv_at hl 0 rfl) ?_
  refine lv_iload_n hx hb dL_path_3 rfl (lv_at hl 1 rfl) ?_
  refine c_xvi (As := [.int x]) (rest := [.int 0, .ref ao]) E G hA hX rfl hml (k_path l hst D tys ad N S h0N h0 hs hscN hsc hmc x) (cwV 1 hts (gaV qA_1065 qA_1066 qA_1067 qA_131 qA_862) rfl rfl rfl (by decide +kernel) ⟨Nat.le_of_ble_eq_true rfl, Nat.le_of_ble_eq_true rfl⟩) h0N h0 rfl rfl hl.1 rfl (lv_room (Nat.le_of_ble_eq_true rfl)) dL_path_4 ⟨Nat.le_of_ble_eq_true rfl, Nat.le_of_ble_eq_true rfl⟩ (fun E9 ce q9 S1 H locs hp G hce hcv hcl => ?_) (fun r S1 H locs hq G => hq.elim)
  obtain ⟨hE, hS1⟩ := hp
  subst hE
  rw [hS1] at G
  refine vx_catch (name := xISE) hown [] { startPc := 0, endPc := 9, handlerPc := 12, catchType := 21 } [{ startPc := 0, endPc := 9, handlerPc := 15, catchType := 15 }] htb (fun z hz => absurd hz List.not_mem_nil) (by decide) (by decide) (hts _ (.tail _ qA_952)) (hX.use (.castable xISE xISE) (by decide +kernel)) hce hcv hcl ?_
  refine lv_astore_n (lv' := [(3, .ref q9), (0, .ref (ad 0)), (1, .int x), (2, .ref ao)]) hx hb dL_path_12 rfl hl (by decide) rfl (fun ls hl => ?_)
  refine lv_iconst (v := 1) hx hb dL_path_13 (by decide) ?_
  exact W.iret (v := 1) hx hb hr (fun t ht hW => ⟨⟨1, S, rfl, ⟨rfl, rfl⟩, ⟨by rw [ht]; exact G.1, va_K.moved hW.alike hK, G.2.1⟩⟩, G.2.2.F ht⟩) G.2.2.2.2 dL_path_14
set_option maxHeartbeats 4000000 in
set_option maxRecDepth 100000 in
theorem w_trackScore (l : Launch) (hst : l.stackTraces = false) (D : va_G) (tys : List (ClassId × FieldType)) (ad : Nat → Nat) (N : Nat) (S : Nat → va_E) {fs gs : List Value} {sc : Nat} (h0N : 0 < N) (h0 : S 0 = .inr (11, fs)) (hs : fs[14]? = some (.ref (ad sc))) (hscN : sc < N) (hsc : S sc = .inr (6, gs)) (hmc : gs[5]? = some (.int 0)) (x : Int32) (ao : Nat) : cWi l yL_trackScore (Cond.codeWith yL_trackScore cL_trackScore 4 (some .int) [(0, 8, 11, 21), (0, 8, 14, 15)] :: wsA) 8 122 D tys ad N S [.ref (ad 0), .int x, .ref ao] (fun r S1 => r = 1 ∧ S1 = S) := by
  intro sz
  refine va_MetW (cc := cL_trackScore) (maxL := 4) (ret := some .int) (by decide) rfl ?_
  intro p e s m args below meth c s₁ B hml hv
  obtain ⟨rfl, hsz, hP, hK, hD0, hX, hN_xIAE_xIOB, hN_xISE_xIOB⟩ := hv
  have hx := B.exec
  have hb := B.bytes
  have hr := B.returns
  have hts := atoms_spec (ws := (Cond.codeWith yL_trackScore cL_trackScore 4 (some .int) [(0, 8, 11, 21), (0, 8, 14, 15)] :: wsA)) B.pre
  have hown : s.vm.findClass RL = some m.cls := findClass_of_methodNamed B.named
  have hlocks := B.notSynchronized
  have htb := vx_table (x := yL_trackScore) B (hts _ (.head _))
  subst hsz
  have hD := hD0.self (sz := s.heap.size)
  generalize hAe : va_A (cW ad N S) s.heap.size = A at hD hX ⊢
  have hA : ∀ q : Nat, s.heap.size ≤ q → A q := fun q h => by rw [← hAe]; exact Or.inr h
  have G : cG D ad N A s.heap s.heap [] S := ⟨hP, hD, va_S.rf⟩
  have E : cE p c cL_trackScore s m ([.ref (ad 0), .int x, .ref ao] : List Value).toArray (Cond.codeWith yL_trackScore cL_trackScore 4 (some .int) [(0, 8, 11, 21), (0, 8, 14, 15)] :: wsA) D RL tys := ⟨hx, hb, hts, hown, hK⟩
  have hl := lv_entry ([.ref (ad 0), .int x, .ref ao]) (n := 4) (Nat.le_of_ble_eq_true rfl)
  rw [lg_entry_eq]
  generalize (lg_sl ([.ref (ad 0), .int x, .ref ao]) ++ List.replicate (4 - (lg_sl ([.ref (ad 0), .int x, .ref ao])).length) Slot.unset).toArray = ls at hl ⊢
  have hl : lv_has ls 4 [(0, .ref (ad 0)), (1, .int x), (2, .ref ao)] := hl
  refine lv_aload_n hx hb dL_trackScore_0 rfl (lv_at hl 2 rfl) ?_
  refine lv_iconst (v := 0) hx hb dL_trackScore_1 (by decide) ?_
  refine lv_aload_n hx hb dL_trackScore_2 rfl (lv_at hl 0 rfl) ?_
  refine lv_iload_n hx hb dL_trackScore_3 rfl (lv_at hl 1 rfl) ?_
  refine c_xvl (As := [.int x]) (rest := [.int 0, .ref ao]) E G hA hX rfl hml (k_trackScore l hst D tys ad N S h0N h0 hs hscN hsc hmc x) (cwV 1 hts (gaV qA_1069 qA_1070 qA_1071 qA_131 qA_863) rfl rfl rfl (by decide +kernel) ⟨Nat.le_of_ble_eq_true rfl, Nat.le_of_ble_eq_true rfl⟩) h0N h0 rfl rfl hl.1 rfl (lv_room (Nat.le_of_ble_eq_true rfl)) dL_trackScore_4 ⟨Nat.le_of_ble_eq_true rfl, Nat.le_of_ble_eq_true rfl⟩ (fun E9 ce q9 S1 H locs hp G hce hcv hcl => ?_) (fun r S1 H locs hq G => hq.elim)
  obtain ⟨hE, hS1⟩ := hp
  subst hE
  rw [hS1] at G
  refine vx_catch (name := xISE) hown [] { startPc := 0, endPc := 8, handlerPc := 11, catchType := 21 } [{ startPc := 0, endPc := 8, handlerPc := 14, catchType := 15 }] htb (fun z hz => absurd hz List.not_mem_nil) (by decide) (by decide) (hts _ (.tail _ qA_952)) (hX.use (.castable xISE xISE) (by decide +kernel)) hce hcv hcl ?_
  refine lv_astore_n (lv' := [(3, .ref q9), (0, .ref (ad 0)), (1, .int x), (2, .ref ao)]) hx hb dL_trackScore_11 rfl hl (by decide) rfl (fun ls hl => ?_)
  refine lv_iconst (v := 1) hx hb dL_trackScore_12 (by decide) ?_
  exact W.iret (v := 1) hx hb hr (fun t ht hW => ⟨⟨1, S, rfl, ⟨rfl, rfl⟩, ⟨by rw [ht]; exact G.1, va_K.moved hW.alike hK, G.2.1⟩⟩, G.2.2.F ht⟩) G.2.2.2.2 dL_trackScore_13
set_option maxHeartbeats 4000000 in
set_option maxRecDepth 100000 in
theorem w_trackCell (l : Launch) (hst : l.stackTraces = false) (D : va_G) (tys : List (ClassId × FieldType)) (ad : Nat → Nat) (N : Nat) (S : Nat → va_E) {fs gs : List Value} {sc : Nat} (h0N : 0 < N) (h0 : S 0 = .inr (11, fs)) (hs : fs[14]? = some (.ref (ad sc))) (hscN : sc < N) (hsc : S sc = .inr (6, gs)) (hmc : gs[5]? = some (.int 0)) (x y : Int32) (ao : Nat) : cWi l yL_trackCell (Cond.codeWith yL_trackCell cL_trackCell 5 (some .int) [(0, 10, 13, 21), (0, 10, 17, 13), (0, 10, 21, 15)] :: wsA) 8 124 D tys ad N S [.ref (ad 0), .int x, .int y, .ref ao] (fun r S1 => r = 1 ∧ S1 = S) := by
  intro sz
  refine va_MetW (cc := cL_trackCell) (maxL := 5) (ret := some .int) (by decide) rfl ?_
  intro p e s m args below meth c s₁ B hml hv
  obtain ⟨rfl, hsz, hP, hK, hD0, hX, hN_xIAE_xIOB, hN_xISE_xIOB⟩ := hv
  have hx := B.exec
  have hb := B.bytes
  have hr := B.returns
  have hts := atoms_spec (ws := (Cond.codeWith yL_trackCell cL_trackCell 5 (some .int) [(0, 10, 13, 21), (0, 10, 17, 13), (0, 10, 21, 15)] :: wsA)) B.pre
  have hown : s.vm.findClass RL = some m.cls := findClass_of_methodNamed B.named
  have hlocks := B.notSynchronized
  have htb := vx_table (x := yL_trackCell) B (hts _ (.head _))
  subst hsz
  have hD := hD0.self (sz := s.heap.size)
  generalize hAe : va_A (cW ad N S) s.heap.size = A at hD hX ⊢
  have hA : ∀ q : Nat, s.heap.size ≤ q → A q := fun q h => by rw [← hAe]; exact Or.inr h
  have G : cG D ad N A s.heap s.heap [] S := ⟨hP, hD, va_S.rf⟩
  have E : cE p c cL_trackCell s m ([.ref (ad 0), .int x, .int y, .ref ao] : List Value).toArray (Cond.codeWith yL_trackCell cL_trackCell 5 (some .int) [(0, 10, 13, 21), (0, 10, 17, 13), (0, 10, 21, 15)] :: wsA) D RL tys := ⟨hx, hb, hts, hown, hK⟩
  have hl := lv_entry ([.ref (ad 0), .int x, .int y, .ref ao]) (n := 5) (Nat.le_of_ble_eq_true rfl)
  rw [lg_entry_eq]
  generalize (lg_sl ([.ref (ad 0), .int x, .int y, .ref ao]) ++ List.replicate (5 - (lg_sl ([.ref (ad 0), .int x, .int y, .ref ao])).length) Slot.unset).toArray = ls at hl ⊢
  have hl : lv_has ls 5 [(0, .ref (ad 0)), (1, .int x), (2, .int y), (3, .ref ao)] := hl
  refine lv_aload_n hx hb dL_trackCell_0 rfl (lv_at hl 3 rfl) ?_
  refine lv_iconst (v := 0) hx hb dL_trackCell_1 (by decide) ?_
  refine lv_aload_n hx hb dL_trackCell_2 rfl (lv_at hl 0 rfl) ?_
  refine lv_iload_n hx hb dL_trackCell_3 rfl (lv_at hl 1 rfl) ?_
  refine lv_iload_n hx hb dL_trackCell_4 rfl (lv_at hl 2 rfl) ?_
  refine c_xvi (As := [.int x, .int y]) (rest := [.int 0, .ref ao]) E G hA hX rfl hml (k_trackCell l hst D tys ad N S h0N h0 hs hscN hsc hmc x y) (cwV 2 hts (gaV qA_1073 qA_1074 qA_1075 qA_131 qA_871) rfl rfl rfl (by decide +kernel) ⟨Nat.le_of_ble_eq_true rfl, Nat.le_of_ble_eq_true rfl⟩) h0N h0 rfl rfl hl.1 rfl (lv_room (Nat.le_of_ble_eq_true rfl)) dL_trackCell_5 ⟨Nat.le_of_ble_eq_true rfl, Nat.le_of_ble_eq_true rfl⟩ (fun E9 ce q9 S1 H locs hp G hce hcv hcl => ?_) (fun r S1 H locs hq G => hq.elim)
  obtain ⟨hE, hS1⟩ := hp
  subst hE
  rw [hS1] at G
  refine vx_catch (name := xISE) hown [] { startPc := 0, endPc := 10, handlerPc := 13, catchType := 21 } [{ startPc := 0, endPc := 10, handlerPc := 17, catchType := 13 }, { startPc := 0, endPc := 10, handlerPc := 21, catchType := 15 }] htb (fun z hz => absurd hz List.not_mem_nil) (by decide) (by decide) (hts _ (.tail _ qA_952)) (hX.use (.castable xISE xISE) (by decide +kernel)) hce hcv hcl ?_
  refine lv_astore (lv' := [(4, .ref q9), (0, .ref (ad 0)), (1, .int x), (2, .int y), (3, .ref ao)]) hx hb dL_trackCell_13 hl (by decide) rfl (fun ls hl => ?_)
  refine lv_iconst (v := 1) hx hb dL_trackCell_15 (by decide) ?_
  exact W.iret (v := 1) hx hb hr (fun t ht hW => ⟨⟨1, S, rfl, ⟨rfl, rfl⟩, ⟨by rw [ht]; exact G.1, va_K.moved hW.alike hK, G.2.1⟩⟩, G.2.2.F ht⟩) G.2.2.2.2 dL_trackCell_16
set_option maxHeartbeats 4000000 in
set_option maxRecDepth 100000 in
theorem w_movingPower (l : Launch) (hst : l.stackTraces = false) (D : va_G) (tys : List (ClassId × FieldType)) (ad : Nat → Nat) (N : Nat) (S : Nat → va_E) {fs gs : List Value} {sc : Nat} (h0N : 0 < N) (h0 : S 0 = .inr (11, fs)) (hs : fs[14]? = some (.ref (ad sc))) (hscN : sc < N) (hsc : S sc = .inr (6, gs)) (hmc : gs[5]? = some (.int 0)) (x y z : Int32) (ao : Nat) : cWi l yL_movingPower (Cond.codeWith yL_movingPower cL_movingPower 6 (some .int) [(0, 11, 14, 21), (0, 11, 18, 13), (0, 11, 22, 15)] :: wsA) 8 124 D tys ad N S [.ref (ad 0), .int x, .int y, .int z, .ref ao] (fun r S1 => r = 1 ∧ S1 = S) := by
  intro sz
  refine va_MetW (cc := cL_movingPower) (maxL := 6) (ret := some .int) (by decide) rfl ?_
  intro p e s m args below meth c s₁ B hml hv
  obtain ⟨rfl, hsz, hP, hK, hD0, hX, hN_xIAE_xIOB, hN_xISE_xIOB⟩ := hv
  have hx := B.exec
  have hb := B.bytes
  have hr := B.returns
  have hts := atoms_spec (ws := (Cond.codeWith yL_movingPower cL_movingPower 6 (some .int) [(0, 11, 14, 21), (0, 11, 18, 13), (0, 11, 22, 15)] :: wsA)) B.pre
  have hown : s.vm.findClass RL = some m.cls := findClass_of_methodNamed B.named
  have hlocks := B.notSynchronized
  have htb := vx_table (x := yL_movingPower) B (hts _ (.head _))
  subst hsz
  have hD := hD0.self (sz := s.heap.size)
  generalize hAe : va_A (cW ad N S) s.heap.size = A at hD hX ⊢
  have hA : ∀ q : Nat, s.heap.size ≤ q → A q := fun q h => by rw [← hAe]; exact Or.inr h
  have G : cG D ad N A s.heap s.heap [] S := ⟨hP, hD, va_S.rf⟩
  have E : cE p c cL_movingPower s m ([.ref (ad 0), .int x, .int y, .int z, .ref ao] : List Value).toArray (Cond.codeWith yL_movingPower cL_movingPower 6 (some .int) [(0, 11, 14, 21), (0, 11, 18, 13), (0, 11, 22, 15)] :: wsA) D RL tys := ⟨hx, hb, hts, hown, hK⟩
  have hl := lv_entry ([.ref (ad 0), .int x, .int y, .int z, .ref ao]) (n := 6) (Nat.le_of_ble_eq_true rfl)
  rw [lg_entry_eq]
  generalize (lg_sl ([.ref (ad 0), .int x, .int y, .int z, .ref ao]) ++ List.replicate (6 - (lg_sl ([.ref (ad 0), .int x, .int y, .int z, .ref ao])).length) Slot.unset).toArray = ls at hl ⊢
  have hl : lv_has ls 6 [(0, .ref (ad 0)), (1, .int x), (2, .int y), (3, .int z), (4, .ref ao)] := hl
  refine lv_aload hx hb dL_movingPower_0 (lv_at hl 4 rfl) ?_
  refine lv_iconst (v := 0) hx hb dL_movingPower_2 (by decide) ?_
  refine lv_aload_n hx hb dL_movingPower_3 rfl (lv_at hl 0 rfl) ?_
  refine lv_iload_n hx hb dL_movingPower_4 rfl (lv_at hl 1 rfl) ?_
  refine lv_iload_n hx hb dL_movingPower_5 rfl (lv_at hl 2 rfl) ?_
  refine lv_iload_n hx hb dL_movingPower_6 rfl (lv_at hl 3 rfl) ?_
  refine c_xvl (As := [.int x, .int y, .int z]) (rest := [.int 0, .ref ao]) E G hA hX rfl hml (k_movingPower l hst D tys ad N S h0N h0 hs hscN hsc hmc x y z) (cwV 3 hts (gaV qA_1077 qA_1078 qA_1079 qA_131 qA_873) rfl rfl rfl (by decide +kernel) ⟨Nat.le_of_ble_eq_true rfl, Nat.le_of_ble_eq_true rfl⟩) h0N h0 rfl rfl hl.1 rfl (lv_room (Nat.le_of_ble_eq_true rfl)) dL_movingPower_7 ⟨Nat.le_of_ble_eq_true rfl, Nat.le_of_ble_eq_true rfl⟩ (fun E9 ce q9 S1 H locs hp G hce hcv hcl => ?_) (fun r S1 H locs hq G => hq.elim)
  obtain ⟨hE, hS1⟩ := hp
  subst hE
  rw [hS1] at G
  refine vx_catch (name := xISE) hown [] { startPc := 0, endPc := 11, handlerPc := 14, catchType := 21 } [{ startPc := 0, endPc := 11, handlerPc := 18, catchType := 13 }, { startPc := 0, endPc := 11, handlerPc := 22, catchType := 15 }] htb (fun z hz => absurd hz List.not_mem_nil) (by decide) (by decide) (hts _ (.tail _ qA_952)) (hX.use (.castable xISE xISE) (by decide +kernel)) hce hcv hcl ?_
  refine lv_astore (lv' := [(5, .ref q9), (0, .ref (ad 0)), (1, .int x), (2, .int y), (3, .int z), (4, .ref ao)]) hx hb dL_movingPower_14 hl (by decide) rfl (fun ls hl => ?_)
  refine lv_iconst (v := 1) hx hb dL_movingPower_16 (by decide) ?_
  exact W.iret (v := 1) hx hb hr (fun t ht hW => ⟨⟨1, S, rfl, ⟨rfl, rfl⟩, ⟨by rw [ht]; exact G.1, va_K.moved hW.alike hK, G.2.1⟩⟩, G.2.2.F ht⟩) G.2.2.2.2 dL_movingPower_17
set_option maxHeartbeats 4000000 in
set_option maxRecDepth 100000 in
theorem w_bestVelocity (l : Launch) (hst : l.stackTraces = false) (D : va_G) (tys : List (ClassId × FieldType)) (ad : Nat → Nat) (N : Nat) (S : Nat → va_E) {fs gs : List Value} {sc : Nat} (h0N : 0 < N) (h0 : S 0 = .inr (11, fs)) (hs : fs[14]? = some (.ref (ad sc))) (hscN : sc < N) (hsc : S sc = .inr (6, gs)) (hmc : gs[5]? = some (.int 0)) (x y z : Int32) (ao : Nat) : cWi l yL_bestVelocity (Cond.codeWith yL_bestVelocity cL_bestVelocity 6 (some .int) [(0, 12, 15, 21), (0, 12, 19, 13), (0, 12, 23, 15)] :: wsA) 8 127 D tys ad N S [.ref (ad 0), .int x, .int y, .int z, .ref ao] (fun r S1 => r = 1 ∧ S1 = S) := by
  intro sz
  refine va_MetW (cc := cL_bestVelocity) (maxL := 6) (ret := some .int) (by decide) rfl ?_
  intro p e s m args below meth c s₁ B hml hv
  obtain ⟨rfl, hsz, hP, hK, hD0, hX, hN_xIAE_xIOB, hN_xISE_xIOB⟩ := hv
  have hx := B.exec
  have hb := B.bytes
  have hr := B.returns
  have hts := atoms_spec (ws := (Cond.codeWith yL_bestVelocity cL_bestVelocity 6 (some .int) [(0, 12, 15, 21), (0, 12, 19, 13), (0, 12, 23, 15)] :: wsA)) B.pre
  have hown : s.vm.findClass RL = some m.cls := findClass_of_methodNamed B.named
  have hlocks := B.notSynchronized
  have htb := vx_table (x := yL_bestVelocity) B (hts _ (.head _))
  subst hsz
  have hD := hD0.self (sz := s.heap.size)
  generalize hAe : va_A (cW ad N S) s.heap.size = A at hD hX ⊢
  have hA : ∀ q : Nat, s.heap.size ≤ q → A q := fun q h => by rw [← hAe]; exact Or.inr h
  have G : cG D ad N A s.heap s.heap [] S := ⟨hP, hD, va_S.rf⟩
  have E : cE p c cL_bestVelocity s m ([.ref (ad 0), .int x, .int y, .int z, .ref ao] : List Value).toArray (Cond.codeWith yL_bestVelocity cL_bestVelocity 6 (some .int) [(0, 12, 15, 21), (0, 12, 19, 13), (0, 12, 23, 15)] :: wsA) D RL tys := ⟨hx, hb, hts, hown, hK⟩
  have hl := lv_entry ([.ref (ad 0), .int x, .int y, .int z, .ref ao]) (n := 6) (Nat.le_of_ble_eq_true rfl)
  rw [lg_entry_eq]
  generalize (lg_sl ([.ref (ad 0), .int x, .int y, .int z, .ref ao]) ++ List.replicate (6 - (lg_sl ([.ref (ad 0), .int x, .int y, .int z, .ref ao])).length) Slot.unset).toArray = ls at hl ⊢
  have hl : lv_has ls 6 [(0, .ref (ad 0)), (1, .int x), (2, .int y), (3, .int z), (4, .ref ao)] := hl
  refine lv_aload hx hb dL_bestVelocity_0 (lv_at hl 4 rfl) ?_
  refine lv_iconst (v := 0) hx hb dL_bestVelocity_2 (by decide) ?_
  refine lv_aload_n hx hb dL_bestVelocity_3 rfl (lv_at hl 0 rfl) ?_
  refine lv_iload_n hx hb dL_bestVelocity_4 rfl (lv_at hl 1 rfl) ?_
  refine lv_iload_n hx hb dL_bestVelocity_5 rfl (lv_at hl 2 rfl) ?_
  refine lv_iload_n hx hb dL_bestVelocity_6 rfl (lv_at hl 3 rfl) ?_
  refine c_xvi (As := [.int x, .int y, .int z]) (rest := [.int 0, .ref ao]) E G hA hX rfl hml (k_bestVelocity l hst D tys ad N S h0N h0 hs hscN hsc hmc x y z) (cwV 3 hts (gaV qA_1081 qA_1082 qA_1083 qA_131 qA_880) rfl rfl rfl (by decide +kernel) ⟨Nat.le_of_ble_eq_true rfl, Nat.le_of_ble_eq_true rfl⟩) h0N h0 rfl rfl hl.1 rfl (lv_room (Nat.le_of_ble_eq_true rfl)) dL_bestVelocity_7 ⟨Nat.le_of_ble_eq_true rfl, Nat.le_of_ble_eq_true rfl⟩ (fun E9 ce q9 S1 H locs hp G hce hcv hcl => ?_) (fun r S1 H locs hq G => hq.elim)
  obtain ⟨hE, hS1⟩ := hp
  subst hE
  rw [hS1] at G
  refine vx_catch (name := xISE) hown [] { startPc := 0, endPc := 12, handlerPc := 15, catchType := 21 } [{ startPc := 0, endPc := 12, handlerPc := 19, catchType := 13 }, { startPc := 0, endPc := 12, handlerPc := 23, catchType := 15 }] htb (fun z hz => absurd hz List.not_mem_nil) (by decide) (by decide) (hts _ (.tail _ qA_952)) (hX.use (.castable xISE xISE) (by decide +kernel)) hce hcv hcl ?_
  refine lv_astore (lv' := [(5, .ref q9), (0, .ref (ad 0)), (1, .int x), (2, .int y), (3, .int z), (4, .ref ao)]) hx hb dL_bestVelocity_15 hl (by decide) rfl (fun ls hl => ?_)
  refine lv_iconst (v := 1) hx hb dL_bestVelocity_17 (by decide) ?_
  exact W.iret (v := 1) hx hb hr (fun t ht hW => ⟨⟨1, S, rfl, ⟨rfl, rfl⟩, ⟨by rw [ht]; exact G.1, va_K.moved hW.alike hK, G.2.1⟩⟩, G.2.2.F ht⟩) G.2.2.2.2 dL_bestVelocity_18
set_option maxHeartbeats 4000000 in
set_option maxRecDepth 100000 in
theorem w_correlation (l : Launch) (hst : l.stackTraces = false) (D : va_G) (tys : List (ClassId × FieldType)) (ad : Nat → Nat) (N : Nat) (S : Nat → va_E) {fs gs : List Value} {sc : Nat} (h0N : 0 < N) (h0 : S 0 = .inr (11, fs)) (hs : fs[14]? = some (.ref (ad sc))) (hscN : sc < N) (hsc : S sc = .inr (6, gs)) (hmc : gs[5]? = some (.int 0)) (x y z : Int32) (ao : Nat) : cWi l yL_correlation (Cond.codeWith yL_correlation cL_correlation 6 (some .int) [(0, 11, 14, 21), (0, 11, 18, 13), (0, 11, 22, 15)] :: wsA) 8 124 D tys ad N S [.ref (ad 0), .int x, .int y, .int z, .ref ao] (fun r S1 => r = 1 ∧ S1 = S) := by
  intro sz
  refine va_MetW (cc := cL_correlation) (maxL := 6) (ret := some .int) (by decide) rfl ?_
  intro p e s m args below meth c s₁ B hml hv
  obtain ⟨rfl, hsz, hP, hK, hD0, hX, hN_xIAE_xIOB, hN_xISE_xIOB⟩ := hv
  have hx := B.exec
  have hb := B.bytes
  have hr := B.returns
  have hts := atoms_spec (ws := (Cond.codeWith yL_correlation cL_correlation 6 (some .int) [(0, 11, 14, 21), (0, 11, 18, 13), (0, 11, 22, 15)] :: wsA)) B.pre
  have hown : s.vm.findClass RL = some m.cls := findClass_of_methodNamed B.named
  have hlocks := B.notSynchronized
  have htb := vx_table (x := yL_correlation) B (hts _ (.head _))
  subst hsz
  have hD := hD0.self (sz := s.heap.size)
  generalize hAe : va_A (cW ad N S) s.heap.size = A at hD hX ⊢
  have hA : ∀ q : Nat, s.heap.size ≤ q → A q := fun q h => by rw [← hAe]; exact Or.inr h
  have G : cG D ad N A s.heap s.heap [] S := ⟨hP, hD, va_S.rf⟩
  have E : cE p c cL_correlation s m ([.ref (ad 0), .int x, .int y, .int z, .ref ao] : List Value).toArray (Cond.codeWith yL_correlation cL_correlation 6 (some .int) [(0, 11, 14, 21), (0, 11, 18, 13), (0, 11, 22, 15)] :: wsA) D RL tys := ⟨hx, hb, hts, hown, hK⟩
  have hl := lv_entry ([.ref (ad 0), .int x, .int y, .int z, .ref ao]) (n := 6) (Nat.le_of_ble_eq_true rfl)
  rw [lg_entry_eq]
  generalize (lg_sl ([.ref (ad 0), .int x, .int y, .int z, .ref ao]) ++ List.replicate (6 - (lg_sl ([.ref (ad 0), .int x, .int y, .int z, .ref ao])).length) Slot.unset).toArray = ls at hl ⊢
  have hl : lv_has ls 6 [(0, .ref (ad 0)), (1, .int x), (2, .int y), (3, .int z), (4, .ref ao)] := hl
  refine lv_aload hx hb dL_correlation_0 (lv_at hl 4 rfl) ?_
  refine lv_iconst (v := 0) hx hb dL_correlation_2 (by decide) ?_
  refine lv_aload_n hx hb dL_correlation_3 rfl (lv_at hl 0 rfl) ?_
  refine lv_iload_n hx hb dL_correlation_4 rfl (lv_at hl 1 rfl) ?_
  refine lv_iload_n hx hb dL_correlation_5 rfl (lv_at hl 2 rfl) ?_
  refine lv_iload_n hx hb dL_correlation_6 rfl (lv_at hl 3 rfl) ?_
  refine c_xvl (As := [.int x, .int y, .int z]) (rest := [.int 0, .ref ao]) E G hA hX rfl hml (k_correlation l hst D tys ad N S h0N h0 hs hscN hsc hmc x y z) (cwV 3 hts (gaV qA_1085 qA_1086 qA_1087 qA_131 qA_883) rfl rfl rfl (by decide +kernel) ⟨Nat.le_of_ble_eq_true rfl, Nat.le_of_ble_eq_true rfl⟩) h0N h0 rfl rfl hl.1 rfl (lv_room (Nat.le_of_ble_eq_true rfl)) dL_correlation_7 ⟨Nat.le_of_ble_eq_true rfl, Nat.le_of_ble_eq_true rfl⟩ (fun E9 ce q9 S1 H locs hp G hce hcv hcl => ?_) (fun r S1 H locs hq G => hq.elim)
  obtain ⟨hE, hS1⟩ := hp
  subst hE
  rw [hS1] at G
  refine vx_catch (name := xISE) hown [] { startPc := 0, endPc := 11, handlerPc := 14, catchType := 21 } [{ startPc := 0, endPc := 11, handlerPc := 18, catchType := 13 }, { startPc := 0, endPc := 11, handlerPc := 22, catchType := 15 }] htb (fun z hz => absurd hz List.not_mem_nil) (by decide) (by decide) (hts _ (.tail _ qA_952)) (hX.use (.castable xISE xISE) (by decide +kernel)) hce hcv hcl ?_
  refine lv_astore (lv' := [(5, .ref q9), (0, .ref (ad 0)), (1, .int x), (2, .int y), (3, .int z), (4, .ref ao)]) hx hb dL_correlation_14 hl (by decide) rfl (fun ls hl => ?_)
  refine lv_iconst (v := 1) hx hb dL_correlation_16 (by decide) ?_
  exact W.iret (v := 1) hx hb hr (fun t ht hW => ⟨⟨1, S, rfl, ⟨rfl, rfl⟩, ⟨by rw [ht]; exact G.1, va_K.moved hW.alike hK, G.2.1⟩⟩, G.2.2.F ht⟩) G.2.2.2.2 dL_correlation_17
set_option maxHeartbeats 4000000 in
set_option maxRecDepth 100000 in
theorem w_bestLag (l : Launch) (hst : l.stackTraces = false) (D : va_G) (tys : List (ClassId × FieldType)) (ad : Nat → Nat) (N : Nat) (S : Nat → va_E) {fs gs : List Value} {sc : Nat} (h0N : 0 < N) (h0 : S 0 = .inr (11, fs)) (hs : fs[14]? = some (.ref (ad sc))) (hscN : sc < N) (hsc : S sc = .inr (6, gs)) (hmc : gs[5]? = some (.int 0)) (x y z : Int32) (ao : Nat) : cWi l yL_bestLag (Cond.codeWith yL_bestLag cL_bestLag 6 (some .int) [(0, 12, 15, 21), (0, 12, 19, 13), (0, 12, 23, 15)] :: wsA) 8 126 D tys ad N S [.ref (ad 0), .int x, .int y, .int z, .ref ao] (fun r S1 => r = 1 ∧ S1 = S) := by
  intro sz
  refine va_MetW (cc := cL_bestLag) (maxL := 6) (ret := some .int) (by decide) rfl ?_
  intro p e s m args below meth c s₁ B hml hv
  obtain ⟨rfl, hsz, hP, hK, hD0, hX, hN_xIAE_xIOB, hN_xISE_xIOB⟩ := hv
  have hx := B.exec
  have hb := B.bytes
  have hr := B.returns
  have hts := atoms_spec (ws := (Cond.codeWith yL_bestLag cL_bestLag 6 (some .int) [(0, 12, 15, 21), (0, 12, 19, 13), (0, 12, 23, 15)] :: wsA)) B.pre
  have hown : s.vm.findClass RL = some m.cls := findClass_of_methodNamed B.named
  have hlocks := B.notSynchronized
  have htb := vx_table (x := yL_bestLag) B (hts _ (.head _))
  subst hsz
  have hD := hD0.self (sz := s.heap.size)
  generalize hAe : va_A (cW ad N S) s.heap.size = A at hD hX ⊢
  have hA : ∀ q : Nat, s.heap.size ≤ q → A q := fun q h => by rw [← hAe]; exact Or.inr h
  have G : cG D ad N A s.heap s.heap [] S := ⟨hP, hD, va_S.rf⟩
  have E : cE p c cL_bestLag s m ([.ref (ad 0), .int x, .int y, .int z, .ref ao] : List Value).toArray (Cond.codeWith yL_bestLag cL_bestLag 6 (some .int) [(0, 12, 15, 21), (0, 12, 19, 13), (0, 12, 23, 15)] :: wsA) D RL tys := ⟨hx, hb, hts, hown, hK⟩
  have hl := lv_entry ([.ref (ad 0), .int x, .int y, .int z, .ref ao]) (n := 6) (Nat.le_of_ble_eq_true rfl)
  rw [lg_entry_eq]
  generalize (lg_sl ([.ref (ad 0), .int x, .int y, .int z, .ref ao]) ++ List.replicate (6 - (lg_sl ([.ref (ad 0), .int x, .int y, .int z, .ref ao])).length) Slot.unset).toArray = ls at hl ⊢
  have hl : lv_has ls 6 [(0, .ref (ad 0)), (1, .int x), (2, .int y), (3, .int z), (4, .ref ao)] := hl
  refine lv_aload hx hb dL_bestLag_0 (lv_at hl 4 rfl) ?_
  refine lv_iconst (v := 0) hx hb dL_bestLag_2 (by decide) ?_
  refine lv_aload_n hx hb dL_bestLag_3 rfl (lv_at hl 0 rfl) ?_
  refine lv_iload_n hx hb dL_bestLag_4 rfl (lv_at hl 1 rfl) ?_
  refine lv_iload_n hx hb dL_bestLag_5 rfl (lv_at hl 2 rfl) ?_
  refine lv_iload_n hx hb dL_bestLag_6 rfl (lv_at hl 3 rfl) ?_
  refine c_xvi (As := [.int x, .int y, .int z]) (rest := [.int 0, .ref ao]) E G hA hX rfl hml (k_bestLag l hst D tys ad N S h0N h0 hs hscN hsc hmc x y z) (cwV 3 hts (gaV qA_1089 qA_1090 qA_1091 qA_131 qA_887) rfl rfl rfl (by decide +kernel) ⟨Nat.le_of_ble_eq_true rfl, Nat.le_of_ble_eq_true rfl⟩) h0N h0 rfl rfl hl.1 rfl (lv_room (Nat.le_of_ble_eq_true rfl)) dL_bestLag_7 ⟨Nat.le_of_ble_eq_true rfl, Nat.le_of_ble_eq_true rfl⟩ (fun E9 ce q9 S1 H locs hp G hce hcv hcl => ?_) (fun r S1 H locs hq G => hq.elim)
  obtain ⟨hE, hS1⟩ := hp
  subst hE
  rw [hS1] at G
  refine vx_catch (name := xISE) hown [] { startPc := 0, endPc := 12, handlerPc := 15, catchType := 21 } [{ startPc := 0, endPc := 12, handlerPc := 19, catchType := 13 }, { startPc := 0, endPc := 12, handlerPc := 23, catchType := 15 }] htb (fun z hz => absurd hz List.not_mem_nil) (by decide) (by decide) (hts _ (.tail _ qA_952)) (hX.use (.castable xISE xISE) (by decide +kernel)) hce hcv hcl ?_
  refine lv_astore (lv' := [(5, .ref q9), (0, .ref (ad 0)), (1, .int x), (2, .int y), (3, .int z), (4, .ref ao)]) hx hb dL_bestLag_15 hl (by decide) rfl (fun ls hl => ?_)
  refine lv_iconst (v := 1) hx hb dL_bestLag_17 (by decide) ?_
  exact W.iret (v := 1) hx hb hr (fun t ht hW => ⟨⟨1, S, rfl, ⟨rfl, rfl⟩, ⟨by rw [ht]; exact G.1, va_K.moved hW.alike hK, G.2.1⟩⟩, G.2.2.F ht⟩) G.2.2.2.2 dL_bestLag_18
set_option maxHeartbeats 4000000 in
set_option maxRecDepth 100000 in
theorem w_level (l : Launch) (hst : l.stackTraces = false) (D : va_G) (tys : List (ClassId × FieldType)) (ad : Nat → Nat) (N : Nat) (S : Nat → va_E) {fs gs : List Value} {sc : Nat} (h0N : 0 < N) (h0 : S 0 = .inr (11, fs)) (hs : fs[14]? = some (.ref (ad sc))) (hscN : sc < N) (hsc : S sc = .inr (6, gs)) (hmc : gs[5]? = some (.int 0)) (x : Int32) (ao : Nat) : cWi l yL_level (Cond.codeWith yL_level cL_level 4 (some .int) [(0, 8, 11, 21), (0, 8, 14, 13)] :: wsA) 8 122 D tys ad N S [.ref (ad 0), .int x, .ref ao] (fun r S1 => r = 1 ∧ S1 = S) := by
  intro sz
  refine va_MetW (cc := cL_level) (maxL := 4) (ret := some .int) (by decide) rfl ?_
  intro p e s m args below meth c s₁ B hml hv
  obtain ⟨rfl, hsz, hP, hK, hD0, hX, hN_xIAE_xIOB, hN_xISE_xIOB⟩ := hv
  have hx := B.exec
  have hb := B.bytes
  have hr := B.returns
  have hts := atoms_spec (ws := (Cond.codeWith yL_level cL_level 4 (some .int) [(0, 8, 11, 21), (0, 8, 14, 13)] :: wsA)) B.pre
  have hown : s.vm.findClass RL = some m.cls := findClass_of_methodNamed B.named
  have hlocks := B.notSynchronized
  have htb := vx_table (x := yL_level) B (hts _ (.head _))
  subst hsz
  have hD := hD0.self (sz := s.heap.size)
  generalize hAe : va_A (cW ad N S) s.heap.size = A at hD hX ⊢
  have hA : ∀ q : Nat, s.heap.size ≤ q → A q := fun q h => by rw [← hAe]; exact Or.inr h
  have G : cG D ad N A s.heap s.heap [] S := ⟨hP, hD, va_S.rf⟩
  have E : cE p c cL_level s m ([.ref (ad 0), .int x, .ref ao] : List Value).toArray (Cond.codeWith yL_level cL_level 4 (some .int) [(0, 8, 11, 21), (0, 8, 14, 13)] :: wsA) D RL tys := ⟨hx, hb, hts, hown, hK⟩
  have hl := lv_entry ([.ref (ad 0), .int x, .ref ao]) (n := 4) (Nat.le_of_ble_eq_true rfl)
  rw [lg_entry_eq]
  generalize (lg_sl ([.ref (ad 0), .int x, .ref ao]) ++ List.replicate (4 - (lg_sl ([.ref (ad 0), .int x, .ref ao])).length) Slot.unset).toArray = ls at hl ⊢
  have hl : lv_has ls 4 [(0, .ref (ad 0)), (1, .int x), (2, .ref ao)] := hl
  refine lv_aload_n hx hb dL_level_0 rfl (lv_at hl 2 rfl) ?_
  refine lv_iconst (v := 0) hx hb dL_level_1 (by decide) ?_
  refine lv_aload_n hx hb dL_level_2 rfl (lv_at hl 0 rfl) ?_
  refine lv_iload_n hx hb dL_level_3 rfl (lv_at hl 1 rfl) ?_
  refine c_xvl (As := [.int x]) (rest := [.int 0, .ref ao]) E G hA hX rfl hml (k_level l hst D tys ad N S h0N h0 hs hscN hsc hmc x) (cwV 1 hts (gaV qA_1093 qA_1094 qA_1095 qA_131 qA_888) rfl rfl rfl (by decide +kernel) ⟨Nat.le_of_ble_eq_true rfl, Nat.le_of_ble_eq_true rfl⟩) h0N h0 rfl rfl hl.1 rfl (lv_room (Nat.le_of_ble_eq_true rfl)) dL_level_4 ⟨Nat.le_of_ble_eq_true rfl, Nat.le_of_ble_eq_true rfl⟩ (fun E9 ce q9 S1 H locs hp G hce hcv hcl => ?_) (fun r S1 H locs hq G => hq.elim)
  obtain ⟨hE, hS1⟩ := hp
  subst hE
  rw [hS1] at G
  refine vx_catch (name := xISE) hown [] { startPc := 0, endPc := 8, handlerPc := 11, catchType := 21 } [{ startPc := 0, endPc := 8, handlerPc := 14, catchType := 13 }] htb (fun z hz => absurd hz List.not_mem_nil) (by decide) (by decide) (hts _ (.tail _ qA_952)) (hX.use (.castable xISE xISE) (by decide +kernel)) hce hcv hcl ?_
  refine lv_astore_n (lv' := [(3, .ref q9), (0, .ref (ad 0)), (1, .int x), (2, .ref ao)]) hx hb dL_level_11 rfl hl (by decide) rfl (fun ls hl => ?_)
  refine lv_iconst (v := 1) hx hb dL_level_12 (by decide) ?_
  exact W.iret (v := 1) hx hb hr (fun t ht hW => ⟨⟨1, S, rfl, ⟨rfl, rfl⟩, ⟨by rw [ht]; exact G.1, va_K.moved hW.alike hK, G.2.1⟩⟩, G.2.2.F ht⟩) G.2.2.2.2 dL_level_13
set_option maxHeartbeats 4000000 in
set_option maxRecDepth 100000 in
theorem w_loudest (l : Launch) (hst : l.stackTraces = false) (D : va_G) (tys : List (ClassId × FieldType)) (ad : Nat → Nat) (N : Nat) (S : Nat → va_E) {fs gs : List Value} {sc : Nat} (h0N : 0 < N) (h0 : S 0 = .inr (11, fs)) (hs : fs[14]? = some (.ref (ad sc))) (hscN : sc < N) (hsc : S sc = .inr (6, gs)) (hmc : gs[5]? = some (.int 0)) (x : Int32) (ao : Nat) : cWi l yL_loudest (Cond.codeWith yL_loudest cL_loudest 4 (some .int) [(0, 9, 12, 21), (0, 9, 15, 13)] :: wsA) 8 123 D tys ad N S [.ref (ad 0), .int x, .ref ao] (fun r S1 => r = 1 ∧ S1 = S) := by
  intro sz
  refine va_MetW (cc := cL_loudest) (maxL := 4) (ret := some .int) (by decide) rfl ?_
  intro p e s m args below meth c s₁ B hml hv
  obtain ⟨rfl, hsz, hP, hK, hD0, hX, hN_xIAE_xIOB, hN_xISE_xIOB⟩ := hv
  have hx := B.exec
  have hb := B.bytes
  have hr := B.returns
  have hts := atoms_spec (ws := (Cond.codeWith yL_loudest cL_loudest 4 (some .int) [(0, 9, 12, 21), (0, 9, 15, 13)] :: wsA)) B.pre
  have hown : s.vm.findClass RL = some m.cls := findClass_of_methodNamed B.named
  have hlocks := B.notSynchronized
  have htb := vx_table (x := yL_loudest) B (hts _ (.head _))
  subst hsz
  have hD := hD0.self (sz := s.heap.size)
  generalize hAe : va_A (cW ad N S) s.heap.size = A at hD hX ⊢
  have hA : ∀ q : Nat, s.heap.size ≤ q → A q := fun q h => by rw [← hAe]; exact Or.inr h
  have G : cG D ad N A s.heap s.heap [] S := ⟨hP, hD, va_S.rf⟩
  have E : cE p c cL_loudest s m ([.ref (ad 0), .int x, .ref ao] : List Value).toArray (Cond.codeWith yL_loudest cL_loudest 4 (some .int) [(0, 9, 12, 21), (0, 9, 15, 13)] :: wsA) D RL tys := ⟨hx, hb, hts, hown, hK⟩
  have hl := lv_entry ([.ref (ad 0), .int x, .ref ao]) (n := 4) (Nat.le_of_ble_eq_true rfl)
  rw [lg_entry_eq]
  generalize (lg_sl ([.ref (ad 0), .int x, .ref ao]) ++ List.replicate (4 - (lg_sl ([.ref (ad 0), .int x, .ref ao])).length) Slot.unset).toArray = ls at hl ⊢
  have hl : lv_has ls 4 [(0, .ref (ad 0)), (1, .int x), (2, .ref ao)] := hl
  refine lv_aload_n hx hb dL_loudest_0 rfl (lv_at hl 2 rfl) ?_
  refine lv_iconst (v := 0) hx hb dL_loudest_1 (by decide) ?_
  refine lv_aload_n hx hb dL_loudest_2 rfl (lv_at hl 0 rfl) ?_
  refine lv_iload_n hx hb dL_loudest_3 rfl (lv_at hl 1 rfl) ?_
  refine c_xvi (As := [.int x]) (rest := [.int 0, .ref ao]) E G hA hX rfl hml (k_loudest l hst D tys ad N S h0N h0 hs hscN hsc hmc x) (cwV 1 hts (gaV qA_1097 qA_1098 qA_1099 qA_131 qA_893) rfl rfl rfl (by decide +kernel) ⟨Nat.le_of_ble_eq_true rfl, Nat.le_of_ble_eq_true rfl⟩) h0N h0 rfl rfl hl.1 rfl (lv_room (Nat.le_of_ble_eq_true rfl)) dL_loudest_4 ⟨Nat.le_of_ble_eq_true rfl, Nat.le_of_ble_eq_true rfl⟩ (fun E9 ce q9 S1 H locs hp G hce hcv hcl => ?_) (fun r S1 H locs hq G => hq.elim)
  obtain ⟨hE, hS1⟩ := hp
  subst hE
  rw [hS1] at G
  refine vx_catch (name := xISE) hown [] { startPc := 0, endPc := 9, handlerPc := 12, catchType := 21 } [{ startPc := 0, endPc := 9, handlerPc := 15, catchType := 13 }] htb (fun z hz => absurd hz List.not_mem_nil) (by decide) (by decide) (hts _ (.tail _ qA_952)) (hX.use (.castable xISE xISE) (by decide +kernel)) hce hcv hcl ?_
  refine lv_astore_n (lv' := [(3, .ref q9), (0, .ref (ad 0)), (1, .int x), (2, .ref ao)]) hx hb dL_loudest_12 rfl hl (by decide) rfl (fun ls hl => ?_)
  refine lv_iconst (v := 1) hx hb dL_loudest_13 (by decide) ?_
  exact W.iret (v := 1) hx hb hr (fun t ht hW => ⟨⟨1, S, rfl, ⟨rfl, rfl⟩, ⟨by rw [ht]; exact G.1, va_K.moved hW.alike hK, G.2.1⟩⟩, G.2.2.F ht⟩) G.2.2.2.2 dL_loudest_14
set_option maxHeartbeats 4000000 in
set_option maxRecDepth 100000 in
theorem w_writeMap (l : Launch) (hst : l.stackTraces = false) (D : va_G) (tys : List (ClassId × FieldType)) (ad : Nat → Nat) (N : Nat) (S : Nat → va_E) {fs gs : List Value} {sc : Nat} (h0N : 0 < N) (h0 : S 0 = .inr (11, fs)) (hs : fs[14]? = some (.ref (ad sc))) (hscN : sc < N) (hsc : S sc = .inr (6, gs)) (hmc : gs[5]? = some (.int 0)) (ao : Nat) : cWi l yL_writeMap (Cond.codeWith yL_writeMap cL_writeMap 3 (some .int) [(0, 8, 11, 21)] :: wsA) 8 123 D tys ad N S [.ref (ad 0), .ref ao] (fun r S1 => r = 1 ∧ S1 = S) := by
  intro sz
  refine va_MetW (cc := cL_writeMap) (maxL := 3) (ret := some .int) (by decide) rfl ?_
  intro p e s m args below meth c s₁ B hml hv
  obtain ⟨rfl, hsz, hP, hK, hD0, hX, hN_xIAE_xIOB, hN_xISE_xIOB⟩ := hv
  have hx := B.exec
  have hb := B.bytes
  have hr := B.returns
  have hts := atoms_spec (ws := (Cond.codeWith yL_writeMap cL_writeMap 3 (some .int) [(0, 8, 11, 21)] :: wsA)) B.pre
  have hown : s.vm.findClass RL = some m.cls := findClass_of_methodNamed B.named
  have hlocks := B.notSynchronized
  have htb := vx_table (x := yL_writeMap) B (hts _ (.head _))
  subst hsz
  have hD := hD0.self (sz := s.heap.size)
  generalize hAe : va_A (cW ad N S) s.heap.size = A at hD hX ⊢
  have hA : ∀ q : Nat, s.heap.size ≤ q → A q := fun q h => by rw [← hAe]; exact Or.inr h
  have G : cG D ad N A s.heap s.heap [] S := ⟨hP, hD, va_S.rf⟩
  have E : cE p c cL_writeMap s m ([.ref (ad 0), .ref ao] : List Value).toArray (Cond.codeWith yL_writeMap cL_writeMap 3 (some .int) [(0, 8, 11, 21)] :: wsA) D RL tys := ⟨hx, hb, hts, hown, hK⟩
  have hl := lv_entry ([.ref (ad 0), .ref ao]) (n := 3) (Nat.le_of_ble_eq_true rfl)
  rw [lg_entry_eq]
  generalize (lg_sl ([.ref (ad 0), .ref ao]) ++ List.replicate (3 - (lg_sl ([.ref (ad 0), .ref ao])).length) Slot.unset).toArray = ls at hl ⊢
  have hl : lv_has ls 3 [(0, .ref (ad 0)), (1, .ref ao)] := hl
  refine lv_aload_n hx hb dL_writeMap_0 rfl (lv_at hl 1 rfl) ?_
  refine lv_iconst (v := 0) hx hb dL_writeMap_1 (by decide) ?_
  refine lv_aload_n hx hb dL_writeMap_2 rfl (lv_at hl 0 rfl) ?_
  refine c_xvi (As := []) (rest := [.int 0, .ref ao]) E G hA hX rfl hml (k_writeMap l hst D tys ad N S h0N h0 hs hscN hsc hmc) (cwV 0 hts (gaV qA_1101 qA_1102 qA_1103 qA_131 qA_895) rfl rfl rfl (by decide +kernel) ⟨Nat.le_of_ble_eq_true rfl, Nat.le_of_ble_eq_true rfl⟩) h0N h0 rfl rfl hl.1 rfl (lv_room (Nat.le_of_ble_eq_true rfl)) dL_writeMap_3 ⟨Nat.le_of_ble_eq_true rfl, Nat.le_of_ble_eq_true rfl⟩ (fun E9 ce q9 S1 H locs hp G hce hcv hcl => ?_) (fun r S1 H locs hq G => hq.elim)
  obtain ⟨hE, hS1⟩ := hp
  subst hE
  rw [hS1] at G
  refine vx_catch (name := xISE) hown [] { startPc := 0, endPc := 8, handlerPc := 11, catchType := 21 } [] htb (fun z hz => absurd hz List.not_mem_nil) (by decide) (by decide) (hts _ (.tail _ qA_952)) (hX.use (.castable xISE xISE) (by decide +kernel)) hce hcv hcl ?_
  refine lv_astore_n (lv' := [(2, .ref q9), (0, .ref (ad 0)), (1, .ref ao)]) hx hb dL_writeMap_11 rfl hl (by decide) rfl (fun ls hl => ?_)
  refine lv_iconst (v := 1) hx hb dL_writeMap_12 (by decide) ?_
  exact W.iret (v := 1) hx hb hr (fun t ht hW => ⟨⟨1, S, rfl, ⟨rfl, rfl⟩, ⟨by rw [ht]; exact G.1, va_K.moved hW.alike hK, G.2.1⟩⟩, G.2.2.F ht⟩) G.2.2.2.2 dL_writeMap_13
set_option maxHeartbeats 4000000 in
set_option maxRecDepth 100000 in
theorem w_pointBest (l : Launch) (hst : l.stackTraces = false) (D : va_G) (tys : List (ClassId × FieldType)) (ad : Nat → Nat) (N : Nat) (S : Nat → va_E) {fs gs : List Value} {sc : Nat} (h0N : 0 < N) (h0 : S 0 = .inr (11, fs)) (hs : fs[14]? = some (.ref (ad sc))) (hscN : sc < N) (hsc : S sc = .inr (6, gs)) (hmc : gs[5]? = some (.int 0)) (x y : Int32) (ao : Nat) : cWi l yL_pointBest (Cond.codeWith yL_pointBest cL_pointBest 5 (some .int) [(0, 10, 13, 21), (0, 10, 17, 13), (0, 10, 21, 15)] :: wsA) 8 123 D tys ad N S [.ref (ad 0), .int x, .int y, .ref ao] (fun r S1 => r = 1 ∧ S1 = S) := by
  intro sz
  refine va_MetW (cc := cL_pointBest) (maxL := 5) (ret := some .int) (by decide) rfl ?_
  intro p e s m args below meth c s₁ B hml hv
  obtain ⟨rfl, hsz, hP, hK, hD0, hX, hN_xIAE_xIOB, hN_xISE_xIOB⟩ := hv
  have hx := B.exec
  have hb := B.bytes
  have hr := B.returns
  have hts := atoms_spec (ws := (Cond.codeWith yL_pointBest cL_pointBest 5 (some .int) [(0, 10, 13, 21), (0, 10, 17, 13), (0, 10, 21, 15)] :: wsA)) B.pre
  have hown : s.vm.findClass RL = some m.cls := findClass_of_methodNamed B.named
  have hlocks := B.notSynchronized
  have htb := vx_table (x := yL_pointBest) B (hts _ (.head _))
  subst hsz
  have hD := hD0.self (sz := s.heap.size)
  generalize hAe : va_A (cW ad N S) s.heap.size = A at hD hX ⊢
  have hA : ∀ q : Nat, s.heap.size ≤ q → A q := fun q h => by rw [← hAe]; exact Or.inr h
  have G : cG D ad N A s.heap s.heap [] S := ⟨hP, hD, va_S.rf⟩
  have E : cE p c cL_pointBest s m ([.ref (ad 0), .int x, .int y, .ref ao] : List Value).toArray (Cond.codeWith yL_pointBest cL_pointBest 5 (some .int) [(0, 10, 13, 21), (0, 10, 17, 13), (0, 10, 21, 15)] :: wsA) D RL tys := ⟨hx, hb, hts, hown, hK⟩
  have hl := lv_entry ([.ref (ad 0), .int x, .int y, .ref ao]) (n := 5) (Nat.le_of_ble_eq_true rfl)
  rw [lg_entry_eq]
  generalize (lg_sl ([.ref (ad 0), .int x, .int y, .ref ao]) ++ List.replicate (5 - (lg_sl ([.ref (ad 0), .int x, .int y, .ref ao])).length) Slot.unset).toArray = ls at hl ⊢
  have hl : lv_has ls 5 [(0, .ref (ad 0)), (1, .int x), (2, .int y), (3, .ref ao)] := hl
  refine lv_aload_n hx hb dL_pointBest_0 rfl (lv_at hl 3 rfl) ?_
  refine lv_iconst (v := 0) hx hb dL_pointBest_1 (by decide) ?_
  refine lv_aload_n hx hb dL_pointBest_2 rfl (lv_at hl 0 rfl) ?_
  refine lv_iload_n hx hb dL_pointBest_3 rfl (lv_at hl 1 rfl) ?_
  refine lv_iload_n hx hb dL_pointBest_4 rfl (lv_at hl 2 rfl) ?_
  refine c_xvi (As := [.int x, .int y]) (rest := [.int 0, .ref ao]) E G hA hX rfl hml (k_pointBest l hst D tys ad N S h0N h0 hs hscN hsc hmc x y) (cwV 2 hts (gaV qA_1109 qA_1110 qA_1111 qA_131 qA_906) rfl rfl rfl (by decide +kernel) ⟨Nat.le_of_ble_eq_true rfl, Nat.le_of_ble_eq_true rfl⟩) h0N h0 rfl rfl hl.1 rfl (lv_room (Nat.le_of_ble_eq_true rfl)) dL_pointBest_5 ⟨Nat.le_of_ble_eq_true rfl, Nat.le_of_ble_eq_true rfl⟩ (fun E9 ce q9 S1 H locs hp G hce hcv hcl => ?_) (fun r S1 H locs hq G => hq.elim)
  obtain ⟨hE, hS1⟩ := hp
  subst hE
  rw [hS1] at G
  refine vx_catch (name := xISE) hown [] { startPc := 0, endPc := 10, handlerPc := 13, catchType := 21 } [{ startPc := 0, endPc := 10, handlerPc := 17, catchType := 13 }, { startPc := 0, endPc := 10, handlerPc := 21, catchType := 15 }] htb (fun z hz => absurd hz List.not_mem_nil) (by decide) (by decide) (hts _ (.tail _ qA_952)) (hX.use (.castable xISE xISE) (by decide +kernel)) hce hcv hcl ?_
  refine lv_astore (lv' := [(4, .ref q9), (0, .ref (ad 0)), (1, .int x), (2, .int y), (3, .ref ao)]) hx hb dL_pointBest_13 hl (by decide) rfl (fun ls hl => ?_)
  refine lv_iconst (v := 1) hx hb dL_pointBest_15 (by decide) ?_
  exact W.iret (v := 1) hx hb hr (fun t ht hW => ⟨⟨1, S, rfl, ⟨rfl, rfl⟩, ⟨by rw [ht]; exact G.1, va_K.moved hW.alike hK, G.2.1⟩⟩, G.2.2.F ht⟩) G.2.2.2.2 dL_pointBest_16
set_option maxHeartbeats 4000000 in
set_option maxRecDepth 100000 in
theorem w_pointPower (l : Launch) (hst : l.stackTraces = false) (D : va_G) (tys : List (ClassId × FieldType)) (ad : Nat → Nat) (N : Nat) (S : Nat → va_E) {fs gs : List Value} {sc : Nat} (h0N : 0 < N) (h0 : S 0 = .inr (11, fs)) (hs : fs[14]? = some (.ref (ad sc))) (hscN : sc < N) (hsc : S sc = .inr (6, gs)) (hmc : gs[5]? = some (.int 0)) (x y z : Int32) (ao : Nat) : cWi l yL_pointPower (Cond.codeWith yL_pointPower cL_pointPower 6 (some .int) [(0, 11, 14, 21), (0, 11, 18, 13), (0, 11, 22, 15)] :: wsA) 8 124 D tys ad N S [.ref (ad 0), .int x, .int y, .int z, .ref ao] (fun r S1 => r = 1 ∧ S1 = S) := by
  intro sz
  refine va_MetW (cc := cL_pointPower) (maxL := 6) (ret := some .int) (by decide) rfl ?_
  intro p e s m args below meth c s₁ B hml hv
  obtain ⟨rfl, hsz, hP, hK, hD0, hX, hN_xIAE_xIOB, hN_xISE_xIOB⟩ := hv
  have hx := B.exec
  have hb := B.bytes
  have hr := B.returns
  have hts := atoms_spec (ws := (Cond.codeWith yL_pointPower cL_pointPower 6 (some .int) [(0, 11, 14, 21), (0, 11, 18, 13), (0, 11, 22, 15)] :: wsA)) B.pre
  have hown : s.vm.findClass RL = some m.cls := findClass_of_methodNamed B.named
  have hlocks := B.notSynchronized
  have htb := vx_table (x := yL_pointPower) B (hts _ (.head _))
  subst hsz
  have hD := hD0.self (sz := s.heap.size)
  generalize hAe : va_A (cW ad N S) s.heap.size = A at hD hX ⊢
  have hA : ∀ q : Nat, s.heap.size ≤ q → A q := fun q h => by rw [← hAe]; exact Or.inr h
  have G : cG D ad N A s.heap s.heap [] S := ⟨hP, hD, va_S.rf⟩
  have E : cE p c cL_pointPower s m ([.ref (ad 0), .int x, .int y, .int z, .ref ao] : List Value).toArray (Cond.codeWith yL_pointPower cL_pointPower 6 (some .int) [(0, 11, 14, 21), (0, 11, 18, 13), (0, 11, 22, 15)] :: wsA) D RL tys := ⟨hx, hb, hts, hown, hK⟩
  have hl := lv_entry ([.ref (ad 0), .int x, .int y, .int z, .ref ao]) (n := 6) (Nat.le_of_ble_eq_true rfl)
  rw [lg_entry_eq]
  generalize (lg_sl ([.ref (ad 0), .int x, .int y, .int z, .ref ao]) ++ List.replicate (6 - (lg_sl ([.ref (ad 0), .int x, .int y, .int z, .ref ao])).length) Slot.unset).toArray = ls at hl ⊢
  have hl : lv_has ls 6 [(0, .ref (ad 0)), (1, .int x), (2, .int y), (3, .int z), (4, .ref ao)] := hl
  refine lv_aload hx hb dL_pointPower_0 (lv_at hl 4 rfl) ?_
  refine lv_iconst (v := 0) hx hb dL_pointPower_2 (by decide) ?_
  refine lv_aload_n hx hb dL_pointPower_3 rfl (lv_at hl 0 rfl) ?_
  refine lv_iload_n hx hb dL_pointPower_4 rfl (lv_at hl 1 rfl) ?_
  refine lv_iload_n hx hb dL_pointPower_5 rfl (lv_at hl 2 rfl) ?_
  refine lv_iload_n hx hb dL_pointPower_6 rfl (lv_at hl 3 rfl) ?_
  refine c_xvl (As := [.int x, .int y, .int z]) (rest := [.int 0, .ref ao]) E G hA hX rfl hml (k_pointPower l hst D tys ad N S h0N h0 hs hscN hsc hmc x y z) (cwV 3 hts (gaV qA_1113 qA_1114 qA_1115 qA_131 qA_921) rfl rfl rfl (by decide +kernel) ⟨Nat.le_of_ble_eq_true rfl, Nat.le_of_ble_eq_true rfl⟩) h0N h0 rfl rfl hl.1 rfl (lv_room (Nat.le_of_ble_eq_true rfl)) dL_pointPower_7 ⟨Nat.le_of_ble_eq_true rfl, Nat.le_of_ble_eq_true rfl⟩ (fun E9 ce q9 S1 H locs hp G hce hcv hcl => ?_) (fun r S1 H locs hq G => hq.elim)
  obtain ⟨hE, hS1⟩ := hp
  subst hE
  rw [hS1] at G
  refine vx_catch (name := xISE) hown [] { startPc := 0, endPc := 11, handlerPc := 14, catchType := 21 } [{ startPc := 0, endPc := 11, handlerPc := 18, catchType := 13 }, { startPc := 0, endPc := 11, handlerPc := 22, catchType := 15 }] htb (fun z hz => absurd hz List.not_mem_nil) (by decide) (by decide) (hts _ (.tail _ qA_952)) (hX.use (.castable xISE xISE) (by decide +kernel)) hce hcv hcl ?_
  refine lv_astore (lv' := [(5, .ref q9), (0, .ref (ad 0)), (1, .int x), (2, .int y), (3, .int z), (4, .ref ao)]) hx hb dL_pointPower_14 hl (by decide) rfl (fun ls hl => ?_)
  refine lv_iconst (v := 1) hx hb dL_pointPower_16 (by decide) ?_
  exact W.iret (v := 1) hx hb hr (fun t ht hW => ⟨⟨1, S, rfl, ⟨rfl, rfl⟩, ⟨by rw [ht]; exact G.1, va_K.moved hW.alike hK, G.2.1⟩⟩, G.2.2.F ht⟩) G.2.2.2.2 dL_pointPower_17
set_option maxHeartbeats 4000000 in
set_option maxRecDepth 100000 in
theorem w_bestWithout (l : Launch) (hst : l.stackTraces = false) (D : va_G) (tys : List (ClassId × FieldType)) (ad : Nat → Nat) (N : Nat) (S : Nat → va_E) {fs gs : List Value} {sc : Nat} (h0N : 0 < N) (h0 : S 0 = .inr (11, fs)) (hs : fs[14]? = some (.ref (ad sc))) (hscN : sc < N) (hsc : S sc = .inr (6, gs)) (hmc : gs[5]? = some (.int 0)) (x : Int32) (ao : Nat) : cWi l yL_bestWithout (Cond.codeWith yL_bestWithout cL_bestWithout 4 (some .int) [(0, 9, 12, 21), (0, 9, 15, 13)] :: wsA) 8 122 D tys ad N S [.ref (ad 0), .int x, .ref ao] (fun r S1 => r = 1 ∧ S1 = S) := by
  intro sz
  refine va_MetW (cc := cL_bestWithout) (maxL := 4) (ret := some .int) (by decide) rfl ?_
  intro p e s m args below meth c s₁ B hml hv
  obtain ⟨rfl, hsz, hP, hK, hD0, hX, hN_xIAE_xIOB, hN_xISE_xIOB⟩ := hv
  have hx := B.exec
  have hb := B.bytes
  have hr := B.returns
  have hts := atoms_spec (ws := (Cond.codeWith yL_bestWithout cL_bestWithout 4 (some .int) [(0, 9, 12, 21), (0, 9, 15, 13)] :: wsA)) B.pre
  have hown : s.vm.findClass RL = some m.cls := findClass_of_methodNamed B.named
  have hlocks := B.notSynchronized
  have htb := vx_table (x := yL_bestWithout) B (hts _ (.head _))
  subst hsz
  have hD := hD0.self (sz := s.heap.size)
  generalize hAe : va_A (cW ad N S) s.heap.size = A at hD hX ⊢
  have hA : ∀ q : Nat, s.heap.size ≤ q → A q := fun q h => by rw [← hAe]; exact Or.inr h
  have G : cG D ad N A s.heap s.heap [] S := ⟨hP, hD, va_S.rf⟩
  have E : cE p c cL_bestWithout s m ([.ref (ad 0), .int x, .ref ao] : List Value).toArray (Cond.codeWith yL_bestWithout cL_bestWithout 4 (some .int) [(0, 9, 12, 21), (0, 9, 15, 13)] :: wsA) D RL tys := ⟨hx, hb, hts, hown, hK⟩
  have hl := lv_entry ([.ref (ad 0), .int x, .ref ao]) (n := 4) (Nat.le_of_ble_eq_true rfl)
  rw [lg_entry_eq]
  generalize (lg_sl ([.ref (ad 0), .int x, .ref ao]) ++ List.replicate (4 - (lg_sl ([.ref (ad 0), .int x, .ref ao])).length) Slot.unset).toArray = ls at hl ⊢
  have hl : lv_has ls 4 [(0, .ref (ad 0)), (1, .int x), (2, .ref ao)] := hl
  refine lv_aload_n hx hb dL_bestWithout_0 rfl (lv_at hl 2 rfl) ?_
  refine lv_iconst (v := 0) hx hb dL_bestWithout_1 (by decide) ?_
  refine lv_aload_n hx hb dL_bestWithout_2 rfl (lv_at hl 0 rfl) ?_
  refine lv_iload_n hx hb dL_bestWithout_3 rfl (lv_at hl 1 rfl) ?_
  refine c_xvi (As := [.int x]) (rest := [.int 0, .ref ao]) E G hA hX rfl hml (k_bestWithout l hst D tys ad N S h0N h0 hs hscN hsc hmc x) (cwV 1 hts (gaV qA_1117 qA_1118 qA_1119 qA_131 qA_922) rfl rfl rfl (by decide +kernel) ⟨Nat.le_of_ble_eq_true rfl, Nat.le_of_ble_eq_true rfl⟩) h0N h0 rfl rfl hl.1 rfl (lv_room (Nat.le_of_ble_eq_true rfl)) dL_bestWithout_4 ⟨Nat.le_of_ble_eq_true rfl, Nat.le_of_ble_eq_true rfl⟩ (fun E9 ce q9 S1 H locs hp G hce hcv hcl => ?_) (fun r S1 H locs hq G => hq.elim)
  obtain ⟨hE, hS1⟩ := hp
  subst hE
  rw [hS1] at G
  refine vx_catch (name := xISE) hown [] { startPc := 0, endPc := 9, handlerPc := 12, catchType := 21 } [{ startPc := 0, endPc := 9, handlerPc := 15, catchType := 13 }] htb (fun z hz => absurd hz List.not_mem_nil) (by decide) (by decide) (hts _ (.tail _ qA_952)) (hX.use (.castable xISE xISE) (by decide +kernel)) hce hcv hcl ?_
  refine lv_astore_n (lv' := [(3, .ref q9), (0, .ref (ad 0)), (1, .int x), (2, .ref ao)]) hx hb dL_bestWithout_12 rfl hl (by decide) rfl (fun ls hl => ?_)
  refine lv_iconst (v := 1) hx hb dL_bestWithout_13 (by decide) ?_
  exact W.iret (v := 1) hx hb hr (fun t ht hW => ⟨⟨1, S, rfl, ⟨rfl, rfl⟩, ⟨by rw [ht]; exact G.1, va_K.moved hW.alike hK, G.2.1⟩⟩, G.2.2.F ht⟩) G.2.2.2.2 dL_bestWithout_14
set_option maxHeartbeats 4000000 in
set_option maxRecDepth 100000 in
theorem w_bestIfOff (l : Launch) (hst : l.stackTraces = false) (D : va_G) (tys : List (ClassId × FieldType)) (ad : Nat → Nat) (N : Nat) (S : Nat → va_E) {fs gs : List Value} {sc : Nat} (h0N : 0 < N) (h0 : S 0 = .inr (11, fs)) (hs : fs[14]? = some (.ref (ad sc))) (hscN : sc < N) (hsc : S sc = .inr (6, gs)) (hmc : gs[5]? = some (.int 0)) (x : Int32) (ao : Nat) : cWi l yL_bestIfOff (Cond.codeWith yL_bestIfOff cL_bestIfOff 4 (some .int) [(0, 9, 12, 21), (0, 9, 15, 13)] :: wsA) 8 122 D tys ad N S [.ref (ad 0), .int x, .ref ao] (fun r S1 => r = 1 ∧ S1 = S) := by
  intro sz
  refine va_MetW (cc := cL_bestIfOff) (maxL := 4) (ret := some .int) (by decide) rfl ?_
  intro p e s m args below meth c s₁ B hml hv
  obtain ⟨rfl, hsz, hP, hK, hD0, hX, hN_xIAE_xIOB, hN_xISE_xIOB⟩ := hv
  have hx := B.exec
  have hb := B.bytes
  have hr := B.returns
  have hts := atoms_spec (ws := (Cond.codeWith yL_bestIfOff cL_bestIfOff 4 (some .int) [(0, 9, 12, 21), (0, 9, 15, 13)] :: wsA)) B.pre
  have hown : s.vm.findClass RL = some m.cls := findClass_of_methodNamed B.named
  have hlocks := B.notSynchronized
  have htb := vx_table (x := yL_bestIfOff) B (hts _ (.head _))
  subst hsz
  have hD := hD0.self (sz := s.heap.size)
  generalize hAe : va_A (cW ad N S) s.heap.size = A at hD hX ⊢
  have hA : ∀ q : Nat, s.heap.size ≤ q → A q := fun q h => by rw [← hAe]; exact Or.inr h
  have G : cG D ad N A s.heap s.heap [] S := ⟨hP, hD, va_S.rf⟩
  have E : cE p c cL_bestIfOff s m ([.ref (ad 0), .int x, .ref ao] : List Value).toArray (Cond.codeWith yL_bestIfOff cL_bestIfOff 4 (some .int) [(0, 9, 12, 21), (0, 9, 15, 13)] :: wsA) D RL tys := ⟨hx, hb, hts, hown, hK⟩
  have hl := lv_entry ([.ref (ad 0), .int x, .ref ao]) (n := 4) (Nat.le_of_ble_eq_true rfl)
  rw [lg_entry_eq]
  generalize (lg_sl ([.ref (ad 0), .int x, .ref ao]) ++ List.replicate (4 - (lg_sl ([.ref (ad 0), .int x, .ref ao])).length) Slot.unset).toArray = ls at hl ⊢
  have hl : lv_has ls 4 [(0, .ref (ad 0)), (1, .int x), (2, .ref ao)] := hl
  refine lv_aload_n hx hb dL_bestIfOff_0 rfl (lv_at hl 2 rfl) ?_
  refine lv_iconst (v := 0) hx hb dL_bestIfOff_1 (by decide) ?_
  refine lv_aload_n hx hb dL_bestIfOff_2 rfl (lv_at hl 0 rfl) ?_
  refine lv_iload_n hx hb dL_bestIfOff_3 rfl (lv_at hl 1 rfl) ?_
  refine c_xvi (As := [.int x]) (rest := [.int 0, .ref ao]) E G hA hX rfl hml (k_bestIfOff l hst D tys ad N S h0N h0 hs hscN hsc hmc x) (cwV 1 hts (gaV qA_1121 qA_1122 qA_1123 qA_131 qA_923) rfl rfl rfl (by decide +kernel) ⟨Nat.le_of_ble_eq_true rfl, Nat.le_of_ble_eq_true rfl⟩) h0N h0 rfl rfl hl.1 rfl (lv_room (Nat.le_of_ble_eq_true rfl)) dL_bestIfOff_4 ⟨Nat.le_of_ble_eq_true rfl, Nat.le_of_ble_eq_true rfl⟩ (fun E9 ce q9 S1 H locs hp G hce hcv hcl => ?_) (fun r S1 H locs hq G => hq.elim)
  obtain ⟨hE, hS1⟩ := hp
  subst hE
  rw [hS1] at G
  refine vx_catch (name := xISE) hown [] { startPc := 0, endPc := 9, handlerPc := 12, catchType := 21 } [{ startPc := 0, endPc := 9, handlerPc := 15, catchType := 13 }] htb (fun z hz => absurd hz List.not_mem_nil) (by decide) (by decide) (hts _ (.tail _ qA_952)) (hX.use (.castable xISE xISE) (by decide +kernel)) hce hcv hcl ?_
  refine lv_astore_n (lv' := [(3, .ref q9), (0, .ref (ad 0)), (1, .int x), (2, .ref ao)]) hx hb dL_bestIfOff_12 rfl hl (by decide) rfl (fun ls hl => ?_)
  refine lv_iconst (v := 1) hx hb dL_bestIfOff_13 (by decide) ?_
  exact W.iret (v := 1) hx hb hr (fun t ht hW => ⟨⟨1, S, rfl, ⟨rfl, rfl⟩, ⟨by rw [ht]; exact G.1, va_K.moved hW.alike hK, G.2.1⟩⟩, G.2.2.F ht⟩) G.2.2.2.2 dL_bestIfOff_14
set_option maxHeartbeats 4000000 in
set_option maxRecDepth 100000 in
theorem w_mute (l : Launch) (hst : l.stackTraces = false) (D : va_G) (tys : List (ClassId × FieldType)) (ad : Nat → Nat) (N : Nat) (S : Nat → va_E) {fs gs : List Value} {sc : Nat} (h0N : 0 < N) (h0 : S 0 = .inr (11, fs)) (hs : fs[14]? = some (.ref (ad sc))) (hscN : sc < N) (hsc : S sc = .inr (6, gs)) (hmc : gs[5]? = some (.int 0)) (x y : Int32) (ao : Nat) : cWi l yL_mute (Cond.codeWith yL_mute cL_mute 5 (some .int) [(0, 17, 20, 21), (0, 17, 24, 13)] :: wsA) 8 124 D tys ad N S [.ref (ad 0), .int x, .int y, .ref ao] (fun r S1 => r = 1 ∧ S1 = S) := by
  intro sz
  refine va_MetW (cc := cL_mute) (maxL := 5) (ret := some .int) (by decide) rfl ?_
  intro p e s m args below meth c s₁ B hml hv
  obtain ⟨rfl, hsz, hP, hK, hD0, hX, hN_xIAE_xIOB, hN_xISE_xIOB⟩ := hv
  have hx := B.exec
  have hb := B.bytes
  have hr := B.returns
  have hts := atoms_spec (ws := (Cond.codeWith yL_mute cL_mute 5 (some .int) [(0, 17, 20, 21), (0, 17, 24, 13)] :: wsA)) B.pre
  have hown : s.vm.findClass RL = some m.cls := findClass_of_methodNamed B.named
  have hlocks := B.notSynchronized
  have htb := vx_table (x := yL_mute) B (hts _ (.head _))
  subst hsz
  have hD := hD0.self (sz := s.heap.size)
  generalize hAe : va_A (cW ad N S) s.heap.size = A at hD hX ⊢
  have hA : ∀ q : Nat, s.heap.size ≤ q → A q := fun q h => by rw [← hAe]; exact Or.inr h
  have G : cG D ad N A s.heap s.heap [] S := ⟨hP, hD, va_S.rf⟩
  have E : cE p c cL_mute s m ([.ref (ad 0), .int x, .int y, .ref ao] : List Value).toArray (Cond.codeWith yL_mute cL_mute 5 (some .int) [(0, 17, 20, 21), (0, 17, 24, 13)] :: wsA) D RL tys := ⟨hx, hb, hts, hown, hK⟩
  have hl := lv_entry ([.ref (ad 0), .int x, .int y, .ref ao]) (n := 5) (Nat.le_of_ble_eq_true rfl)
  rw [lg_entry_eq]
  generalize (lg_sl ([.ref (ad 0), .int x, .int y, .ref ao]) ++ List.replicate (5 - (lg_sl ([.ref (ad 0), .int x, .int y, .ref ao])).length) Slot.unset).toArray = ls at hl ⊢
  have hl : lv_has ls 5 [(0, .ref (ad 0)), (1, .int x), (2, .int y), (3, .ref ao)] := hl
  refine lv_aload_n hx hb dL_mute_0 rfl (lv_at hl 3 rfl) ?_
  refine lv_iconst (v := 0) hx hb dL_mute_1 (by decide) ?_
  refine lv_aload_n hx hb dL_mute_2 rfl (lv_at hl 0 rfl) ?_
  refine lv_iload_n hx hb dL_mute_3 rfl (lv_at hl 1 rfl) ?_
  refine lv_iload_n hx hb dL_mute_4 rfl (lv_at hl 2 rfl) ?_
  refine c_xvi (As := [.int x, .int y]) (rest := [.int 0, .ref ao]) E G hA hX rfl hml (k_mute l hst D tys ad N S h0N h0 hs hscN hsc hmc x y) (cwV 2 hts (gaV qA_1125 qA_1126 qA_1127 qA_131 qA_924) rfl rfl rfl (by decide +kernel) ⟨Nat.le_of_ble_eq_true rfl, Nat.le_of_ble_eq_true rfl⟩) h0N h0 rfl rfl hl.1 rfl (lv_room (Nat.le_of_ble_eq_true rfl)) dL_mute_5 ⟨Nat.le_of_ble_eq_true rfl, Nat.le_of_ble_eq_true rfl⟩ (fun E9 ce q9 S1 H locs hp G hce hcv hcl => ?_) (fun r S1 H locs hq G => hq.elim)
  obtain ⟨hE, hS1⟩ := hp
  subst hE
  rw [hS1] at G
  refine vx_catch (name := xISE) hown [] { startPc := 0, endPc := 17, handlerPc := 20, catchType := 21 } [{ startPc := 0, endPc := 17, handlerPc := 24, catchType := 13 }] htb (fun z hz => absurd hz List.not_mem_nil) (by decide) (by decide) (hts _ (.tail _ qA_952)) (hX.use (.castable xISE xISE) (by decide +kernel)) hce hcv hcl ?_
  refine lv_astore (lv' := [(4, .ref q9), (0, .ref (ad 0)), (1, .int x), (2, .int y), (3, .ref ao)]) hx hb dL_mute_20 hl (by decide) rfl (fun ls hl => ?_)
  refine lv_iconst (v := 1) hx hb dL_mute_22 (by decide) ?_
  exact W.iret (v := 1) hx hb hr (fun t ht hW => ⟨⟨1, S, rfl, ⟨rfl, rfl⟩, ⟨by rw [ht]; exact G.1, va_K.moved hW.alike hK, G.2.1⟩⟩, G.2.2.F ht⟩) G.2.2.2.2 dL_mute_23
set_option maxHeartbeats 4000000 in
set_option maxRecDepth 100000 in
theorem w_setWeight (l : Launch) (hst : l.stackTraces = false) (D : va_G) (tys : List (ClassId × FieldType)) (ad : Nat → Nat) (N : Nat) (S : Nat → va_E) {fs gs : List Value} {sc : Nat} (h0N : 0 < N) (h0 : S 0 = .inr (11, fs)) (hs : fs[14]? = some (.ref (ad sc))) (hscN : sc < N) (hsc : S sc = .inr (6, gs)) (hmc : gs[5]? = some (.int 0)) (x y : Int32) (ao : Nat) : cWi l yL_setWeight (Cond.codeWith yL_setWeight cL_setWeight 5 (some .int) [(0, 10, 13, 21), (0, 10, 17, 13), (0, 10, 21, 15)] :: wsA) 8 124 D tys ad N S [.ref (ad 0), .int x, .int y, .ref ao] (fun r S1 => r = 1 ∧ S1 = S) := by
  intro sz
  refine va_MetW (cc := cL_setWeight) (maxL := 5) (ret := some .int) (by decide) rfl ?_
  intro p e s m args below meth c s₁ B hml hv
  obtain ⟨rfl, hsz, hP, hK, hD0, hX, hN_xIAE_xIOB, hN_xISE_xIOB⟩ := hv
  have hx := B.exec
  have hb := B.bytes
  have hr := B.returns
  have hts := atoms_spec (ws := (Cond.codeWith yL_setWeight cL_setWeight 5 (some .int) [(0, 10, 13, 21), (0, 10, 17, 13), (0, 10, 21, 15)] :: wsA)) B.pre
  have hown : s.vm.findClass RL = some m.cls := findClass_of_methodNamed B.named
  have hlocks := B.notSynchronized
  have htb := vx_table (x := yL_setWeight) B (hts _ (.head _))
  subst hsz
  have hD := hD0.self (sz := s.heap.size)
  generalize hAe : va_A (cW ad N S) s.heap.size = A at hD hX ⊢
  have hA : ∀ q : Nat, s.heap.size ≤ q → A q := fun q h => by rw [← hAe]; exact Or.inr h
  have G : cG D ad N A s.heap s.heap [] S := ⟨hP, hD, va_S.rf⟩
  have E : cE p c cL_setWeight s m ([.ref (ad 0), .int x, .int y, .ref ao] : List Value).toArray (Cond.codeWith yL_setWeight cL_setWeight 5 (some .int) [(0, 10, 13, 21), (0, 10, 17, 13), (0, 10, 21, 15)] :: wsA) D RL tys := ⟨hx, hb, hts, hown, hK⟩
  have hl := lv_entry ([.ref (ad 0), .int x, .int y, .ref ao]) (n := 5) (Nat.le_of_ble_eq_true rfl)
  rw [lg_entry_eq]
  generalize (lg_sl ([.ref (ad 0), .int x, .int y, .ref ao]) ++ List.replicate (5 - (lg_sl ([.ref (ad 0), .int x, .int y, .ref ao])).length) Slot.unset).toArray = ls at hl ⊢
  have hl : lv_has ls 5 [(0, .ref (ad 0)), (1, .int x), (2, .int y), (3, .ref ao)] := hl
  refine lv_aload_n hx hb dL_setWeight_0 rfl (lv_at hl 3 rfl) ?_
  refine lv_iconst (v := 0) hx hb dL_setWeight_1 (by decide) ?_
  refine lv_aload_n hx hb dL_setWeight_2 rfl (lv_at hl 0 rfl) ?_
  refine lv_iload_n hx hb dL_setWeight_3 rfl (lv_at hl 1 rfl) ?_
  refine lv_iload_n hx hb dL_setWeight_4 rfl (lv_at hl 2 rfl) ?_
  refine c_xvi (As := [.int x, .int y]) (rest := [.int 0, .ref ao]) E G hA hX rfl hml (k_setWeight l hst D tys ad N S h0N h0 hs hscN hsc hmc x y) (cwV 2 hts (gaV qA_1129 qA_1130 qA_1131 qA_131 qA_930) rfl rfl rfl (by decide +kernel) ⟨Nat.le_of_ble_eq_true rfl, Nat.le_of_ble_eq_true rfl⟩) h0N h0 rfl rfl hl.1 rfl (lv_room (Nat.le_of_ble_eq_true rfl)) dL_setWeight_5 ⟨Nat.le_of_ble_eq_true rfl, Nat.le_of_ble_eq_true rfl⟩ (fun E9 ce q9 S1 H locs hp G hce hcv hcl => ?_) (fun r S1 H locs hq G => hq.elim)
  obtain ⟨hE, hS1⟩ := hp
  subst hE
  rw [hS1] at G
  refine vx_catch (name := xISE) hown [] { startPc := 0, endPc := 10, handlerPc := 13, catchType := 21 } [{ startPc := 0, endPc := 10, handlerPc := 17, catchType := 13 }, { startPc := 0, endPc := 10, handlerPc := 21, catchType := 15 }] htb (fun z hz => absurd hz List.not_mem_nil) (by decide) (by decide) (hts _ (.tail _ qA_952)) (hX.use (.castable xISE xISE) (by decide +kernel)) hce hcv hcl ?_
  refine lv_astore (lv' := [(4, .ref q9), (0, .ref (ad 0)), (1, .int x), (2, .int y), (3, .ref ao)]) hx hb dL_setWeight_13 hl (by decide) rfl (fun ls hl => ?_)
  refine lv_iconst (v := 1) hx hb dL_setWeight_15 (by decide) ?_
  exact W.iret (v := 1) hx hb hr (fun t ht hW => ⟨⟨1, S, rfl, ⟨rfl, rfl⟩, ⟨by rw [ht]; exact G.1, va_K.moved hW.alike hK, G.2.1⟩⟩, G.2.2.F ht⟩) G.2.2.2.2 dL_setWeight_16
set_option maxHeartbeats 4000000 in
set_option maxRecDepth 100000 in
theorem w_setOn (l : Launch) (hst : l.stackTraces = false) (D : va_G) (tys : List (ClassId × FieldType)) (ad : Nat → Nat) (N : Nat) (S : Nat → va_E) {fs gs : List Value} {sc : Nat} (h0N : 0 < N) (h0 : S 0 = .inr (11, fs)) (hs : fs[14]? = some (.ref (ad sc))) (hscN : sc < N) (hsc : S sc = .inr (6, gs)) (hmc : gs[5]? = some (.int 0)) (x y : Int32) (ao : Nat) : cWi l yL_setOn (Cond.codeWith yL_setOn cL_setOn 5 (some .int) [(0, 17, 20, 21), (0, 17, 24, 13)] :: wsA) 8 124 D tys ad N S [.ref (ad 0), .int x, .int y, .ref ao] (fun r S1 => r = 1 ∧ S1 = S) := by
  intro sz
  refine va_MetW (cc := cL_setOn) (maxL := 5) (ret := some .int) (by decide) rfl ?_
  intro p e s m args below meth c s₁ B hml hv
  obtain ⟨rfl, hsz, hP, hK, hD0, hX, hN_xIAE_xIOB, hN_xISE_xIOB⟩ := hv
  have hx := B.exec
  have hb := B.bytes
  have hr := B.returns
  have hts := atoms_spec (ws := (Cond.codeWith yL_setOn cL_setOn 5 (some .int) [(0, 17, 20, 21), (0, 17, 24, 13)] :: wsA)) B.pre
  have hown : s.vm.findClass RL = some m.cls := findClass_of_methodNamed B.named
  have hlocks := B.notSynchronized
  have htb := vx_table (x := yL_setOn) B (hts _ (.head _))
  subst hsz
  have hD := hD0.self (sz := s.heap.size)
  generalize hAe : va_A (cW ad N S) s.heap.size = A at hD hX ⊢
  have hA : ∀ q : Nat, s.heap.size ≤ q → A q := fun q h => by rw [← hAe]; exact Or.inr h
  have G : cG D ad N A s.heap s.heap [] S := ⟨hP, hD, va_S.rf⟩
  have E : cE p c cL_setOn s m ([.ref (ad 0), .int x, .int y, .ref ao] : List Value).toArray (Cond.codeWith yL_setOn cL_setOn 5 (some .int) [(0, 17, 20, 21), (0, 17, 24, 13)] :: wsA) D RL tys := ⟨hx, hb, hts, hown, hK⟩
  have hl := lv_entry ([.ref (ad 0), .int x, .int y, .ref ao]) (n := 5) (Nat.le_of_ble_eq_true rfl)
  rw [lg_entry_eq]
  generalize (lg_sl ([.ref (ad 0), .int x, .int y, .ref ao]) ++ List.replicate (5 - (lg_sl ([.ref (ad 0), .int x, .int y, .ref ao])).length) Slot.unset).toArray = ls at hl ⊢
  have hl : lv_has ls 5 [(0, .ref (ad 0)), (1, .int x), (2, .int y), (3, .ref ao)] := hl
  refine lv_aload_n hx hb dL_setOn_0 rfl (lv_at hl 3 rfl) ?_
  refine lv_iconst (v := 0) hx hb dL_setOn_1 (by decide) ?_
  refine lv_aload_n hx hb dL_setOn_2 rfl (lv_at hl 0 rfl) ?_
  refine lv_iload_n hx hb dL_setOn_3 rfl (lv_at hl 1 rfl) ?_
  refine lv_iload_n hx hb dL_setOn_4 rfl (lv_at hl 2 rfl) ?_
  refine c_xvi (As := [.int x, .int y]) (rest := [.int 0, .ref ao]) E G hA hX rfl hml (k_setOn l hst D tys ad N S h0N h0 hs hscN hsc hmc x y) (cwV 2 hts (gaV qA_1133 qA_1134 qA_1135 qA_131 qA_931) rfl rfl rfl (by decide +kernel) ⟨Nat.le_of_ble_eq_true rfl, Nat.le_of_ble_eq_true rfl⟩) h0N h0 rfl rfl hl.1 rfl (lv_room (Nat.le_of_ble_eq_true rfl)) dL_setOn_5 ⟨Nat.le_of_ble_eq_true rfl, Nat.le_of_ble_eq_true rfl⟩ (fun E9 ce q9 S1 H locs hp G hce hcv hcl => ?_) (fun r S1 H locs hq G => hq.elim)
  obtain ⟨hE, hS1⟩ := hp
  subst hE
  rw [hS1] at G
  refine vx_catch (name := xISE) hown [] { startPc := 0, endPc := 17, handlerPc := 20, catchType := 21 } [{ startPc := 0, endPc := 17, handlerPc := 24, catchType := 13 }] htb (fun z hz => absurd hz List.not_mem_nil) (by decide) (by decide) (hts _ (.tail _ qA_952)) (hX.use (.castable xISE xISE) (by decide +kernel)) hce hcv hcl ?_
  refine lv_astore (lv' := [(4, .ref q9), (0, .ref (ad 0)), (1, .int x), (2, .int y), (3, .ref ao)]) hx hb dL_setOn_20 hl (by decide) rfl (fun ls hl => ?_)
  refine lv_iconst (v := 1) hx hb dL_setOn_22 (by decide) ?_
  exact W.iret (v := 1) hx hb hr (fun t ht hW => ⟨⟨1, S, rfl, ⟨rfl, rfl⟩, ⟨by rw [ht]; exact G.1, va_K.moved hW.alike hK, G.2.1⟩⟩, G.2.2.F ht⟩) G.2.2.2.2 dL_setOn_23
set_option maxHeartbeats 4000000 in
set_option maxRecDepth 100000 in
theorem w_moveSource (l : Launch) (hst : l.stackTraces = false) (D : va_G) (tys : List (ClassId × FieldType)) (ad : Nat → Nat) (N : Nat) (S : Nat → va_E) {fs gs : List Value} {sc : Nat} (h0N : 0 < N) (h0 : S 0 = .inr (11, fs)) (hs : fs[14]? = some (.ref (ad sc))) (hscN : sc < N) (hsc : S sc = .inr (6, gs)) (hmc : gs[5]? = some (.int 0)) (x y z : Int32) (ao : Nat) : cWi l yL_moveSource (Cond.codeWith yL_moveSource cL_moveSource 6 (some .int) [(0, 12, 15, 21), (0, 12, 19, 13), (0, 12, 23, 15)] :: wsA) 8 124 D tys ad N S [.ref (ad 0), .int x, .int y, .int z, .ref ao] (fun r S1 => r = 1 ∧ S1 = S) := by
  intro sz
  refine va_MetW (cc := cL_moveSource) (maxL := 6) (ret := some .int) (by decide) rfl ?_
  intro p e s m args below meth c s₁ B hml hv
  obtain ⟨rfl, hsz, hP, hK, hD0, hX, hN_xIAE_xIOB, hN_xISE_xIOB⟩ := hv
  have hx := B.exec
  have hb := B.bytes
  have hr := B.returns
  have hts := atoms_spec (ws := (Cond.codeWith yL_moveSource cL_moveSource 6 (some .int) [(0, 12, 15, 21), (0, 12, 19, 13), (0, 12, 23, 15)] :: wsA)) B.pre
  have hown : s.vm.findClass RL = some m.cls := findClass_of_methodNamed B.named
  have hlocks := B.notSynchronized
  have htb := vx_table (x := yL_moveSource) B (hts _ (.head _))
  subst hsz
  have hD := hD0.self (sz := s.heap.size)
  generalize hAe : va_A (cW ad N S) s.heap.size = A at hD hX ⊢
  have hA : ∀ q : Nat, s.heap.size ≤ q → A q := fun q h => by rw [← hAe]; exact Or.inr h
  have G : cG D ad N A s.heap s.heap [] S := ⟨hP, hD, va_S.rf⟩
  have E : cE p c cL_moveSource s m ([.ref (ad 0), .int x, .int y, .int z, .ref ao] : List Value).toArray (Cond.codeWith yL_moveSource cL_moveSource 6 (some .int) [(0, 12, 15, 21), (0, 12, 19, 13), (0, 12, 23, 15)] :: wsA) D RL tys := ⟨hx, hb, hts, hown, hK⟩
  have hl := lv_entry ([.ref (ad 0), .int x, .int y, .int z, .ref ao]) (n := 6) (Nat.le_of_ble_eq_true rfl)
  rw [lg_entry_eq]
  generalize (lg_sl ([.ref (ad 0), .int x, .int y, .int z, .ref ao]) ++ List.replicate (6 - (lg_sl ([.ref (ad 0), .int x, .int y, .int z, .ref ao])).length) Slot.unset).toArray = ls at hl ⊢
  have hl : lv_has ls 6 [(0, .ref (ad 0)), (1, .int x), (2, .int y), (3, .int z), (4, .ref ao)] := hl
  refine lv_aload hx hb dL_moveSource_0 (lv_at hl 4 rfl) ?_
  refine lv_iconst (v := 0) hx hb dL_moveSource_2 (by decide) ?_
  refine lv_aload_n hx hb dL_moveSource_3 rfl (lv_at hl 0 rfl) ?_
  refine lv_iload_n hx hb dL_moveSource_4 rfl (lv_at hl 1 rfl) ?_
  refine lv_iload_n hx hb dL_moveSource_5 rfl (lv_at hl 2 rfl) ?_
  refine lv_iload_n hx hb dL_moveSource_6 rfl (lv_at hl 3 rfl) ?_
  refine c_xvi (As := [.int x, .int y, .int z]) (rest := [.int 0, .ref ao]) E G hA hX rfl hml (k_moveSource l hst D tys ad N S h0N h0 hs hscN hsc hmc x y z) (cwV 3 hts (gaV qA_1137 qA_1138 qA_1139 qA_131 qA_932) rfl rfl rfl (by decide +kernel) ⟨Nat.le_of_ble_eq_true rfl, Nat.le_of_ble_eq_true rfl⟩) h0N h0 rfl rfl hl.1 rfl (lv_room (Nat.le_of_ble_eq_true rfl)) dL_moveSource_7 ⟨Nat.le_of_ble_eq_true rfl, Nat.le_of_ble_eq_true rfl⟩ (fun E9 ce q9 S1 H locs hp G hce hcv hcl => ?_) (fun r S1 H locs hq G => hq.elim)
  obtain ⟨hE, hS1⟩ := hp
  subst hE
  rw [hS1] at G
  refine vx_catch (name := xISE) hown [] { startPc := 0, endPc := 12, handlerPc := 15, catchType := 21 } [{ startPc := 0, endPc := 12, handlerPc := 19, catchType := 13 }, { startPc := 0, endPc := 12, handlerPc := 23, catchType := 15 }] htb (fun z hz => absurd hz List.not_mem_nil) (by decide) (by decide) (hts _ (.tail _ qA_952)) (hX.use (.castable xISE xISE) (by decide +kernel)) hce hcv hcl ?_
  refine lv_astore (lv' := [(5, .ref q9), (0, .ref (ad 0)), (1, .int x), (2, .int y), (3, .int z), (4, .ref ao)]) hx hb dL_moveSource_15 hl (by decide) rfl (fun ls hl => ?_)
  refine lv_iconst (v := 1) hx hb dL_moveSource_17 (by decide) ?_
  exact W.iret (v := 1) hx hb hr (fun t ht hW => ⟨⟨1, S, rfl, ⟨rfl, rfl⟩, ⟨by rw [ht]; exact G.1, va_K.moved hW.alike hK, G.2.1⟩⟩, G.2.2.F ht⟩) G.2.2.2.2 dL_moveSource_18
set_option maxHeartbeats 4000000 in
set_option maxRecDepth 100000 in
theorem w_setVelocity (l : Launch) (hst : l.stackTraces = false) (D : va_G) (tys : List (ClassId × FieldType)) (ad : Nat → Nat) (N : Nat) (S : Nat → va_E) {fs gs : List Value} {sc : Nat} (h0N : 0 < N) (h0 : S 0 = .inr (11, fs)) (hs : fs[14]? = some (.ref (ad sc))) (hscN : sc < N) (hsc : S sc = .inr (6, gs)) (hmc : gs[5]? = some (.int 0)) (x y z : Int32) (ao : Nat) : cWi l yL_setVelocity (Cond.codeWith yL_setVelocity cL_setVelocity 6 (some .int) [(0, 12, 15, 21), (0, 12, 19, 13), (0, 12, 23, 15)] :: wsA) 8 124 D tys ad N S [.ref (ad 0), .int x, .int y, .int z, .ref ao] (fun r S1 => r = 1 ∧ S1 = S) := by
  intro sz
  refine va_MetW (cc := cL_setVelocity) (maxL := 6) (ret := some .int) (by decide) rfl ?_
  intro p e s m args below meth c s₁ B hml hv
  obtain ⟨rfl, hsz, hP, hK, hD0, hX, hN_xIAE_xIOB, hN_xISE_xIOB⟩ := hv
  have hx := B.exec
  have hb := B.bytes
  have hr := B.returns
  have hts := atoms_spec (ws := (Cond.codeWith yL_setVelocity cL_setVelocity 6 (some .int) [(0, 12, 15, 21), (0, 12, 19, 13), (0, 12, 23, 15)] :: wsA)) B.pre
  have hown : s.vm.findClass RL = some m.cls := findClass_of_methodNamed B.named
  have hlocks := B.notSynchronized
  have htb := vx_table (x := yL_setVelocity) B (hts _ (.head _))
  subst hsz
  have hD := hD0.self (sz := s.heap.size)
  generalize hAe : va_A (cW ad N S) s.heap.size = A at hD hX ⊢
  have hA : ∀ q : Nat, s.heap.size ≤ q → A q := fun q h => by rw [← hAe]; exact Or.inr h
  have G : cG D ad N A s.heap s.heap [] S := ⟨hP, hD, va_S.rf⟩
  have E : cE p c cL_setVelocity s m ([.ref (ad 0), .int x, .int y, .int z, .ref ao] : List Value).toArray (Cond.codeWith yL_setVelocity cL_setVelocity 6 (some .int) [(0, 12, 15, 21), (0, 12, 19, 13), (0, 12, 23, 15)] :: wsA) D RL tys := ⟨hx, hb, hts, hown, hK⟩
  have hl := lv_entry ([.ref (ad 0), .int x, .int y, .int z, .ref ao]) (n := 6) (Nat.le_of_ble_eq_true rfl)
  rw [lg_entry_eq]
  generalize (lg_sl ([.ref (ad 0), .int x, .int y, .int z, .ref ao]) ++ List.replicate (6 - (lg_sl ([.ref (ad 0), .int x, .int y, .int z, .ref ao])).length) Slot.unset).toArray = ls at hl ⊢
  have hl : lv_has ls 6 [(0, .ref (ad 0)), (1, .int x), (2, .int y), (3, .int z), (4, .ref ao)] := hl
  refine lv_aload hx hb dL_setVelocity_0 (lv_at hl 4 rfl) ?_
  refine lv_iconst (v := 0) hx hb dL_setVelocity_2 (by decide) ?_
  refine lv_aload_n hx hb dL_setVelocity_3 rfl (lv_at hl 0 rfl) ?_
  refine lv_iload_n hx hb dL_setVelocity_4 rfl (lv_at hl 1 rfl) ?_
  refine lv_iload_n hx hb dL_setVelocity_5 rfl (lv_at hl 2 rfl) ?_
  refine lv_iload_n hx hb dL_setVelocity_6 rfl (lv_at hl 3 rfl) ?_
  refine c_xvi (As := [.int x, .int y, .int z]) (rest := [.int 0, .ref ao]) E G hA hX rfl hml (k_setVelocity l hst D tys ad N S h0N h0 hs hscN hsc hmc x y z) (cwV 3 hts (gaV qA_1141 qA_1142 qA_1143 qA_131 qA_933) rfl rfl rfl (by decide +kernel) ⟨Nat.le_of_ble_eq_true rfl, Nat.le_of_ble_eq_true rfl⟩) h0N h0 rfl rfl hl.1 rfl (lv_room (Nat.le_of_ble_eq_true rfl)) dL_setVelocity_7 ⟨Nat.le_of_ble_eq_true rfl, Nat.le_of_ble_eq_true rfl⟩ (fun E9 ce q9 S1 H locs hp G hce hcv hcl => ?_) (fun r S1 H locs hq G => hq.elim)
  obtain ⟨hE, hS1⟩ := hp
  subst hE
  rw [hS1] at G
  refine vx_catch (name := xISE) hown [] { startPc := 0, endPc := 12, handlerPc := 15, catchType := 21 } [{ startPc := 0, endPc := 12, handlerPc := 19, catchType := 13 }, { startPc := 0, endPc := 12, handlerPc := 23, catchType := 15 }] htb (fun z hz => absurd hz List.not_mem_nil) (by decide) (by decide) (hts _ (.tail _ qA_952)) (hX.use (.castable xISE xISE) (by decide +kernel)) hce hcv hcl ?_
  refine lv_astore (lv' := [(5, .ref q9), (0, .ref (ad 0)), (1, .int x), (2, .int y), (3, .int z), (4, .ref ao)]) hx hb dL_setVelocity_15 hl (by decide) rfl (fun ls hl => ?_)
  refine lv_iconst (v := 1) hx hb dL_setVelocity_17 (by decide) ?_
  exact W.iret (v := 1) hx hb hr (fun t ht hW => ⟨⟨1, S, rfl, ⟨rfl, rfl⟩, ⟨by rw [ht]; exact G.1, va_K.moved hW.alike hK, G.2.1⟩⟩, G.2.2.F ht⟩) G.2.2.2.2 dL_setVelocity_18
set_option maxHeartbeats 4000000 in
set_option maxRecDepth 100000 in
theorem w_cleaned (l : Launch) (hst : l.stackTraces = false) (D : va_G) (tys : List (ClassId × FieldType)) (ad : Nat → Nat) (N : Nat) (S : Nat → va_E) {fs gs : List Value} {sc : Nat} (h0N : 0 < N) (h0 : S 0 = .inr (11, fs)) (hs : fs[14]? = some (.ref (ad sc))) (hscN : sc < N) (hsc : S sc = .inr (6, gs)) (hmc : gs[5]? = some (.int 0)) (ao : Nat) : cWi l yL_cleaned (Cond.codeWith yL_cleaned cL_cleaned 3 (some .int) [(0, 8, 11, 21)] :: wsA) 8 121 D tys ad N S [.ref (ad 0), .ref ao] (fun r S1 => r = 1 ∧ S1 = S) := by
  intro sz
  refine va_MetW (cc := cL_cleaned) (maxL := 3) (ret := some .int) (by decide) rfl ?_
  intro p e s m args below meth c s₁ B hml hv
  obtain ⟨rfl, hsz, hP, hK, hD0, hX, hN_xIAE_xIOB, hN_xISE_xIOB⟩ := hv
  have hx := B.exec
  have hb := B.bytes
  have hr := B.returns
  have hts := atoms_spec (ws := (Cond.codeWith yL_cleaned cL_cleaned 3 (some .int) [(0, 8, 11, 21)] :: wsA)) B.pre
  have hown : s.vm.findClass RL = some m.cls := findClass_of_methodNamed B.named
  have hlocks := B.notSynchronized
  have htb := vx_table (x := yL_cleaned) B (hts _ (.head _))
  subst hsz
  have hD := hD0.self (sz := s.heap.size)
  generalize hAe : va_A (cW ad N S) s.heap.size = A at hD hX ⊢
  have hA : ∀ q : Nat, s.heap.size ≤ q → A q := fun q h => by rw [← hAe]; exact Or.inr h
  have G : cG D ad N A s.heap s.heap [] S := ⟨hP, hD, va_S.rf⟩
  have E : cE p c cL_cleaned s m ([.ref (ad 0), .ref ao] : List Value).toArray (Cond.codeWith yL_cleaned cL_cleaned 3 (some .int) [(0, 8, 11, 21)] :: wsA) D RL tys := ⟨hx, hb, hts, hown, hK⟩
  have hl := lv_entry ([.ref (ad 0), .ref ao]) (n := 3) (Nat.le_of_ble_eq_true rfl)
  rw [lg_entry_eq]
  generalize (lg_sl ([.ref (ad 0), .ref ao]) ++ List.replicate (3 - (lg_sl ([.ref (ad 0), .ref ao])).length) Slot.unset).toArray = ls at hl ⊢
  have hl : lv_has ls 3 [(0, .ref (ad 0)), (1, .ref ao)] := hl
  refine lv_aload_n hx hb dL_cleaned_0 rfl (lv_at hl 1 rfl) ?_
  refine lv_iconst (v := 0) hx hb dL_cleaned_1 (by decide) ?_
  refine lv_aload_n hx hb dL_cleaned_2 rfl (lv_at hl 0 rfl) ?_
  refine c_xvi (As := []) (rest := [.int 0, .ref ao]) E G hA hX rfl hml (k_cleaned l hst D tys ad N S h0N h0 hs hscN hsc hmc) (cwV 0 hts (gaV qA_1149 qA_1150 qA_1151 qA_131 qA_939) rfl rfl rfl (by decide +kernel) ⟨Nat.le_of_ble_eq_true rfl, Nat.le_of_ble_eq_true rfl⟩) h0N h0 rfl rfl hl.1 rfl (lv_room (Nat.le_of_ble_eq_true rfl)) dL_cleaned_3 ⟨Nat.le_of_ble_eq_true rfl, Nat.le_of_ble_eq_true rfl⟩ (fun E9 ce q9 S1 H locs hp G hce hcv hcl => ?_) (fun r S1 H locs hq G => hq.elim)
  obtain ⟨hE, hS1⟩ := hp
  subst hE
  rw [hS1] at G
  refine vx_catch (name := xISE) hown [] { startPc := 0, endPc := 8, handlerPc := 11, catchType := 21 } [] htb (fun z hz => absurd hz List.not_mem_nil) (by decide) (by decide) (hts _ (.tail _ qA_952)) (hX.use (.castable xISE xISE) (by decide +kernel)) hce hcv hcl ?_
  refine lv_astore_n (lv' := [(2, .ref q9), (0, .ref (ad 0)), (1, .ref ao)]) hx hb dL_cleaned_11 rfl hl (by decide) rfl (fun ls hl => ?_)
  refine lv_iconst (v := 1) hx hb dL_cleaned_12 (by decide) ?_
  exact W.iret (v := 1) hx hb hr (fun t ht hW => ⟨⟨1, S, rfl, ⟨rfl, rfl⟩, ⟨by rw [ht]; exact G.1, va_K.moved hW.alike hK, G.2.1⟩⟩, G.2.2.F ht⟩) G.2.2.2.2 dL_cleaned_13
set_option maxHeartbeats 4000000 in
set_option maxRecDepth 100000 in
theorem w_save (l : Launch) (hst : l.stackTraces = false) (D : va_G) (tys : List (ClassId × FieldType)) (ad : Nat → Nat) (N : Nat) (S : Nat → va_E) {fs gs : List Value} {sc : Nat} (h0N : 0 < N) (h0 : S 0 = .inr (11, fs)) (hs : fs[14]? = some (.ref (ad sc))) (hscN : sc < N) (hsc : S sc = .inr (6, gs)) (hmc : gs[5]? = some (.int 0)) (x : Int32) (ao : Nat) : cWi l yL_save (Cond.codeWith yL_save cL_save 4 (some .int) [(0, 9, 12, 21), (0, 9, 15, 13)] :: wsA) 8 122 D tys ad N S [.ref (ad 0), .int x, .ref ao] (fun r S1 => r = 1 ∧ S1 = S) := by
  intro sz
  refine va_MetW (cc := cL_save) (maxL := 4) (ret := some .int) (by decide) rfl ?_
  intro p e s m args below meth c s₁ B hml hv
  obtain ⟨rfl, hsz, hP, hK, hD0, hX, hN_xIAE_xIOB, hN_xISE_xIOB⟩ := hv
  have hx := B.exec
  have hb := B.bytes
  have hr := B.returns
  have hts := atoms_spec (ws := (Cond.codeWith yL_save cL_save 4 (some .int) [(0, 9, 12, 21), (0, 9, 15, 13)] :: wsA)) B.pre
  have hown : s.vm.findClass RL = some m.cls := findClass_of_methodNamed B.named
  have hlocks := B.notSynchronized
  have htb := vx_table (x := yL_save) B (hts _ (.head _))
  subst hsz
  have hD := hD0.self (sz := s.heap.size)
  generalize hAe : va_A (cW ad N S) s.heap.size = A at hD hX ⊢
  have hA : ∀ q : Nat, s.heap.size ≤ q → A q := fun q h => by rw [← hAe]; exact Or.inr h
  have G : cG D ad N A s.heap s.heap [] S := ⟨hP, hD, va_S.rf⟩
  have E : cE p c cL_save s m ([.ref (ad 0), .int x, .ref ao] : List Value).toArray (Cond.codeWith yL_save cL_save 4 (some .int) [(0, 9, 12, 21), (0, 9, 15, 13)] :: wsA) D RL tys := ⟨hx, hb, hts, hown, hK⟩
  have hl := lv_entry ([.ref (ad 0), .int x, .ref ao]) (n := 4) (Nat.le_of_ble_eq_true rfl)
  rw [lg_entry_eq]
  generalize (lg_sl ([.ref (ad 0), .int x, .ref ao]) ++ List.replicate (4 - (lg_sl ([.ref (ad 0), .int x, .ref ao])).length) Slot.unset).toArray = ls at hl ⊢
  have hl : lv_has ls 4 [(0, .ref (ad 0)), (1, .int x), (2, .ref ao)] := hl
  refine lv_aload_n hx hb dL_save_0 rfl (lv_at hl 2 rfl) ?_
  refine lv_iconst (v := 0) hx hb dL_save_1 (by decide) ?_
  refine lv_aload_n hx hb dL_save_2 rfl (lv_at hl 0 rfl) ?_
  refine lv_iload_n hx hb dL_save_3 rfl (lv_at hl 1 rfl) ?_
  refine c_xvi (As := [.int x]) (rest := [.int 0, .ref ao]) E G hA hX rfl hml (k_save l hst D tys ad N S h0N h0 hs hscN hsc hmc x) (cwV 1 hts (gaV qA_1157 qA_1158 qA_1159 qA_131 qA_943) rfl rfl rfl (by decide +kernel) ⟨Nat.le_of_ble_eq_true rfl, Nat.le_of_ble_eq_true rfl⟩) h0N h0 rfl rfl hl.1 rfl (lv_room (Nat.le_of_ble_eq_true rfl)) dL_save_4 ⟨Nat.le_of_ble_eq_true rfl, Nat.le_of_ble_eq_true rfl⟩ (fun E9 ce q9 S1 H locs hp G hce hcv hcl => ?_) (fun r S1 H locs hq G => hq.elim)
  obtain ⟨hE, hS1⟩ := hp
  subst hE
  rw [hS1] at G
  refine vx_catch (name := xISE) hown [] { startPc := 0, endPc := 9, handlerPc := 12, catchType := 21 } [{ startPc := 0, endPc := 9, handlerPc := 15, catchType := 13 }] htb (fun z hz => absurd hz List.not_mem_nil) (by decide) (by decide) (hts _ (.tail _ qA_952)) (hX.use (.castable xISE xISE) (by decide +kernel)) hce hcv hcl ?_
  refine lv_astore_n (lv' := [(3, .ref q9), (0, .ref (ad 0)), (1, .int x), (2, .ref ao)]) hx hb dL_save_12 rfl hl (by decide) rfl (fun ls hl => ?_)
  refine lv_iconst (v := 1) hx hb dL_save_13 (by decide) ?_
  exact W.iret (v := 1) hx hb hr (fun t ht hW => ⟨⟨1, S, rfl, ⟨rfl, rfl⟩, ⟨by rw [ht]; exact G.1, va_K.moved hW.alike hK, G.2.1⟩⟩, G.2.2.F ht⟩) G.2.2.2.2 dL_save_14
set_option maxHeartbeats 4000000 in
set_option maxRecDepth 100000 in
theorem w_clean (l : Launch) (hst : l.stackTraces = false) (D : va_G) (tys : List (ClassId × FieldType)) (ad : Nat → Nat) (N : Nat) (S : Nat → va_E) {fs gs : List Value} {sc : Nat} (h0N : 0 < N) (h0 : S 0 = .inr (11, fs)) (hs : fs[14]? = some (.ref (ad sc))) (hscN : sc < N) (hsc : S sc = .inr (6, gs)) (hmc : gs[5]? = some (.int 0)) (x : Int32) (ao : Nat) : cWi l yL_clean (Cond.codeWith yL_clean cL_clean 4 (some .int) [(0, 9, 12, 21), (0, 9, 15, 15)] :: wsA) 8 123 D tys ad N S [.ref (ad 0), .int x, .ref ao] (fun r S1 => r = 1 ∧ S1 = S) := by
  intro sz
  refine va_MetW (cc := cL_clean) (maxL := 4) (ret := some .int) (by decide) rfl ?_
  intro p e s m args below meth c s₁ B hml hv
  obtain ⟨rfl, hsz, hP, hK, hD0, hX, hN_xIAE_xIOB, hN_xISE_xIOB⟩ := hv
  have hx := B.exec
  have hb := B.bytes
  have hr := B.returns
  have hts := atoms_spec (ws := (Cond.codeWith yL_clean cL_clean 4 (some .int) [(0, 9, 12, 21), (0, 9, 15, 15)] :: wsA)) B.pre
  have hown : s.vm.findClass RL = some m.cls := findClass_of_methodNamed B.named
  have hlocks := B.notSynchronized
  have htb := vx_table (x := yL_clean) B (hts _ (.head _))
  subst hsz
  have hD := hD0.self (sz := s.heap.size)
  generalize hAe : va_A (cW ad N S) s.heap.size = A at hD hX ⊢
  have hA : ∀ q : Nat, s.heap.size ≤ q → A q := fun q h => by rw [← hAe]; exact Or.inr h
  have G : cG D ad N A s.heap s.heap [] S := ⟨hP, hD, va_S.rf⟩
  have E : cE p c cL_clean s m ([.ref (ad 0), .int x, .ref ao] : List Value).toArray (Cond.codeWith yL_clean cL_clean 4 (some .int) [(0, 9, 12, 21), (0, 9, 15, 15)] :: wsA) D RL tys := ⟨hx, hb, hts, hown, hK⟩
  have hl := lv_entry ([.ref (ad 0), .int x, .ref ao]) (n := 4) (Nat.le_of_ble_eq_true rfl)
  rw [lg_entry_eq]
  generalize (lg_sl ([.ref (ad 0), .int x, .ref ao]) ++ List.replicate (4 - (lg_sl ([.ref (ad 0), .int x, .ref ao])).length) Slot.unset).toArray = ls at hl ⊢
  have hl : lv_has ls 4 [(0, .ref (ad 0)), (1, .int x), (2, .ref ao)] := hl
  refine lv_aload_n hx hb dL_clean_0 rfl (lv_at hl 2 rfl) ?_
  refine lv_iconst (v := 0) hx hb dL_clean_1 (by decide) ?_
  refine lv_aload_n hx hb dL_clean_2 rfl (lv_at hl 0 rfl) ?_
  refine lv_iload_n hx hb dL_clean_3 rfl (lv_at hl 1 rfl) ?_
  refine c_xvi (As := [.int x]) (rest := [.int 0, .ref ao]) E G hA hX rfl hml (k_clean l hst D tys ad N S h0N h0 hs hscN hsc hmc x) (cwV 1 hts (gaV qA_1145 qA_1146 qA_1147 qA_131 qA_934) rfl rfl rfl (by decide +kernel) ⟨Nat.le_of_ble_eq_true rfl, Nat.le_of_ble_eq_true rfl⟩) h0N h0 rfl rfl hl.1 rfl (lv_room (Nat.le_of_ble_eq_true rfl)) dL_clean_4 ⟨Nat.le_of_ble_eq_true rfl, Nat.le_of_ble_eq_true rfl⟩ (fun E9 ce q9 S1 H locs hp G hce hcv hcl => ?_) (fun r S1 H locs hq G => hq.elim)
  obtain ⟨hE, hS1⟩ := hp
  subst hE
  rw [hS1] at G
  refine vx_catch (name := xISE) hown [] { startPc := 0, endPc := 9, handlerPc := 12, catchType := 21 } [{ startPc := 0, endPc := 9, handlerPc := 15, catchType := 15 }] htb (fun z hz => absurd hz List.not_mem_nil) (by decide) (by decide) (hts _ (.tail _ qA_952)) (hX.use (.castable xISE xISE) (by decide +kernel)) hce hcv hcl ?_
  refine lv_astore_n (lv' := [(3, .ref q9), (0, .ref (ad 0)), (1, .int x), (2, .ref ao)]) hx hb dL_clean_12 rfl hl (by decide) rfl (fun ls hl => ?_)
  refine lv_iconst (v := 1) hx hb dL_clean_13 (by decide) ?_
  exact W.iret (v := 1) hx hb hr (fun t ht hW => ⟨⟨1, S, rfl, ⟨rfl, rfl⟩, ⟨by rw [ht]; exact G.1, va_K.moved hW.alike hK, G.2.1⟩⟩, G.2.2.F ht⟩) G.2.2.2.2 dL_clean_14
