set_option maxHeartbeats 4000000 in
set_option maxRecDepth 100000 in
theorem w_mapByte (l : Launch) (hst : l.stackTraces = false) (D : va_G) (tys : List (ClassId × FieldType)) (ad : Nat → Nat) (N : Nat) (S : Nat → va_E) (cI cJ cZ cMic cSrc cSt cAI cAJ : ClassId) (hN : 1586 ≤ N) (ht0 : tys[0]? = some (cI, .int)) (ht2 : tys[2]? = some (cZ, .boolean)) (hS0 : S 0 = .inr (11, [.ref (ad 1), .ref (ad 6), .ref (ad 7), .ref (ad 22), .ref (ad 66), .ref (ad 154), .ref (ad 242), .ref (ad 336), .ref (ad 430), .ref (ad 431), .ref (ad 432), .ref (ad 433), .ref (ad 434), .ref (ad 477), .ref (ad 478), .ref (ad 656), .int 0, .int 0, .int 0])) (x : Int32) (ao : Nat) : cWi l yL_mapByte (Cond.codeWith yL_mapByte cL_mapByte 4 (some .int) [(0, 9, 12, 13)] :: wsA) 8 123 D tys ad N S [.ref (ad 0), .int x, .ref ao] (fun r S1 => r = 1 ∧ S1 = S) := by
  intro sz
  refine va_MetW (cc := cL_mapByte) (maxL := 4) (ret := some .int) (by decide) rfl ?_
  intro p e s m args below meth c s₁ B hml hv
  obtain ⟨rfl, hsz, hP, hK, hD0, hX, hN_xIAE_xIOB, hN_xISE_xIOB⟩ := hv
  have hx := B.exec
  have hb := B.bytes
  have hr := B.returns
  have hts := atoms_spec (ws := (Cond.codeWith yL_mapByte cL_mapByte 4 (some .int) [(0, 9, 12, 13)] :: wsA)) B.pre
  have hown : s.vm.findClass RL = some m.cls := findClass_of_methodNamed B.named
  have hlocks := B.notSynchronized
  have htb := vx_table (x := yL_mapByte) B (hts _ (.head _))
  subst hsz
  have hD := hD0.self (sz := s.heap.size)
  generalize hAe : va_A (cW ad N S) s.heap.size = A at hD hX ⊢
  have hA : ∀ q : Nat, s.heap.size ≤ q → A q := fun q h => by rw [← hAe]; exact Or.inr h
  have G : cG D ad N A s.heap s.heap [] S := ⟨hP, hD, va_S.rf⟩
  have E : cE p c cL_mapByte s m ([.ref (ad 0), .int x, .ref ao] : List Value).toArray (Cond.codeWith yL_mapByte cL_mapByte 4 (some .int) [(0, 9, 12, 13)] :: wsA) D RL tys := ⟨hx, hb, hts, hown, hK⟩
  have hl := lv_entry ([.ref (ad 0), .int x, .ref ao]) (n := 4) (Nat.le_of_ble_eq_true rfl)
  rw [lg_entry_eq]
  generalize (lg_sl ([.ref (ad 0), .int x, .ref ao]) ++ List.replicate (4 - (lg_sl ([.ref (ad 0), .int x, .ref ao])).length) Slot.unset).toArray = ls at hl ⊢
  have hl : lv_has ls 4 [(0, .ref (ad 0)), (1, .int x), (2, .ref ao)] := hl
  refine lv_aload_n hx hb dL_mapByte_0 rfl (lv_at hl 2 rfl) ?_
  refine lv_iconst (v := 0) hx hb dL_mapByte_1 (by decide) ?_
  refine lv_aload_n hx hb dL_mapByte_2 rfl (lv_at hl 0 rfl) ?_
  refine lv_iload_n hx hb dL_mapByte_3 rfl (lv_at hl 1 rfl) ?_
  refine c_xvi (As := [.int x]) (rest := [.int 0, .ref ao]) E G hA hX rfl hml (f_mapByte l hst D tys ad N S cI cJ cZ cMic cSrc cSt cAI cAJ hN ht0 ht2 hS0 x) (cwV 1 hts (gaV qA_1105 qA_1106 qA_1107 qA_131 qA_905) rfl rfl rfl (by decide +kernel) ⟨Nat.le_of_ble_eq_true rfl, Nat.le_of_ble_eq_true rfl⟩) (Nat.lt_of_lt_of_le (by decide) hN) hS0 rfl rfl hl.1 rfl (lv_room (Nat.le_of_ble_eq_true rfl)) dL_mapByte_4 ⟨Nat.le_of_ble_eq_true rfl, Nat.le_of_ble_eq_true rfl⟩ (fun E9 ce q9 S1 H locs hp G hce hcv hcl => ?_) (fun r S1 H locs hq G => hq.elim)
  obtain ⟨hE, hS1⟩ := hp
  subst hE
  rw [hS1] at G
  refine vx_catch (name := xIOB) hown [] { startPc := 0, endPc := 9, handlerPc := 12, catchType := 13 } [] htb (fun z hz => absurd hz List.not_mem_nil) (by decide) (by decide) (hts _ (.tail _ qA_946)) (hX.use (.castable xIOB xIOB) (by decide +kernel)) hce hcv hcl ?_
  refine lv_astore_n (lv' := [(3, .ref q9), (0, .ref (ad 0)), (1, .int x), (2, .ref ao)]) hx hb dL_mapByte_12 rfl hl (by decide) rfl (fun ls hl => ?_)
  refine lv_iconst (v := 1) hx hb dL_mapByte_13 (by decide) ?_
  exact W.iret (v := 1) hx hb hr (fun t ht hW => ⟨⟨1, S, rfl, ⟨rfl, rfl⟩, ⟨by rw [ht]; exact G.1, va_K.moved hW.alike hK, G.2.1⟩⟩, G.2.2.F ht⟩) G.2.2.2.2 dL_mapByte_14
set_option maxHeartbeats 4000000 in
set_option maxRecDepth 100000 in
theorem w_undo (l : Launch) (hst : l.stackTraces = false) (D : va_G) (tys : List (ClassId × FieldType)) (ad : Nat → Nat) (N : Nat) (S : Nat → va_E) (cI cJ cZ cMic cSrc cSt cAI cAJ : ClassId) (hN : 1586 ≤ N) (ht0 : tys[0]? = some (cI, .int)) (ht2 : tys[2]? = some (cZ, .boolean)) (hS0 : S 0 = .inr (11, [.ref (ad 1), .ref (ad 6), .ref (ad 7), .ref (ad 22), .ref (ad 66), .ref (ad 154), .ref (ad 242), .ref (ad 336), .ref (ad 430), .ref (ad 431), .ref (ad 432), .ref (ad 433), .ref (ad 434), .ref (ad 477), .ref (ad 478), .ref (ad 656), .int 0, .int 0, .int 0])) (ao : Nat) : cWi l yL_undo (Cond.codeWith yL_undo cL_undo 3 (some .int) [(0, 8, 11, 21)] :: wsA) 7 101 D tys ad N S [.ref (ad 0), .ref ao] (fun r S1 => r = 1 ∧ S1 = S) := by
  intro sz
  refine va_MetW (cc := cL_undo) (maxL := 3) (ret := some .int) (by decide) rfl ?_
  intro p e s m args below meth c s₁ B hml hv
  obtain ⟨rfl, hsz, hP, hK, hD0, hX, hN_xIAE_xIOB, hN_xISE_xIOB⟩ := hv
  have hx := B.exec
  have hb := B.bytes
  have hr := B.returns
  have hts := atoms_spec (ws := (Cond.codeWith yL_undo cL_undo 3 (some .int) [(0, 8, 11, 21)] :: wsA)) B.pre
  have hown : s.vm.findClass RL = some m.cls := findClass_of_methodNamed B.named
  have hlocks := B.notSynchronized
  have htb := vx_table (x := yL_undo) B (hts _ (.head _))
  subst hsz
  have hD := hD0.self (sz := s.heap.size)
  generalize hAe : va_A (cW ad N S) s.heap.size = A at hD hX ⊢
  have hA : ∀ q : Nat, s.heap.size ≤ q → A q := fun q h => by rw [← hAe]; exact Or.inr h
  have G : cG D ad N A s.heap s.heap [] S := ⟨hP, hD, va_S.rf⟩
  have E : cE p c cL_undo s m ([.ref (ad 0), .ref ao] : List Value).toArray (Cond.codeWith yL_undo cL_undo 3 (some .int) [(0, 8, 11, 21)] :: wsA) D RL tys := ⟨hx, hb, hts, hown, hK⟩
  have hl := lv_entry ([.ref (ad 0), .ref ao]) (n := 3) (Nat.le_of_ble_eq_true rfl)
  rw [lg_entry_eq]
  generalize (lg_sl ([.ref (ad 0), .ref ao]) ++ List.replicate (3 - (lg_sl ([.ref (ad 0), .ref ao])).length) Slot.unset).toArray = ls at hl ⊢
  have hl : lv_has ls 3 [(0, .ref (ad 0)), (1, .ref ao)] := hl
  refine lv_aload_n hx hb dL_undo_0 rfl (lv_at hl 1 rfl) ?_
  refine lv_iconst (v := 0) hx hb dL_undo_1 (by decide) ?_
  refine lv_aload_n hx hb dL_undo_2 rfl (lv_at hl 0 rfl) ?_
  refine c_xvi (As := []) (rest := [.int 0, .ref ao]) E G hA hX rfl hml (f_undo l hst D tys ad N S cI cJ cZ cMic cSrc cSt cAI cAJ hN ht0 ht2 hS0) (cwV 0 hts (gaV qA_1153 qA_1154 qA_1155 qA_131 qA_941) rfl rfl rfl (by decide +kernel) ⟨Nat.le_of_ble_eq_true rfl, Nat.le_of_ble_eq_true rfl⟩) (Nat.lt_of_lt_of_le (by decide) hN) hS0 rfl rfl hl.1 rfl (lv_room (Nat.le_of_ble_eq_true rfl)) dL_undo_3 ⟨Nat.le_of_ble_eq_true rfl, Nat.le_of_ble_eq_true rfl⟩ (fun E9 ce q9 S1 H locs hp G hce hcv hcl => ?_) (fun r S1 H locs hq G => hq.elim)
  obtain ⟨hE, hS1⟩ := hp
  subst hE
  rw [hS1] at G
  refine vx_catch (name := xISE) hown [] { startPc := 0, endPc := 8, handlerPc := 11, catchType := 21 } [] htb (fun z hz => absurd hz List.not_mem_nil) (by decide) (by decide) (hts _ (.tail _ qA_952)) (hX.use (.castable xISE xISE) (by decide +kernel)) hce hcv hcl ?_
  refine lv_astore_n (lv' := [(2, .ref q9), (0, .ref (ad 0)), (1, .ref ao)]) hx hb dL_undo_11 rfl hl (by decide) rfl (fun ls hl => ?_)
  refine lv_iconst (v := 1) hx hb dL_undo_12 (by decide) ?_
  exact W.iret (v := 1) hx hb hr (fun t ht hW => ⟨⟨1, S, rfl, ⟨rfl, rfl⟩, ⟨by rw [ht]; exact G.1, va_K.moved hW.alike hK, G.2.1⟩⟩, G.2.2.F ht⟩) G.2.2.2.2 dL_undo_13
set_option maxHeartbeats 4000000 in
set_option maxRecDepth 100000 in
theorem w_restore_b (l : Launch) (hst : l.stackTraces = false) (D : va_G) (tys : List (ClassId × FieldType)) (ad : Nat → Nat) (N : Nat) (S : Nat → va_E) (cI cJ cZ cMic cSrc cSt cAI cAJ : ClassId) (hN : 1586 ≤ N) (ht0 : tys[0]? = some (cI, .int)) (ht2 : tys[2]? = some (cZ, .boolean)) (hS0 : S 0 = .inr (11, [.ref (ad 1), .ref (ad 6), .ref (ad 7), .ref (ad 22), .ref (ad 66), .ref (ad 154), .ref (ad 242), .ref (ad 336), .ref (ad 430), .ref (ad 431), .ref (ad 432), .ref (ad 433), .ref (ad 434), .ref (ad 477), .ref (ad 478), .ref (ad 656), .int 0, .int 0, .int 0])) (hS432 : S 432 = .inl (cZ, 2, .inl (fun _ => 0))) (x : Int32) (h : ¬ (¬ x < 0 ∧ x < 2)) (ao : Nat) : cWi l yL_restore (Cond.codeWith yL_restore cL_restore 4 (some .int) [(0, 9, 12, 13), (0, 9, 15, 21)] :: wsA) 8 123 D tys ad N S [.ref (ad 0), .int x, .ref ao] (fun r S1 => r = 1 ∧ S1 = S) := by
  intro sz
  refine va_MetW (cc := cL_restore) (maxL := 4) (ret := some .int) (by decide) rfl ?_
  intro p e s m args below meth c s₁ B hml hv
  obtain ⟨rfl, hsz, hP, hK, hD0, hX, hN_xIAE_xIOB, hN_xISE_xIOB⟩ := hv
  have hx := B.exec
  have hb := B.bytes
  have hr := B.returns
  have hts := atoms_spec (ws := (Cond.codeWith yL_restore cL_restore 4 (some .int) [(0, 9, 12, 13), (0, 9, 15, 21)] :: wsA)) B.pre
  have hown : s.vm.findClass RL = some m.cls := findClass_of_methodNamed B.named
  have hlocks := B.notSynchronized
  have htb := vx_table (x := yL_restore) B (hts _ (.head _))
  subst hsz
  have hD := hD0.self (sz := s.heap.size)
  generalize hAe : va_A (cW ad N S) s.heap.size = A at hD hX ⊢
  have hA : ∀ q : Nat, s.heap.size ≤ q → A q := fun q h => by rw [← hAe]; exact Or.inr h
  have G : cG D ad N A s.heap s.heap [] S := ⟨hP, hD, va_S.rf⟩
  have E : cE p c cL_restore s m ([.ref (ad 0), .int x, .ref ao] : List Value).toArray (Cond.codeWith yL_restore cL_restore 4 (some .int) [(0, 9, 12, 13), (0, 9, 15, 21)] :: wsA) D RL tys := ⟨hx, hb, hts, hown, hK⟩
  have hl := lv_entry ([.ref (ad 0), .int x, .ref ao]) (n := 4) (Nat.le_of_ble_eq_true rfl)
  rw [lg_entry_eq]
  generalize (lg_sl ([.ref (ad 0), .int x, .ref ao]) ++ List.replicate (4 - (lg_sl ([.ref (ad 0), .int x, .ref ao])).length) Slot.unset).toArray = ls at hl ⊢
  have hl : lv_has ls 4 [(0, .ref (ad 0)), (1, .int x), (2, .ref ao)] := hl
  refine lv_aload_n hx hb dL_restore_0 rfl (lv_at hl 2 rfl) ?_
  refine lv_iconst (v := 0) hx hb dL_restore_1 (by decide) ?_
  refine lv_aload_n hx hb dL_restore_2 rfl (lv_at hl 0 rfl) ?_
  refine lv_iload_n hx hb dL_restore_3 rfl (lv_at hl 1 rfl) ?_
  refine c_xvi (As := [.int x]) (rest := [.int 0, .ref ao]) E G hA hX rfl hml (f_restore_b l hst D tys ad N S cI cJ cZ cMic cSrc cSt cAI cAJ hN ht0 ht2 hS0 hS432 x h) (cwV 1 hts (gaV qA_1161 qA_1162 qA_1163 qA_131 qA_944) rfl rfl rfl (by decide +kernel) ⟨Nat.le_of_ble_eq_true rfl, Nat.le_of_ble_eq_true rfl⟩) (Nat.lt_of_lt_of_le (by decide) hN) hS0 rfl rfl hl.1 rfl (lv_room (Nat.le_of_ble_eq_true rfl)) dL_restore_4 ⟨Nat.le_of_ble_eq_true rfl, Nat.le_of_ble_eq_true rfl⟩ (fun E9 ce q9 S1 H locs hp G hce hcv hcl => ?_) (fun r S1 H locs hq G => hq.elim)
  obtain ⟨hE, hS1⟩ := hp
  subst hE
  rw [hS1] at G
  refine vx_catch (name := xIOB) hown [] { startPc := 0, endPc := 9, handlerPc := 12, catchType := 13 } [{ startPc := 0, endPc := 9, handlerPc := 15, catchType := 21 }] htb (fun z hz => absurd hz List.not_mem_nil) (by decide) (by decide) (hts _ (.tail _ qA_946)) (hX.use (.castable xIOB xIOB) (by decide +kernel)) hce hcv hcl ?_
  refine lv_astore_n (lv' := [(3, .ref q9), (0, .ref (ad 0)), (1, .int x), (2, .ref ao)]) hx hb dL_restore_12 rfl hl (by decide) rfl (fun ls hl => ?_)
  refine lv_iconst (v := 1) hx hb dL_restore_13 (by decide) ?_
  exact W.iret (v := 1) hx hb hr (fun t ht hW => ⟨⟨1, S, rfl, ⟨rfl, rfl⟩, ⟨by rw [ht]; exact G.1, va_K.moved hW.alike hK, G.2.1⟩⟩, G.2.2.F ht⟩) G.2.2.2.2 dL_restore_14
set_option maxHeartbeats 4000000 in
set_option maxRecDepth 100000 in
theorem w_restore_a (l : Launch) (hst : l.stackTraces = false) (D : va_G) (tys : List (ClassId × FieldType)) (ad : Nat → Nat) (N : Nat) (S : Nat → va_E) (cI cJ cZ cMic cSrc cSt cAI cAJ : ClassId) (hN : 1586 ≤ N) (ht0 : tys[0]? = some (cI, .int)) (ht2 : tys[2]? = some (cZ, .boolean)) (hS0 : S 0 = .inr (11, [.ref (ad 1), .ref (ad 6), .ref (ad 7), .ref (ad 22), .ref (ad 66), .ref (ad 154), .ref (ad 242), .ref (ad 336), .ref (ad 430), .ref (ad 431), .ref (ad 432), .ref (ad 433), .ref (ad 434), .ref (ad 477), .ref (ad 478), .ref (ad 656), .int 0, .int 0, .int 0])) (hS432 : S 432 = .inl (cZ, 2, .inl (fun _ => 0))) (x : Int32) (h1 : ¬ x < 0) (h2 : x < 2) (ao : Nat) : cWi l yL_restore (Cond.codeWith yL_restore cL_restore 4 (some .int) [(0, 9, 12, 13), (0, 9, 15, 21)] :: wsA) 7 102 D tys ad N S [.ref (ad 0), .int x, .ref ao] (fun r S1 => r = 2 ∧ S1 = S) := by
  intro sz
  refine va_MetW (cc := cL_restore) (maxL := 4) (ret := some .int) (by decide) rfl ?_
  intro p e s m args below meth c s₁ B hml hv
  obtain ⟨rfl, hsz, hP, hK, hD0, hX, hN_xIAE_xIOB, hN_xISE_xIOB⟩ := hv
  have hx := B.exec
  have hb := B.bytes
  have hr := B.returns
  have hts := atoms_spec (ws := (Cond.codeWith yL_restore cL_restore 4 (some .int) [(0, 9, 12, 13), (0, 9, 15, 21)] :: wsA)) B.pre
  have hown : s.vm.findClass RL = some m.cls := findClass_of_methodNamed B.named
  have hlocks := B.notSynchronized
  have htb := vx_table (x := yL_restore) B (hts _ (.head _))
  subst hsz
  have hD := hD0.self (sz := s.heap.size)
  generalize hAe : va_A (cW ad N S) s.heap.size = A at hD hX ⊢
  have hA : ∀ q : Nat, s.heap.size ≤ q → A q := fun q h => by rw [← hAe]; exact Or.inr h
  have G : cG D ad N A s.heap s.heap [] S := ⟨hP, hD, va_S.rf⟩
  have E : cE p c cL_restore s m ([.ref (ad 0), .int x, .ref ao] : List Value).toArray (Cond.codeWith yL_restore cL_restore 4 (some .int) [(0, 9, 12, 13), (0, 9, 15, 21)] :: wsA) D RL tys := ⟨hx, hb, hts, hown, hK⟩
  have hl := lv_entry ([.ref (ad 0), .int x, .ref ao]) (n := 4) (Nat.le_of_ble_eq_true rfl)
  rw [lg_entry_eq]
  generalize (lg_sl ([.ref (ad 0), .int x, .ref ao]) ++ List.replicate (4 - (lg_sl ([.ref (ad 0), .int x, .ref ao])).length) Slot.unset).toArray = ls at hl ⊢
  have hl : lv_has ls 4 [(0, .ref (ad 0)), (1, .int x), (2, .ref ao)] := hl
  refine lv_aload_n hx hb dL_restore_0 rfl (lv_at hl 2 rfl) ?_
  refine lv_iconst (v := 0) hx hb dL_restore_1 (by decide) ?_
  refine lv_aload_n hx hb dL_restore_2 rfl (lv_at hl 0 rfl) ?_
  refine lv_iload_n hx hb dL_restore_3 rfl (lv_at hl 1 rfl) ?_
  refine c_xvi (As := [.int x]) (rest := [.int 0, .ref ao]) E G hA hX rfl hml (f_restore_a l hst D tys ad N S cI cJ cZ cMic cSrc cSt cAI cAJ hN ht0 ht2 hS0 hS432 x h1 h2) (cwV 1 hts (gaV qA_1161 qA_1162 qA_1163 qA_131 qA_944) rfl rfl rfl (by decide +kernel) ⟨Nat.le_of_ble_eq_true rfl, Nat.le_of_ble_eq_true rfl⟩) (Nat.lt_of_lt_of_le (by decide) hN) hS0 rfl rfl hl.1 rfl (lv_room (Nat.le_of_ble_eq_true rfl)) dL_restore_4 ⟨Nat.le_of_ble_eq_true rfl, Nat.le_of_ble_eq_true rfl⟩ (fun E9 ce q9 S1 H locs hp G hce hcv hcl => ?_) (fun r S1 H locs hq G => hq.elim)
  obtain ⟨hE, hS1⟩ := hp
  subst hE
  rw [hS1] at G
  refine vx_catch (name := xISE) hown [{ startPc := 0, endPc := 9, handlerPc := 12, catchType := 13 }] { startPc := 0, endPc := 9, handlerPc := 15, catchType := 21 } [] htb (List.forall_mem_cons.mpr ⟨Or.inr ⟨by decide, xIOB, hts _ (.tail _ qA_946), hN_xISE_xIOB⟩, fun z hz => absurd hz List.not_mem_nil⟩) (by decide) (by decide) (hts _ (.tail _ qA_952)) (hX.use (.castable xISE xISE) (by decide +kernel)) hce hcv hcl ?_
  refine lv_astore_n (lv' := [(3, .ref q9), (0, .ref (ad 0)), (1, .int x), (2, .ref ao)]) hx hb dL_restore_15 rfl hl (by decide) rfl (fun ls hl => ?_)
  refine lv_iconst (v := 2) hx hb dL_restore_16 (by decide) ?_
  exact W.iret (v := 2) hx hb hr (fun t ht hW => ⟨⟨2, S, rfl, ⟨rfl, rfl⟩, ⟨by rw [ht]; exact G.1, va_K.moved hW.alike hK, G.2.1⟩⟩, G.2.2.F ht⟩) G.2.2.2.2 dL_restore_17
set_option maxHeartbeats 4000000 in
set_option maxRecDepth 100000 in
theorem w_load_x (l : Launch) (hst : l.stackTraces = false) (D : va_G) (tys : List (ClassId × FieldType)) (ad : Nat → Nat) (N : Nat) (S : Nat → va_E) (cI cJ cZ cMic cSrc cSt cAI cAJ : ClassId) (hN : 1586 ≤ N) (ht0 : tys[0]? = some (cI, .int)) (ht2 : tys[2]? = some (cZ, .boolean)) (hS0 : S 0 = .inr (11, [.ref (ad 1), .ref (ad 6), .ref (ad 7), .ref (ad 22), .ref (ad 66), .ref (ad 154), .ref (ad 242), .ref (ad 336), .ref (ad 430), .ref (ad 431), .ref (ad 432), .ref (ad 433), .ref (ad 434), .ref (ad 477), .ref (ad 478), .ref (ad 656), .int 0, .int 0, .int 0])) (hS1 : S 1 = .inr (9, [.ref (ad 2), .int 0, .ref (ad 3), .ref (ad 4), .ref (ad 5), .int 0])) (x : Int32) (h : ¬ x = 0) (ao : Nat) : cWi l yL_load (Cond.codeWith yL_load cL_load 4 (some .int) [(0, 9, 12, 13), (0, 9, 15, 15)] :: wsA) 7 103 D tys ad N S [.ref (ad 0), .int x, .ref ao] (fun r S1 => r = 1 ∧ S1 = S) := by
  intro sz
  refine va_MetW (cc := cL_load) (maxL := 4) (ret := some .int) (by decide) rfl ?_
  intro p e s m args below meth c s₁ B hml hv
  obtain ⟨rfl, hsz, hP, hK, hD0, hX, hN_xIAE_xIOB, hN_xISE_xIOB⟩ := hv
  have hx := B.exec
  have hb := B.bytes
  have hr := B.returns
  have hts := atoms_spec (ws := (Cond.codeWith yL_load cL_load 4 (some .int) [(0, 9, 12, 13), (0, 9, 15, 15)] :: wsA)) B.pre
  have hown : s.vm.findClass RL = some m.cls := findClass_of_methodNamed B.named
  have hlocks := B.notSynchronized
  have htb := vx_table (x := yL_load) B (hts _ (.head _))
  subst hsz
  have hD := hD0.self (sz := s.heap.size)
  generalize hAe : va_A (cW ad N S) s.heap.size = A at hD hX ⊢
  have hA : ∀ q : Nat, s.heap.size ≤ q → A q := fun q h => by rw [← hAe]; exact Or.inr h
  have G : cG D ad N A s.heap s.heap [] S := ⟨hP, hD, va_S.rf⟩
  have E : cE p c cL_load s m ([.ref (ad 0), .int x, .ref ao] : List Value).toArray (Cond.codeWith yL_load cL_load 4 (some .int) [(0, 9, 12, 13), (0, 9, 15, 15)] :: wsA) D RL tys := ⟨hx, hb, hts, hown, hK⟩
  have hl := lv_entry ([.ref (ad 0), .int x, .ref ao]) (n := 4) (Nat.le_of_ble_eq_true rfl)
  rw [lg_entry_eq]
  generalize (lg_sl ([.ref (ad 0), .int x, .ref ao]) ++ List.replicate (4 - (lg_sl ([.ref (ad 0), .int x, .ref ao])).length) Slot.unset).toArray = ls at hl ⊢
  have hl : lv_has ls 4 [(0, .ref (ad 0)), (1, .int x), (2, .ref ao)] := hl
  refine lv_aload_n hx hb dL_load_0 rfl (lv_at hl 2 rfl) ?_
  refine lv_iconst (v := 0) hx hb dL_load_1 (by decide) ?_
  refine lv_aload_n hx hb dL_load_2 rfl (lv_at hl 0 rfl) ?_
  refine lv_iload_n hx hb dL_load_3 rfl (lv_at hl 1 rfl) ?_
  refine c_xvi (As := [.int x]) (rest := [.int 0, .ref ao]) E G hA hX rfl hml (f_load_x l hst D tys ad N S cI cJ cZ cMic cSrc cSt cAI cAJ hN ht0 ht2 hS0 hS1 x h) (cwV 1 hts (gaV qA_948 qA_949 qA_950 qA_131 qA_692) rfl rfl rfl (by decide +kernel) ⟨Nat.le_of_ble_eq_true rfl, Nat.le_of_ble_eq_true rfl⟩) (Nat.lt_of_lt_of_le (by decide) hN) hS0 rfl rfl hl.1 rfl (lv_room (Nat.le_of_ble_eq_true rfl)) dL_load_4 ⟨Nat.le_of_ble_eq_true rfl, Nat.le_of_ble_eq_true rfl⟩ (fun E9 ce q9 S1 H locs hp G hce hcv hcl => ?_) (fun r S1 H locs hq G => hq.elim)
  obtain ⟨hE, hS1⟩ := hp
  subst hE
  rw [hS1] at G
  refine vx_catch (name := xIOB) hown [] { startPc := 0, endPc := 9, handlerPc := 12, catchType := 13 } [{ startPc := 0, endPc := 9, handlerPc := 15, catchType := 15 }] htb (fun z hz => absurd hz List.not_mem_nil) (by decide) (by decide) (hts _ (.tail _ qA_946)) (hX.use (.castable xIOB xIOB) (by decide +kernel)) hce hcv hcl ?_
  refine lv_astore_n (lv' := [(3, .ref q9), (0, .ref (ad 0)), (1, .int x), (2, .ref ao)]) hx hb dL_load_12 rfl hl (by decide) rfl (fun ls hl => ?_)
  refine lv_iconst (v := 1) hx hb dL_load_13 (by decide) ?_
  exact W.iret (v := 1) hx hb hr (fun t ht hW => ⟨⟨1, S, rfl, ⟨rfl, rfl⟩, ⟨by rw [ht]; exact G.1, va_K.moved hW.alike hK, G.2.1⟩⟩, G.2.2.F ht⟩) G.2.2.2.2 dL_load_14
