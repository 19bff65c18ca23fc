section
/-! 14d.vb1.lean.txt -/
set_option maxHeartbeats 4000000 in
set_option maxRecDepth 100000 in
theorem v_powerAt_n (l : Launch) (hst : l.stackTraces = false) (D : va_G) {cI cJ cZ cMic cSrc cSt cAI cAJ cD : ClassId} (h0 : Nat) (ad : Nat → Nat) (T : AT) (o : Nat) (a0 a1 : Int32) (ao : Nat) (f : Nat → Int64) {r1 : Int64} {T1 : AT} (h : g_X11_powerAt T o a0 a1 = some (0, r1, T1)) (hrc : RC T) (h_o : o < T.1) (h_s : T.2.1 o = (11, 0)) : tWi l yL_powerAt (Cond.codeWith yL_powerAt cL_powerAt 5 (some .int) [(0, 9, 12, 21), (0, 9, 16, 15)] :: wsA) 8 150 cI cJ cZ cMic cSrc cSt cAI cAJ cD D h0 ad T (oJ ao cJ f) [.ref (ad o), .int a0, .int a1, .ref ao] (vck 1 0 2 (0)) T1 (oJ ao cJ (vfJ (0) f r1)) := by
  intro sz
  refine va_MetW (cc := cL_powerAt) (maxL := 5) (ret := some .int) (by decide) rfl ?_
  intro p e s m args below meth c s₁ B hml hv
  obtain ⟨rfl, hsz, hP, hK, hD0, hX, hN, hA0, hTS⟩ := hv
  have hx := B.exec
  have hb := B.bytes
  have hr := B.returns
  have hts := atoms_spec (ws := (Cond.codeWith yL_powerAt cL_powerAt 5 (some .int) [(0, 9, 12, 21), (0, 9, 16, 15)] :: wsA)) B.pre
  have hown : s.vm.findClass RL = some m.cls := findClass_of_methodNamed B.named
  have hlocks := B.notSynchronized
  have htb := vx_table (x := yL_powerAt) B (hts _ (.head _))
  subst hsz
  have hD := hD0.self (sz := s.heap.size)
  generalize hAe : va_A (cW ad T.1 (cc cI cJ cZ cMic cSrc cSt cAI cAJ ad T) ++ [oJ ao cJ f]) s.heap.size = A at hD hX hA0 ⊢
  have hA : ∀ q : Nat, s.heap.size ≤ q → A q := fun q h => by rw [← hAe]; exact Or.inr h
  have G : gL cI cJ cZ cMic cSrc cSt cAI cAJ D ad A s.heap s.heap [] T [oJ ao cJ f] := ⟨hP, hD, va_S.rf⟩
  have E : cE p c cL_powerAt s m ([.ref (ad o), .int a0, .int a1, .ref ao] : List Value).toArray (Cond.codeWith yL_powerAt cL_powerAt 5 (some .int) [(0, 9, 12, 21), (0, 9, 16, 15)] :: wsA) D RL (CT cI cJ cZ cMic cSrc cSt cAI cAJ ++ [(cD, .double)]) := ⟨hx, hb, hts, hown, hK⟩
  have hl := lv_entry ([.ref (ad o), .int a0, .int a1, .ref ao]) (n := 5) (Nat.le_of_ble_eq_true rfl)
  rw [lg_entry_eq]
  generalize (lg_sl ([.ref (ad o), .int a0, .int a1, .ref ao]) ++ List.replicate (5 - (lg_sl ([.ref (ad o), .int a0, .int a1, .ref ao])).length) Slot.unset).toArray = ls at hl ⊢
  have hl : lv_has ls 5 [(0, .ref (ad o)), (1, .int a0), (2, .int a1), (3, .ref ao)] := hl
  refine lv_aload_n hx hb dL_powerAt_0 rfl (lv_at hl 3 rfl) ?_
  refine lv_iconst (v := 0) hx hb dL_powerAt_1 (by decide) ?_
  refine lv_aload_n hx hb dL_powerAt_2 rfl (lv_at hl 0 rfl) ?_
  refine lv_iload_n hx hb dL_powerAt_3 rfl (lv_at hl 1 rfl) ?_
  refine lv_iload_n hx hb dL_powerAt_4 rfl (lv_at hl 2 rfl) ?_
  refine t_avl (As := [.int a0, .int a1]) (rest := [.int 0, .ref ao]) E G hA hX hX.2.2.2.1 hml (a_X11_powerAt l hst D cI cJ cZ cMic cSrc cSt cAI cAJ ad T o a0 a1 h hrc h_o) (cwV 2 hts (gaV qA_1005 qA_1006 qA_1007 qA_131 qA_806) rfl rfl rfl (by decide +kernel) ⟨Nat.le_of_ble_eq_true rfl, Nat.le_of_ble_eq_true rfl⟩) h_o (cc_o11 h_s) rfl rfl hl.1 rfl (lv_room (Nat.le_of_ble_eq_true rfl)) dL_powerAt_5 ⟨by show 0 + (T1.1 - T.1) ≤ T1.1 - T.1 + 1; omega, by show 0 + (sg T1 - sg T) ≤ sg T1 - sg T + 6; omega⟩ ?_
  intro ad2 H locs had G
  refine t_last E G dL_powerAt_8 (fun H locs G => ?_)
  refine lv_goto (tgt := 20) hx hb dL_powerAt_9 (by decide) ?_
  refine lv_iconst (v := 0) hx hb dL_powerAt_20 (by decide) ?_
  refine W.widen (k := T1.1 - T.1 + 1) (n := sg T1 - sg T + 6) (by omega) (by omega) ?_
  exact W.iret (v := 0) hx hb hr (fun t ht hW => ⟨⟨0, ad2, rfl, ⟨rfl, had⟩, ⟨by rw [ht]; exact G.1, va_K.moved hW.alike hK, G.2.1⟩⟩, G.2.2.F ht⟩) G.2.2.2.2 dL_powerAt_21
set_option maxHeartbeats 4000000 in
set_option maxRecDepth 100000 in
theorem v_powerAt_t (l : Launch) (hst : l.stackTraces = false) (D : va_G) {cI cJ cZ cMic cSrc cSt cAI cAJ cD : ClassId} (h0 : Nat) (ad : Nat → Nat) (T : AT) (o : Nat) (a0 a1 : Int32) (ao : Nat) (f : Nat → Int64) {e1 : Nat} {r1 : Int64} {T1 : AT} (h : g_X11_powerAt T o a0 a1 = some (e1 + 1, r1, T1)) (hrc : RC T) (h_o : o < T.1) (h_s : T.2.1 o = (11, 0)) : tWi l yL_powerAt (Cond.codeWith yL_powerAt cL_powerAt 5 (some .int) [(0, 9, 12, 21), (0, 9, 16, 15)] :: wsA) 8 150 cI cJ cZ cMic cSrc cSt cAI cAJ cD D h0 ad T (oJ ao cJ f) [.ref (ad o), .int a0, .int a1, .ref ao] (vck 1 0 2 (e1 + 1)) T1 (oJ ao cJ (vfJ (e1 + 1) f r1)) := by
  intro sz
  refine va_MetW (cc := cL_powerAt) (maxL := 5) (ret := some .int) (by decide) rfl ?_
  intro p e s m args below meth c s₁ B hml hv
  obtain ⟨rfl, hsz, hP, hK, hD0, hX, hN, hA0, hTS⟩ := hv
  have hx := B.exec
  have hb := B.bytes
  have hr := B.returns
  have hts := atoms_spec (ws := (Cond.codeWith yL_powerAt cL_powerAt 5 (some .int) [(0, 9, 12, 21), (0, 9, 16, 15)] :: wsA)) B.pre
  have hown : s.vm.findClass RL = some m.cls := findClass_of_methodNamed B.named
  have hlocks := B.notSynchronized
  have htb := vx_table (x := yL_powerAt) B (hts _ (.head _))
  subst hsz
  have hD := hD0.self (sz := s.heap.size)
  generalize hAe : va_A (cW ad T.1 (cc cI cJ cZ cMic cSrc cSt cAI cAJ ad T) ++ [oJ ao cJ f]) s.heap.size = A at hD hX hA0 ⊢
  have hA : ∀ q : Nat, s.heap.size ≤ q → A q := fun q h => by rw [← hAe]; exact Or.inr h
  have G : gL cI cJ cZ cMic cSrc cSt cAI cAJ D ad A s.heap s.heap [] T [oJ ao cJ f] := ⟨hP, hD, va_S.rf⟩
  have E : cE p c cL_powerAt s m ([.ref (ad o), .int a0, .int a1, .ref ao] : List Value).toArray (Cond.codeWith yL_powerAt cL_powerAt 5 (some .int) [(0, 9, 12, 21), (0, 9, 16, 15)] :: wsA) D RL (CT cI cJ cZ cMic cSrc cSt cAI cAJ ++ [(cD, .double)]) := ⟨hx, hb, hts, hown, hK⟩
  have hl := lv_entry ([.ref (ad o), .int a0, .int a1, .ref ao]) (n := 5) (Nat.le_of_ble_eq_true rfl)
  rw [lg_entry_eq]
  generalize (lg_sl ([.ref (ad o), .int a0, .int a1, .ref ao]) ++ List.replicate (5 - (lg_sl ([.ref (ad o), .int a0, .int a1, .ref ao])).length) Slot.unset).toArray = ls at hl ⊢
  have hl : lv_has ls 5 [(0, .ref (ad o)), (1, .int a0), (2, .int a1), (3, .ref ao)] := hl
  refine lv_aload_n hx hb dL_powerAt_0 rfl (lv_at hl 3 rfl) ?_
  refine lv_iconst (v := 0) hx hb dL_powerAt_1 (by decide) ?_
  refine lv_aload_n hx hb dL_powerAt_2 rfl (lv_at hl 0 rfl) ?_
  refine lv_iload_n hx hb dL_powerAt_3 rfl (lv_at hl 1 rfl) ?_
  refine lv_iload_n hx hb dL_powerAt_4 rfl (lv_at hl 2 rfl) ?_
  refine t_bvl (As := [.int a0, .int a1]) (rest := [.int 0, .ref ao]) E G hA hX hX.2.2.2.1 hml (b_X11_powerAt l hst D cI cJ cZ cMic cSrc cSt cAI cAJ ad T o a0 a1 h hrc h_o) (cwV 2 hts (gaV qA_1005 qA_1006 qA_1007 qA_131 qA_806) rfl rfl rfl (by decide +kernel) ⟨Nat.le_of_ble_eq_true rfl, Nat.le_of_ble_eq_true rfl⟩) h_o (cc_o11 h_s) rfl rfl hl.1 rfl (lv_room (Nat.le_of_ble_eq_true rfl)) dL_powerAt_5 ⟨by show 0 + (T1.1 - T.1 + 1) ≤ T1.1 - T.1 + 1; omega, by show 0 + (sg T1 - sg T + 6) ≤ sg T1 - sg T + 6; omega⟩ ?_
  intro E9 ce q9 ad2 H locs hE had G hce hcv hcl
  rcases e1 with _ | _ | e1
  · have hE : E9 = xISE := hE
    subst hE
    refine vx_catch (name := xISE) hown [] { startPc := 0, endPc := 9, handlerPc := 12, catchType := 21 } [{ startPc := 0, endPc := 9, handlerPc := 16, catchType := 15 }] htb (fun z hz => absurd hz List.not_mem_nil) (by decide) (by decide) (hts _ (.tail _ qA_952)) (hX.use (.castable xISE xISE) (by decide +kernel)) hce hcv hcl ?_
    refine lv_astore (lv' := [(4, .ref q9), (0, .ref (ad o)), (1, .int a0), (2, .int a1), (3, .ref ao)]) hx hb dL_powerAt_12 hl (by decide) rfl (fun ls hl => ?_)
    refine lv_iconst (v := 1) hx hb dL_powerAt_14 (by decide) ?_
    refine W.widen (k := T1.1 - T.1 + 1) (n := sg T1 - sg T + 6) (by omega) (by omega) ?_
    exact W.iret (v := 1) hx hb hr (fun t ht hW => ⟨⟨1, ad2, rfl, ⟨rfl, had⟩, ⟨by rw [ht]; exact G.1, va_K.moved hW.alike hK, G.2.1⟩⟩, G.2.2.F ht⟩) G.2.2.2.2 dL_powerAt_15
  · exact absurd (cd_g_X11_powerAt (S := [0, 1, 3]) (fun _ h => h) T o a0 a1 _ _ _ h) (by decide)
  · have hE : E9 = xIAE := hE
    subst hE
    refine vx_catch (name := xIAE) hown [{ startPc := 0, endPc := 9, handlerPc := 12, catchType := 21 }] { startPc := 0, endPc := 9, handlerPc := 16, catchType := 15 } [] htb (List.forall_mem_cons.mpr ⟨Or.inr ⟨by decide, xISE, hts _ (.tail _ qA_952), hN.2.2.2⟩, fun z hz => absurd hz List.not_mem_nil⟩) (by decide) (by decide) (hts _ (.tail _ qA_947)) (hX.use (.castable xIAE xIAE) (by decide +kernel)) hce hcv hcl ?_
    refine lv_astore (lv' := [(4, .ref q9), (0, .ref (ad o)), (1, .int a0), (2, .int a1), (3, .ref ao)]) hx hb dL_powerAt_16 hl (by decide) rfl (fun ls hl => ?_)
    refine lv_iconst (v := 2) hx hb dL_powerAt_18 (by decide) ?_
    refine W.widen (k := T1.1 - T.1 + 1) (n := sg T1 - sg T + 6) (by omega) (by omega) ?_
    exact W.iret (v := 2) hx hb hr (fun t ht hW => ⟨⟨2, ad2, rfl, ⟨rfl, had⟩, ⟨by rw [ht]; exact G.1, va_K.moved hW.alike hK, G.2.1⟩⟩, G.2.2.F ht⟩) G.2.2.2.2 dL_powerAt_19
theorem v_powerAt (l : Launch) (hst : l.stackTraces = false) (D : va_G) {cI cJ cZ cMic cSrc cSt cAI cAJ cD : ClassId} (h0 : Nat) (ad : Nat → Nat) (T : AT) (o : Nat) (a0 a1 : Int32) (ao : Nat) (f : Nat → Int64) {k1 : Nat} {r1 : Int64} {T1 : AT} (h : g_X11_powerAt T o a0 a1 = some (k1, r1, T1)) (hrc : RC T) (h_o : o < T.1) (h_s : T.2.1 o = (11, 0)) : tWi l yL_powerAt (Cond.codeWith yL_powerAt cL_powerAt 5 (some .int) [(0, 9, 12, 21), (0, 9, 16, 15)] :: wsA) 8 150 cI cJ cZ cMic cSrc cSt cAI cAJ cD D h0 ad T (oJ ao cJ f) [.ref (ad o), .int a0, .int a1, .ref ao] (vck 1 0 2 k1) T1 (oJ ao cJ (vfJ k1 f r1)) := by
  cases k1 with
  | zero => exact v_powerAt_n l hst D h0 ad T o a0 a1 ao f h hrc h_o h_s
  | succ e1 => exact v_powerAt_t l hst D h0 ad T o a0 a1 ao f h hrc h_o h_s
set_option maxHeartbeats 4000000 in
set_option maxRecDepth 100000 in
theorem v_best_n (l : Launch) (hst : l.stackTraces = false) (D : va_G) {cI cJ cZ cMic cSrc cSt cAI cAJ cD : ClassId} (h0 : Nat) (ad : Nat → Nat) (T : AT) (o : Nat) (ao : Nat) (f : Nat → Int64) {r1 : Int32} {T1 : AT} (h : g_X11_best T o = some (0, r1, T1)) (hrc : RC T) (h_o : o < T.1) (h_s : T.2.1 o = (11, 0)) : tWi l yL_best (Cond.codeWith yL_best cL_best 3 (some .int) [(0, 8, 11, 21)] :: wsA) 8 169 cI cJ cZ cMic cSrc cSt cAI cAJ cD D h0 ad T (oJ ao cJ f) [.ref (ad o), .ref ao] (vck 1 0 0 (0)) T1 (oJ ao cJ (vfJ (0) f r1.toInt64)) := by
  intro sz
  refine va_MetW (cc := cL_best) (maxL := 3) (ret := some .int) (by decide) rfl ?_
  intro p e s m args below meth c s₁ B hml hv
  obtain ⟨rfl, hsz, hP, hK, hD0, hX, hN, hA0, hTS⟩ := hv
  have hx := B.exec
  have hb := B.bytes
  have hr := B.returns
  have hts := atoms_spec (ws := (Cond.codeWith yL_best cL_best 3 (some .int) [(0, 8, 11, 21)] :: wsA)) B.pre
  have hown : s.vm.findClass RL = some m.cls := findClass_of_methodNamed B.named
  have hlocks := B.notSynchronized
  have htb := vx_table (x := yL_best) B (hts _ (.head _))
  subst hsz
  have hD := hD0.self (sz := s.heap.size)
  generalize hAe : va_A (cW ad T.1 (cc cI cJ cZ cMic cSrc cSt cAI cAJ ad T) ++ [oJ ao cJ f]) s.heap.size = A at hD hX hA0 ⊢
  have hA : ∀ q : Nat, s.heap.size ≤ q → A q := fun q h => by rw [← hAe]; exact Or.inr h
  have G : gL cI cJ cZ cMic cSrc cSt cAI cAJ D ad A s.heap s.heap [] T [oJ ao cJ f] := ⟨hP, hD, va_S.rf⟩
  have E : cE p c cL_best s m ([.ref (ad o), .ref ao] : List Value).toArray (Cond.codeWith yL_best cL_best 3 (some .int) [(0, 8, 11, 21)] :: wsA) D RL (CT cI cJ cZ cMic cSrc cSt cAI cAJ ++ [(cD, .double)]) := ⟨hx, hb, hts, hown, hK⟩
  have hl := lv_entry ([.ref (ad o), .ref ao]) (n := 3) (Nat.le_of_ble_eq_true rfl)
  rw [lg_entry_eq]
  generalize (lg_sl ([.ref (ad o), .ref ao]) ++ List.replicate (3 - (lg_sl ([.ref (ad o), .ref ao])).length) Slot.unset).toArray = ls at hl ⊢
  have hl : lv_has ls 3 [(0, .ref (ad o)), (1, .ref ao)] := hl
  refine lv_aload_n hx hb dL_best_0 rfl (lv_at hl 1 rfl) ?_
  refine lv_iconst (v := 0) hx hb dL_best_1 (by decide) ?_
  refine lv_aload_n hx hb dL_best_2 rfl (lv_at hl 0 rfl) ?_
  refine t_avi (As := []) (rest := [.int 0, .ref ao]) E G hA hX hX.2.2.2.1 hml (a_X11_best l hst D cI cJ cZ cMic cSrc cSt cAI cAJ ad T o  h hrc h_o) (cwV 0 hts (gaV qA_1009 qA_1010 qA_1011 qA_131 qA_811) rfl rfl rfl (by decide +kernel) ⟨Nat.le_of_ble_eq_true rfl, Nat.le_of_ble_eq_true rfl⟩) h_o (cc_o11 h_s) rfl rfl hl.1 rfl (lv_room (Nat.le_of_ble_eq_true rfl)) dL_best_3 ⟨by show 0 + (T1.1 - T.1) ≤ T1.1 - T.1 + 1; omega, by show 0 + (sg T1 - sg T) ≤ sg T1 - sg T + 6; omega⟩ ?_
  intro ad2 H locs had G
  refine lv_i2l (v := r1.toInt64) hx hb dL_best_6 rfl ?_
  refine t_last E G dL_best_7 (fun H locs G => ?_)
  refine lv_goto (tgt := 14) hx hb dL_best_8 (by decide) ?_
  refine lv_iconst (v := 0) hx hb dL_best_14 (by decide) ?_
  refine W.widen (k := T1.1 - T.1 + 1) (n := sg T1 - sg T + 6) (by omega) (by omega) ?_
  exact W.iret (v := 0) hx hb hr (fun t ht hW => ⟨⟨0, ad2, rfl, ⟨rfl, had⟩, ⟨by rw [ht]; exact G.1, va_K.moved hW.alike hK, G.2.1⟩⟩, G.2.2.F ht⟩) G.2.2.2.2 dL_best_15
set_option maxHeartbeats 4000000 in
set_option maxRecDepth 100000 in
theorem v_best_t (l : Launch) (hst : l.stackTraces = false) (D : va_G) {cI cJ cZ cMic cSrc cSt cAI cAJ cD : ClassId} (h0 : Nat) (ad : Nat → Nat) (T : AT) (o : Nat) (ao : Nat) (f : Nat → Int64) {e1 : Nat} {r1 : Int32} {T1 : AT} (h : g_X11_best T o = some (e1 + 1, r1, T1)) (hrc : RC T) (h_o : o < T.1) (h_s : T.2.1 o = (11, 0)) : tWi l yL_best (Cond.codeWith yL_best cL_best 3 (some .int) [(0, 8, 11, 21)] :: wsA) 8 169 cI cJ cZ cMic cSrc cSt cAI cAJ cD D h0 ad T (oJ ao cJ f) [.ref (ad o), .ref ao] (vck 1 0 0 (e1 + 1)) T1 (oJ ao cJ (vfJ (e1 + 1) f r1.toInt64)) := by
  intro sz
  refine va_MetW (cc := cL_best) (maxL := 3) (ret := some .int) (by decide) rfl ?_
  intro p e s m args below meth c s₁ B hml hv
  obtain ⟨rfl, hsz, hP, hK, hD0, hX, hN, hA0, hTS⟩ := hv
  have hx := B.exec
  have hb := B.bytes
  have hr := B.returns
  have hts := atoms_spec (ws := (Cond.codeWith yL_best cL_best 3 (some .int) [(0, 8, 11, 21)] :: wsA)) B.pre
  have hown : s.vm.findClass RL = some m.cls := findClass_of_methodNamed B.named
  have hlocks := B.notSynchronized
  have htb := vx_table (x := yL_best) B (hts _ (.head _))
  subst hsz
  have hD := hD0.self (sz := s.heap.size)
  generalize hAe : va_A (cW ad T.1 (cc cI cJ cZ cMic cSrc cSt cAI cAJ ad T) ++ [oJ ao cJ f]) s.heap.size = A at hD hX hA0 ⊢
  have hA : ∀ q : Nat, s.heap.size ≤ q → A q := fun q h => by rw [← hAe]; exact Or.inr h
  have G : gL cI cJ cZ cMic cSrc cSt cAI cAJ D ad A s.heap s.heap [] T [oJ ao cJ f] := ⟨hP, hD, va_S.rf⟩
  have E : cE p c cL_best s m ([.ref (ad o), .ref ao] : List Value).toArray (Cond.codeWith yL_best cL_best 3 (some .int) [(0, 8, 11, 21)] :: wsA) D RL (CT cI cJ cZ cMic cSrc cSt cAI cAJ ++ [(cD, .double)]) := ⟨hx, hb, hts, hown, hK⟩
  have hl := lv_entry ([.ref (ad o), .ref ao]) (n := 3) (Nat.le_of_ble_eq_true rfl)
  rw [lg_entry_eq]
  generalize (lg_sl ([.ref (ad o), .ref ao]) ++ List.replicate (3 - (lg_sl ([.ref (ad o), .ref ao])).length) Slot.unset).toArray = ls at hl ⊢
  have hl : lv_has ls 3 [(0, .ref (ad o)), (1, .ref ao)] := hl
  refine lv_aload_n hx hb dL_best_0 rfl (lv_at hl 1 rfl) ?_
  refine lv_iconst (v := 0) hx hb dL_best_1 (by decide) ?_
  refine lv_aload_n hx hb dL_best_2 rfl (lv_at hl 0 rfl) ?_
  refine t_bvi (As := []) (rest := [.int 0, .ref ao]) E G hA hX hX.2.2.2.1 hml (b_X11_best l hst D cI cJ cZ cMic cSrc cSt cAI cAJ ad T o  h hrc h_o) (cwV 0 hts (gaV qA_1009 qA_1010 qA_1011 qA_131 qA_811) rfl rfl rfl (by decide +kernel) ⟨Nat.le_of_ble_eq_true rfl, Nat.le_of_ble_eq_true rfl⟩) h_o (cc_o11 h_s) rfl rfl hl.1 rfl (lv_room (Nat.le_of_ble_eq_true rfl)) dL_best_3 ⟨by show 0 + (T1.1 - T.1 + 1) ≤ T1.1 - T.1 + 1; omega, by show 0 + (sg T1 - sg T + 6) ≤ sg T1 - sg T + 6; omega⟩ ?_
  intro E9 ce q9 ad2 H locs hE had G hce hcv hcl
  rcases e1 with _ | _ | e1
  · have hE : E9 = xISE := hE
    subst hE
    refine vx_catch (name := xISE) hown [] { startPc := 0, endPc := 8, handlerPc := 11, catchType := 21 } [] htb (fun z hz => absurd hz List.not_mem_nil) (by decide) (by decide) (hts _ (.tail _ qA_952)) (hX.use (.castable xISE xISE) (by decide +kernel)) hce hcv hcl ?_
    refine lv_astore_n (lv' := [(2, .ref q9), (0, .ref (ad o)), (1, .ref ao)]) hx hb dL_best_11 rfl hl (by decide) rfl (fun ls hl => ?_)
    refine lv_iconst (v := 1) hx hb dL_best_12 (by decide) ?_
    refine W.widen (k := T1.1 - T.1 + 1) (n := sg T1 - sg T + 6) (by omega) (by omega) ?_
    exact W.iret (v := 1) hx hb hr (fun t ht hW => ⟨⟨1, ad2, rfl, ⟨rfl, had⟩, ⟨by rw [ht]; exact G.1, va_K.moved hW.alike hK, G.2.1⟩⟩, G.2.2.F ht⟩) G.2.2.2.2 dL_best_13
  · exact absurd (cd_g_X11_best (S := [0, 1]) (fun _ h => h) T o _ _ _ h) (by decide)
  · have q := (cd_g_X11_best (S := [0, 1]) (fun _ h => h) T o _ _ _ h)
    simp only [List.mem_cons, List.not_mem_nil, or_false] at q
    omega
theorem v_best (l : Launch) (hst : l.stackTraces = false) (D : va_G) {cI cJ cZ cMic cSrc cSt cAI cAJ cD : ClassId} (h0 : Nat) (ad : Nat → Nat) (T : AT) (o : Nat) (ao : Nat) (f : Nat → Int64) {k1 : Nat} {r1 : Int32} {T1 : AT} (h : g_X11_best T o = some (k1, r1, T1)) (hrc : RC T) (h_o : o < T.1) (h_s : T.2.1 o = (11, 0)) : tWi l yL_best (Cond.codeWith yL_best cL_best 3 (some .int) [(0, 8, 11, 21)] :: wsA) 8 169 cI cJ cZ cMic cSrc cSt cAI cAJ cD D h0 ad T (oJ ao cJ f) [.ref (ad o), .ref ao] (vck 1 0 0 k1) T1 (oJ ao cJ (vfJ k1 f r1.toInt64)) := by
  cases k1 with
  | zero => exact v_best_n l hst D h0 ad T o  ao f h hrc h_o h_s
  | succ e1 => exact v_best_t l hst D h0 ad T o  ao f h hrc h_o h_s
set_option maxHeartbeats 4000000 in
set_option maxRecDepth 100000 in
theorem v_bestPower_n (l : Launch) (hst : l.stackTraces = false) (D : va_G) {cI cJ cZ cMic cSrc cSt cAI cAJ cD : ClassId} (h0 : Nat) (ad : Nat → Nat) (T : AT) (o : Nat) (ao : Nat) (f : Nat → Int64) {r1 : Int64} {T1 : AT} (h : g_X11_bestPower T o = some (0, r1, T1)) (hrc : RC T) (h_o : o < T.1) (h_s : T.2.1 o = (11, 0)) : tWi l yL_bestPower (Cond.codeWith yL_bestPower cL_bestPower 3 (some .int) [(0, 7, 10, 21)] :: wsA) 8 170 cI cJ cZ cMic cSrc cSt cAI cAJ cD D h0 ad T (oJ ao cJ f) [.ref (ad o), .ref ao] (vck 1 0 0 (0)) T1 (oJ ao cJ (vfJ (0) f r1)) := by
  intro sz
  refine va_MetW (cc := cL_bestPower) (maxL := 3) (ret := some .int) (by decide) rfl ?_
  intro p e s m args below meth c s₁ B hml hv
  obtain ⟨rfl, hsz, hP, hK, hD0, hX, hN, hA0, hTS⟩ := hv
  have hx := B.exec
  have hb := B.bytes
  have hr := B.returns
  have hts := atoms_spec (ws := (Cond.codeWith yL_bestPower cL_bestPower 3 (some .int) [(0, 7, 10, 21)] :: wsA)) B.pre
  have hown : s.vm.findClass RL = some m.cls := findClass_of_methodNamed B.named
  have hlocks := B.notSynchronized
  have htb := vx_table (x := yL_bestPower) B (hts _ (.head _))
  subst hsz
  have hD := hD0.self (sz := s.heap.size)
  generalize hAe : va_A (cW ad T.1 (cc cI cJ cZ cMic cSrc cSt cAI cAJ ad T) ++ [oJ ao cJ f]) s.heap.size = A at hD hX hA0 ⊢
  have hA : ∀ q : Nat, s.heap.size ≤ q → A q := fun q h => by rw [← hAe]; exact Or.inr h
  have G : gL cI cJ cZ cMic cSrc cSt cAI cAJ D ad A s.heap s.heap [] T [oJ ao cJ f] := ⟨hP, hD, va_S.rf⟩
  have E : cE p c cL_bestPower s m ([.ref (ad o), .ref ao] : List Value).toArray (Cond.codeWith yL_bestPower cL_bestPower 3 (some .int) [(0, 7, 10, 21)] :: wsA) D RL (CT cI cJ cZ cMic cSrc cSt cAI cAJ ++ [(cD, .double)]) := ⟨hx, hb, hts, hown, hK⟩
  have hl := lv_entry ([.ref (ad o), .ref ao]) (n := 3) (Nat.le_of_ble_eq_true rfl)
  rw [lg_entry_eq]
  generalize (lg_sl ([.ref (ad o), .ref ao]) ++ List.replicate (3 - (lg_sl ([.ref (ad o), .ref ao])).length) Slot.unset).toArray = ls at hl ⊢
  have hl : lv_has ls 3 [(0, .ref (ad o)), (1, .ref ao)] := hl
  refine lv_aload_n hx hb dL_bestPower_0 rfl (lv_at hl 1 rfl) ?_
  refine lv_iconst (v := 0) hx hb dL_bestPower_1 (by decide) ?_
  refine lv_aload_n hx hb dL_bestPower_2 rfl (lv_at hl 0 rfl) ?_
  refine t_avl (As := []) (rest := [.int 0, .ref ao]) E G hA hX hX.2.2.2.1 hml (a_X11_bestPower l hst D cI cJ cZ cMic cSrc cSt cAI cAJ ad T o  h hrc h_o) (cwV 0 hts (gaV qA_1013 qA_1014 qA_1015 qA_131 qA_813) rfl rfl rfl (by decide +kernel) ⟨Nat.le_of_ble_eq_true rfl, Nat.le_of_ble_eq_true rfl⟩) h_o (cc_o11 h_s) rfl rfl hl.1 rfl (lv_room (Nat.le_of_ble_eq_true rfl)) dL_bestPower_3 ⟨by show 0 + (T1.1 - T.1) ≤ T1.1 - T.1 + 1; omega, by show 0 + (sg T1 - sg T) ≤ sg T1 - sg T + 6; omega⟩ ?_
  intro ad2 H locs had G
  refine t_last E G dL_bestPower_6 (fun H locs G => ?_)
  refine lv_goto (tgt := 13) hx hb dL_bestPower_7 (by decide) ?_
  refine lv_iconst (v := 0) hx hb dL_bestPower_13 (by decide) ?_
  refine W.widen (k := T1.1 - T.1 + 1) (n := sg T1 - sg T + 6) (by omega) (by omega) ?_
  exact W.iret (v := 0) hx hb hr (fun t ht hW => ⟨⟨0, ad2, rfl, ⟨rfl, had⟩, ⟨by rw [ht]; exact G.1, va_K.moved hW.alike hK, G.2.1⟩⟩, G.2.2.F ht⟩) G.2.2.2.2 dL_bestPower_14
set_option maxHeartbeats 4000000 in
set_option maxRecDepth 100000 in
theorem v_bestPower_t (l : Launch) (hst : l.stackTraces = false) (D : va_G) {cI cJ cZ cMic cSrc cSt cAI cAJ cD : ClassId} (h0 : Nat) (ad : Nat → Nat) (T : AT) (o : Nat) (ao : Nat) (f : Nat → Int64) {e1 : Nat} {r1 : Int64} {T1 : AT} (h : g_X11_bestPower T o = some (e1 + 1, r1, T1)) (hrc : RC T) (h_o : o < T.1) (h_s : T.2.1 o = (11, 0)) : tWi l yL_bestPower (Cond.codeWith yL_bestPower cL_bestPower 3 (some .int) [(0, 7, 10, 21)] :: wsA) 8 170 cI cJ cZ cMic cSrc cSt cAI cAJ cD D h0 ad T (oJ ao cJ f) [.ref (ad o), .ref ao] (vck 1 0 0 (e1 + 1)) T1 (oJ ao cJ (vfJ (e1 + 1) f r1)) := by
  intro sz
  refine va_MetW (cc := cL_bestPower) (maxL := 3) (ret := some .int) (by decide) rfl ?_
  intro p e s m args below meth c s₁ B hml hv
  obtain ⟨rfl, hsz, hP, hK, hD0, hX, hN, hA0, hTS⟩ := hv
  have hx := B.exec
  have hb := B.bytes
  have hr := B.returns
  have hts := atoms_spec (ws := (Cond.codeWith yL_bestPower cL_bestPower 3 (some .int) [(0, 7, 10, 21)] :: wsA)) B.pre
  have hown : s.vm.findClass RL = some m.cls := findClass_of_methodNamed B.named
  have hlocks := B.notSynchronized
  have htb := vx_table (x := yL_bestPower) B (hts _ (.head _))
  subst hsz
  have hD := hD0.self (sz := s.heap.size)
  generalize hAe : va_A (cW ad T.1 (cc cI cJ cZ cMic cSrc cSt cAI cAJ ad T) ++ [oJ ao cJ f]) s.heap.size = A at hD hX hA0 ⊢
  have hA : ∀ q : Nat, s.heap.size ≤ q → A q := fun q h => by rw [← hAe]; exact Or.inr h
  have G : gL cI cJ cZ cMic cSrc cSt cAI cAJ D ad A s.heap s.heap [] T [oJ ao cJ f] := ⟨hP, hD, va_S.rf⟩
  have E : cE p c cL_bestPower s m ([.ref (ad o), .ref ao] : List Value).toArray (Cond.codeWith yL_bestPower cL_bestPower 3 (some .int) [(0, 7, 10, 21)] :: wsA) D RL (CT cI cJ cZ cMic cSrc cSt cAI cAJ ++ [(cD, .double)]) := ⟨hx, hb, hts, hown, hK⟩
  have hl := lv_entry ([.ref (ad o), .ref ao]) (n := 3) (Nat.le_of_ble_eq_true rfl)
  rw [lg_entry_eq]
  generalize (lg_sl ([.ref (ad o), .ref ao]) ++ List.replicate (3 - (lg_sl ([.ref (ad o), .ref ao])).length) Slot.unset).toArray = ls at hl ⊢
  have hl : lv_has ls 3 [(0, .ref (ad o)), (1, .ref ao)] := hl
  refine lv_aload_n hx hb dL_bestPower_0 rfl (lv_at hl 1 rfl) ?_
  refine lv_iconst (v := 0) hx hb dL_bestPower_1 (by decide) ?_
  refine lv_aload_n hx hb dL_bestPower_2 rfl (lv_at hl 0 rfl) ?_
  refine t_bvl (As := []) (rest := [.int 0, .ref ao]) E G hA hX hX.2.2.2.1 hml (b_X11_bestPower l hst D cI cJ cZ cMic cSrc cSt cAI cAJ ad T o  h hrc h_o) (cwV 0 hts (gaV qA_1013 qA_1014 qA_1015 qA_131 qA_813) rfl rfl rfl (by decide +kernel) ⟨Nat.le_of_ble_eq_true rfl, Nat.le_of_ble_eq_true rfl⟩) h_o (cc_o11 h_s) rfl rfl hl.1 rfl (lv_room (Nat.le_of_ble_eq_true rfl)) dL_bestPower_3 ⟨by show 0 + (T1.1 - T.1 + 1) ≤ T1.1 - T.1 + 1; omega, by show 0 + (sg T1 - sg T + 6) ≤ sg T1 - sg T + 6; omega⟩ ?_
  intro E9 ce q9 ad2 H locs hE had G hce hcv hcl
  rcases e1 with _ | _ | e1
  · have hE : E9 = xISE := hE
    subst hE
    refine vx_catch (name := xISE) hown [] { startPc := 0, endPc := 7, handlerPc := 10, catchType := 21 } [] htb (fun z hz => absurd hz List.not_mem_nil) (by decide) (by decide) (hts _ (.tail _ qA_952)) (hX.use (.castable xISE xISE) (by decide +kernel)) hce hcv hcl ?_
    refine lv_astore_n (lv' := [(2, .ref q9), (0, .ref (ad o)), (1, .ref ao)]) hx hb dL_bestPower_10 rfl hl (by decide) rfl (fun ls hl => ?_)
    refine lv_iconst (v := 1) hx hb dL_bestPower_11 (by decide) ?_
    refine W.widen (k := T1.1 - T.1 + 1) (n := sg T1 - sg T + 6) (by omega) (by omega) ?_
    exact W.iret (v := 1) hx hb hr (fun t ht hW => ⟨⟨1, ad2, rfl, ⟨rfl, had⟩, ⟨by rw [ht]; exact G.1, va_K.moved hW.alike hK, G.2.1⟩⟩, G.2.2.F ht⟩) G.2.2.2.2 dL_bestPower_12
  · exact absurd (cd_g_X11_bestPower (S := [0, 1]) (fun _ h => h) T o _ _ _ h) (by decide)
  · have q := (cd_g_X11_bestPower (S := [0, 1]) (fun _ h => h) T o _ _ _ h)
    simp only [List.mem_cons, List.not_mem_nil, or_false] at q
    omega
theorem v_bestPower (l : Launch) (hst : l.stackTraces = false) (D : va_G) {cI cJ cZ cMic cSrc cSt cAI cAJ cD : ClassId} (h0 : Nat) (ad : Nat → Nat) (T : AT) (o : Nat) (ao : Nat) (f : Nat → Int64) {k1 : Nat} {r1 : Int64} {T1 : AT} (h : g_X11_bestPower T o = some (k1, r1, T1)) (hrc : RC T) (h_o : o < T.1) (h_s : T.2.1 o = (11, 0)) : tWi l yL_bestPower (Cond.codeWith yL_bestPower cL_bestPower 3 (some .int) [(0, 7, 10, 21)] :: wsA) 8 170 cI cJ cZ cMic cSrc cSt cAI cAJ cD D h0 ad T (oJ ao cJ f) [.ref (ad o), .ref ao] (vck 1 0 0 k1) T1 (oJ ao cJ (vfJ k1 f r1)) := by
  cases k1 with
  | zero => exact v_bestPower_n l hst D h0 ad T o  ao f h hrc h_o h_s
  | succ e1 => exact v_bestPower_t l hst D h0 ad T o  ao f h hrc h_o h_s
set_option maxHeartbeats 4000000 in
set_option maxRecDepth 100000 in
theorem v_meanPower_n (l : Launch) (hst : l.stackTraces = false) (D : va_G) {cI cJ cZ cMic cSrc cSt cAI cAJ cD : ClassId} (h0 : Nat) (ad : Nat → Nat) (T : AT) (o : Nat) (ao : Nat) (f : Nat → Int64) {r1 : Int64} {T1 : AT} (h : g_X11_meanPower T o = some (0, r1, T1)) (hrc : RC T) (h_o : o < T.1) (h_s : T.2.1 o = (11, 0)) : tWi l yL_meanPower (Cond.codeWith yL_meanPower cL_meanPower 3 (some .int) [(0, 7, 10, 21)] :: wsA) 8 169 cI cJ cZ cMic cSrc cSt cAI cAJ cD D h0 ad T (oJ ao cJ f) [.ref (ad o), .ref ao] (vck 1 0 0 (0)) T1 (oJ ao cJ (vfJ (0) f r1)) := by
  intro sz
  refine va_MetW (cc := cL_meanPower) (maxL := 3) (ret := some .int) (by decide) rfl ?_
  intro p e s m args below meth c s₁ B hml hv
  obtain ⟨rfl, hsz, hP, hK, hD0, hX, hN, hA0, hTS⟩ := hv
  have hx := B.exec
  have hb := B.bytes
  have hr := B.returns
  have hts := atoms_spec (ws := (Cond.codeWith yL_meanPower cL_meanPower 3 (some .int) [(0, 7, 10, 21)] :: wsA)) B.pre
  have hown : s.vm.findClass RL = some m.cls := findClass_of_methodNamed B.named
  have hlocks := B.notSynchronized
  have htb := vx_table (x := yL_meanPower) B (hts _ (.head _))
  subst hsz
  have hD := hD0.self (sz := s.heap.size)
  generalize hAe : va_A (cW ad T.1 (cc cI cJ cZ cMic cSrc cSt cAI cAJ ad T) ++ [oJ ao cJ f]) s.heap.size = A at hD hX hA0 ⊢
  have hA : ∀ q : Nat, s.heap.size ≤ q → A q := fun q h => by rw [← hAe]; exact Or.inr h
  have G : gL cI cJ cZ cMic cSrc cSt cAI cAJ D ad A s.heap s.heap [] T [oJ ao cJ f] := ⟨hP, hD, va_S.rf⟩
  have E : cE p c cL_meanPower s m ([.ref (ad o), .ref ao] : List Value).toArray (Cond.codeWith yL_meanPower cL_meanPower 3 (some .int) [(0, 7, 10, 21)] :: wsA) D RL (CT cI cJ cZ cMic cSrc cSt cAI cAJ ++ [(cD, .double)]) := ⟨hx, hb, hts, hown, hK⟩
  have hl := lv_entry ([.ref (ad o), .ref ao]) (n := 3) (Nat.le_of_ble_eq_true rfl)
  rw [lg_entry_eq]
  generalize (lg_sl ([.ref (ad o), .ref ao]) ++ List.replicate (3 - (lg_sl ([.ref (ad o), .ref ao])).length) Slot.unset).toArray = ls at hl ⊢
  have hl : lv_has ls 3 [(0, .ref (ad o)), (1, .ref ao)] := hl
  refine lv_aload_n hx hb dL_meanPower_0 rfl (lv_at hl 1 rfl) ?_
  refine lv_iconst (v := 0) hx hb dL_meanPower_1 (by decide) ?_
  refine lv_aload_n hx hb dL_meanPower_2 rfl (lv_at hl 0 rfl) ?_
  refine t_avl (As := []) (rest := [.int 0, .ref ao]) E G hA hX hX.2.2.2.1 hml (a_X11_meanPower l hst D cI cJ cZ cMic cSrc cSt cAI cAJ ad T o  h hrc h_o) (cwV 0 hts (gaV qA_1017 qA_1018 qA_1019 qA_131 qA_814) rfl rfl rfl (by decide +kernel) ⟨Nat.le_of_ble_eq_true rfl, Nat.le_of_ble_eq_true rfl⟩) h_o (cc_o11 h_s) rfl rfl hl.1 rfl (lv_room (Nat.le_of_ble_eq_true rfl)) dL_meanPower_3 ⟨by show 0 + (T1.1 - T.1) ≤ T1.1 - T.1 + 1; omega, by show 0 + (sg T1 - sg T) ≤ sg T1 - sg T + 6; omega⟩ ?_
  intro ad2 H locs had G
  refine t_last E G dL_meanPower_6 (fun H locs G => ?_)
  refine lv_goto (tgt := 13) hx hb dL_meanPower_7 (by decide) ?_
  refine lv_iconst (v := 0) hx hb dL_meanPower_13 (by decide) ?_
  refine W.widen (k := T1.1 - T.1 + 1) (n := sg T1 - sg T + 6) (by omega) (by omega) ?_
  exact W.iret (v := 0) hx hb hr (fun t ht hW => ⟨⟨0, ad2, rfl, ⟨rfl, had⟩, ⟨by rw [ht]; exact G.1, va_K.moved hW.alike hK, G.2.1⟩⟩, G.2.2.F ht⟩) G.2.2.2.2 dL_meanPower_14
set_option maxHeartbeats 4000000 in
set_option maxRecDepth 100000 in
theorem v_meanPower_t (l : Launch) (hst : l.stackTraces = false) (D : va_G) {cI cJ cZ cMic cSrc cSt cAI cAJ cD : ClassId} (h0 : Nat) (ad : Nat → Nat) (T : AT) (o : Nat) (ao : Nat) (f : Nat → Int64) {e1 : Nat} {r1 : Int64} {T1 : AT} (h : g_X11_meanPower T o = some (e1 + 1, r1, T1)) (hrc : RC T) (h_o : o < T.1) (h_s : T.2.1 o = (11, 0)) : tWi l yL_meanPower (Cond.codeWith yL_meanPower cL_meanPower 3 (some .int) [(0, 7, 10, 21)] :: wsA) 8 169 cI cJ cZ cMic cSrc cSt cAI cAJ cD D h0 ad T (oJ ao cJ f) [.ref (ad o), .ref ao] (vck 1 0 0 (e1 + 1)) T1 (oJ ao cJ (vfJ (e1 + 1) f r1)) := by
  intro sz
  refine va_MetW (cc := cL_meanPower) (maxL := 3) (ret := some .int) (by decide) rfl ?_
  intro p e s m args below meth c s₁ B hml hv
  obtain ⟨rfl, hsz, hP, hK, hD0, hX, hN, hA0, hTS⟩ := hv
  have hx := B.exec
  have hb := B.bytes
  have hr := B.returns
  have hts := atoms_spec (ws := (Cond.codeWith yL_meanPower cL_meanPower 3 (some .int) [(0, 7, 10, 21)] :: wsA)) B.pre
  have hown : s.vm.findClass RL = some m.cls := findClass_of_methodNamed B.named
  have hlocks := B.notSynchronized
  have htb := vx_table (x := yL_meanPower) B (hts _ (.head _))
  subst hsz
  have hD := hD0.self (sz := s.heap.size)
  generalize hAe : va_A (cW ad T.1 (cc cI cJ cZ cMic cSrc cSt cAI cAJ ad T) ++ [oJ ao cJ f]) s.heap.size = A at hD hX hA0 ⊢
  have hA : ∀ q : Nat, s.heap.size ≤ q → A q := fun q h => by rw [← hAe]; exact Or.inr h
  have G : gL cI cJ cZ cMic cSrc cSt cAI cAJ D ad A s.heap s.heap [] T [oJ ao cJ f] := ⟨hP, hD, va_S.rf⟩
  have E : cE p c cL_meanPower s m ([.ref (ad o), .ref ao] : List Value).toArray (Cond.codeWith yL_meanPower cL_meanPower 3 (some .int) [(0, 7, 10, 21)] :: wsA) D RL (CT cI cJ cZ cMic cSrc cSt cAI cAJ ++ [(cD, .double)]) := ⟨hx, hb, hts, hown, hK⟩
  have hl := lv_entry ([.ref (ad o), .ref ao]) (n := 3) (Nat.le_of_ble_eq_true rfl)
  rw [lg_entry_eq]
  generalize (lg_sl ([.ref (ad o), .ref ao]) ++ List.replicate (3 - (lg_sl ([.ref (ad o), .ref ao])).length) Slot.unset).toArray = ls at hl ⊢
  have hl : lv_has ls 3 [(0, .ref (ad o)), (1, .ref ao)] := hl
  refine lv_aload_n hx hb dL_meanPower_0 rfl (lv_at hl 1 rfl) ?_
  refine lv_iconst (v := 0) hx hb dL_meanPower_1 (by decide) ?_
  refine lv_aload_n hx hb dL_meanPower_2 rfl (lv_at hl 0 rfl) ?_
  refine t_bvl (As := []) (rest := [.int 0, .ref ao]) E G hA hX hX.2.2.2.1 hml (b_X11_meanPower l hst D cI cJ cZ cMic cSrc cSt cAI cAJ ad T o  h hrc h_o) (cwV 0 hts (gaV qA_1017 qA_1018 qA_1019 qA_131 qA_814) rfl rfl rfl (by decide +kernel) ⟨Nat.le_of_ble_eq_true rfl, Nat.le_of_ble_eq_true rfl⟩) h_o (cc_o11 h_s) rfl rfl hl.1 rfl (lv_room (Nat.le_of_ble_eq_true rfl)) dL_meanPower_3 ⟨by show 0 + (T1.1 - T.1 + 1) ≤ T1.1 - T.1 + 1; omega, by show 0 + (sg T1 - sg T + 6) ≤ sg T1 - sg T + 6; omega⟩ ?_
  intro E9 ce q9 ad2 H locs hE had G hce hcv hcl
  rcases e1 with _ | _ | e1
  · have hE : E9 = xISE := hE
    subst hE
    refine vx_catch (name := xISE) hown [] { startPc := 0, endPc := 7, handlerPc := 10, catchType := 21 } [] htb (fun z hz => absurd hz List.not_mem_nil) (by decide) (by decide) (hts _ (.tail _ qA_952)) (hX.use (.castable xISE xISE) (by decide +kernel)) hce hcv hcl ?_
    refine lv_astore_n (lv' := [(2, .ref q9), (0, .ref (ad o)), (1, .ref ao)]) hx hb dL_meanPower_10 rfl hl (by decide) rfl (fun ls hl => ?_)
    refine lv_iconst (v := 1) hx hb dL_meanPower_11 (by decide) ?_
    refine W.widen (k := T1.1 - T.1 + 1) (n := sg T1 - sg T + 6) (by omega) (by omega) ?_
    exact W.iret (v := 1) hx hb hr (fun t ht hW => ⟨⟨1, ad2, rfl, ⟨rfl, had⟩, ⟨by rw [ht]; exact G.1, va_K.moved hW.alike hK, G.2.1⟩⟩, G.2.2.F ht⟩) G.2.2.2.2 dL_meanPower_12
  · exact absurd (cd_g_X11_meanPower (S := [0, 1]) (fun _ h => h) T o _ _ _ h) (by decide)
  · have q := (cd_g_X11_meanPower (S := [0, 1]) (fun _ h => h) T o _ _ _ h)
    simp only [List.mem_cons, List.not_mem_nil, or_false] at q
    omega
theorem v_meanPower (l : Launch) (hst : l.stackTraces = false) (D : va_G) {cI cJ cZ cMic cSrc cSt cAI cAJ cD : ClassId} (h0 : Nat) (ad : Nat → Nat) (T : AT) (o : Nat) (ao : Nat) (f : Nat → Int64) {k1 : Nat} {r1 : Int64} {T1 : AT} (h : g_X11_meanPower T o = some (k1, r1, T1)) (hrc : RC T) (h_o : o < T.1) (h_s : T.2.1 o = (11, 0)) : tWi l yL_meanPower (Cond.codeWith yL_meanPower cL_meanPower 3 (some .int) [(0, 7, 10, 21)] :: wsA) 8 169 cI cJ cZ cMic cSrc cSt cAI cAJ cD D h0 ad T (oJ ao cJ f) [.ref (ad o), .ref ao] (vck 1 0 0 k1) T1 (oJ ao cJ (vfJ k1 f r1)) := by
  cases k1 with
  | zero => exact v_meanPower_n l hst D h0 ad T o  ao f h hrc h_o h_s
  | succ e1 => exact v_meanPower_t l hst D h0 ad T o  ao f h hrc h_o h_s
set_option maxHeartbeats 4000000 in
set_option maxRecDepth 100000 in
theorem v_peaks_n (l : Launch) (hst : l.stackTraces = false) (D : va_G) {cI cJ cZ cMic cSrc cSt cAI cAJ cD : ClassId} (h0 : Nat) (ad : Nat → Nat) (T : AT) (o : Nat) (ao : Nat) (f : Nat → Int64) {r1 : Int32} {T1 : AT} (h : g_X11_peaks T o = some (0, r1, T1)) (hrc : RC T) (h_o : o < T.1) (h_s : T.2.1 o = (11, 0)) : tWi l yL_peaks (Cond.codeWith yL_peaks cL_peaks 3 (some .int) [(0, 8, 11, 21)] :: wsA) 8 169 cI cJ cZ cMic cSrc cSt cAI cAJ cD D h0 ad T (oJ ao cJ f) [.ref (ad o), .ref ao] (vck 1 0 0 (0)) T1 (oJ ao cJ (vfJ (0) f r1.toInt64)) := by
  intro sz
  refine va_MetW (cc := cL_peaks) (maxL := 3) (ret := some .int) (by decide) rfl ?_
  intro p e s m args below meth c s₁ B hml hv
  obtain ⟨rfl, hsz, hP, hK, hD0, hX, hN, hA0, hTS⟩ := hv
  have hx := B.exec
  have hb := B.bytes
  have hr := B.returns
  have hts := atoms_spec (ws := (Cond.codeWith yL_peaks cL_peaks 3 (some .int) [(0, 8, 11, 21)] :: wsA)) B.pre
  have hown : s.vm.findClass RL = some m.cls := findClass_of_methodNamed B.named
  have hlocks := B.notSynchronized
  have htb := vx_table (x := yL_peaks) B (hts _ (.head _))
  subst hsz
  have hD := hD0.self (sz := s.heap.size)
  generalize hAe : va_A (cW ad T.1 (cc cI cJ cZ cMic cSrc cSt cAI cAJ ad T) ++ [oJ ao cJ f]) s.heap.size = A at hD hX hA0 ⊢
  have hA : ∀ q : Nat, s.heap.size ≤ q → A q := fun q h => by rw [← hAe]; exact Or.inr h
  have G : gL cI cJ cZ cMic cSrc cSt cAI cAJ D ad A s.heap s.heap [] T [oJ ao cJ f] := ⟨hP, hD, va_S.rf⟩
  have E : cE p c cL_peaks s m ([.ref (ad o), .ref ao] : List Value).toArray (Cond.codeWith yL_peaks cL_peaks 3 (some .int) [(0, 8, 11, 21)] :: wsA) D RL (CT cI cJ cZ cMic cSrc cSt cAI cAJ ++ [(cD, .double)]) := ⟨hx, hb, hts, hown, hK⟩
  have hl := lv_entry ([.ref (ad o), .ref ao]) (n := 3) (Nat.le_of_ble_eq_true rfl)
  rw [lg_entry_eq]
  generalize (lg_sl ([.ref (ad o), .ref ao]) ++ List.replicate (3 - (lg_sl ([.ref (ad o), .ref ao])).length) Slot.unset).toArray = ls at hl ⊢
  have hl : lv_has ls 3 [(0, .ref (ad o)), (1, .ref ao)] := hl
  refine lv_aload_n hx hb dL_peaks_0 rfl (lv_at hl 1 rfl) ?_
  refine lv_iconst (v := 0) hx hb dL_peaks_1 (by decide) ?_
  refine lv_aload_n hx hb dL_peaks_2 rfl (lv_at hl 0 rfl) ?_
  refine t_avi (As := []) (rest := [.int 0, .ref ao]) E G hA hX hX.2.2.2.1 hml (a_X11_peaks l hst D cI cJ cZ cMic cSrc cSt cAI cAJ ad T o  h hrc h_o) (cwV 0 hts (gaV qA_1021 qA_1022 qA_1023 qA_131 qA_820) rfl rfl rfl (by decide +kernel) ⟨Nat.le_of_ble_eq_true rfl, Nat.le_of_ble_eq_true rfl⟩) h_o (cc_o11 h_s) rfl rfl hl.1 rfl (lv_room (Nat.le_of_ble_eq_true rfl)) dL_peaks_3 ⟨by show 0 + (T1.1 - T.1) ≤ T1.1 - T.1 + 1; omega, by show 0 + (sg T1 - sg T) ≤ sg T1 - sg T + 6; omega⟩ ?_
  intro ad2 H locs had G
  refine lv_i2l (v := r1.toInt64) hx hb dL_peaks_6 rfl ?_
  refine t_last E G dL_peaks_7 (fun H locs G => ?_)
  refine lv_goto (tgt := 14) hx hb dL_peaks_8 (by decide) ?_
  refine lv_iconst (v := 0) hx hb dL_peaks_14 (by decide) ?_
  refine W.widen (k := T1.1 - T.1 + 1) (n := sg T1 - sg T + 6) (by omega) (by omega) ?_
  exact W.iret (v := 0) hx hb hr (fun t ht hW => ⟨⟨0, ad2, rfl, ⟨rfl, had⟩, ⟨by rw [ht]; exact G.1, va_K.moved hW.alike hK, G.2.1⟩⟩, G.2.2.F ht⟩) G.2.2.2.2 dL_peaks_15
set_option maxHeartbeats 4000000 in
set_option maxRecDepth 100000 in
theorem v_peaks_t (l : Launch) (hst : l.stackTraces = false) (D : va_G) {cI cJ cZ cMic cSrc cSt cAI cAJ cD : ClassId} (h0 : Nat) (ad : Nat → Nat) (T : AT) (o : Nat) (ao : Nat) (f : Nat → Int64) {e1 : Nat} {r1 : Int32} {T1 : AT} (h : g_X11_peaks T o = some (e1 + 1, r1, T1)) (hrc : RC T) (h_o : o < T.1) (h_s : T.2.1 o = (11, 0)) : tWi l yL_peaks (Cond.codeWith yL_peaks cL_peaks 3 (some .int) [(0, 8, 11, 21)] :: wsA) 8 169 cI cJ cZ cMic cSrc cSt cAI cAJ cD D h0 ad T (oJ ao cJ f) [.ref (ad o), .ref ao] (vck 1 0 0 (e1 + 1)) T1 (oJ ao cJ (vfJ (e1 + 1) f r1.toInt64)) := by
  intro sz
  refine va_MetW (cc := cL_peaks) (maxL := 3) (ret := some .int) (by decide) rfl ?_
  intro p e s m args below meth c s₁ B hml hv
  obtain ⟨rfl, hsz, hP, hK, hD0, hX, hN, hA0, hTS⟩ := hv
  have hx := B.exec
  have hb := B.bytes
  have hr := B.returns
  have hts := atoms_spec (ws := (Cond.codeWith yL_peaks cL_peaks 3 (some .int) [(0, 8, 11, 21)] :: wsA)) B.pre
  have hown : s.vm.findClass RL = some m.cls := findClass_of_methodNamed B.named
  have hlocks := B.notSynchronized
  have htb := vx_table (x := yL_peaks) B (hts _ (.head _))
  subst hsz
  have hD := hD0.self (sz := s.heap.size)
  generalize hAe : va_A (cW ad T.1 (cc cI cJ cZ cMic cSrc cSt cAI cAJ ad T) ++ [oJ ao cJ f]) s.heap.size = A at hD hX hA0 ⊢
  have hA : ∀ q : Nat, s.heap.size ≤ q → A q := fun q h => by rw [← hAe]; exact Or.inr h
  have G : gL cI cJ cZ cMic cSrc cSt cAI cAJ D ad A s.heap s.heap [] T [oJ ao cJ f] := ⟨hP, hD, va_S.rf⟩
  have E : cE p c cL_peaks s m ([.ref (ad o), .ref ao] : List Value).toArray (Cond.codeWith yL_peaks cL_peaks 3 (some .int) [(0, 8, 11, 21)] :: wsA) D RL (CT cI cJ cZ cMic cSrc cSt cAI cAJ ++ [(cD, .double)]) := ⟨hx, hb, hts, hown, hK⟩
  have hl := lv_entry ([.ref (ad o), .ref ao]) (n := 3) (Nat.le_of_ble_eq_true rfl)
  rw [lg_entry_eq]
  generalize (lg_sl ([.ref (ad o), .ref ao]) ++ List.replicate (3 - (lg_sl ([.ref (ad o), .ref ao])).length) Slot.unset).toArray = ls at hl ⊢
  have hl : lv_has ls 3 [(0, .ref (ad o)), (1, .ref ao)] := hl
  refine lv_aload_n hx hb dL_peaks_0 rfl (lv_at hl 1 rfl) ?_
  refine lv_iconst (v := 0) hx hb dL_peaks_1 (by decide) ?_
  refine lv_aload_n hx hb dL_peaks_2 rfl (lv_at hl 0 rfl) ?_
  refine t_bvi (As := []) (rest := [.int 0, .ref ao]) E G hA hX hX.2.2.2.1 hml (b_X11_peaks l hst D cI cJ cZ cMic cSrc cSt cAI cAJ ad T o  h hrc h_o) (cwV 0 hts (gaV qA_1021 qA_1022 qA_1023 qA_131 qA_820) rfl rfl rfl (by decide +kernel) ⟨Nat.le_of_ble_eq_true rfl, Nat.le_of_ble_eq_true rfl⟩) h_o (cc_o11 h_s) rfl rfl hl.1 rfl (lv_room (Nat.le_of_ble_eq_true rfl)) dL_peaks_3 ⟨by show 0 + (T1.1 - T.1 + 1) ≤ T1.1 - T.1 + 1; omega, by show 0 + (sg T1 - sg T + 6) ≤ sg T1 - sg T + 6; omega⟩ ?_
  intro E9 ce q9 ad2 H locs hE had G hce hcv hcl
  rcases e1 with _ | _ | e1
  · have hE : E9 = xISE := hE
    subst hE
    refine vx_catch (name := xISE) hown [] { startPc := 0, endPc := 8, handlerPc := 11, catchType := 21 } [] htb (fun z hz => absurd hz List.not_mem_nil) (by decide) (by decide) (hts _ (.tail _ qA_952)) (hX.use (.castable xISE xISE) (by decide +kernel)) hce hcv hcl ?_
    refine lv_astore_n (lv' := [(2, .ref q9), (0, .ref (ad o)), (1, .ref ao)]) hx hb dL_peaks_11 rfl hl (by decide) rfl (fun ls hl => ?_)
    refine lv_iconst (v := 1) hx hb dL_peaks_12 (by decide) ?_
    refine W.widen (k := T1.1 - T.1 + 1) (n := sg T1 - sg T + 6) (by omega) (by omega) ?_
    exact W.iret (v := 1) hx hb hr (fun t ht hW => ⟨⟨1, ad2, rfl, ⟨rfl, had⟩, ⟨by rw [ht]; exact G.1, va_K.moved hW.alike hK, G.2.1⟩⟩, G.2.2.F ht⟩) G.2.2.2.2 dL_peaks_13
  · exact absurd (cd_g_X11_peaks (S := [0, 1]) (fun _ h => h) T o _ _ _ h) (by decide)
  · have q := (cd_g_X11_peaks (S := [0, 1]) (fun _ h => h) T o _ _ _ h)
    simp only [List.mem_cons, List.not_mem_nil, or_false] at q
    omega
theorem v_peaks (l : Launch) (hst : l.stackTraces = false) (D : va_G) {cI cJ cZ cMic cSrc cSt cAI cAJ cD : ClassId} (h0 : Nat) (ad : Nat → Nat) (T : AT) (o : Nat) (ao : Nat) (f : Nat → Int64) {k1 : Nat} {r1 : Int32} {T1 : AT} (h : g_X11_peaks T o = some (k1, r1, T1)) (hrc : RC T) (h_o : o < T.1) (h_s : T.2.1 o = (11, 0)) : tWi l yL_peaks (Cond.codeWith yL_peaks cL_peaks 3 (some .int) [(0, 8, 11, 21)] :: wsA) 8 169 cI cJ cZ cMic cSrc cSt cAI cAJ cD D h0 ad T (oJ ao cJ f) [.ref (ad o), .ref ao] (vck 1 0 0 k1) T1 (oJ ao cJ (vfJ k1 f r1.toInt64)) := by
  cases k1 with
  | zero => exact v_peaks_n l hst D h0 ad T o  ao f h hrc h_o h_s
  | succ e1 => exact v_peaks_t l hst D h0 ad T o  ao f h hrc h_o h_s
set_option maxHeartbeats 4000000 in
set_option maxRecDepth 100000 in
theorem v_peakAt_n (l : Launch) (hst : l.stackTraces = false) (D : va_G) {cI cJ cZ cMic cSrc cSt cAI cAJ cD : ClassId} (h0 : Nat) (ad : Nat → Nat) (T : AT) (o : Nat) (a0 : Int32) (ao : Nat) (f : Nat → Int64) {r1 : Int32} {T1 : AT} (h : g_X11_peakAt T o a0 = some (0, r1, T1)) (hrc : RC T) (h_o : o < T.1) (h_s : T.2.1 o = (11, 0)) : tWi l yL_peakAt (Cond.codeWith yL_peakAt cL_peakAt 4 (some .int) [(0, 9, 12, 21), (0, 9, 15, 13)] :: wsA) 8 171 cI cJ cZ cMic cSrc cSt cAI cAJ cD D h0 ad T (oJ ao cJ f) [.ref (ad o), .int a0, .ref ao] (vck 1 2 0 (0)) T1 (oJ ao cJ (vfJ (0) f r1.toInt64)) := by
  intro sz
  refine va_MetW (cc := cL_peakAt) (maxL := 4) (ret := some .int) (by decide) rfl ?_
  intro p e s m args below meth c s₁ B hml hv
  obtain ⟨rfl, hsz, hP, hK, hD0, hX, hN, hA0, hTS⟩ := hv
  have hx := B.exec
  have hb := B.bytes
  have hr := B.returns
  have hts := atoms_spec (ws := (Cond.codeWith yL_peakAt cL_peakAt 4 (some .int) [(0, 9, 12, 21), (0, 9, 15, 13)] :: wsA)) B.pre
  have hown : s.vm.findClass RL = some m.cls := findClass_of_methodNamed B.named
  have hlocks := B.notSynchronized
  have htb := vx_table (x := yL_peakAt) B (hts _ (.head _))
  subst hsz
  have hD := hD0.self (sz := s.heap.size)
  generalize hAe : va_A (cW ad T.1 (cc cI cJ cZ cMic cSrc cSt cAI cAJ ad T) ++ [oJ ao cJ f]) s.heap.size = A at hD hX hA0 ⊢
  have hA : ∀ q : Nat, s.heap.size ≤ q → A q := fun q h => by rw [← hAe]; exact Or.inr h
  have G : gL cI cJ cZ cMic cSrc cSt cAI cAJ D ad A s.heap s.heap [] T [oJ ao cJ f] := ⟨hP, hD, va_S.rf⟩
  have E : cE p c cL_peakAt s m ([.ref (ad o), .int a0, .ref ao] : List Value).toArray (Cond.codeWith yL_peakAt cL_peakAt 4 (some .int) [(0, 9, 12, 21), (0, 9, 15, 13)] :: wsA) D RL (CT cI cJ cZ cMic cSrc cSt cAI cAJ ++ [(cD, .double)]) := ⟨hx, hb, hts, hown, hK⟩
  have hl := lv_entry ([.ref (ad o), .int a0, .ref ao]) (n := 4) (Nat.le_of_ble_eq_true rfl)
  rw [lg_entry_eq]
  generalize (lg_sl ([.ref (ad o), .int a0, .ref ao]) ++ List.replicate (4 - (lg_sl ([.ref (ad o), .int a0, .ref ao])).length) Slot.unset).toArray = ls at hl ⊢
  have hl : lv_has ls 4 [(0, .ref (ad o)), (1, .int a0), (2, .ref ao)] := hl
  refine lv_aload_n hx hb dL_peakAt_0 rfl (lv_at hl 2 rfl) ?_
  refine lv_iconst (v := 0) hx hb dL_peakAt_1 (by decide) ?_
  refine lv_aload_n hx hb dL_peakAt_2 rfl (lv_at hl 0 rfl) ?_
  refine lv_iload_n hx hb dL_peakAt_3 rfl (lv_at hl 1 rfl) ?_
  refine t_avi (As := [.int a0]) (rest := [.int 0, .ref ao]) E G hA hX hX.2.2.2.1 hml (a_X11_peakAt l hst D cI cJ cZ cMic cSrc cSt cAI cAJ ad T o a0 h hrc h_o) (cwV 1 hts (gaV qA_1025 qA_1026 qA_1027 qA_131 qA_822) rfl rfl rfl (by decide +kernel) ⟨Nat.le_of_ble_eq_true rfl, Nat.le_of_ble_eq_true rfl⟩) h_o (cc_o11 h_s) rfl rfl hl.1 rfl (lv_room (Nat.le_of_ble_eq_true rfl)) dL_peakAt_4 ⟨by show 0 + (T1.1 - T.1) ≤ T1.1 - T.1 + 1; omega, by show 0 + (sg T1 - sg T) ≤ sg T1 - sg T + 6; omega⟩ ?_
  intro ad2 H locs had G
  refine lv_i2l (v := r1.toInt64) hx hb dL_peakAt_7 rfl ?_
  refine t_last E G dL_peakAt_8 (fun H locs G => ?_)
  refine lv_goto (tgt := 18) hx hb dL_peakAt_9 (by decide) ?_
  refine lv_iconst (v := 0) hx hb dL_peakAt_18 (by decide) ?_
  refine W.widen (k := T1.1 - T.1 + 1) (n := sg T1 - sg T + 6) (by omega) (by omega) ?_
  exact W.iret (v := 0) hx hb hr (fun t ht hW => ⟨⟨0, ad2, rfl, ⟨rfl, had⟩, ⟨by rw [ht]; exact G.1, va_K.moved hW.alike hK, G.2.1⟩⟩, G.2.2.F ht⟩) G.2.2.2.2 dL_peakAt_19
set_option maxHeartbeats 4000000 in
set_option maxRecDepth 100000 in
theorem v_peakAt_t (l : Launch) (hst : l.stackTraces = false) (D : va_G) {cI cJ cZ cMic cSrc cSt cAI cAJ cD : ClassId} (h0 : Nat) (ad : Nat → Nat) (T : AT) (o : Nat) (a0 : Int32) (ao : Nat) (f : Nat → Int64) {e1 : Nat} {r1 : Int32} {T1 : AT} (h : g_X11_peakAt T o a0 = some (e1 + 1, r1, T1)) (hrc : RC T) (h_o : o < T.1) (h_s : T.2.1 o = (11, 0)) : tWi l yL_peakAt (Cond.codeWith yL_peakAt cL_peakAt 4 (some .int) [(0, 9, 12, 21), (0, 9, 15, 13)] :: wsA) 8 171 cI cJ cZ cMic cSrc cSt cAI cAJ cD D h0 ad T (oJ ao cJ f) [.ref (ad o), .int a0, .ref ao] (vck 1 2 0 (e1 + 1)) T1 (oJ ao cJ (vfJ (e1 + 1) f r1.toInt64)) := by
  intro sz
  refine va_MetW (cc := cL_peakAt) (maxL := 4) (ret := some .int) (by decide) rfl ?_
  intro p e s m args below meth c s₁ B hml hv
  obtain ⟨rfl, hsz, hP, hK, hD0, hX, hN, hA0, hTS⟩ := hv
  have hx := B.exec
  have hb := B.bytes
  have hr := B.returns
  have hts := atoms_spec (ws := (Cond.codeWith yL_peakAt cL_peakAt 4 (some .int) [(0, 9, 12, 21), (0, 9, 15, 13)] :: wsA)) B.pre
  have hown : s.vm.findClass RL = some m.cls := findClass_of_methodNamed B.named
  have hlocks := B.notSynchronized
  have htb := vx_table (x := yL_peakAt) B (hts _ (.head _))
  subst hsz
  have hD := hD0.self (sz := s.heap.size)
  generalize hAe : va_A (cW ad T.1 (cc cI cJ cZ cMic cSrc cSt cAI cAJ ad T) ++ [oJ ao cJ f]) s.heap.size = A at hD hX hA0 ⊢
  have hA : ∀ q : Nat, s.heap.size ≤ q → A q := fun q h => by rw [← hAe]; exact Or.inr h
  have G : gL cI cJ cZ cMic cSrc cSt cAI cAJ D ad A s.heap s.heap [] T [oJ ao cJ f] := ⟨hP, hD, va_S.rf⟩
  have E : cE p c cL_peakAt s m ([.ref (ad o), .int a0, .ref ao] : List Value).toArray (Cond.codeWith yL_peakAt cL_peakAt 4 (some .int) [(0, 9, 12, 21), (0, 9, 15, 13)] :: wsA) D RL (CT cI cJ cZ cMic cSrc cSt cAI cAJ ++ [(cD, .double)]) := ⟨hx, hb, hts, hown, hK⟩
  have hl := lv_entry ([.ref (ad o), .int a0, .ref ao]) (n := 4) (Nat.le_of_ble_eq_true rfl)
  rw [lg_entry_eq]
  generalize (lg_sl ([.ref (ad o), .int a0, .ref ao]) ++ List.replicate (4 - (lg_sl ([.ref (ad o), .int a0, .ref ao])).length) Slot.unset).toArray = ls at hl ⊢
  have hl : lv_has ls 4 [(0, .ref (ad o)), (1, .int a0), (2, .ref ao)] := hl
  refine lv_aload_n hx hb dL_peakAt_0 rfl (lv_at hl 2 rfl) ?_
  refine lv_iconst (v := 0) hx hb dL_peakAt_1 (by decide) ?_
  refine lv_aload_n hx hb dL_peakAt_2 rfl (lv_at hl 0 rfl) ?_
  refine lv_iload_n hx hb dL_peakAt_3 rfl (lv_at hl 1 rfl) ?_
  refine t_bvi (As := [.int a0]) (rest := [.int 0, .ref ao]) E G hA hX hX.2.2.2.1 hml (b_X11_peakAt l hst D cI cJ cZ cMic cSrc cSt cAI cAJ ad T o a0 h hrc h_o) (cwV 1 hts (gaV qA_1025 qA_1026 qA_1027 qA_131 qA_822) rfl rfl rfl (by decide +kernel) ⟨Nat.le_of_ble_eq_true rfl, Nat.le_of_ble_eq_true rfl⟩) h_o (cc_o11 h_s) rfl rfl hl.1 rfl (lv_room (Nat.le_of_ble_eq_true rfl)) dL_peakAt_4 ⟨by show 0 + (T1.1 - T.1 + 1) ≤ T1.1 - T.1 + 1; omega, by show 0 + (sg T1 - sg T + 6) ≤ sg T1 - sg T + 6; omega⟩ ?_
  intro E9 ce q9 ad2 H locs hE had G hce hcv hcl
  rcases e1 with _ | _ | e1
  · have hE : E9 = xISE := hE
    subst hE
    refine vx_catch (name := xISE) hown [] { startPc := 0, endPc := 9, handlerPc := 12, catchType := 21 } [{ startPc := 0, endPc := 9, handlerPc := 15, catchType := 13 }] htb (fun z hz => absurd hz List.not_mem_nil) (by decide) (by decide) (hts _ (.tail _ qA_952)) (hX.use (.castable xISE xISE) (by decide +kernel)) hce hcv hcl ?_
    refine lv_astore_n (lv' := [(3, .ref q9), (0, .ref (ad o)), (1, .int a0), (2, .ref ao)]) hx hb dL_peakAt_12 rfl hl (by decide) rfl (fun ls hl => ?_)
    refine lv_iconst (v := 1) hx hb dL_peakAt_13 (by decide) ?_
    refine W.widen (k := T1.1 - T.1 + 1) (n := sg T1 - sg T + 6) (by omega) (by omega) ?_
    exact W.iret (v := 1) hx hb hr (fun t ht hW => ⟨⟨1, ad2, rfl, ⟨rfl, had⟩, ⟨by rw [ht]; exact G.1, va_K.moved hW.alike hK, G.2.1⟩⟩, G.2.2.F ht⟩) G.2.2.2.2 dL_peakAt_14
  · have hE : E9 = xIOB := hE
    subst hE
    refine vx_catch (name := xIOB) hown [{ startPc := 0, endPc := 9, handlerPc := 12, catchType := 21 }] { startPc := 0, endPc := 9, handlerPc := 15, catchType := 13 } [] htb (List.forall_mem_cons.mpr ⟨Or.inr ⟨by decide, xISE, hts _ (.tail _ qA_952), hN.2.2.1⟩, fun z hz => absurd hz List.not_mem_nil⟩) (by decide) (by decide) (hts _ (.tail _ qA_946)) (hX.use (.castable xIOB xIOB) (by decide +kernel)) hce hcv hcl ?_
    refine lv_astore_n (lv' := [(3, .ref q9), (0, .ref (ad o)), (1, .int a0), (2, .ref ao)]) hx hb dL_peakAt_15 rfl hl (by decide) rfl (fun ls hl => ?_)
    refine lv_iconst (v := 2) hx hb dL_peakAt_16 (by decide) ?_
    refine W.widen (k := T1.1 - T.1 + 1) (n := sg T1 - sg T + 6) (by omega) (by omega) ?_
    exact W.iret (v := 2) hx hb hr (fun t ht hW => ⟨⟨2, ad2, rfl, ⟨rfl, had⟩, ⟨by rw [ht]; exact G.1, va_K.moved hW.alike hK, G.2.1⟩⟩, G.2.2.F ht⟩) G.2.2.2.2 dL_peakAt_17
  · have q := (cd_g_X11_peakAt (S := [0, 1, 2]) (fun _ h => h) T o a0 _ _ _ h)
    simp only [List.mem_cons, List.not_mem_nil, or_false] at q
    omega
theorem v_peakAt (l : Launch) (hst : l.stackTraces = false) (D : va_G) {cI cJ cZ cMic cSrc cSt cAI cAJ cD : ClassId} (h0 : Nat) (ad : Nat → Nat) (T : AT) (o : Nat) (a0 : Int32) (ao : Nat) (f : Nat → Int64) {k1 : Nat} {r1 : Int32} {T1 : AT} (h : g_X11_peakAt T o a0 = some (k1, r1, T1)) (hrc : RC T) (h_o : o < T.1) (h_s : T.2.1 o = (11, 0)) : tWi l yL_peakAt (Cond.codeWith yL_peakAt cL_peakAt 4 (some .int) [(0, 9, 12, 21), (0, 9, 15, 13)] :: wsA) 8 171 cI cJ cZ cMic cSrc cSt cAI cAJ cD D h0 ad T (oJ ao cJ f) [.ref (ad o), .int a0, .ref ao] (vck 1 2 0 k1) T1 (oJ ao cJ (vfJ k1 f r1.toInt64)) := by
  cases k1 with
  | zero => exact v_peakAt_n l hst D h0 ad T o a0 ao f h hrc h_o h_s
  | succ e1 => exact v_peakAt_t l hst D h0 ad T o a0 ao f h hrc h_o h_s
set_option maxHeartbeats 4000000 in
set_option maxRecDepth 100000 in
theorem v_isPeak_n (l : Launch) (hst : l.stackTraces = false) (D : va_G) {cI cJ cZ cMic cSrc cSt cAI cAJ cD : ClassId} (h0 : Nat) (ad : Nat → Nat) (T : AT) (o : Nat) (a0 : Int32) (ao : Nat) (f : Nat → Int64) {r1 : Int32} {T1 : AT} (h : g_X11_isPeak T o a0 = some (0, r1, T1)) (hrc : RC T) (h_o : o < T.1) (h_s : T.2.1 o = (11, 0)) : tWi l yL_isPeak (Cond.codeWith yL_isPeak cL_isPeak 4 (some .int) [(0, 16, 19, 21), (0, 16, 22, 13)] :: wsA) 9 170 cI cJ cZ cMic cSrc cSt cAI cAJ cD D h0 ad T (oJ ao cJ f) [.ref (ad o), .int a0, .ref ao] (vck 1 2 0 (0)) T1 (oJ ao cJ (vfJ (0) f (vzb r1))) := by
  intro sz
  refine va_MetW (cc := cL_isPeak) (maxL := 4) (ret := some .int) (by decide) rfl ?_
  intro p e s m args below meth c s₁ B hml hv
  obtain ⟨rfl, hsz, hP, hK, hD0, hX, hN, hA0, hTS⟩ := hv
  have hx := B.exec
  have hb := B.bytes
  have hr := B.returns
  have hts := atoms_spec (ws := (Cond.codeWith yL_isPeak cL_isPeak 4 (some .int) [(0, 16, 19, 21), (0, 16, 22, 13)] :: wsA)) B.pre
  have hown : s.vm.findClass RL = some m.cls := findClass_of_methodNamed B.named
  have hlocks := B.notSynchronized
  have htb := vx_table (x := yL_isPeak) B (hts _ (.head _))
  subst hsz
  have hD := hD0.self (sz := s.heap.size)
  generalize hAe : va_A (cW ad T.1 (cc cI cJ cZ cMic cSrc cSt cAI cAJ ad T) ++ [oJ ao cJ f]) s.heap.size = A at hD hX hA0 ⊢
  have hA : ∀ q : Nat, s.heap.size ≤ q → A q := fun q h => by rw [← hAe]; exact Or.inr h
  have G : gL cI cJ cZ cMic cSrc cSt cAI cAJ D ad A s.heap s.heap [] T [oJ ao cJ f] := ⟨hP, hD, va_S.rf⟩
  have E : cE p c cL_isPeak s m ([.ref (ad o), .int a0, .ref ao] : List Value).toArray (Cond.codeWith yL_isPeak cL_isPeak 4 (some .int) [(0, 16, 19, 21), (0, 16, 22, 13)] :: wsA) D RL (CT cI cJ cZ cMic cSrc cSt cAI cAJ ++ [(cD, .double)]) := ⟨hx, hb, hts, hown, hK⟩
  have hl := lv_entry ([.ref (ad o), .int a0, .ref ao]) (n := 4) (Nat.le_of_ble_eq_true rfl)
  rw [lg_entry_eq]
  generalize (lg_sl ([.ref (ad o), .int a0, .ref ao]) ++ List.replicate (4 - (lg_sl ([.ref (ad o), .int a0, .ref ao])).length) Slot.unset).toArray = ls at hl ⊢
  have hl : lv_has ls 4 [(0, .ref (ad o)), (1, .int a0), (2, .ref ao)] := hl
  refine lv_aload_n hx hb dL_isPeak_0 rfl (lv_at hl 2 rfl) ?_
  refine lv_iconst (v := 0) hx hb dL_isPeak_1 (by decide) ?_
  refine lv_aload_n hx hb dL_isPeak_2 rfl (lv_at hl 0 rfl) ?_
  refine lv_iload_n hx hb dL_isPeak_3 rfl (lv_at hl 1 rfl) ?_
  refine t_avi (As := [.int a0]) (rest := [.int 0, .ref ao]) E G hA hX hX.2.2.2.1 hml (a_X11_isPeak l hst D cI cJ cZ cMic cSrc cSt cAI cAJ ad T o a0 h hrc h_o) (cwV 1 hts (gaV qA_1029 qA_1030 qA_1031 qA_131 qA_826) rfl rfl rfl (by decide +kernel) ⟨Nat.le_of_ble_eq_true rfl, Nat.le_of_ble_eq_true rfl⟩) h_o (cc_o11 h_s) rfl rfl hl.1 rfl (lv_room (Nat.le_of_ble_eq_true rfl)) dL_isPeak_4 ⟨by show 0 + (T1.1 - T.1) ≤ T1.1 - T.1 + 1; omega, by show 0 + (sg T1 - sg T) ≤ sg T1 - sg T + 6; omega⟩ ?_
  intro ad2 H locs had G
  refine lv_if_eq (tgt := 14) hx hb dL_isPeak_7 (by decide) (fun c1 => ?_) (fun c1 => ?_)
  · refine lv_lconst (v := vzb r1) hx hb dL_isPeak_14 (by rw [vzb, if_pos c1]; rfl) ?_
    refine t_last E G dL_isPeak_15 (fun H locs G => ?_)
    refine lv_goto (tgt := 25) hx hb dL_isPeak_16 (by decide) ?_
    refine lv_iconst (v := 0) hx hb dL_isPeak_25 (by decide) ?_
    refine W.widen (k := T1.1 - T.1 + 1) (n := sg T1 - sg T + 6) (by omega) (by omega) ?_
    exact W.iret (v := 0) hx hb hr (fun t ht hW => ⟨⟨0, ad2, rfl, ⟨rfl, had⟩, ⟨by rw [ht]; exact G.1, va_K.moved hW.alike hK, G.2.1⟩⟩, G.2.2.F ht⟩) G.2.2.2.2 dL_isPeak_26
  · refine lv_lconst (v := vzb r1) hx hb dL_isPeak_10 (by rw [vzb, if_neg c1]; rfl) ?_
    refine lv_goto (tgt := 15) hx hb dL_isPeak_11 (by decide) ?_
    refine t_last E G dL_isPeak_15 (fun H locs G => ?_)
    refine lv_goto (tgt := 25) hx hb dL_isPeak_16 (by decide) ?_
    refine lv_iconst (v := 0) hx hb dL_isPeak_25 (by decide) ?_
    refine W.widen (k := T1.1 - T.1 + 1) (n := sg T1 - sg T + 6) (by omega) (by omega) ?_
    exact W.iret (v := 0) hx hb hr (fun t ht hW => ⟨⟨0, ad2, rfl, ⟨rfl, had⟩, ⟨by rw [ht]; exact G.1, va_K.moved hW.alike hK, G.2.1⟩⟩, G.2.2.F ht⟩) G.2.2.2.2 dL_isPeak_26
set_option maxHeartbeats 4000000 in
set_option maxRecDepth 100000 in
theorem v_isPeak_t (l : Launch) (hst : l.stackTraces = false) (D : va_G) {cI cJ cZ cMic cSrc cSt cAI cAJ cD : ClassId} (h0 : Nat) (ad : Nat → Nat) (T : AT) (o : Nat) (a0 : Int32) (ao : Nat) (f : Nat → Int64) {e1 : Nat} {r1 : Int32} {T1 : AT} (h : g_X11_isPeak T o a0 = some (e1 + 1, r1, T1)) (hrc : RC T) (h_o : o < T.1) (h_s : T.2.1 o = (11, 0)) : tWi l yL_isPeak (Cond.codeWith yL_isPeak cL_isPeak 4 (some .int) [(0, 16, 19, 21), (0, 16, 22, 13)] :: wsA) 9 170 cI cJ cZ cMic cSrc cSt cAI cAJ cD D h0 ad T (oJ ao cJ f) [.ref (ad o), .int a0, .ref ao] (vck 1 2 0 (e1 + 1)) T1 (oJ ao cJ (vfJ (e1 + 1) f (vzb r1))) := by
  intro sz
  refine va_MetW (cc := cL_isPeak) (maxL := 4) (ret := some .int) (by decide) rfl ?_
  intro p e s m args below meth c s₁ B hml hv
  obtain ⟨rfl, hsz, hP, hK, hD0, hX, hN, hA0, hTS⟩ := hv
  have hx := B.exec
  have hb := B.bytes
  have hr := B.returns
  have hts := atoms_spec (ws := (Cond.codeWith yL_isPeak cL_isPeak 4 (some .int) [(0, 16, 19, 21), (0, 16, 22, 13)] :: wsA)) B.pre
  have hown : s.vm.findClass RL = some m.cls := findClass_of_methodNamed B.named
  have hlocks := B.notSynchronized
  have htb := vx_table (x := yL_isPeak) B (hts _ (.head _))
  subst hsz
  have hD := hD0.self (sz := s.heap.size)
  generalize hAe : va_A (cW ad T.1 (cc cI cJ cZ cMic cSrc cSt cAI cAJ ad T) ++ [oJ ao cJ f]) s.heap.size = A at hD hX hA0 ⊢
  have hA : ∀ q : Nat, s.heap.size ≤ q → A q := fun q h => by rw [← hAe]; exact Or.inr h
  have G : gL cI cJ cZ cMic cSrc cSt cAI cAJ D ad A s.heap s.heap [] T [oJ ao cJ f] := ⟨hP, hD, va_S.rf⟩
  have E : cE p c cL_isPeak s m ([.ref (ad o), .int a0, .ref ao] : List Value).toArray (Cond.codeWith yL_isPeak cL_isPeak 4 (some .int) [(0, 16, 19, 21), (0, 16, 22, 13)] :: wsA) D RL (CT cI cJ cZ cMic cSrc cSt cAI cAJ ++ [(cD, .double)]) := ⟨hx, hb, hts, hown, hK⟩
  have hl := lv_entry ([.ref (ad o), .int a0, .ref ao]) (n := 4) (Nat.le_of_ble_eq_true rfl)
  rw [lg_entry_eq]
  generalize (lg_sl ([.ref (ad o), .int a0, .ref ao]) ++ List.replicate (4 - (lg_sl ([.ref (ad o), .int a0, .ref ao])).length) Slot.unset).toArray = ls at hl ⊢
  have hl : lv_has ls 4 [(0, .ref (ad o)), (1, .int a0), (2, .ref ao)] := hl
  refine lv_aload_n hx hb dL_isPeak_0 rfl (lv_at hl 2 rfl) ?_
  refine lv_iconst (v := 0) hx hb dL_isPeak_1 (by decide) ?_
  refine lv_aload_n hx hb dL_isPeak_2 rfl (lv_at hl 0 rfl) ?_
  refine lv_iload_n hx hb dL_isPeak_3 rfl (lv_at hl 1 rfl) ?_
  refine t_bvi (As := [.int a0]) (rest := [.int 0, .ref ao]) E G hA hX hX.2.2.2.1 hml (b_X11_isPeak l hst D cI cJ cZ cMic cSrc cSt cAI cAJ ad T o a0 h hrc h_o) (cwV 1 hts (gaV qA_1029 qA_1030 qA_1031 qA_131 qA_826) rfl rfl rfl (by decide +kernel) ⟨Nat.le_of_ble_eq_true rfl, Nat.le_of_ble_eq_true rfl⟩) h_o (cc_o11 h_s) rfl rfl hl.1 rfl (lv_room (Nat.le_of_ble_eq_true rfl)) dL_isPeak_4 ⟨by show 0 + (T1.1 - T.1 + 1) ≤ T1.1 - T.1 + 1; omega, by show 0 + (sg T1 - sg T + 6) ≤ sg T1 - sg T + 6; omega⟩ ?_
  intro E9 ce q9 ad2 H locs hE had G hce hcv hcl
  rcases e1 with _ | _ | e1
  · have hE : E9 = xISE := hE
    subst hE
    refine vx_catch (name := xISE) hown [] { startPc := 0, endPc := 16, handlerPc := 19, catchType := 21 } [{ startPc := 0, endPc := 16, handlerPc := 22, catchType := 13 }] htb (fun z hz => absurd hz List.not_mem_nil) (by decide) (by decide) (hts _ (.tail _ qA_952)) (hX.use (.castable xISE xISE) (by decide +kernel)) hce hcv hcl ?_
    refine lv_astore_n (lv' := [(3, .ref q9), (0, .ref (ad o)), (1, .int a0), (2, .ref ao)]) hx hb dL_isPeak_19 rfl hl (by decide) rfl (fun ls hl => ?_)
    refine lv_iconst (v := 1) hx hb dL_isPeak_20 (by decide) ?_
    refine W.widen (k := T1.1 - T.1 + 1) (n := sg T1 - sg T + 6) (by omega) (by omega) ?_
    exact W.iret (v := 1) hx hb hr (fun t ht hW => ⟨⟨1, ad2, rfl, ⟨rfl, had⟩, ⟨by rw [ht]; exact G.1, va_K.moved hW.alike hK, G.2.1⟩⟩, G.2.2.F ht⟩) G.2.2.2.2 dL_isPeak_21
  · have hE : E9 = xIOB := hE
    subst hE
    refine vx_catch (name := xIOB) hown [{ startPc := 0, endPc := 16, handlerPc := 19, catchType := 21 }] { startPc := 0, endPc := 16, handlerPc := 22, catchType := 13 } [] htb (List.forall_mem_cons.mpr ⟨Or.inr ⟨by decide, xISE, hts _ (.tail _ qA_952), hN.2.2.1⟩, fun z hz => absurd hz List.not_mem_nil⟩) (by decide) (by decide) (hts _ (.tail _ qA_946)) (hX.use (.castable xIOB xIOB) (by decide +kernel)) hce hcv hcl ?_
    refine lv_astore_n (lv' := [(3, .ref q9), (0, .ref (ad o)), (1, .int a0), (2, .ref ao)]) hx hb dL_isPeak_22 rfl hl (by decide) rfl (fun ls hl => ?_)
    refine lv_iconst (v := 2) hx hb dL_isPeak_23 (by decide) ?_
    refine W.widen (k := T1.1 - T.1 + 1) (n := sg T1 - sg T + 6) (by omega) (by omega) ?_
    exact W.iret (v := 2) hx hb hr (fun t ht hW => ⟨⟨2, ad2, rfl, ⟨rfl, had⟩, ⟨by rw [ht]; exact G.1, va_K.moved hW.alike hK, G.2.1⟩⟩, G.2.2.F ht⟩) G.2.2.2.2 dL_isPeak_24
  · have q := (cd_g_X11_isPeak (S := [0, 1, 2]) (fun _ h => h) T o a0 _ _ _ h)
    simp only [List.mem_cons, List.not_mem_nil, or_false] at q
    omega
theorem v_isPeak (l : Launch) (hst : l.stackTraces = false) (D : va_G) {cI cJ cZ cMic cSrc cSt cAI cAJ cD : ClassId} (h0 : Nat) (ad : Nat → Nat) (T : AT) (o : Nat) (a0 : Int32) (ao : Nat) (f : Nat → Int64) {k1 : Nat} {r1 : Int32} {T1 : AT} (h : g_X11_isPeak T o a0 = some (k1, r1, T1)) (hrc : RC T) (h_o : o < T.1) (h_s : T.2.1 o = (11, 0)) : tWi l yL_isPeak (Cond.codeWith yL_isPeak cL_isPeak 4 (some .int) [(0, 16, 19, 21), (0, 16, 22, 13)] :: wsA) 9 170 cI cJ cZ cMic cSrc cSt cAI cAJ cD D h0 ad T (oJ ao cJ f) [.ref (ad o), .int a0, .ref ao] (vck 1 2 0 k1) T1 (oJ ao cJ (vfJ k1 f (vzb r1))) := by
  cases k1 with
  | zero => exact v_isPeak_n l hst D h0 ad T o a0 ao f h hrc h_o h_s
  | succ e1 => exact v_isPeak_t l hst D h0 ad T o a0 ao f h hrc h_o h_s
set_option maxHeartbeats 4000000 in
set_option maxRecDepth 100000 in
theorem v_zonePower_n (l : Launch) (hst : l.stackTraces = false) (D : va_G) {cI cJ cZ cMic cSrc cSt cAI cAJ cD : ClassId} (h0 : Nat) (ad : Nat → Nat) (T : AT) (o : Nat) (a0 : Int32) (ao : Nat) (f : Nat → Int64) {r1 : Int64} {T1 : AT} (h : g_X11_zonePower T o a0 = some (0, r1, T1)) (hrc : RC T) (h_o : o < T.1) (h_s : T.2.1 o = (11, 0)) : tWi l yL_zonePower (Cond.codeWith yL_zonePower cL_zonePower 4 (some .int) [(0, 8, 11, 21), (0, 8, 14, 13)] :: wsA) 8 170 cI cJ cZ cMic cSrc cSt cAI cAJ cD D h0 ad T (oJ ao cJ f) [.ref (ad o), .int a0, .ref ao] (vck 1 2 0 (0)) T1 (oJ ao cJ (vfJ (0) f r1)) := by
  intro sz
  refine va_MetW (cc := cL_zonePower) (maxL := 4) (ret := some .int) (by decide) rfl ?_
  intro p e s m args below meth c s₁ B hml hv
  obtain ⟨rfl, hsz, hP, hK, hD0, hX, hN, hA0, hTS⟩ := hv
  have hx := B.exec
  have hb := B.bytes
  have hr := B.returns
  have hts := atoms_spec (ws := (Cond.codeWith yL_zonePower cL_zonePower 4 (some .int) [(0, 8, 11, 21), (0, 8, 14, 13)] :: wsA)) B.pre
  have hown : s.vm.findClass RL = some m.cls := findClass_of_methodNamed B.named
  have hlocks := B.notSynchronized
  have htb := vx_table (x := yL_zonePower) B (hts _ (.head _))
  subst hsz
  have hD := hD0.self (sz := s.heap.size)
  generalize hAe : va_A (cW ad T.1 (cc cI cJ cZ cMic cSrc cSt cAI cAJ ad T) ++ [oJ ao cJ f]) s.heap.size = A at hD hX hA0 ⊢
  have hA : ∀ q : Nat, s.heap.size ≤ q → A q := fun q h => by rw [← hAe]; exact Or.inr h
  have G : gL cI cJ cZ cMic cSrc cSt cAI cAJ D ad A s.heap s.heap [] T [oJ ao cJ f] := ⟨hP, hD, va_S.rf⟩
  have E : cE p c cL_zonePower s m ([.ref (ad o), .int a0, .ref ao] : List Value).toArray (Cond.codeWith yL_zonePower cL_zonePower 4 (some .int) [(0, 8, 11, 21), (0, 8, 14, 13)] :: wsA) D RL (CT cI cJ cZ cMic cSrc cSt cAI cAJ ++ [(cD, .double)]) := ⟨hx, hb, hts, hown, hK⟩
  have hl := lv_entry ([.ref (ad o), .int a0, .ref ao]) (n := 4) (Nat.le_of_ble_eq_true rfl)
  rw [lg_entry_eq]
  generalize (lg_sl ([.ref (ad o), .int a0, .ref ao]) ++ List.replicate (4 - (lg_sl ([.ref (ad o), .int a0, .ref ao])).length) Slot.unset).toArray = ls at hl ⊢
  have hl : lv_has ls 4 [(0, .ref (ad o)), (1, .int a0), (2, .ref ao)] := hl
  refine lv_aload_n hx hb dL_zonePower_0 rfl (lv_at hl 2 rfl) ?_
  refine lv_iconst (v := 0) hx hb dL_zonePower_1 (by decide) ?_
  refine lv_aload_n hx hb dL_zonePower_2 rfl (lv_at hl 0 rfl) ?_
  refine lv_iload_n hx hb dL_zonePower_3 rfl (lv_at hl 1 rfl) ?_
  refine t_avl (As := [.int a0]) (rest := [.int 0, .ref ao]) E G hA hX hX.2.2.2.1 hml (a_X11_zonePower l hst D cI cJ cZ cMic cSrc cSt cAI cAJ ad T o a0 h hrc h_o) (cwV 1 hts (gaV qA_1033 qA_1034 qA_1035 qA_131 qA_828) rfl rfl rfl (by decide +kernel) ⟨Nat.le_of_ble_eq_true rfl, Nat.le_of_ble_eq_true rfl⟩) h_o (cc_o11 h_s) rfl rfl hl.1 rfl (lv_room (Nat.le_of_ble_eq_true rfl)) dL_zonePower_4 ⟨by show 0 + (T1.1 - T.1) ≤ T1.1 - T.1 + 1; omega, by show 0 + (sg T1 - sg T) ≤ sg T1 - sg T + 6; omega⟩ ?_
  intro ad2 H locs had G
  refine t_last E G dL_zonePower_7 (fun H locs G => ?_)
  refine lv_goto (tgt := 17) hx hb dL_zonePower_8 (by decide) ?_
  refine lv_iconst (v := 0) hx hb dL_zonePower_17 (by decide) ?_
  refine W.widen (k := T1.1 - T.1 + 1) (n := sg T1 - sg T + 6) (by omega) (by omega) ?_
  exact W.iret (v := 0) hx hb hr (fun t ht hW => ⟨⟨0, ad2, rfl, ⟨rfl, had⟩, ⟨by rw [ht]; exact G.1, va_K.moved hW.alike hK, G.2.1⟩⟩, G.2.2.F ht⟩) G.2.2.2.2 dL_zonePower_18
set_option maxHeartbeats 4000000 in
set_option maxRecDepth 100000 in
theorem v_zonePower_t (l : Launch) (hst : l.stackTraces = false) (D : va_G) {cI cJ cZ cMic cSrc cSt cAI cAJ cD : ClassId} (h0 : Nat) (ad : Nat → Nat) (T : AT) (o : Nat) (a0 : Int32) (ao : Nat) (f : Nat → Int64) {e1 : Nat} {r1 : Int64} {T1 : AT} (h : g_X11_zonePower T o a0 = some (e1 + 1, r1, T1)) (hrc : RC T) (h_o : o < T.1) (h_s : T.2.1 o = (11, 0)) : tWi l yL_zonePower (Cond.codeWith yL_zonePower cL_zonePower 4 (some .int) [(0, 8, 11, 21), (0, 8, 14, 13)] :: wsA) 8 170 cI cJ cZ cMic cSrc cSt cAI cAJ cD D h0 ad T (oJ ao cJ f) [.ref (ad o), .int a0, .ref ao] (vck 1 2 0 (e1 + 1)) T1 (oJ ao cJ (vfJ (e1 + 1) f r1)) := by
  intro sz
  refine va_MetW (cc := cL_zonePower) (maxL := 4) (ret := some .int) (by decide) rfl ?_
  intro p e s m args below meth c s₁ B hml hv
  obtain ⟨rfl, hsz, hP, hK, hD0, hX, hN, hA0, hTS⟩ := hv
  have hx := B.exec
  have hb := B.bytes
  have hr := B.returns
  have hts := atoms_spec (ws := (Cond.codeWith yL_zonePower cL_zonePower 4 (some .int) [(0, 8, 11, 21), (0, 8, 14, 13)] :: wsA)) B.pre
  have hown : s.vm.findClass RL = some m.cls := findClass_of_methodNamed B.named
  have hlocks := B.notSynchronized
  have htb := vx_table (x := yL_zonePower) B (hts _ (.head _))
  subst hsz
  have hD := hD0.self (sz := s.heap.size)
  generalize hAe : va_A (cW ad T.1 (cc cI cJ cZ cMic cSrc cSt cAI cAJ ad T) ++ [oJ ao cJ f]) s.heap.size = A at hD hX hA0 ⊢
  have hA : ∀ q : Nat, s.heap.size ≤ q → A q := fun q h => by rw [← hAe]; exact Or.inr h
  have G : gL cI cJ cZ cMic cSrc cSt cAI cAJ D ad A s.heap s.heap [] T [oJ ao cJ f] := ⟨hP, hD, va_S.rf⟩
  have E : cE p c cL_zonePower s m ([.ref (ad o), .int a0, .ref ao] : List Value).toArray (Cond.codeWith yL_zonePower cL_zonePower 4 (some .int) [(0, 8, 11, 21), (0, 8, 14, 13)] :: wsA) D RL (CT cI cJ cZ cMic cSrc cSt cAI cAJ ++ [(cD, .double)]) := ⟨hx, hb, hts, hown, hK⟩
  have hl := lv_entry ([.ref (ad o), .int a0, .ref ao]) (n := 4) (Nat.le_of_ble_eq_true rfl)
  rw [lg_entry_eq]
  generalize (lg_sl ([.ref (ad o), .int a0, .ref ao]) ++ List.replicate (4 - (lg_sl ([.ref (ad o), .int a0, .ref ao])).length) Slot.unset).toArray = ls at hl ⊢
  have hl : lv_has ls 4 [(0, .ref (ad o)), (1, .int a0), (2, .ref ao)] := hl
  refine lv_aload_n hx hb dL_zonePower_0 rfl (lv_at hl 2 rfl) ?_
  refine lv_iconst (v := 0) hx hb dL_zonePower_1 (by decide) ?_
  refine lv_aload_n hx hb dL_zonePower_2 rfl (lv_at hl 0 rfl) ?_
  refine lv_iload_n hx hb dL_zonePower_3 rfl (lv_at hl 1 rfl) ?_
  refine t_bvl (As := [.int a0]) (rest := [.int 0, .ref ao]) E G hA hX hX.2.2.2.1 hml (b_X11_zonePower l hst D cI cJ cZ cMic cSrc cSt cAI cAJ ad T o a0 h hrc h_o) (cwV 1 hts (gaV qA_1033 qA_1034 qA_1035 qA_131 qA_828) rfl rfl rfl (by decide +kernel) ⟨Nat.le_of_ble_eq_true rfl, Nat.le_of_ble_eq_true rfl⟩) h_o (cc_o11 h_s) rfl rfl hl.1 rfl (lv_room (Nat.le_of_ble_eq_true rfl)) dL_zonePower_4 ⟨by show 0 + (T1.1 - T.1 + 1) ≤ T1.1 - T.1 + 1; omega, by show 0 + (sg T1 - sg T + 6) ≤ sg T1 - sg T + 6; omega⟩ ?_
  intro E9 ce q9 ad2 H locs hE had G hce hcv hcl
  rcases e1 with _ | _ | e1
  · have hE : E9 = xISE := hE
    subst hE
    refine vx_catch (name := xISE) hown [] { startPc := 0, endPc := 8, handlerPc := 11, catchType := 21 } [{ startPc := 0, endPc := 8, handlerPc := 14, catchType := 13 }] htb (fun z hz => absurd hz List.not_mem_nil) (by decide) (by decide) (hts _ (.tail _ qA_952)) (hX.use (.castable xISE xISE) (by decide +kernel)) hce hcv hcl ?_
    refine lv_astore_n (lv' := [(3, .ref q9), (0, .ref (ad o)), (1, .int a0), (2, .ref ao)]) hx hb dL_zonePower_11 rfl hl (by decide) rfl (fun ls hl => ?_)
    refine lv_iconst (v := 1) hx hb dL_zonePower_12 (by decide) ?_
    refine W.widen (k := T1.1 - T.1 + 1) (n := sg T1 - sg T + 6) (by omega) (by omega) ?_
    exact W.iret (v := 1) hx hb hr (fun t ht hW => ⟨⟨1, ad2, rfl, ⟨rfl, had⟩, ⟨by rw [ht]; exact G.1, va_K.moved hW.alike hK, G.2.1⟩⟩, G.2.2.F ht⟩) G.2.2.2.2 dL_zonePower_13
  · have hE : E9 = xIOB := hE
    subst hE
    refine vx_catch (name := xIOB) hown [{ startPc := 0, endPc := 8, handlerPc := 11, catchType := 21 }] { startPc := 0, endPc := 8, handlerPc := 14, catchType := 13 } [] htb (List.forall_mem_cons.mpr ⟨Or.inr ⟨by decide, xISE, hts _ (.tail _ qA_952), hN.2.2.1⟩, fun z hz => absurd hz List.not_mem_nil⟩) (by decide) (by decide) (hts _ (.tail _ qA_946)) (hX.use (.castable xIOB xIOB) (by decide +kernel)) hce hcv hcl ?_
    refine lv_astore_n (lv' := [(3, .ref q9), (0, .ref (ad o)), (1, .int a0), (2, .ref ao)]) hx hb dL_zonePower_14 rfl hl (by decide) rfl (fun ls hl => ?_)
    refine lv_iconst (v := 2) hx hb dL_zonePower_15 (by decide) ?_
    refine W.widen (k := T1.1 - T.1 + 1) (n := sg T1 - sg T + 6) (by omega) (by omega) ?_
    exact W.iret (v := 2) hx hb hr (fun t ht hW => ⟨⟨2, ad2, rfl, ⟨rfl, had⟩, ⟨by rw [ht]; exact G.1, va_K.moved hW.alike hK, G.2.1⟩⟩, G.2.2.F ht⟩) G.2.2.2.2 dL_zonePower_16
  · have q := (cd_g_X11_zonePower (S := [0, 1, 2]) (fun _ h => h) T o a0 _ _ _ h)
    simp only [List.mem_cons, List.not_mem_nil, or_false] at q
    omega
theorem v_zonePower (l : Launch) (hst : l.stackTraces = false) (D : va_G) {cI cJ cZ cMic cSrc cSt cAI cAJ cD : ClassId} (h0 : Nat) (ad : Nat → Nat) (T : AT) (o : Nat) (a0 : Int32) (ao : Nat) (f : Nat → Int64) {k1 : Nat} {r1 : Int64} {T1 : AT} (h : g_X11_zonePower T o a0 = some (k1, r1, T1)) (hrc : RC T) (h_o : o < T.1) (h_s : T.2.1 o = (11, 0)) : tWi l yL_zonePower (Cond.codeWith yL_zonePower cL_zonePower 4 (some .int) [(0, 8, 11, 21), (0, 8, 14, 13)] :: wsA) 8 170 cI cJ cZ cMic cSrc cSt cAI cAJ cD D h0 ad T (oJ ao cJ f) [.ref (ad o), .int a0, .ref ao] (vck 1 2 0 k1) T1 (oJ ao cJ (vfJ k1 f r1)) := by
  cases k1 with
  | zero => exact v_zonePower_n l hst D h0 ad T o a0 ao f h hrc h_o h_s
  | succ e1 => exact v_zonePower_t l hst D h0 ad T o a0 ao f h hrc h_o h_s
set_option maxHeartbeats 4000000 in
set_option maxRecDepth 100000 in
theorem v_zoneBest_n (l : Launch) (hst : l.stackTraces = false) (D : va_G) {cI cJ cZ cMic cSrc cSt cAI cAJ cD : ClassId} (h0 : Nat) (ad : Nat → Nat) (T : AT) (o : Nat) (a0 : Int32) (ao : Nat) (f : Nat → Int64) {r1 : Int32} {T1 : AT} (h : g_X11_zoneBest T o a0 = some (0, r1, T1)) (hrc : RC T) (h_o : o < T.1) (h_s : T.2.1 o = (11, 0)) : tWi l yL_zoneBest (Cond.codeWith yL_zoneBest cL_zoneBest 4 (some .int) [(0, 9, 12, 21), (0, 9, 15, 13)] :: wsA) 8 170 cI cJ cZ cMic cSrc cSt cAI cAJ cD D h0 ad T (oJ ao cJ f) [.ref (ad o), .int a0, .ref ao] (vck 1 2 0 (0)) T1 (oJ ao cJ (vfJ (0) f r1.toInt64)) := by
  intro sz
  refine va_MetW (cc := cL_zoneBest) (maxL := 4) (ret := some .int) (by decide) rfl ?_
  intro p e s m args below meth c s₁ B hml hv
  obtain ⟨rfl, hsz, hP, hK, hD0, hX, hN, hA0, hTS⟩ := hv
  have hx := B.exec
  have hb := B.bytes
  have hr := B.returns
  have hts := atoms_spec (ws := (Cond.codeWith yL_zoneBest cL_zoneBest 4 (some .int) [(0, 9, 12, 21), (0, 9, 15, 13)] :: wsA)) B.pre
  have hown : s.vm.findClass RL = some m.cls := findClass_of_methodNamed B.named
  have hlocks := B.notSynchronized
  have htb := vx_table (x := yL_zoneBest) B (hts _ (.head _))
  subst hsz
  have hD := hD0.self (sz := s.heap.size)
  generalize hAe : va_A (cW ad T.1 (cc cI cJ cZ cMic cSrc cSt cAI cAJ ad T) ++ [oJ ao cJ f]) s.heap.size = A at hD hX hA0 ⊢
  have hA : ∀ q : Nat, s.heap.size ≤ q → A q := fun q h => by rw [← hAe]; exact Or.inr h
  have G : gL cI cJ cZ cMic cSrc cSt cAI cAJ D ad A s.heap s.heap [] T [oJ ao cJ f] := ⟨hP, hD, va_S.rf⟩
  have E : cE p c cL_zoneBest s m ([.ref (ad o), .int a0, .ref ao] : List Value).toArray (Cond.codeWith yL_zoneBest cL_zoneBest 4 (some .int) [(0, 9, 12, 21), (0, 9, 15, 13)] :: wsA) D RL (CT cI cJ cZ cMic cSrc cSt cAI cAJ ++ [(cD, .double)]) := ⟨hx, hb, hts, hown, hK⟩
  have hl := lv_entry ([.ref (ad o), .int a0, .ref ao]) (n := 4) (Nat.le_of_ble_eq_true rfl)
  rw [lg_entry_eq]
  generalize (lg_sl ([.ref (ad o), .int a0, .ref ao]) ++ List.replicate (4 - (lg_sl ([.ref (ad o), .int a0, .ref ao])).length) Slot.unset).toArray = ls at hl ⊢
  have hl : lv_has ls 4 [(0, .ref (ad o)), (1, .int a0), (2, .ref ao)] := hl
  refine lv_aload_n hx hb dL_zoneBest_0 rfl (lv_at hl 2 rfl) ?_
  refine lv_iconst (v := 0) hx hb dL_zoneBest_1 (by decide) ?_
  refine lv_aload_n hx hb dL_zoneBest_2 rfl (lv_at hl 0 rfl) ?_
  refine lv_iload_n hx hb dL_zoneBest_3 rfl (lv_at hl 1 rfl) ?_
  refine t_avi (As := [.int a0]) (rest := [.int 0, .ref ao]) E G hA hX hX.2.2.2.1 hml (a_X11_zoneBest l hst D cI cJ cZ cMic cSrc cSt cAI cAJ ad T o a0 h hrc h_o) (cwV 1 hts (gaV qA_1037 qA_1038 qA_1039 qA_131 qA_831) rfl rfl rfl (by decide +kernel) ⟨Nat.le_of_ble_eq_true rfl, Nat.le_of_ble_eq_true rfl⟩) h_o (cc_o11 h_s) rfl rfl hl.1 rfl (lv_room (Nat.le_of_ble_eq_true rfl)) dL_zoneBest_4 ⟨by show 0 + (T1.1 - T.1) ≤ T1.1 - T.1 + 1; omega, by show 0 + (sg T1 - sg T) ≤ sg T1 - sg T + 6; omega⟩ ?_
  intro ad2 H locs had G
  refine lv_i2l (v := r1.toInt64) hx hb dL_zoneBest_7 rfl ?_
  refine t_last E G dL_zoneBest_8 (fun H locs G => ?_)
  refine lv_goto (tgt := 18) hx hb dL_zoneBest_9 (by decide) ?_
  refine lv_iconst (v := 0) hx hb dL_zoneBest_18 (by decide) ?_
  refine W.widen (k := T1.1 - T.1 + 1) (n := sg T1 - sg T + 6) (by omega) (by omega) ?_
  exact W.iret (v := 0) hx hb hr (fun t ht hW => ⟨⟨0, ad2, rfl, ⟨rfl, had⟩, ⟨by rw [ht]; exact G.1, va_K.moved hW.alike hK, G.2.1⟩⟩, G.2.2.F ht⟩) G.2.2.2.2 dL_zoneBest_19
set_option maxHeartbeats 4000000 in
set_option maxRecDepth 100000 in
theorem v_zoneBest_t (l : Launch) (hst : l.stackTraces = false) (D : va_G) {cI cJ cZ cMic cSrc cSt cAI cAJ cD : ClassId} (h0 : Nat) (ad : Nat → Nat) (T : AT) (o : Nat) (a0 : Int32) (ao : Nat) (f : Nat → Int64) {e1 : Nat} {r1 : Int32} {T1 : AT} (h : g_X11_zoneBest T o a0 = some (e1 + 1, r1, T1)) (hrc : RC T) (h_o : o < T.1) (h_s : T.2.1 o = (11, 0)) : tWi l yL_zoneBest (Cond.codeWith yL_zoneBest cL_zoneBest 4 (some .int) [(0, 9, 12, 21), (0, 9, 15, 13)] :: wsA) 8 170 cI cJ cZ cMic cSrc cSt cAI cAJ cD D h0 ad T (oJ ao cJ f) [.ref (ad o), .int a0, .ref ao] (vck 1 2 0 (e1 + 1)) T1 (oJ ao cJ (vfJ (e1 + 1) f r1.toInt64)) := by
  intro sz
  refine va_MetW (cc := cL_zoneBest) (maxL := 4) (ret := some .int) (by decide) rfl ?_
  intro p e s m args below meth c s₁ B hml hv
  obtain ⟨rfl, hsz, hP, hK, hD0, hX, hN, hA0, hTS⟩ := hv
  have hx := B.exec
  have hb := B.bytes
  have hr := B.returns
  have hts := atoms_spec (ws := (Cond.codeWith yL_zoneBest cL_zoneBest 4 (some .int) [(0, 9, 12, 21), (0, 9, 15, 13)] :: wsA)) B.pre
  have hown : s.vm.findClass RL = some m.cls := findClass_of_methodNamed B.named
  have hlocks := B.notSynchronized
  have htb := vx_table (x := yL_zoneBest) B (hts _ (.head _))
  subst hsz
  have hD := hD0.self (sz := s.heap.size)
  generalize hAe : va_A (cW ad T.1 (cc cI cJ cZ cMic cSrc cSt cAI cAJ ad T) ++ [oJ ao cJ f]) s.heap.size = A at hD hX hA0 ⊢
  have hA : ∀ q : Nat, s.heap.size ≤ q → A q := fun q h => by rw [← hAe]; exact Or.inr h
  have G : gL cI cJ cZ cMic cSrc cSt cAI cAJ D ad A s.heap s.heap [] T [oJ ao cJ f] := ⟨hP, hD, va_S.rf⟩
  have E : cE p c cL_zoneBest s m ([.ref (ad o), .int a0, .ref ao] : List Value).toArray (Cond.codeWith yL_zoneBest cL_zoneBest 4 (some .int) [(0, 9, 12, 21), (0, 9, 15, 13)] :: wsA) D RL (CT cI cJ cZ cMic cSrc cSt cAI cAJ ++ [(cD, .double)]) := ⟨hx, hb, hts, hown, hK⟩
  have hl := lv_entry ([.ref (ad o), .int a0, .ref ao]) (n := 4) (Nat.le_of_ble_eq_true rfl)
  rw [lg_entry_eq]
  generalize (lg_sl ([.ref (ad o), .int a0, .ref ao]) ++ List.replicate (4 - (lg_sl ([.ref (ad o), .int a0, .ref ao])).length) Slot.unset).toArray = ls at hl ⊢
  have hl : lv_has ls 4 [(0, .ref (ad o)), (1, .int a0), (2, .ref ao)] := hl
  refine lv_aload_n hx hb dL_zoneBest_0 rfl (lv_at hl 2 rfl) ?_
  refine lv_iconst (v := 0) hx hb dL_zoneBest_1 (by decide) ?_
  refine lv_aload_n hx hb dL_zoneBest_2 rfl (lv_at hl 0 rfl) ?_
  refine lv_iload_n hx hb dL_zoneBest_3 rfl (lv_at hl 1 rfl) ?_
  refine t_bvi (As := [.int a0]) (rest := [.int 0, .ref ao]) E G hA hX hX.2.2.2.1 hml (b_X11_zoneBest l hst D cI cJ cZ cMic cSrc cSt cAI cAJ ad T o a0 h hrc h_o) (cwV 1 hts (gaV qA_1037 qA_1038 qA_1039 qA_131 qA_831) rfl rfl rfl (by decide +kernel) ⟨Nat.le_of_ble_eq_true rfl, Nat.le_of_ble_eq_true rfl⟩) h_o (cc_o11 h_s) rfl rfl hl.1 rfl (lv_room (Nat.le_of_ble_eq_true rfl)) dL_zoneBest_4 ⟨by show 0 + (T1.1 - T.1 + 1) ≤ T1.1 - T.1 + 1; omega, by show 0 + (sg T1 - sg T + 6) ≤ sg T1 - sg T + 6; omega⟩ ?_
  intro E9 ce q9 ad2 H locs hE had G hce hcv hcl
  rcases e1 with _ | _ | e1
  · have hE : E9 = xISE := hE
    subst hE
    refine vx_catch (name := xISE) hown [] { startPc := 0, endPc := 9, handlerPc := 12, catchType := 21 } [{ startPc := 0, endPc := 9, handlerPc := 15, catchType := 13 }] htb (fun z hz => absurd hz List.not_mem_nil) (by decide) (by decide) (hts _ (.tail _ qA_952)) (hX.use (.castable xISE xISE) (by decide +kernel)) hce hcv hcl ?_
    refine lv_astore_n (lv' := [(3, .ref q9), (0, .ref (ad o)), (1, .int a0), (2, .ref ao)]) hx hb dL_zoneBest_12 rfl hl (by decide) rfl (fun ls hl => ?_)
    refine lv_iconst (v := 1) hx hb dL_zoneBest_13 (by decide) ?_
    refine W.widen (k := T1.1 - T.1 + 1) (n := sg T1 - sg T + 6) (by omega) (by omega) ?_
    exact W.iret (v := 1) hx hb hr (fun t ht hW => ⟨⟨1, ad2, rfl, ⟨rfl, had⟩, ⟨by rw [ht]; exact G.1, va_K.moved hW.alike hK, G.2.1⟩⟩, G.2.2.F ht⟩) G.2.2.2.2 dL_zoneBest_14
  · have hE : E9 = xIOB := hE
    subst hE
    refine vx_catch (name := xIOB) hown [{ startPc := 0, endPc := 9, handlerPc := 12, catchType := 21 }] { startPc := 0, endPc := 9, handlerPc := 15, catchType := 13 } [] htb (List.forall_mem_cons.mpr ⟨Or.inr ⟨by decide, xISE, hts _ (.tail _ qA_952), hN.2.2.1⟩, fun z hz => absurd hz List.not_mem_nil⟩) (by decide) (by decide) (hts _ (.tail _ qA_946)) (hX.use (.castable xIOB xIOB) (by decide +kernel)) hce hcv hcl ?_
    refine lv_astore_n (lv' := [(3, .ref q9), (0, .ref (ad o)), (1, .int a0), (2, .ref ao)]) hx hb dL_zoneBest_15 rfl hl (by decide) rfl (fun ls hl => ?_)
    refine lv_iconst (v := 2) hx hb dL_zoneBest_16 (by decide) ?_
    refine W.widen (k := T1.1 - T.1 + 1) (n := sg T1 - sg T + 6) (by omega) (by omega) ?_
    exact W.iret (v := 2) hx hb hr (fun t ht hW => ⟨⟨2, ad2, rfl, ⟨rfl, had⟩, ⟨by rw [ht]; exact G.1, va_K.moved hW.alike hK, G.2.1⟩⟩, G.2.2.F ht⟩) G.2.2.2.2 dL_zoneBest_17
  · have q := (cd_g_X11_zoneBest (S := [0, 1, 2]) (fun _ h => h) T o a0 _ _ _ h)
    simp only [List.mem_cons, List.not_mem_nil, or_false] at q
    omega
theorem v_zoneBest (l : Launch) (hst : l.stackTraces = false) (D : va_G) {cI cJ cZ cMic cSrc cSt cAI cAJ cD : ClassId} (h0 : Nat) (ad : Nat → Nat) (T : AT) (o : Nat) (a0 : Int32) (ao : Nat) (f : Nat → Int64) {k1 : Nat} {r1 : Int32} {T1 : AT} (h : g_X11_zoneBest T o a0 = some (k1, r1, T1)) (hrc : RC T) (h_o : o < T.1) (h_s : T.2.1 o = (11, 0)) : tWi l yL_zoneBest (Cond.codeWith yL_zoneBest cL_zoneBest 4 (some .int) [(0, 9, 12, 21), (0, 9, 15, 13)] :: wsA) 8 170 cI cJ cZ cMic cSrc cSt cAI cAJ cD D h0 ad T (oJ ao cJ f) [.ref (ad o), .int a0, .ref ao] (vck 1 2 0 k1) T1 (oJ ao cJ (vfJ k1 f r1.toInt64)) := by
  cases k1 with
  | zero => exact v_zoneBest_n l hst D h0 ad T o a0 ao f h hrc h_o h_s
  | succ e1 => exact v_zoneBest_t l hst D h0 ad T o a0 ao f h hrc h_o h_s
set_option maxHeartbeats 4000000 in
set_option maxRecDepth 100000 in
theorem v_contrast_n (l : Launch) (hst : l.stackTraces = false) (D : va_G) {cI cJ cZ cMic cSrc cSt cAI cAJ cD : ClassId} (h0 : Nat) (ad : Nat → Nat) (T : AT) (o : Nat) (ao : Nat) (f : Nat → UInt64) {r1 : UInt32} {T1 : AT} (hnan : ∀ {r : UInt32} {T1 : AT}, g_X11_contrast T o = some (0, r, T1) → vf_n64 (FP.f2d r)) (h : g_X11_contrast T o = some (0, r1, T1)) (hrc : RC T) (h_o : o < T.1) (h_s : T.2.1 o = (11, 0)) : tWi l yL_contrast (Cond.codeWith yL_contrast cL_contrast 3 (some .int) [(0, 8, 11, 21)] :: wsA) 8 171 cI cJ cZ cMic cSrc cSt cAI cAJ cD D h0 ad T (oD ao cD f) [.ref (ad o), .ref ao] (vck 1 0 0 (0)) T1 (oD ao cD (vfD (0) f (FP.f2d r1))) := by
  intro sz
  refine va_MetW (cc := cL_contrast) (maxL := 3) (ret := some .int) (by decide) rfl ?_
  intro p e s m args below meth c s₁ B hml hv
  obtain ⟨rfl, hsz, hP, hK, hD0, hX, hN, hA0, hTS⟩ := hv
  have hx := B.exec
  have hb := B.bytes
  have hr := B.returns
  have hts := atoms_spec (ws := (Cond.codeWith yL_contrast cL_contrast 3 (some .int) [(0, 8, 11, 21)] :: wsA)) B.pre
  have hown : s.vm.findClass RL = some m.cls := findClass_of_methodNamed B.named
  have hlocks := B.notSynchronized
  have htb := vx_table (x := yL_contrast) B (hts _ (.head _))
  subst hsz
  have hD := hD0.self (sz := s.heap.size)
  generalize hAe : va_A (cW ad T.1 (cc cI cJ cZ cMic cSrc cSt cAI cAJ ad T) ++ [oD ao cD f]) s.heap.size = A at hD hX hA0 ⊢
  have hA : ∀ q : Nat, s.heap.size ≤ q → A q := fun q h => by rw [← hAe]; exact Or.inr h
  have G : gL cI cJ cZ cMic cSrc cSt cAI cAJ D ad A s.heap s.heap [] T [oD ao cD f] := ⟨hP, hD, va_S.rf⟩
  have E : cE p c cL_contrast s m ([.ref (ad o), .ref ao] : List Value).toArray (Cond.codeWith yL_contrast cL_contrast 3 (some .int) [(0, 8, 11, 21)] :: wsA) D RL (CT cI cJ cZ cMic cSrc cSt cAI cAJ ++ [(cD, .double)]) := ⟨hx, hb, hts, hown, hK⟩
  have hl := lv_entry ([.ref (ad o), .ref ao]) (n := 3) (Nat.le_of_ble_eq_true rfl)
  rw [lg_entry_eq]
  generalize (lg_sl ([.ref (ad o), .ref ao]) ++ List.replicate (3 - (lg_sl ([.ref (ad o), .ref ao])).length) Slot.unset).toArray = ls at hl ⊢
  have hl : lv_has ls 3 [(0, .ref (ad o)), (1, .ref ao)] := hl
  refine lv_aload_n hx hb dL_contrast_0 rfl (lv_at hl 1 rfl) ?_
  refine lv_iconst (v := 0) hx hb dL_contrast_1 (by decide) ?_
  refine lv_aload_n hx hb dL_contrast_2 rfl (lv_at hl 0 rfl) ?_
  refine t_avf (As := []) (rest := [.int 0, .ref ao]) E G hA hX hX.2.2.2.1 hml (a_X11_contrast l hst D cI cJ cZ cMic cSrc cSt cAI cAJ ad T o  h hrc h_o) (cwV 0 hts (gaV qA_1041 qA_1042 qA_1043 qA_131 qA_833) rfl rfl rfl (by decide +kernel) ⟨Nat.le_of_ble_eq_true rfl, Nat.le_of_ble_eq_true rfl⟩) h_o (cc_o11 h_s) rfl rfl hl.1 rfl (lv_room (Nat.le_of_ble_eq_true rfl)) dL_contrast_3 ⟨by show 0 + (T1.1 - T.1) ≤ T1.1 - T.1 + 1; omega, by show 0 + (sg T1 - sg T) ≤ sg T1 - sg T + 6; omega⟩ ?_
  intro ad2 H locs had G
  refine lv_f2d hx hb dL_contrast_6 (hnan h) ?_
  refine t_dast E G dL_contrast_7 (fun H locs G => ?_)
  refine lv_goto (tgt := 14) hx hb dL_contrast_8 (by decide) ?_
  refine lv_iconst (v := 0) hx hb dL_contrast_14 (by decide) ?_
  refine W.widen (k := T1.1 - T.1 + 1) (n := sg T1 - sg T + 6) (by omega) (by omega) ?_
  exact W.iret (v := 0) hx hb hr (fun t ht hW => ⟨⟨0, ad2, rfl, ⟨rfl, had⟩, ⟨by rw [ht]; exact G.1, va_K.moved hW.alike hK, G.2.1⟩⟩, G.2.2.F ht⟩) G.2.2.2.2 dL_contrast_15
set_option maxHeartbeats 4000000 in
set_option maxRecDepth 100000 in
theorem v_contrast_t (l : Launch) (hst : l.stackTraces = false) (D : va_G) {cI cJ cZ cMic cSrc cSt cAI cAJ cD : ClassId} (h0 : Nat) (ad : Nat → Nat) (T : AT) (o : Nat) (ao : Nat) (f : Nat → UInt64) {e1 : Nat} {r1 : UInt32} {T1 : AT} (h : g_X11_contrast T o = some (e1 + 1, r1, T1)) (hrc : RC T) (h_o : o < T.1) (h_s : T.2.1 o = (11, 0)) : tWi l yL_contrast (Cond.codeWith yL_contrast cL_contrast 3 (some .int) [(0, 8, 11, 21)] :: wsA) 8 171 cI cJ cZ cMic cSrc cSt cAI cAJ cD D h0 ad T (oD ao cD f) [.ref (ad o), .ref ao] (vck 1 0 0 (e1 + 1)) T1 (oD ao cD (vfD (e1 + 1) f (FP.f2d r1))) := by
  intro sz
  refine va_MetW (cc := cL_contrast) (maxL := 3) (ret := some .int) (by decide) rfl ?_
  intro p e s m args below meth c s₁ B hml hv
  obtain ⟨rfl, hsz, hP, hK, hD0, hX, hN, hA0, hTS⟩ := hv
  have hx := B.exec
  have hb := B.bytes
  have hr := B.returns
  have hts := atoms_spec (ws := (Cond.codeWith yL_contrast cL_contrast 3 (some .int) [(0, 8, 11, 21)] :: wsA)) B.pre
  have hown : s.vm.findClass RL = some m.cls := findClass_of_methodNamed B.named
  have hlocks := B.notSynchronized
  have htb := vx_table (x := yL_contrast) B (hts _ (.head _))
  subst hsz
  have hD := hD0.self (sz := s.heap.size)
  generalize hAe : va_A (cW ad T.1 (cc cI cJ cZ cMic cSrc cSt cAI cAJ ad T) ++ [oD ao cD f]) s.heap.size = A at hD hX hA0 ⊢
  have hA : ∀ q : Nat, s.heap.size ≤ q → A q := fun q h => by rw [← hAe]; exact Or.inr h
  have G : gL cI cJ cZ cMic cSrc cSt cAI cAJ D ad A s.heap s.heap [] T [oD ao cD f] := ⟨hP, hD, va_S.rf⟩
  have E : cE p c cL_contrast s m ([.ref (ad o), .ref ao] : List Value).toArray (Cond.codeWith yL_contrast cL_contrast 3 (some .int) [(0, 8, 11, 21)] :: wsA) D RL (CT cI cJ cZ cMic cSrc cSt cAI cAJ ++ [(cD, .double)]) := ⟨hx, hb, hts, hown, hK⟩
  have hl := lv_entry ([.ref (ad o), .ref ao]) (n := 3) (Nat.le_of_ble_eq_true rfl)
  rw [lg_entry_eq]
  generalize (lg_sl ([.ref (ad o), .ref ao]) ++ List.replicate (3 - (lg_sl ([.ref (ad o), .ref ao])).length) Slot.unset).toArray = ls at hl ⊢
  have hl : lv_has ls 3 [(0, .ref (ad o)), (1, .ref ao)] := hl
  refine lv_aload_n hx hb dL_contrast_0 rfl (lv_at hl 1 rfl) ?_
  refine lv_iconst (v := 0) hx hb dL_contrast_1 (by decide) ?_
  refine lv_aload_n hx hb dL_contrast_2 rfl (lv_at hl 0 rfl) ?_
  refine t_bvf (As := []) (rest := [.int 0, .ref ao]) E G hA hX hX.2.2.2.1 hml (b_X11_contrast l hst D cI cJ cZ cMic cSrc cSt cAI cAJ ad T o  h hrc h_o) (cwV 0 hts (gaV qA_1041 qA_1042 qA_1043 qA_131 qA_833) rfl rfl rfl (by decide +kernel) ⟨Nat.le_of_ble_eq_true rfl, Nat.le_of_ble_eq_true rfl⟩) h_o (cc_o11 h_s) rfl rfl hl.1 rfl (lv_room (Nat.le_of_ble_eq_true rfl)) dL_contrast_3 ⟨by show 0 + (T1.1 - T.1 + 1) ≤ T1.1 - T.1 + 1; omega, by show 0 + (sg T1 - sg T + 6) ≤ sg T1 - sg T + 6; omega⟩ ?_
  intro E9 ce q9 ad2 H locs hE had G hce hcv hcl
  rcases e1 with _ | _ | e1
  · have hE : E9 = xISE := hE
    subst hE
    refine vx_catch (name := xISE) hown [] { startPc := 0, endPc := 8, handlerPc := 11, catchType := 21 } [] htb (fun z hz => absurd hz List.not_mem_nil) (by decide) (by decide) (hts _ (.tail _ qA_952)) (hX.use (.castable xISE xISE) (by decide +kernel)) hce hcv hcl ?_
    refine lv_astore_n (lv' := [(2, .ref q9), (0, .ref (ad o)), (1, .ref ao)]) hx hb dL_contrast_11 rfl hl (by decide) rfl (fun ls hl => ?_)
    refine lv_iconst (v := 1) hx hb dL_contrast_12 (by decide) ?_
    refine W.widen (k := T1.1 - T.1 + 1) (n := sg T1 - sg T + 6) (by omega) (by omega) ?_
    exact W.iret (v := 1) hx hb hr (fun t ht hW => ⟨⟨1, ad2, rfl, ⟨rfl, had⟩, ⟨by rw [ht]; exact G.1, va_K.moved hW.alike hK, G.2.1⟩⟩, G.2.2.F ht⟩) G.2.2.2.2 dL_contrast_13
  · exact absurd (cd_g_X11_contrast (S := [0, 1]) (fun _ h => h) T o _ _ _ h) (by decide)
  · have q := (cd_g_X11_contrast (S := [0, 1]) (fun _ h => h) T o _ _ _ h)
    simp only [List.mem_cons, List.not_mem_nil, or_false] at q
    omega
theorem v_contrast (l : Launch) (hst : l.stackTraces = false) (D : va_G) {cI cJ cZ cMic cSrc cSt cAI cAJ cD : ClassId} (h0 : Nat) (ad : Nat → Nat) (T : AT) (o : Nat) (ao : Nat) (f : Nat → UInt64) {k1 : Nat} {r1 : UInt32} {T1 : AT} (hnan : ∀ {r : UInt32} {T1 : AT}, g_X11_contrast T o = some (0, r, T1) → vf_n64 (FP.f2d r)) (h : g_X11_contrast T o = some (k1, r1, T1)) (hrc : RC T) (h_o : o < T.1) (h_s : T.2.1 o = (11, 0)) : tWi l yL_contrast (Cond.codeWith yL_contrast cL_contrast 3 (some .int) [(0, 8, 11, 21)] :: wsA) 8 171 cI cJ cZ cMic cSrc cSt cAI cAJ cD D h0 ad T (oD ao cD f) [.ref (ad o), .ref ao] (vck 1 0 0 k1) T1 (oD ao cD (vfD k1 f (FP.f2d r1))) := by
  cases k1 with
  | zero => exact v_contrast_n l hst D h0 ad T o  ao f hnan h hrc h_o h_s
  | succ e1 => exact v_contrast_t l hst D h0 ad T o  ao f h hrc h_o h_s
set_option maxHeartbeats 4000000 in
set_option maxRecDepth 100000 in
theorem v_alias_n (l : Launch) (hst : l.stackTraces = false) (D : va_G) {cI cJ cZ cMic cSrc cSt cAI cAJ cD : ClassId} (h0 : Nat) (ad : Nat → Nat) (T : AT) (o : Nat) (a0 a1 a2 : Int32) (ao : Nat) (f : Nat → Int64) {r1 : Int32} {T1 : AT} (h : g_X11_alias T o a0 a1 a2 = some (0, r1, T1)) (hrc : RC T) (h_o : o < T.1) (h_s : T.2.1 o = (11, 0)) : tWi l yL_alias (Cond.codeWith yL_alias cL_alias 6 (some .int) [(0, 12, 15, 21), (0, 12, 19, 13), (0, 12, 23, 15)] :: wsA) 9 146 cI cJ cZ cMic cSrc cSt cAI cAJ cD D h0 ad T (oJ ao cJ f) [.ref (ad o), .int a0, .int a1, .int a2, .ref ao] (vck 1 2 3 (0)) T1 (oJ ao cJ (vfJ (0) f r1.toInt64)) := by
  intro sz
  refine va_MetW (cc := cL_alias) (maxL := 6) (ret := some .int) (by decide) rfl ?_
  intro p e s m args below meth c s₁ B hml hv
  obtain ⟨rfl, hsz, hP, hK, hD0, hX, hN, hA0, hTS⟩ := hv
  have hx := B.exec
  have hb := B.bytes
  have hr := B.returns
  have hts := atoms_spec (ws := (Cond.codeWith yL_alias cL_alias 6 (some .int) [(0, 12, 15, 21), (0, 12, 19, 13), (0, 12, 23, 15)] :: wsA)) B.pre
  have hown : s.vm.findClass RL = some m.cls := findClass_of_methodNamed B.named
  have hlocks := B.notSynchronized
  have htb := vx_table (x := yL_alias) B (hts _ (.head _))
  subst hsz
  have hD := hD0.self (sz := s.heap.size)
  generalize hAe : va_A (cW ad T.1 (cc cI cJ cZ cMic cSrc cSt cAI cAJ ad T) ++ [oJ ao cJ f]) s.heap.size = A at hD hX hA0 ⊢
  have hA : ∀ q : Nat, s.heap.size ≤ q → A q := fun q h => by rw [← hAe]; exact Or.inr h
  have G : gL cI cJ cZ cMic cSrc cSt cAI cAJ D ad A s.heap s.heap [] T [oJ ao cJ f] := ⟨hP, hD, va_S.rf⟩
  have E : cE p c cL_alias s m ([.ref (ad o), .int a0, .int a1, .int a2, .ref ao] : List Value).toArray (Cond.codeWith yL_alias cL_alias 6 (some .int) [(0, 12, 15, 21), (0, 12, 19, 13), (0, 12, 23, 15)] :: wsA) D RL (CT cI cJ cZ cMic cSrc cSt cAI cAJ ++ [(cD, .double)]) := ⟨hx, hb, hts, hown, hK⟩
  have hl := lv_entry ([.ref (ad o), .int a0, .int a1, .int a2, .ref ao]) (n := 6) (Nat.le_of_ble_eq_true rfl)
  rw [lg_entry_eq]
  generalize (lg_sl ([.ref (ad o), .int a0, .int a1, .int a2, .ref ao]) ++ List.replicate (6 - (lg_sl ([.ref (ad o), .int a0, .int a1, .int a2, .ref ao])).length) Slot.unset).toArray = ls at hl ⊢
  have hl : lv_has ls 6 [(0, .ref (ad o)), (1, .int a0), (2, .int a1), (3, .int a2), (4, .ref ao)] := hl
  refine lv_aload hx hb dL_alias_0 (lv_at hl 4 rfl) ?_
  refine lv_iconst (v := 0) hx hb dL_alias_2 (by decide) ?_
  refine lv_aload_n hx hb dL_alias_3 rfl (lv_at hl 0 rfl) ?_
  refine lv_iload_n hx hb dL_alias_4 rfl (lv_at hl 1 rfl) ?_
  refine lv_iload_n hx hb dL_alias_5 rfl (lv_at hl 2 rfl) ?_
  refine lv_iload_n hx hb dL_alias_6 rfl (lv_at hl 3 rfl) ?_
  refine t_cvi (As := [.int a0, .int a1, .int a2]) (rest := [.int 0, .ref ao]) E G hA hX hX.2.2.2.1 hml (u_X11_alias l hst D cI cJ cZ cMic cSrc cSt cAI cAJ ad T o a0 a1 a2 h) (cwV 3 hts (gaV qA_1045 qA_1046 qA_1047 qA_131 qA_840) rfl rfl rfl (by decide +kernel) ⟨Nat.le_of_ble_eq_true rfl, Nat.le_of_ble_eq_true rfl⟩) h_o (cc_o11 h_s) rfl rfl hl.1 rfl (lv_room (Nat.le_of_ble_eq_true rfl)) dL_alias_7 ⟨by show 0 + (0) ≤ T1.1 - T.1 + 1; omega, by show 0 + (0) ≤ sg T1 - sg T + 6; omega⟩ ?_
  intro r9 S1 H locs hp G
  obtain ⟨hr9, hS1⟩ := hp
  rw [hS1] at G
  rw [hr9]
  have had : ∀ n, n < T.1 → ad n = ad n := fun _ _ => rfl
  refine lv_i2l (v := r1.toInt64) hx hb dL_alias_10 rfl ?_
  refine t_last E G dL_alias_11 (fun H locs G => ?_)
  refine lv_goto (tgt := 27) hx hb dL_alias_12 (by decide) ?_
  refine lv_iconst (v := 0) hx hb dL_alias_27 (by decide) ?_
  refine W.widen (k := T1.1 - T.1 + 1) (n := sg T1 - sg T + 6) (by omega) (by omega) ?_
  exact W.iret (v := 0) hx hb hr (fun t ht hW => ⟨⟨0, ad, rfl, ⟨rfl, had⟩, ⟨by rw [ht]; exact G.1, va_K.moved hW.alike hK, G.2.1⟩⟩, G.2.2.F ht⟩) G.2.2.2.2 dL_alias_28
set_option maxHeartbeats 4000000 in
set_option maxRecDepth 100000 in
theorem v_alias_t (l : Launch) (hst : l.stackTraces = false) (D : va_G) {cI cJ cZ cMic cSrc cSt cAI cAJ cD : ClassId} (h0 : Nat) (ad : Nat → Nat) (T : AT) (o : Nat) (a0 a1 a2 : Int32) (ao : Nat) (f : Nat → Int64) {e1 : Nat} {r1 : Int32} {T1 : AT} (h : g_X11_alias T o a0 a1 a2 = some (e1 + 1, r1, T1)) (hrc : RC T) (h_o : o < T.1) (h_s : T.2.1 o = (11, 0)) : tWi l yL_alias (Cond.codeWith yL_alias cL_alias 6 (some .int) [(0, 12, 15, 21), (0, 12, 19, 13), (0, 12, 23, 15)] :: wsA) 9 146 cI cJ cZ cMic cSrc cSt cAI cAJ cD D h0 ad T (oJ ao cJ f) [.ref (ad o), .int a0, .int a1, .int a2, .ref ao] (vck 1 2 3 (e1 + 1)) T1 (oJ ao cJ (vfJ (e1 + 1) f r1.toInt64)) := by
  intro sz
  refine va_MetW (cc := cL_alias) (maxL := 6) (ret := some .int) (by decide) rfl ?_
  intro p e s m args below meth c s₁ B hml hv
  obtain ⟨rfl, hsz, hP, hK, hD0, hX, hN, hA0, hTS⟩ := hv
  have hx := B.exec
  have hb := B.bytes
  have hr := B.returns
  have hts := atoms_spec (ws := (Cond.codeWith yL_alias cL_alias 6 (some .int) [(0, 12, 15, 21), (0, 12, 19, 13), (0, 12, 23, 15)] :: wsA)) B.pre
  have hown : s.vm.findClass RL = some m.cls := findClass_of_methodNamed B.named
  have hlocks := B.notSynchronized
  have htb := vx_table (x := yL_alias) B (hts _ (.head _))
  subst hsz
  have hD := hD0.self (sz := s.heap.size)
  generalize hAe : va_A (cW ad T.1 (cc cI cJ cZ cMic cSrc cSt cAI cAJ ad T) ++ [oJ ao cJ f]) s.heap.size = A at hD hX hA0 ⊢
  have hA : ∀ q : Nat, s.heap.size ≤ q → A q := fun q h => by rw [← hAe]; exact Or.inr h
  have G : gL cI cJ cZ cMic cSrc cSt cAI cAJ D ad A s.heap s.heap [] T [oJ ao cJ f] := ⟨hP, hD, va_S.rf⟩
  have E : cE p c cL_alias s m ([.ref (ad o), .int a0, .int a1, .int a2, .ref ao] : List Value).toArray (Cond.codeWith yL_alias cL_alias 6 (some .int) [(0, 12, 15, 21), (0, 12, 19, 13), (0, 12, 23, 15)] :: wsA) D RL (CT cI cJ cZ cMic cSrc cSt cAI cAJ ++ [(cD, .double)]) := ⟨hx, hb, hts, hown, hK⟩
  have hl := lv_entry ([.ref (ad o), .int a0, .int a1, .int a2, .ref ao]) (n := 6) (Nat.le_of_ble_eq_true rfl)
  rw [lg_entry_eq]
  generalize (lg_sl ([.ref (ad o), .int a0, .int a1, .int a2, .ref ao]) ++ List.replicate (6 - (lg_sl ([.ref (ad o), .int a0, .int a1, .int a2, .ref ao])).length) Slot.unset).toArray = ls at hl ⊢
  have hl : lv_has ls 6 [(0, .ref (ad o)), (1, .int a0), (2, .int a1), (3, .int a2), (4, .ref ao)] := hl
  refine lv_aload hx hb dL_alias_0 (lv_at hl 4 rfl) ?_
  refine lv_iconst (v := 0) hx hb dL_alias_2 (by decide) ?_
  refine lv_aload_n hx hb dL_alias_3 rfl (lv_at hl 0 rfl) ?_
  refine lv_iload_n hx hb dL_alias_4 rfl (lv_at hl 1 rfl) ?_
  refine lv_iload_n hx hb dL_alias_5 rfl (lv_at hl 2 rfl) ?_
  refine lv_iload_n hx hb dL_alias_6 rfl (lv_at hl 3 rfl) ?_
  refine t_xvi (As := [.int a0, .int a1, .int a2]) (rest := [.int 0, .ref ao]) E G hA hX hX.2.2.2.1 hml (x_X11_alias l hst D cI cJ cZ cMic cSrc cSt cAI cAJ ad T o a0 a1 a2 h) (cwV 3 hts (gaV qA_1045 qA_1046 qA_1047 qA_131 qA_840) rfl rfl rfl (by decide +kernel) ⟨Nat.le_of_ble_eq_true rfl, Nat.le_of_ble_eq_true rfl⟩) h_o (cc_o11 h_s) rfl rfl hl.1 rfl (lv_room (Nat.le_of_ble_eq_true rfl)) dL_alias_7 ⟨by show 0 + (1) ≤ T1.1 - T.1 + 1; omega, by show 0 + (6) ≤ sg T1 - sg T + 6; omega⟩ ?_
  intro E9 ce q9 S1 H locs hp G hce hcv hcl
  obtain ⟨hE, hS1⟩ := hp
  rw [hS1] at G
  have had : ∀ n, n < T.1 → ad n = ad n := fun _ _ => rfl
  rcases e1 with _ | _ | e1
  · have hE : E9 = xISE := hE
    subst hE
    refine vx_catch (name := xISE) hown [] { startPc := 0, endPc := 12, handlerPc := 15, catchType := 21 } [{ startPc := 0, endPc := 12, handlerPc := 19, catchType := 13 }, { startPc := 0, endPc := 12, handlerPc := 23, catchType := 15 }] htb (fun z hz => absurd hz List.not_mem_nil) (by decide) (by decide) (hts _ (.tail _ qA_952)) (hX.use (.castable xISE xISE) (by decide +kernel)) hce hcv hcl ?_
    refine lv_astore (lv' := [(5, .ref q9), (0, .ref (ad o)), (1, .int a0), (2, .int a1), (3, .int a2), (4, .ref ao)]) hx hb dL_alias_15 hl (by decide) rfl (fun ls hl => ?_)
    refine lv_iconst (v := 1) hx hb dL_alias_17 (by decide) ?_
    refine W.widen (k := T1.1 - T.1 + 1) (n := sg T1 - sg T + 6) (by omega) (by omega) ?_
    exact W.iret (v := 1) hx hb hr (fun t ht hW => ⟨⟨1, ad, rfl, ⟨rfl, had⟩, ⟨by rw [ht]; exact G.1, va_K.moved hW.alike hK, G.2.1⟩⟩, G.2.2.F ht⟩) G.2.2.2.2 dL_alias_18
  · have hE : E9 = xIOB := hE
    subst hE
    refine vx_catch (name := xIOB) hown [{ startPc := 0, endPc := 12, handlerPc := 15, catchType := 21 }] { startPc := 0, endPc := 12, handlerPc := 19, catchType := 13 } [{ startPc := 0, endPc := 12, handlerPc := 23, catchType := 15 }] htb (List.forall_mem_cons.mpr ⟨Or.inr ⟨by decide, xISE, hts _ (.tail _ qA_952), hN.2.2.1⟩, fun z hz => absurd hz List.not_mem_nil⟩) (by decide) (by decide) (hts _ (.tail _ qA_946)) (hX.use (.castable xIOB xIOB) (by decide +kernel)) hce hcv hcl ?_
    refine lv_astore (lv' := [(5, .ref q9), (0, .ref (ad o)), (1, .int a0), (2, .int a1), (3, .int a2), (4, .ref ao)]) hx hb dL_alias_19 hl (by decide) rfl (fun ls hl => ?_)
    refine lv_iconst (v := 2) hx hb dL_alias_21 (by decide) ?_
    refine W.widen (k := T1.1 - T.1 + 1) (n := sg T1 - sg T + 6) (by omega) (by omega) ?_
    exact W.iret (v := 2) hx hb hr (fun t ht hW => ⟨⟨2, ad, rfl, ⟨rfl, had⟩, ⟨by rw [ht]; exact G.1, va_K.moved hW.alike hK, G.2.1⟩⟩, G.2.2.F ht⟩) G.2.2.2.2 dL_alias_22
  · have hE : E9 = xIAE := hE
    subst hE
    refine vx_catch (name := xIAE) hown [{ startPc := 0, endPc := 12, handlerPc := 15, catchType := 21 }, { startPc := 0, endPc := 12, handlerPc := 19, catchType := 13 }] { startPc := 0, endPc := 12, handlerPc := 23, catchType := 15 } [] htb (List.forall_mem_cons.mpr ⟨Or.inr ⟨by decide, xISE, hts _ (.tail _ qA_952), hN.2.2.2⟩, List.forall_mem_cons.mpr ⟨Or.inr ⟨by decide, xIOB, hts _ (.tail _ qA_946), hN.1⟩, fun z hz => absurd hz List.not_mem_nil⟩⟩) (by decide) (by decide) (hts _ (.tail _ qA_947)) (hX.use (.castable xIAE xIAE) (by decide +kernel)) hce hcv hcl ?_
    refine lv_astore (lv' := [(5, .ref q9), (0, .ref (ad o)), (1, .int a0), (2, .int a1), (3, .int a2), (4, .ref ao)]) hx hb dL_alias_23 hl (by decide) rfl (fun ls hl => ?_)
    refine lv_iconst (v := 3) hx hb dL_alias_25 (by decide) ?_
    refine W.widen (k := T1.1 - T.1 + 1) (n := sg T1 - sg T + 6) (by omega) (by omega) ?_
    exact W.iret (v := 3) hx hb hr (fun t ht hW => ⟨⟨3, ad, rfl, ⟨rfl, had⟩, ⟨by rw [ht]; exact G.1, va_K.moved hW.alike hK, G.2.1⟩⟩, G.2.2.F ht⟩) G.2.2.2.2 dL_alias_26
theorem v_alias (l : Launch) (hst : l.stackTraces = false) (D : va_G) {cI cJ cZ cMic cSrc cSt cAI cAJ cD : ClassId} (h0 : Nat) (ad : Nat → Nat) (T : AT) (o : Nat) (a0 a1 a2 : Int32) (ao : Nat) (f : Nat → Int64) {k1 : Nat} {r1 : Int32} {T1 : AT} (h : g_X11_alias T o a0 a1 a2 = some (k1, r1, T1)) (hrc : RC T) (h_o : o < T.1) (h_s : T.2.1 o = (11, 0)) : tWi l yL_alias (Cond.codeWith yL_alias cL_alias 6 (some .int) [(0, 12, 15, 21), (0, 12, 19, 13), (0, 12, 23, 15)] :: wsA) 9 146 cI cJ cZ cMic cSrc cSt cAI cAJ cD D h0 ad T (oJ ao cJ f) [.ref (ad o), .int a0, .int a1, .int a2, .ref ao] (vck 1 2 3 k1) T1 (oJ ao cJ (vfJ k1 f r1.toInt64)) := by
  cases k1 with
  | zero => exact v_alias_n l hst D h0 ad T o a0 a1 a2 ao f h hrc h_o h_s
  | succ e1 => exact v_alias_t l hst D h0 ad T o a0 a1 a2 ao f h hrc h_o h_s
set_option maxHeartbeats 4000000 in
set_option maxRecDepth 100000 in
theorem v_isAlias_n (l : Launch) (hst : l.stackTraces = false) (D : va_G) {cI cJ cZ cMic cSrc cSt cAI cAJ cD : ClassId} (h0 : Nat) (ad : Nat → Nat) (T : AT) (o : Nat) (a0 a1 a2 : Int32) (ao : Nat) (f : Nat → Int64) {r1 : Int32} {T1 : AT} (h : g_X11_isAlias T o a0 a1 a2 = some (0, r1, T1)) (hrc : RC T) (h_o : o < T.1) (h_s : T.2.1 o = (11, 0)) : tWi l yL_isAlias (Cond.codeWith yL_isAlias cL_isAlias 6 (some .int) [(0, 19, 22, 21), (0, 19, 26, 13), (0, 19, 30, 15)] :: wsA) 9 172 cI cJ cZ cMic cSrc cSt cAI cAJ cD D h0 ad T (oJ ao cJ f) [.ref (ad o), .int a0, .int a1, .int a2, .ref ao] (vck 1 2 3 (0)) T1 (oJ ao cJ (vfJ (0) f (vzb r1))) := by
  intro sz
  refine va_MetW (cc := cL_isAlias) (maxL := 6) (ret := some .int) (by decide) rfl ?_
  intro p e s m args below meth c s₁ B hml hv
  obtain ⟨rfl, hsz, hP, hK, hD0, hX, hN, hA0, hTS⟩ := hv
  have hx := B.exec
  have hb := B.bytes
  have hr := B.returns
  have hts := atoms_spec (ws := (Cond.codeWith yL_isAlias cL_isAlias 6 (some .int) [(0, 19, 22, 21), (0, 19, 26, 13), (0, 19, 30, 15)] :: wsA)) B.pre
  have hown : s.vm.findClass RL = some m.cls := findClass_of_methodNamed B.named
  have hlocks := B.notSynchronized
  have htb := vx_table (x := yL_isAlias) B (hts _ (.head _))
  subst hsz
  have hD := hD0.self (sz := s.heap.size)
  generalize hAe : va_A (cW ad T.1 (cc cI cJ cZ cMic cSrc cSt cAI cAJ ad T) ++ [oJ ao cJ f]) s.heap.size = A at hD hX hA0 ⊢
  have hA : ∀ q : Nat, s.heap.size ≤ q → A q := fun q h => by rw [← hAe]; exact Or.inr h
  have G : gL cI cJ cZ cMic cSrc cSt cAI cAJ D ad A s.heap s.heap [] T [oJ ao cJ f] := ⟨hP, hD, va_S.rf⟩
  have E : cE p c cL_isAlias s m ([.ref (ad o), .int a0, .int a1, .int a2, .ref ao] : List Value).toArray (Cond.codeWith yL_isAlias cL_isAlias 6 (some .int) [(0, 19, 22, 21), (0, 19, 26, 13), (0, 19, 30, 15)] :: wsA) D RL (CT cI cJ cZ cMic cSrc cSt cAI cAJ ++ [(cD, .double)]) := ⟨hx, hb, hts, hown, hK⟩
  have hl := lv_entry ([.ref (ad o), .int a0, .int a1, .int a2, .ref ao]) (n := 6) (Nat.le_of_ble_eq_true rfl)
  rw [lg_entry_eq]
  generalize (lg_sl ([.ref (ad o), .int a0, .int a1, .int a2, .ref ao]) ++ List.replicate (6 - (lg_sl ([.ref (ad o), .int a0, .int a1, .int a2, .ref ao])).length) Slot.unset).toArray = ls at hl ⊢
  have hl : lv_has ls 6 [(0, .ref (ad o)), (1, .int a0), (2, .int a1), (3, .int a2), (4, .ref ao)] := hl
  refine lv_aload hx hb dL_isAlias_0 (lv_at hl 4 rfl) ?_
  refine lv_iconst (v := 0) hx hb dL_isAlias_2 (by decide) ?_
  refine lv_aload_n hx hb dL_isAlias_3 rfl (lv_at hl 0 rfl) ?_
  refine lv_iload_n hx hb dL_isAlias_4 rfl (lv_at hl 1 rfl) ?_
  refine lv_iload_n hx hb dL_isAlias_5 rfl (lv_at hl 2 rfl) ?_
  refine lv_iload_n hx hb dL_isAlias_6 rfl (lv_at hl 3 rfl) ?_
  refine t_avi (As := [.int a0, .int a1, .int a2]) (rest := [.int 0, .ref ao]) E G hA hX hX.2.2.2.1 hml (a_X11_isAlias l hst D cI cJ cZ cMic cSrc cSt cAI cAJ ad T o a0 a1 a2 h hrc h_o) (cwV 3 hts (gaV qA_1049 qA_1050 qA_1051 qA_131 qA_847) rfl rfl rfl (by decide +kernel) ⟨Nat.le_of_ble_eq_true rfl, Nat.le_of_ble_eq_true rfl⟩) h_o (cc_o11 h_s) rfl rfl hl.1 rfl (lv_room (Nat.le_of_ble_eq_true rfl)) dL_isAlias_7 ⟨by show 0 + (T1.1 - T.1) ≤ T1.1 - T.1 + 1; omega, by show 0 + (sg T1 - sg T) ≤ sg T1 - sg T + 6; omega⟩ ?_
  intro ad2 H locs had G
  refine lv_if_eq (tgt := 17) hx hb dL_isAlias_10 (by decide) (fun c1 => ?_) (fun c1 => ?_)
  · refine lv_lconst (v := vzb r1) hx hb dL_isAlias_17 (by rw [vzb, if_pos c1]; rfl) ?_
    refine t_last E G dL_isAlias_18 (fun H locs G => ?_)
    refine lv_goto (tgt := 34) hx hb dL_isAlias_19 (by decide) ?_
    refine lv_iconst (v := 0) hx hb dL_isAlias_34 (by decide) ?_
    refine W.widen (k := T1.1 - T.1 + 1) (n := sg T1 - sg T + 6) (by omega) (by omega) ?_
    exact W.iret (v := 0) hx hb hr (fun t ht hW => ⟨⟨0, ad2, rfl, ⟨rfl, had⟩, ⟨by rw [ht]; exact G.1, va_K.moved hW.alike hK, G.2.1⟩⟩, G.2.2.F ht⟩) G.2.2.2.2 dL_isAlias_35
  · refine lv_lconst (v := vzb r1) hx hb dL_isAlias_13 (by rw [vzb, if_neg c1]; rfl) ?_
    refine lv_goto (tgt := 18) hx hb dL_isAlias_14 (by decide) ?_
    refine t_last E G dL_isAlias_18 (fun H locs G => ?_)
    refine lv_goto (tgt := 34) hx hb dL_isAlias_19 (by decide) ?_
    refine lv_iconst (v := 0) hx hb dL_isAlias_34 (by decide) ?_
    refine W.widen (k := T1.1 - T.1 + 1) (n := sg T1 - sg T + 6) (by omega) (by omega) ?_
    exact W.iret (v := 0) hx hb hr (fun t ht hW => ⟨⟨0, ad2, rfl, ⟨rfl, had⟩, ⟨by rw [ht]; exact G.1, va_K.moved hW.alike hK, G.2.1⟩⟩, G.2.2.F ht⟩) G.2.2.2.2 dL_isAlias_35
set_option maxHeartbeats 4000000 in
set_option maxRecDepth 100000 in
theorem v_isAlias_t (l : Launch) (hst : l.stackTraces = false) (D : va_G) {cI cJ cZ cMic cSrc cSt cAI cAJ cD : ClassId} (h0 : Nat) (ad : Nat → Nat) (T : AT) (o : Nat) (a0 a1 a2 : Int32) (ao : Nat) (f : Nat → Int64) {e1 : Nat} {r1 : Int32} {T1 : AT} (h : g_X11_isAlias T o a0 a1 a2 = some (e1 + 1, r1, T1)) (hrc : RC T) (h_o : o < T.1) (h_s : T.2.1 o = (11, 0)) : tWi l yL_isAlias (Cond.codeWith yL_isAlias cL_isAlias 6 (some .int) [(0, 19, 22, 21), (0, 19, 26, 13), (0, 19, 30, 15)] :: wsA) 9 172 cI cJ cZ cMic cSrc cSt cAI cAJ cD D h0 ad T (oJ ao cJ f) [.ref (ad o), .int a0, .int a1, .int a2, .ref ao] (vck 1 2 3 (e1 + 1)) T1 (oJ ao cJ (vfJ (e1 + 1) f (vzb r1))) := by
  intro sz
  refine va_MetW (cc := cL_isAlias) (maxL := 6) (ret := some .int) (by decide) rfl ?_
  intro p e s m args below meth c s₁ B hml hv
  obtain ⟨rfl, hsz, hP, hK, hD0, hX, hN, hA0, hTS⟩ := hv
  have hx := B.exec
  have hb := B.bytes
  have hr := B.returns
  have hts := atoms_spec (ws := (Cond.codeWith yL_isAlias cL_isAlias 6 (some .int) [(0, 19, 22, 21), (0, 19, 26, 13), (0, 19, 30, 15)] :: wsA)) B.pre
  have hown : s.vm.findClass RL = some m.cls := findClass_of_methodNamed B.named
  have hlocks := B.notSynchronized
  have htb := vx_table (x := yL_isAlias) B (hts _ (.head _))
  subst hsz
  have hD := hD0.self (sz := s.heap.size)
  generalize hAe : va_A (cW ad T.1 (cc cI cJ cZ cMic cSrc cSt cAI cAJ ad T) ++ [oJ ao cJ f]) s.heap.size = A at hD hX hA0 ⊢
  have hA : ∀ q : Nat, s.heap.size ≤ q → A q := fun q h => by rw [← hAe]; exact Or.inr h
  have G : gL cI cJ cZ cMic cSrc cSt cAI cAJ D ad A s.heap s.heap [] T [oJ ao cJ f] := ⟨hP, hD, va_S.rf⟩
  have E : cE p c cL_isAlias s m ([.ref (ad o), .int a0, .int a1, .int a2, .ref ao] : List Value).toArray (Cond.codeWith yL_isAlias cL_isAlias 6 (some .int) [(0, 19, 22, 21), (0, 19, 26, 13), (0, 19, 30, 15)] :: wsA) D RL (CT cI cJ cZ cMic cSrc cSt cAI cAJ ++ [(cD, .double)]) := ⟨hx, hb, hts, hown, hK⟩
  have hl := lv_entry ([.ref (ad o), .int a0, .int a1, .int a2, .ref ao]) (n := 6) (Nat.le_of_ble_eq_true rfl)
  rw [lg_entry_eq]
  generalize (lg_sl ([.ref (ad o), .int a0, .int a1, .int a2, .ref ao]) ++ List.replicate (6 - (lg_sl ([.ref (ad o), .int a0, .int a1, .int a2, .ref ao])).length) Slot.unset).toArray = ls at hl ⊢
  have hl : lv_has ls 6 [(0, .ref (ad o)), (1, .int a0), (2, .int a1), (3, .int a2), (4, .ref ao)] := hl
  refine lv_aload hx hb dL_isAlias_0 (lv_at hl 4 rfl) ?_
  refine lv_iconst (v := 0) hx hb dL_isAlias_2 (by decide) ?_
  refine lv_aload_n hx hb dL_isAlias_3 rfl (lv_at hl 0 rfl) ?_
  refine lv_iload_n hx hb dL_isAlias_4 rfl (lv_at hl 1 rfl) ?_
  refine lv_iload_n hx hb dL_isAlias_5 rfl (lv_at hl 2 rfl) ?_
  refine lv_iload_n hx hb dL_isAlias_6 rfl (lv_at hl 3 rfl) ?_
  refine t_bvi (As := [.int a0, .int a1, .int a2]) (rest := [.int 0, .ref ao]) E G hA hX hX.2.2.2.1 hml (b_X11_isAlias l hst D cI cJ cZ cMic cSrc cSt cAI cAJ ad T o a0 a1 a2 h hrc h_o) (cwV 3 hts (gaV qA_1049 qA_1050 qA_1051 qA_131 qA_847) rfl rfl rfl (by decide +kernel) ⟨Nat.le_of_ble_eq_true rfl, Nat.le_of_ble_eq_true rfl⟩) h_o (cc_o11 h_s) rfl rfl hl.1 rfl (lv_room (Nat.le_of_ble_eq_true rfl)) dL_isAlias_7 ⟨by show 0 + (T1.1 - T.1 + 1) ≤ T1.1 - T.1 + 1; omega, by show 0 + (sg T1 - sg T + 6) ≤ sg T1 - sg T + 6; omega⟩ ?_
  intro E9 ce q9 ad2 H locs hE had G hce hcv hcl
  rcases e1 with _ | _ | e1
  · have hE : E9 = xISE := hE
    subst hE
    refine vx_catch (name := xISE) hown [] { startPc := 0, endPc := 19, handlerPc := 22, catchType := 21 } [{ startPc := 0, endPc := 19, handlerPc := 26, catchType := 13 }, { startPc := 0, endPc := 19, handlerPc := 30, catchType := 15 }] htb (fun z hz => absurd hz List.not_mem_nil) (by decide) (by decide) (hts _ (.tail _ qA_952)) (hX.use (.castable xISE xISE) (by decide +kernel)) hce hcv hcl ?_
    refine lv_astore (lv' := [(5, .ref q9), (0, .ref (ad o)), (1, .int a0), (2, .int a1), (3, .int a2), (4, .ref ao)]) hx hb dL_isAlias_22 hl (by decide) rfl (fun ls hl => ?_)
    refine lv_iconst (v := 1) hx hb dL_isAlias_24 (by decide) ?_
    refine W.widen (k := T1.1 - T.1 + 1) (n := sg T1 - sg T + 6) (by omega) (by omega) ?_
    exact W.iret (v := 1) hx hb hr (fun t ht hW => ⟨⟨1, ad2, rfl, ⟨rfl, had⟩, ⟨by rw [ht]; exact G.1, va_K.moved hW.alike hK, G.2.1⟩⟩, G.2.2.F ht⟩) G.2.2.2.2 dL_isAlias_25
  · have hE : E9 = xIOB := hE
    subst hE
    refine vx_catch (name := xIOB) hown [{ startPc := 0, endPc := 19, handlerPc := 22, catchType := 21 }] { startPc := 0, endPc := 19, handlerPc := 26, catchType := 13 } [{ startPc := 0, endPc := 19, handlerPc := 30, catchType := 15 }] htb (List.forall_mem_cons.mpr ⟨Or.inr ⟨by decide, xISE, hts _ (.tail _ qA_952), hN.2.2.1⟩, fun z hz => absurd hz List.not_mem_nil⟩) (by decide) (by decide) (hts _ (.tail _ qA_946)) (hX.use (.castable xIOB xIOB) (by decide +kernel)) hce hcv hcl ?_
    refine lv_astore (lv' := [(5, .ref q9), (0, .ref (ad o)), (1, .int a0), (2, .int a1), (3, .int a2), (4, .ref ao)]) hx hb dL_isAlias_26 hl (by decide) rfl (fun ls hl => ?_)
    refine lv_iconst (v := 2) hx hb dL_isAlias_28 (by decide) ?_
    refine W.widen (k := T1.1 - T.1 + 1) (n := sg T1 - sg T + 6) (by omega) (by omega) ?_
    exact W.iret (v := 2) hx hb hr (fun t ht hW => ⟨⟨2, ad2, rfl, ⟨rfl, had⟩, ⟨by rw [ht]; exact G.1, va_K.moved hW.alike hK, G.2.1⟩⟩, G.2.2.F ht⟩) G.2.2.2.2 dL_isAlias_29
  · have hE : E9 = xIAE := hE
    subst hE
    refine vx_catch (name := xIAE) hown [{ startPc := 0, endPc := 19, handlerPc := 22, catchType := 21 }, { startPc := 0, endPc := 19, handlerPc := 26, catchType := 13 }] { startPc := 0, endPc := 19, handlerPc := 30, catchType := 15 } [] htb (List.forall_mem_cons.mpr ⟨Or.inr ⟨by decide, xISE, hts _ (.tail _ qA_952), hN.2.2.2⟩, List.forall_mem_cons.mpr ⟨Or.inr ⟨by decide, xIOB, hts _ (.tail _ qA_946), hN.1⟩, fun z hz => absurd hz List.not_mem_nil⟩⟩) (by decide) (by decide) (hts _ (.tail _ qA_947)) (hX.use (.castable xIAE xIAE) (by decide +kernel)) hce hcv hcl ?_
    refine lv_astore (lv' := [(5, .ref q9), (0, .ref (ad o)), (1, .int a0), (2, .int a1), (3, .int a2), (4, .ref ao)]) hx hb dL_isAlias_30 hl (by decide) rfl (fun ls hl => ?_)
    refine lv_iconst (v := 3) hx hb dL_isAlias_32 (by decide) ?_
    refine W.widen (k := T1.1 - T.1 + 1) (n := sg T1 - sg T + 6) (by omega) (by omega) ?_
    exact W.iret (v := 3) hx hb hr (fun t ht hW => ⟨⟨3, ad2, rfl, ⟨rfl, had⟩, ⟨by rw [ht]; exact G.1, va_K.moved hW.alike hK, G.2.1⟩⟩, G.2.2.F ht⟩) G.2.2.2.2 dL_isAlias_33
theorem v_isAlias (l : Launch) (hst : l.stackTraces = false) (D : va_G) {cI cJ cZ cMic cSrc cSt cAI cAJ cD : ClassId} (h0 : Nat) (ad : Nat → Nat) (T : AT) (o : Nat) (a0 a1 a2 : Int32) (ao : Nat) (f : Nat → Int64) {k1 : Nat} {r1 : Int32} {T1 : AT} (h : g_X11_isAlias T o a0 a1 a2 = some (k1, r1, T1)) (hrc : RC T) (h_o : o < T.1) (h_s : T.2.1 o = (11, 0)) : tWi l yL_isAlias (Cond.codeWith yL_isAlias cL_isAlias 6 (some .int) [(0, 19, 22, 21), (0, 19, 26, 13), (0, 19, 30, 15)] :: wsA) 9 172 cI cJ cZ cMic cSrc cSt cAI cAJ cD D h0 ad T (oJ ao cJ f) [.ref (ad o), .int a0, .int a1, .int a2, .ref ao] (vck 1 2 3 k1) T1 (oJ ao cJ (vfJ k1 f (vzb r1))) := by
  cases k1 with
  | zero => exact v_isAlias_n l hst D h0 ad T o a0 a1 a2 ao f h hrc h_o h_s
  | succ e1 => exact v_isAlias_t l hst D h0 ad T o a0 a1 a2 ao f h hrc h_o h_s
set_option maxHeartbeats 4000000 in
set_option maxRecDepth 100000 in
theorem v_aliases_n (l : Launch) (hst : l.stackTraces = false) (D : va_G) {cI cJ cZ cMic cSrc cSt cAI cAJ cD : ClassId} (h0 : Nat) (ad : Nat → Nat) (T : AT) (o : Nat) (a0 a1 : Int32) (ao : Nat) (f : Nat → Int64) {r1 : Int32} {T1 : AT} (h : g_X11_aliases T o a0 a1 = some (0, r1, T1)) (hrc : RC T) (h_o : o < T.1) (h_s : T.2.1 o = (11, 0)) : tWi l yL_aliases (Cond.codeWith yL_aliases cL_aliases 5 (some .int) [(0, 10, 13, 21), (0, 10, 17, 15)] :: wsA) 8 174 cI cJ cZ cMic cSrc cSt cAI cAJ cD D h0 ad T (oJ ao cJ f) [.ref (ad o), .int a0, .int a1, .ref ao] (vck 1 0 2 (0)) T1 (oJ ao cJ (vfJ (0) f r1.toInt64)) := by
  intro sz
  refine va_MetW (cc := cL_aliases) (maxL := 5) (ret := some .int) (by decide) rfl ?_
  intro p e s m args below meth c s₁ B hml hv
  obtain ⟨rfl, hsz, hP, hK, hD0, hX, hN, hA0, hTS⟩ := hv
  have hx := B.exec
  have hb := B.bytes
  have hr := B.returns
  have hts := atoms_spec (ws := (Cond.codeWith yL_aliases cL_aliases 5 (some .int) [(0, 10, 13, 21), (0, 10, 17, 15)] :: wsA)) B.pre
  have hown : s.vm.findClass RL = some m.cls := findClass_of_methodNamed B.named
  have hlocks := B.notSynchronized
  have htb := vx_table (x := yL_aliases) B (hts _ (.head _))
  subst hsz
  have hD := hD0.self (sz := s.heap.size)
  generalize hAe : va_A (cW ad T.1 (cc cI cJ cZ cMic cSrc cSt cAI cAJ ad T) ++ [oJ ao cJ f]) s.heap.size = A at hD hX hA0 ⊢
  have hA : ∀ q : Nat, s.heap.size ≤ q → A q := fun q h => by rw [← hAe]; exact Or.inr h
  have G : gL cI cJ cZ cMic cSrc cSt cAI cAJ D ad A s.heap s.heap [] T [oJ ao cJ f] := ⟨hP, hD, va_S.rf⟩
  have E : cE p c cL_aliases s m ([.ref (ad o), .int a0, .int a1, .ref ao] : List Value).toArray (Cond.codeWith yL_aliases cL_aliases 5 (some .int) [(0, 10, 13, 21), (0, 10, 17, 15)] :: wsA) D RL (CT cI cJ cZ cMic cSrc cSt cAI cAJ ++ [(cD, .double)]) := ⟨hx, hb, hts, hown, hK⟩
  have hl := lv_entry ([.ref (ad o), .int a0, .int a1, .ref ao]) (n := 5) (Nat.le_of_ble_eq_true rfl)
  rw [lg_entry_eq]
  generalize (lg_sl ([.ref (ad o), .int a0, .int a1, .ref ao]) ++ List.replicate (5 - (lg_sl ([.ref (ad o), .int a0, .int a1, .ref ao])).length) Slot.unset).toArray = ls at hl ⊢
  have hl : lv_has ls 5 [(0, .ref (ad o)), (1, .int a0), (2, .int a1), (3, .ref ao)] := hl
  refine lv_aload_n hx hb dL_aliases_0 rfl (lv_at hl 3 rfl) ?_
  refine lv_iconst (v := 0) hx hb dL_aliases_1 (by decide) ?_
  refine lv_aload_n hx hb dL_aliases_2 rfl (lv_at hl 0 rfl) ?_
  refine lv_iload_n hx hb dL_aliases_3 rfl (lv_at hl 1 rfl) ?_
  refine lv_iload_n hx hb dL_aliases_4 rfl (lv_at hl 2 rfl) ?_
  refine t_avi (As := [.int a0, .int a1]) (rest := [.int 0, .ref ao]) E G hA hX hX.2.2.2.1 hml (a_X11_aliases l hst D cI cJ cZ cMic cSrc cSt cAI cAJ ad T o a0 a1 h hrc h_o) (cwV 2 hts (gaV qA_1053 qA_1054 qA_1055 qA_131 qA_855) rfl rfl rfl (by decide +kernel) ⟨Nat.le_of_ble_eq_true rfl, Nat.le_of_ble_eq_true rfl⟩) h_o (cc_o11 h_s) rfl rfl hl.1 rfl (lv_room (Nat.le_of_ble_eq_true rfl)) dL_aliases_5 ⟨by show 0 + (T1.1 - T.1) ≤ T1.1 - T.1 + 1; omega, by show 0 + (sg T1 - sg T) ≤ sg T1 - sg T + 6; omega⟩ ?_
  intro ad2 H locs had G
  refine lv_i2l (v := r1.toInt64) hx hb dL_aliases_8 rfl ?_
  refine t_last E G dL_aliases_9 (fun H locs G => ?_)
  refine lv_goto (tgt := 21) hx hb dL_aliases_10 (by decide) ?_
  refine lv_iconst (v := 0) hx hb dL_aliases_21 (by decide) ?_
  refine W.widen (k := T1.1 - T.1 + 1) (n := sg T1 - sg T + 6) (by omega) (by omega) ?_
  exact W.iret (v := 0) hx hb hr (fun t ht hW => ⟨⟨0, ad2, rfl, ⟨rfl, had⟩, ⟨by rw [ht]; exact G.1, va_K.moved hW.alike hK, G.2.1⟩⟩, G.2.2.F ht⟩) G.2.2.2.2 dL_aliases_22
set_option maxHeartbeats 4000000 in
set_option maxRecDepth 100000 in
theorem v_aliases_t (l : Launch) (hst : l.stackTraces = false) (D : va_G) {cI cJ cZ cMic cSrc cSt cAI cAJ cD : ClassId} (h0 : Nat) (ad : Nat → Nat) (T : AT) (o : Nat) (a0 a1 : Int32) (ao : Nat) (f : Nat → Int64) {e1 : Nat} {r1 : Int32} {T1 : AT} (h : g_X11_aliases T o a0 a1 = some (e1 + 1, r1, T1)) (hrc : RC T) (h_o : o < T.1) (h_s : T.2.1 o = (11, 0)) : tWi l yL_aliases (Cond.codeWith yL_aliases cL_aliases 5 (some .int) [(0, 10, 13, 21), (0, 10, 17, 15)] :: wsA) 8 174 cI cJ cZ cMic cSrc cSt cAI cAJ cD D h0 ad T (oJ ao cJ f) [.ref (ad o), .int a0, .int a1, .ref ao] (vck 1 0 2 (e1 + 1)) T1 (oJ ao cJ (vfJ (e1 + 1) f r1.toInt64)) := by
  intro sz
  refine va_MetW (cc := cL_aliases) (maxL := 5) (ret := some .int) (by decide) rfl ?_
  intro p e s m args below meth c s₁ B hml hv
  obtain ⟨rfl, hsz, hP, hK, hD0, hX, hN, hA0, hTS⟩ := hv
  have hx := B.exec
  have hb := B.bytes
  have hr := B.returns
  have hts := atoms_spec (ws := (Cond.codeWith yL_aliases cL_aliases 5 (some .int) [(0, 10, 13, 21), (0, 10, 17, 15)] :: wsA)) B.pre
  have hown : s.vm.findClass RL = some m.cls := findClass_of_methodNamed B.named
  have hlocks := B.notSynchronized
  have htb := vx_table (x := yL_aliases) B (hts _ (.head _))
  subst hsz
  have hD := hD0.self (sz := s.heap.size)
  generalize hAe : va_A (cW ad T.1 (cc cI cJ cZ cMic cSrc cSt cAI cAJ ad T) ++ [oJ ao cJ f]) s.heap.size = A at hD hX hA0 ⊢
  have hA : ∀ q : Nat, s.heap.size ≤ q → A q := fun q h => by rw [← hAe]; exact Or.inr h
  have G : gL cI cJ cZ cMic cSrc cSt cAI cAJ D ad A s.heap s.heap [] T [oJ ao cJ f] := ⟨hP, hD, va_S.rf⟩
  have E : cE p c cL_aliases s m ([.ref (ad o), .int a0, .int a1, .ref ao] : List Value).toArray (Cond.codeWith yL_aliases cL_aliases 5 (some .int) [(0, 10, 13, 21), (0, 10, 17, 15)] :: wsA) D RL (CT cI cJ cZ cMic cSrc cSt cAI cAJ ++ [(cD, .double)]) := ⟨hx, hb, hts, hown, hK⟩
  have hl := lv_entry ([.ref (ad o), .int a0, .int a1, .ref ao]) (n := 5) (Nat.le_of_ble_eq_true rfl)
  rw [lg_entry_eq]
  generalize (lg_sl ([.ref (ad o), .int a0, .int a1, .ref ao]) ++ List.replicate (5 - (lg_sl ([.ref (ad o), .int a0, .int a1, .ref ao])).length) Slot.unset).toArray = ls at hl ⊢
  have hl : lv_has ls 5 [(0, .ref (ad o)), (1, .int a0), (2, .int a1), (3, .ref ao)] := hl
  refine lv_aload_n hx hb dL_aliases_0 rfl (lv_at hl 3 rfl) ?_
  refine lv_iconst (v := 0) hx hb dL_aliases_1 (by decide) ?_
  refine lv_aload_n hx hb dL_aliases_2 rfl (lv_at hl 0 rfl) ?_
  refine lv_iload_n hx hb dL_aliases_3 rfl (lv_at hl 1 rfl) ?_
  refine lv_iload_n hx hb dL_aliases_4 rfl (lv_at hl 2 rfl) ?_
  refine t_bvi (As := [.int a0, .int a1]) (rest := [.int 0, .ref ao]) E G hA hX hX.2.2.2.1 hml (b_X11_aliases l hst D cI cJ cZ cMic cSrc cSt cAI cAJ ad T o a0 a1 h hrc h_o) (cwV 2 hts (gaV qA_1053 qA_1054 qA_1055 qA_131 qA_855) rfl rfl rfl (by decide +kernel) ⟨Nat.le_of_ble_eq_true rfl, Nat.le_of_ble_eq_true rfl⟩) h_o (cc_o11 h_s) rfl rfl hl.1 rfl (lv_room (Nat.le_of_ble_eq_true rfl)) dL_aliases_5 ⟨by show 0 + (T1.1 - T.1 + 1) ≤ T1.1 - T.1 + 1; omega, by show 0 + (sg T1 - sg T + 6) ≤ sg T1 - sg T + 6; omega⟩ ?_
  intro E9 ce q9 ad2 H locs hE had G hce hcv hcl
  rcases e1 with _ | _ | e1
  · have hE : E9 = xISE := hE
    subst hE
    refine vx_catch (name := xISE) hown [] { startPc := 0, endPc := 10, handlerPc := 13, catchType := 21 } [{ startPc := 0, endPc := 10, handlerPc := 17, catchType := 15 }] htb (fun z hz => absurd hz List.not_mem_nil) (by decide) (by decide) (hts _ (.tail _ qA_952)) (hX.use (.castable xISE xISE) (by decide +kernel)) hce hcv hcl ?_
    refine lv_astore (lv' := [(4, .ref q9), (0, .ref (ad o)), (1, .int a0), (2, .int a1), (3, .ref ao)]) hx hb dL_aliases_13 hl (by decide) rfl (fun ls hl => ?_)
    refine lv_iconst (v := 1) hx hb dL_aliases_15 (by decide) ?_
    refine W.widen (k := T1.1 - T.1 + 1) (n := sg T1 - sg T + 6) (by omega) (by omega) ?_
    exact W.iret (v := 1) hx hb hr (fun t ht hW => ⟨⟨1, ad2, rfl, ⟨rfl, had⟩, ⟨by rw [ht]; exact G.1, va_K.moved hW.alike hK, G.2.1⟩⟩, G.2.2.F ht⟩) G.2.2.2.2 dL_aliases_16
  · exact absurd (cd_g_X11_aliases (S := [0, 1, 3]) (fun _ h => h) T o a0 a1 _ _ _ h) (by decide)
  · have hE : E9 = xIAE := hE
    subst hE
    refine vx_catch (name := xIAE) hown [{ startPc := 0, endPc := 10, handlerPc := 13, catchType := 21 }] { startPc := 0, endPc := 10, handlerPc := 17, catchType := 15 } [] htb (List.forall_mem_cons.mpr ⟨Or.inr ⟨by decide, xISE, hts _ (.tail _ qA_952), hN.2.2.2⟩, fun z hz => absurd hz List.not_mem_nil⟩) (by decide) (by decide) (hts _ (.tail _ qA_947)) (hX.use (.castable xIAE xIAE) (by decide +kernel)) hce hcv hcl ?_
    refine lv_astore (lv' := [(4, .ref q9), (0, .ref (ad o)), (1, .int a0), (2, .int a1), (3, .ref ao)]) hx hb dL_aliases_17 hl (by decide) rfl (fun ls hl => ?_)
    refine lv_iconst (v := 2) hx hb dL_aliases_19 (by decide) ?_
    refine W.widen (k := T1.1 - T.1 + 1) (n := sg T1 - sg T + 6) (by omega) (by omega) ?_
    exact W.iret (v := 2) hx hb hr (fun t ht hW => ⟨⟨2, ad2, rfl, ⟨rfl, had⟩, ⟨by rw [ht]; exact G.1, va_K.moved hW.alike hK, G.2.1⟩⟩, G.2.2.F ht⟩) G.2.2.2.2 dL_aliases_20
theorem v_aliases (l : Launch) (hst : l.stackTraces = false) (D : va_G) {cI cJ cZ cMic cSrc cSt cAI cAJ cD : ClassId} (h0 : Nat) (ad : Nat → Nat) (T : AT) (o : Nat) (a0 a1 : Int32) (ao : Nat) (f : Nat → Int64) {k1 : Nat} {r1 : Int32} {T1 : AT} (h : g_X11_aliases T o a0 a1 = some (k1, r1, T1)) (hrc : RC T) (h_o : o < T.1) (h_s : T.2.1 o = (11, 0)) : tWi l yL_aliases (Cond.codeWith yL_aliases cL_aliases 5 (some .int) [(0, 10, 13, 21), (0, 10, 17, 15)] :: wsA) 8 174 cI cJ cZ cMic cSrc cSt cAI cAJ cD D h0 ad T (oJ ao cJ f) [.ref (ad o), .int a0, .int a1, .ref ao] (vck 1 0 2 k1) T1 (oJ ao cJ (vfJ k1 f r1.toInt64)) := by
  cases k1 with
  | zero => exact v_aliases_n l hst D h0 ad T o a0 a1 ao f h hrc h_o h_s
  | succ e1 => exact v_aliases_t l hst D h0 ad T o a0 a1 ao f h hrc h_o h_s
set_option maxHeartbeats 4000000 in
set_option maxRecDepth 100000 in
theorem v_blockPower_n (l : Launch) (hst : l.stackTraces = false) (D : va_G) {cI cJ cZ cMic cSrc cSt cAI cAJ cD : ClassId} (h0 : Nat) (ad : Nat → Nat) (T : AT) (o : Nat) (a0 a1 a2 : Int32) (ao : Nat) (f : Nat → Int64) {r1 : Int64} {T1 : AT} (h : g_X11_blockPower T o a0 a1 a2 = some (0, r1, T1)) (hrc : RC T) (h_o : o < T.1) (h_s : T.2.1 o = (11, 0)) : tWi l yL_blockPower (Cond.codeWith yL_blockPower cL_blockPower 6 (some .int) [(0, 11, 14, 21), (0, 11, 18, 13), (0, 11, 22, 15)] :: wsA) 9 146 cI cJ cZ cMic cSrc cSt cAI cAJ cD D h0 ad T (oJ ao cJ f) [.ref (ad o), .int a0, .int a1, .int a2, .ref ao] (vck 1 2 3 (0)) T1 (oJ ao cJ (vfJ (0) f r1)) := by
  intro sz
  refine va_MetW (cc := cL_blockPower) (maxL := 6) (ret := some .int) (by decide) rfl ?_
  intro p e s m args below meth c s₁ B hml hv
  obtain ⟨rfl, hsz, hP, hK, hD0, hX, hN, hA0, hTS⟩ := hv
  have hx := B.exec
  have hb := B.bytes
  have hr := B.returns
  have hts := atoms_spec (ws := (Cond.codeWith yL_blockPower cL_blockPower 6 (some .int) [(0, 11, 14, 21), (0, 11, 18, 13), (0, 11, 22, 15)] :: wsA)) B.pre
  have hown : s.vm.findClass RL = some m.cls := findClass_of_methodNamed B.named
  have hlocks := B.notSynchronized
  have htb := vx_table (x := yL_blockPower) B (hts _ (.head _))
  subst hsz
  have hD := hD0.self (sz := s.heap.size)
  generalize hAe : va_A (cW ad T.1 (cc cI cJ cZ cMic cSrc cSt cAI cAJ ad T) ++ [oJ ao cJ f]) s.heap.size = A at hD hX hA0 ⊢
  have hA : ∀ q : Nat, s.heap.size ≤ q → A q := fun q h => by rw [← hAe]; exact Or.inr h
  have G : gL cI cJ cZ cMic cSrc cSt cAI cAJ D ad A s.heap s.heap [] T [oJ ao cJ f] := ⟨hP, hD, va_S.rf⟩
  have E : cE p c cL_blockPower s m ([.ref (ad o), .int a0, .int a1, .int a2, .ref ao] : List Value).toArray (Cond.codeWith yL_blockPower cL_blockPower 6 (some .int) [(0, 11, 14, 21), (0, 11, 18, 13), (0, 11, 22, 15)] :: wsA) D RL (CT cI cJ cZ cMic cSrc cSt cAI cAJ ++ [(cD, .double)]) := ⟨hx, hb, hts, hown, hK⟩
  have hl := lv_entry ([.ref (ad o), .int a0, .int a1, .int a2, .ref ao]) (n := 6) (Nat.le_of_ble_eq_true rfl)
  rw [lg_entry_eq]
  generalize (lg_sl ([.ref (ad o), .int a0, .int a1, .int a2, .ref ao]) ++ List.replicate (6 - (lg_sl ([.ref (ad o), .int a0, .int a1, .int a2, .ref ao])).length) Slot.unset).toArray = ls at hl ⊢
  have hl : lv_has ls 6 [(0, .ref (ad o)), (1, .int a0), (2, .int a1), (3, .int a2), (4, .ref ao)] := hl
  refine lv_aload hx hb dL_blockPower_0 (lv_at hl 4 rfl) ?_
  refine lv_iconst (v := 0) hx hb dL_blockPower_2 (by decide) ?_
  refine lv_aload_n hx hb dL_blockPower_3 rfl (lv_at hl 0 rfl) ?_
  refine lv_iload_n hx hb dL_blockPower_4 rfl (lv_at hl 1 rfl) ?_
  refine lv_iload_n hx hb dL_blockPower_5 rfl (lv_at hl 2 rfl) ?_
  refine lv_iload_n hx hb dL_blockPower_6 rfl (lv_at hl 3 rfl) ?_
  refine t_avl (As := [.int a0, .int a1, .int a2]) (rest := [.int 0, .ref ao]) E G hA hX hX.2.2.2.1 hml (a_X11_blockPower l hst D cI cJ cZ cMic cSrc cSt cAI cAJ ad T o a0 a1 a2 h hrc h_o) (cwV 3 hts (gaV qA_1057 qA_1058 qA_1059 qA_131 qA_856) rfl rfl rfl (by decide +kernel) ⟨Nat.le_of_ble_eq_true rfl, Nat.le_of_ble_eq_true rfl⟩) h_o (cc_o11 h_s) rfl rfl hl.1 rfl (lv_room (Nat.le_of_ble_eq_true rfl)) dL_blockPower_7 ⟨by show 0 + (T1.1 - T.1) ≤ T1.1 - T.1 + 1; omega, by show 0 + (sg T1 - sg T) ≤ sg T1 - sg T + 6; omega⟩ ?_
  intro ad2 H locs had G
  refine t_last E G dL_blockPower_10 (fun H locs G => ?_)
  refine lv_goto (tgt := 26) hx hb dL_blockPower_11 (by decide) ?_
  refine lv_iconst (v := 0) hx hb dL_blockPower_26 (by decide) ?_
  refine W.widen (k := T1.1 - T.1 + 1) (n := sg T1 - sg T + 6) (by omega) (by omega) ?_
  exact W.iret (v := 0) hx hb hr (fun t ht hW => ⟨⟨0, ad2, rfl, ⟨rfl, had⟩, ⟨by rw [ht]; exact G.1, va_K.moved hW.alike hK, G.2.1⟩⟩, G.2.2.F ht⟩) G.2.2.2.2 dL_blockPower_27
set_option maxHeartbeats 4000000 in
set_option maxRecDepth 100000 in
theorem v_blockPower_t (l : Launch) (hst : l.stackTraces = false) (D : va_G) {cI cJ cZ cMic cSrc cSt cAI cAJ cD : ClassId} (h0 : Nat) (ad : Nat → Nat) (T : AT) (o : Nat) (a0 a1 a2 : Int32) (ao : Nat) (f : Nat → Int64) {e1 : Nat} {r1 : Int64} {T1 : AT} (h : g_X11_blockPower T o a0 a1 a2 = some (e1 + 1, r1, T1)) (hrc : RC T) (h_o : o < T.1) (h_s : T.2.1 o = (11, 0)) : tWi l yL_blockPower (Cond.codeWith yL_blockPower cL_blockPower 6 (some .int) [(0, 11, 14, 21), (0, 11, 18, 13), (0, 11, 22, 15)] :: wsA) 9 146 cI cJ cZ cMic cSrc cSt cAI cAJ cD D h0 ad T (oJ ao cJ f) [.ref (ad o), .int a0, .int a1, .int a2, .ref ao] (vck 1 2 3 (e1 + 1)) T1 (oJ ao cJ (vfJ (e1 + 1) f r1)) := by
  intro sz
  refine va_MetW (cc := cL_blockPower) (maxL := 6) (ret := some .int) (by decide) rfl ?_
  intro p e s m args below meth c s₁ B hml hv
  obtain ⟨rfl, hsz, hP, hK, hD0, hX, hN, hA0, hTS⟩ := hv
  have hx := B.exec
  have hb := B.bytes
  have hr := B.returns
  have hts := atoms_spec (ws := (Cond.codeWith yL_blockPower cL_blockPower 6 (some .int) [(0, 11, 14, 21), (0, 11, 18, 13), (0, 11, 22, 15)] :: wsA)) B.pre
  have hown : s.vm.findClass RL = some m.cls := findClass_of_methodNamed B.named
  have hlocks := B.notSynchronized
  have htb := vx_table (x := yL_blockPower) B (hts _ (.head _))
  subst hsz
  have hD := hD0.self (sz := s.heap.size)
  generalize hAe : va_A (cW ad T.1 (cc cI cJ cZ cMic cSrc cSt cAI cAJ ad T) ++ [oJ ao cJ f]) s.heap.size = A at hD hX hA0 ⊢
  have hA : ∀ q : Nat, s.heap.size ≤ q → A q := fun q h => by rw [← hAe]; exact Or.inr h
  have G : gL cI cJ cZ cMic cSrc cSt cAI cAJ D ad A s.heap s.heap [] T [oJ ao cJ f] := ⟨hP, hD, va_S.rf⟩
  have E : cE p c cL_blockPower s m ([.ref (ad o), .int a0, .int a1, .int a2, .ref ao] : List Value).toArray (Cond.codeWith yL_blockPower cL_blockPower 6 (some .int) [(0, 11, 14, 21), (0, 11, 18, 13), (0, 11, 22, 15)] :: wsA) D RL (CT cI cJ cZ cMic cSrc cSt cAI cAJ ++ [(cD, .double)]) := ⟨hx, hb, hts, hown, hK⟩
  have hl := lv_entry ([.ref (ad o), .int a0, .int a1, .int a2, .ref ao]) (n := 6) (Nat.le_of_ble_eq_true rfl)
  rw [lg_entry_eq]
  generalize (lg_sl ([.ref (ad o), .int a0, .int a1, .int a2, .ref ao]) ++ List.replicate (6 - (lg_sl ([.ref (ad o), .int a0, .int a1, .int a2, .ref ao])).length) Slot.unset).toArray = ls at hl ⊢
  have hl : lv_has ls 6 [(0, .ref (ad o)), (1, .int a0), (2, .int a1), (3, .int a2), (4, .ref ao)] := hl
  refine lv_aload hx hb dL_blockPower_0 (lv_at hl 4 rfl) ?_
  refine lv_iconst (v := 0) hx hb dL_blockPower_2 (by decide) ?_
  refine lv_aload_n hx hb dL_blockPower_3 rfl (lv_at hl 0 rfl) ?_
  refine lv_iload_n hx hb dL_blockPower_4 rfl (lv_at hl 1 rfl) ?_
  refine lv_iload_n hx hb dL_blockPower_5 rfl (lv_at hl 2 rfl) ?_
  refine lv_iload_n hx hb dL_blockPower_6 rfl (lv_at hl 3 rfl) ?_
  refine t_bvl (As := [.int a0, .int a1, .int a2]) (rest := [.int 0, .ref ao]) E G hA hX hX.2.2.2.1 hml (b_X11_blockPower l hst D cI cJ cZ cMic cSrc cSt cAI cAJ ad T o a0 a1 a2 h hrc h_o) (cwV 3 hts (gaV qA_1057 qA_1058 qA_1059 qA_131 qA_856) rfl rfl rfl (by decide +kernel) ⟨Nat.le_of_ble_eq_true rfl, Nat.le_of_ble_eq_true rfl⟩) h_o (cc_o11 h_s) rfl rfl hl.1 rfl (lv_room (Nat.le_of_ble_eq_true rfl)) dL_blockPower_7 ⟨by show 0 + (T1.1 - T.1 + 1) ≤ T1.1 - T.1 + 1; omega, by show 0 + (sg T1 - sg T + 6) ≤ sg T1 - sg T + 6; omega⟩ ?_
  intro E9 ce q9 ad2 H locs hE had G hce hcv hcl
  rcases e1 with _ | _ | e1
  · have hE : E9 = xISE := hE
    subst hE
    refine vx_catch (name := xISE) hown [] { startPc := 0, endPc := 11, handlerPc := 14, catchType := 21 } [{ startPc := 0, endPc := 11, handlerPc := 18, catchType := 13 }, { startPc := 0, endPc := 11, handlerPc := 22, catchType := 15 }] htb (fun z hz => absurd hz List.not_mem_nil) (by decide) (by decide) (hts _ (.tail _ qA_952)) (hX.use (.castable xISE xISE) (by decide +kernel)) hce hcv hcl ?_
    refine lv_astore (lv' := [(5, .ref q9), (0, .ref (ad o)), (1, .int a0), (2, .int a1), (3, .int a2), (4, .ref ao)]) hx hb dL_blockPower_14 hl (by decide) rfl (fun ls hl => ?_)
    refine lv_iconst (v := 1) hx hb dL_blockPower_16 (by decide) ?_
    refine W.widen (k := T1.1 - T.1 + 1) (n := sg T1 - sg T + 6) (by omega) (by omega) ?_
    exact W.iret (v := 1) hx hb hr (fun t ht hW => ⟨⟨1, ad2, rfl, ⟨rfl, had⟩, ⟨by rw [ht]; exact G.1, va_K.moved hW.alike hK, G.2.1⟩⟩, G.2.2.F ht⟩) G.2.2.2.2 dL_blockPower_17
  · have hE : E9 = xIOB := hE
    subst hE
    refine vx_catch (name := xIOB) hown [{ startPc := 0, endPc := 11, handlerPc := 14, catchType := 21 }] { startPc := 0, endPc := 11, handlerPc := 18, catchType := 13 } [{ startPc := 0, endPc := 11, handlerPc := 22, catchType := 15 }] htb (List.forall_mem_cons.mpr ⟨Or.inr ⟨by decide, xISE, hts _ (.tail _ qA_952), hN.2.2.1⟩, fun z hz => absurd hz List.not_mem_nil⟩) (by decide) (by decide) (hts _ (.tail _ qA_946)) (hX.use (.castable xIOB xIOB) (by decide +kernel)) hce hcv hcl ?_
    refine lv_astore (lv' := [(5, .ref q9), (0, .ref (ad o)), (1, .int a0), (2, .int a1), (3, .int a2), (4, .ref ao)]) hx hb dL_blockPower_18 hl (by decide) rfl (fun ls hl => ?_)
    refine lv_iconst (v := 2) hx hb dL_blockPower_20 (by decide) ?_
    refine W.widen (k := T1.1 - T.1 + 1) (n := sg T1 - sg T + 6) (by omega) (by omega) ?_
    exact W.iret (v := 2) hx hb hr (fun t ht hW => ⟨⟨2, ad2, rfl, ⟨rfl, had⟩, ⟨by rw [ht]; exact G.1, va_K.moved hW.alike hK, G.2.1⟩⟩, G.2.2.F ht⟩) G.2.2.2.2 dL_blockPower_21
  · have hE : E9 = xIAE := hE
    subst hE
    refine vx_catch (name := xIAE) hown [{ startPc := 0, endPc := 11, handlerPc := 14, catchType := 21 }, { startPc := 0, endPc := 11, handlerPc := 18, catchType := 13 }] { startPc := 0, endPc := 11, handlerPc := 22, catchType := 15 } [] htb (List.forall_mem_cons.mpr ⟨Or.inr ⟨by decide, xISE, hts _ (.tail _ qA_952), hN.2.2.2⟩, List.forall_mem_cons.mpr ⟨Or.inr ⟨by decide, xIOB, hts _ (.tail _ qA_946), hN.1⟩, fun z hz => absurd hz List.not_mem_nil⟩⟩) (by decide) (by decide) (hts _ (.tail _ qA_947)) (hX.use (.castable xIAE xIAE) (by decide +kernel)) hce hcv hcl ?_
    refine lv_astore (lv' := [(5, .ref q9), (0, .ref (ad o)), (1, .int a0), (2, .int a1), (3, .int a2), (4, .ref ao)]) hx hb dL_blockPower_22 hl (by decide) rfl (fun ls hl => ?_)
    refine lv_iconst (v := 3) hx hb dL_blockPower_24 (by decide) ?_
    refine W.widen (k := T1.1 - T.1 + 1) (n := sg T1 - sg T + 6) (by omega) (by omega) ?_
    exact W.iret (v := 3) hx hb hr (fun t ht hW => ⟨⟨3, ad2, rfl, ⟨rfl, had⟩, ⟨by rw [ht]; exact G.1, va_K.moved hW.alike hK, G.2.1⟩⟩, G.2.2.F ht⟩) G.2.2.2.2 dL_blockPower_25
theorem v_blockPower (l : Launch) (hst : l.stackTraces = false) (D : va_G) {cI cJ cZ cMic cSrc cSt cAI cAJ cD : ClassId} (h0 : Nat) (ad : Nat → Nat) (T : AT) (o : Nat) (a0 a1 a2 : Int32) (ao : Nat) (f : Nat → Int64) {k1 : Nat} {r1 : Int64} {T1 : AT} (h : g_X11_blockPower T o a0 a1 a2 = some (k1, r1, T1)) (hrc : RC T) (h_o : o < T.1) (h_s : T.2.1 o = (11, 0)) : tWi l yL_blockPower (Cond.codeWith yL_blockPower cL_blockPower 6 (some .int) [(0, 11, 14, 21), (0, 11, 18, 13), (0, 11, 22, 15)] :: wsA) 9 146 cI cJ cZ cMic cSrc cSt cAI cAJ cD D h0 ad T (oJ ao cJ f) [.ref (ad o), .int a0, .int a1, .int a2, .ref ao] (vck 1 2 3 k1) T1 (oJ ao cJ (vfJ k1 f r1)) := by
  cases k1 with
  | zero => exact v_blockPower_n l hst D h0 ad T o a0 a1 a2 ao f h hrc h_o h_s
  | succ e1 => exact v_blockPower_t l hst D h0 ad T o a0 a1 a2 ao f h hrc h_o h_s
end
section
/-! 14d.vc2.lean.txt -/
set_option maxHeartbeats 4000000 in
set_option maxRecDepth 100000 in
theorem v_blockBest_n (l : Launch) (hst : l.stackTraces = false) (D : va_G) {cI cJ cZ cMic cSrc cSt cAI cAJ cD : ClassId} (h0 : Nat) (ad : Nat → Nat) (T : AT) (o : Nat) (a0 a1 : Int32) (ao : Nat) (f : Nat → Int64) {r1 : Int32} {T1 : AT} (h : g_X11_blockBest T o a0 a1 = some (0, r1, T1)) (hrc : RC T) (h_o : o < T.1) (h_s : T.2.1 o = (11, 0)) : tWi l yL_blockBest (Cond.codeWith yL_blockBest cL_blockBest 5 (some .int) [(0, 10, 13, 21), (0, 10, 17, 15)] :: wsA) 8 177 cI cJ cZ cMic cSrc cSt cAI cAJ cD D h0 ad T (oJ ao cJ f) [.ref (ad o), .int a0, .int a1, .ref ao] (vck 1 0 2 (0)) T1 (oJ ao cJ (vfJ (0) f r1.toInt64)) := by
  intro sz
  refine va_MetW (cc := cL_blockBest) (maxL := 5) (ret := some .int) (by decide) rfl ?_
  intro p e s m args below meth c s₁ B hml hv
  obtain ⟨rfl, hsz, hP, hK, hD0, hX, hN, hA0, hTS⟩ := hv
  have hx := B.exec
  have hb := B.bytes
  have hr := B.returns
  have hts := atoms_spec (ws := (Cond.codeWith yL_blockBest cL_blockBest 5 (some .int) [(0, 10, 13, 21), (0, 10, 17, 15)] :: wsA)) B.pre
  have hown : s.vm.findClass RL = some m.cls := findClass_of_methodNamed B.named
  have hlocks := B.notSynchronized
  have htb := vx_table (x := yL_blockBest) B (hts _ (.head _))
  subst hsz
  have hD := hD0.self (sz := s.heap.size)
  generalize hAe : va_A (cW ad T.1 (cc cI cJ cZ cMic cSrc cSt cAI cAJ ad T) ++ [oJ ao cJ f]) s.heap.size = A at hD hX hA0 ⊢
  have hA : ∀ q : Nat, s.heap.size ≤ q → A q := fun q h => by rw [← hAe]; exact Or.inr h
  have G : gL cI cJ cZ cMic cSrc cSt cAI cAJ D ad A s.heap s.heap [] T [oJ ao cJ f] := ⟨hP, hD, va_S.rf⟩
  have E : cE p c cL_blockBest s m ([.ref (ad o), .int a0, .int a1, .ref ao] : List Value).toArray (Cond.codeWith yL_blockBest cL_blockBest 5 (some .int) [(0, 10, 13, 21), (0, 10, 17, 15)] :: wsA) D RL (CT cI cJ cZ cMic cSrc cSt cAI cAJ ++ [(cD, .double)]) := ⟨hx, hb, hts, hown, hK⟩
  have hl := lv_entry ([.ref (ad o), .int a0, .int a1, .ref ao]) (n := 5) (Nat.le_of_ble_eq_true rfl)
  rw [lg_entry_eq]
  generalize (lg_sl ([.ref (ad o), .int a0, .int a1, .ref ao]) ++ List.replicate (5 - (lg_sl ([.ref (ad o), .int a0, .int a1, .ref ao])).length) Slot.unset).toArray = ls at hl ⊢
  have hl : lv_has ls 5 [(0, .ref (ad o)), (1, .int a0), (2, .int a1), (3, .ref ao)] := hl
  refine lv_aload_n hx hb dL_blockBest_0 rfl (lv_at hl 3 rfl) ?_
  refine lv_iconst (v := 0) hx hb dL_blockBest_1 (by decide) ?_
  refine lv_aload_n hx hb dL_blockBest_2 rfl (lv_at hl 0 rfl) ?_
  refine lv_iload_n hx hb dL_blockBest_3 rfl (lv_at hl 1 rfl) ?_
  refine lv_iload_n hx hb dL_blockBest_4 rfl (lv_at hl 2 rfl) ?_
  refine t_avi (As := [.int a0, .int a1]) (rest := [.int 0, .ref ao]) E G hA hX hX.2.2.2.1 hml (a_X11_blockBest l hst D cI cJ cZ cMic cSrc cSt cAI cAJ ad T o a0 a1 h hrc h_o) (cwV 2 hts (gaV qA_1061 qA_1062 qA_1063 qA_131 qA_858) rfl rfl rfl (by decide +kernel) ⟨Nat.le_of_ble_eq_true rfl, Nat.le_of_ble_eq_true rfl⟩) h_o (cc_o11 h_s) rfl rfl hl.1 rfl (lv_room (Nat.le_of_ble_eq_true rfl)) dL_blockBest_5 ⟨by show 0 + (T1.1 - T.1) ≤ T1.1 - T.1 + 1; omega, by show 0 + (sg T1 - sg T) ≤ sg T1 - sg T + 6; omega⟩ ?_
  intro ad2 H locs had G
  refine lv_i2l (v := r1.toInt64) hx hb dL_blockBest_8 rfl ?_
  refine t_last E G dL_blockBest_9 (fun H locs G => ?_)
  refine lv_goto (tgt := 21) hx hb dL_blockBest_10 (by decide) ?_
  refine lv_iconst (v := 0) hx hb dL_blockBest_21 (by decide) ?_
  refine W.widen (k := T1.1 - T.1 + 1) (n := sg T1 - sg T + 6) (by omega) (by omega) ?_
  exact W.iret (v := 0) hx hb hr (fun t ht hW => ⟨⟨0, ad2, rfl, ⟨rfl, had⟩, ⟨by rw [ht]; exact G.1, va_K.moved hW.alike hK, G.2.1⟩⟩, G.2.2.F ht⟩) G.2.2.2.2 dL_blockBest_22
set_option maxHeartbeats 4000000 in
set_option maxRecDepth 100000 in
theorem v_blockBest_t (l : Launch) (hst : l.stackTraces = false) (D : va_G) {cI cJ cZ cMic cSrc cSt cAI cAJ cD : ClassId} (h0 : Nat) (ad : Nat → Nat) (T : AT) (o : Nat) (a0 a1 : Int32) (ao : Nat) (f : Nat → Int64) {e1 : Nat} {r1 : Int32} {T1 : AT} (h : g_X11_blockBest T o a0 a1 = some (e1 + 1, r1, T1)) (hrc : RC T) (h_o : o < T.1) (h_s : T.2.1 o = (11, 0)) : tWi l yL_blockBest (Cond.codeWith yL_blockBest cL_blockBest 5 (some .int) [(0, 10, 13, 21), (0, 10, 17, 15)] :: wsA) 8 177 cI cJ cZ cMic cSrc cSt cAI cAJ cD D h0 ad T (oJ ao cJ f) [.ref (ad o), .int a0, .int a1, .ref ao] (vck 1 0 2 (e1 + 1)) T1 (oJ ao cJ (vfJ (e1 + 1) f r1.toInt64)) := by
  intro sz
  refine va_MetW (cc := cL_blockBest) (maxL := 5) (ret := some .int) (by decide) rfl ?_
  intro p e s m args below meth c s₁ B hml hv
  obtain ⟨rfl, hsz, hP, hK, hD0, hX, hN, hA0, hTS⟩ := hv
  have hx := B.exec
  have hb := B.bytes
  have hr := B.returns
  have hts := atoms_spec (ws := (Cond.codeWith yL_blockBest cL_blockBest 5 (some .int) [(0, 10, 13, 21), (0, 10, 17, 15)] :: wsA)) B.pre
  have hown : s.vm.findClass RL = some m.cls := findClass_of_methodNamed B.named
  have hlocks := B.notSynchronized
  have htb := vx_table (x := yL_blockBest) B (hts _ (.head _))
  subst hsz
  have hD := hD0.self (sz := s.heap.size)
  generalize hAe : va_A (cW ad T.1 (cc cI cJ cZ cMic cSrc cSt cAI cAJ ad T) ++ [oJ ao cJ f]) s.heap.size = A at hD hX hA0 ⊢
  have hA : ∀ q : Nat, s.heap.size ≤ q → A q := fun q h => by rw [← hAe]; exact Or.inr h
  have G : gL cI cJ cZ cMic cSrc cSt cAI cAJ D ad A s.heap s.heap [] T [oJ ao cJ f] := ⟨hP, hD, va_S.rf⟩
  have E : cE p c cL_blockBest s m ([.ref (ad o), .int a0, .int a1, .ref ao] : List Value).toArray (Cond.codeWith yL_blockBest cL_blockBest 5 (some .int) [(0, 10, 13, 21), (0, 10, 17, 15)] :: wsA) D RL (CT cI cJ cZ cMic cSrc cSt cAI cAJ ++ [(cD, .double)]) := ⟨hx, hb, hts, hown, hK⟩
  have hl := lv_entry ([.ref (ad o), .int a0, .int a1, .ref ao]) (n := 5) (Nat.le_of_ble_eq_true rfl)
  rw [lg_entry_eq]
  generalize (lg_sl ([.ref (ad o), .int a0, .int a1, .ref ao]) ++ List.replicate (5 - (lg_sl ([.ref (ad o), .int a0, .int a1, .ref ao])).length) Slot.unset).toArray = ls at hl ⊢
  have hl : lv_has ls 5 [(0, .ref (ad o)), (1, .int a0), (2, .int a1), (3, .ref ao)] := hl
  refine lv_aload_n hx hb dL_blockBest_0 rfl (lv_at hl 3 rfl) ?_
  refine lv_iconst (v := 0) hx hb dL_blockBest_1 (by decide) ?_
  refine lv_aload_n hx hb dL_blockBest_2 rfl (lv_at hl 0 rfl) ?_
  refine lv_iload_n hx hb dL_blockBest_3 rfl (lv_at hl 1 rfl) ?_
  refine lv_iload_n hx hb dL_blockBest_4 rfl (lv_at hl 2 rfl) ?_
  refine t_bvi (As := [.int a0, .int a1]) (rest := [.int 0, .ref ao]) E G hA hX hX.2.2.2.1 hml (b_X11_blockBest l hst D cI cJ cZ cMic cSrc cSt cAI cAJ ad T o a0 a1 h hrc h_o) (cwV 2 hts (gaV qA_1061 qA_1062 qA_1063 qA_131 qA_858) rfl rfl rfl (by decide +kernel) ⟨Nat.le_of_ble_eq_true rfl, Nat.le_of_ble_eq_true rfl⟩) h_o (cc_o11 h_s) rfl rfl hl.1 rfl (lv_room (Nat.le_of_ble_eq_true rfl)) dL_blockBest_5 ⟨by show 0 + (T1.1 - T.1 + 1) ≤ T1.1 - T.1 + 1; omega, by show 0 + (sg T1 - sg T + 6) ≤ sg T1 - sg T + 6; omega⟩ ?_
  intro E9 ce q9 ad2 H locs hE had G hce hcv hcl
  rcases e1 with _ | _ | e1
  · have hE : E9 = xISE := hE
    subst hE
    refine vx_catch (name := xISE) hown [] { startPc := 0, endPc := 10, handlerPc := 13, catchType := 21 } [{ startPc := 0, endPc := 10, handlerPc := 17, catchType := 15 }] htb (fun z hz => absurd hz List.not_mem_nil) (by decide) (by decide) (hts _ (.tail _ qA_952)) (hX.use (.castable xISE xISE) (by decide +kernel)) hce hcv hcl ?_
    refine lv_astore (lv' := [(4, .ref q9), (0, .ref (ad o)), (1, .int a0), (2, .int a1), (3, .ref ao)]) hx hb dL_blockBest_13 hl (by decide) rfl (fun ls hl => ?_)
    refine lv_iconst (v := 1) hx hb dL_blockBest_15 (by decide) ?_
    refine W.widen (k := T1.1 - T.1 + 1) (n := sg T1 - sg T + 6) (by omega) (by omega) ?_
    exact W.iret (v := 1) hx hb hr (fun t ht hW => ⟨⟨1, ad2, rfl, ⟨rfl, had⟩, ⟨by rw [ht]; exact G.1, va_K.moved hW.alike hK, G.2.1⟩⟩, G.2.2.F ht⟩) G.2.2.2.2 dL_blockBest_16
  · exact absurd (cd_g_X11_blockBest (S := [0, 1, 3]) (fun _ h => h) T o a0 a1 _ _ _ h) (by decide)
  · have hE : E9 = xIAE := hE
    subst hE
    refine vx_catch (name := xIAE) hown [{ startPc := 0, endPc := 10, handlerPc := 13, catchType := 21 }] { startPc := 0, endPc := 10, handlerPc := 17, catchType := 15 } [] htb (List.forall_mem_cons.mpr ⟨Or.inr ⟨by decide, xISE, hts _ (.tail _ qA_952), hN.2.2.2⟩, fun z hz => absurd hz List.not_mem_nil⟩) (by decide) (by decide) (hts _ (.tail _ qA_947)) (hX.use (.castable xIAE xIAE) (by decide +kernel)) hce hcv hcl ?_
    refine lv_astore (lv' := [(4, .ref q9), (0, .ref (ad o)), (1, .int a0), (2, .int a1), (3, .ref ao)]) hx hb dL_blockBest_17 hl (by decide) rfl (fun ls hl => ?_)
    refine lv_iconst (v := 2) hx hb dL_blockBest_19 (by decide) ?_
    refine W.widen (k := T1.1 - T.1 + 1) (n := sg T1 - sg T + 6) (by omega) (by omega) ?_
    exact W.iret (v := 2) hx hb hr (fun t ht hW => ⟨⟨2, ad2, rfl, ⟨rfl, had⟩, ⟨by rw [ht]; exact G.1, va_K.moved hW.alike hK, G.2.1⟩⟩, G.2.2.F ht⟩) G.2.2.2.2 dL_blockBest_20
theorem v_blockBest (l : Launch) (hst : l.stackTraces = false) (D : va_G) {cI cJ cZ cMic cSrc cSt cAI cAJ cD : ClassId} (h0 : Nat) (ad : Nat → Nat) (T : AT) (o : Nat) (a0 a1 : Int32) (ao : Nat) (f : Nat → Int64) {k1 : Nat} {r1 : Int32} {T1 : AT} (h : g_X11_blockBest T o a0 a1 = some (k1, r1, T1)) (hrc : RC T) (h_o : o < T.1) (h_s : T.2.1 o = (11, 0)) : tWi l yL_blockBest (Cond.codeWith yL_blockBest cL_blockBest 5 (some .int) [(0, 10, 13, 21), (0, 10, 17, 15)] :: wsA) 8 177 cI cJ cZ cMic cSrc cSt cAI cAJ cD D h0 ad T (oJ ao cJ f) [.ref (ad o), .int a0, .int a1, .ref ao] (vck 1 0 2 k1) T1 (oJ ao cJ (vfJ k1 f r1.toInt64)) := by
  cases k1 with
  | zero => exact v_blockBest_n l hst D h0 ad T o a0 a1 ao f h hrc h_o h_s
  | succ e1 => exact v_blockBest_t l hst D h0 ad T o a0 a1 ao f h hrc h_o h_s
set_option maxHeartbeats 4000000 in
set_option maxRecDepth 100000 in
theorem v_path_n (l : Launch) (hst : l.stackTraces = false) (D : va_G) {cI cJ cZ cMic cSrc cSt cAI cAJ cD : ClassId} (h0 : Nat) (ad : Nat → Nat) (T : AT) (o : Nat) (a0 : Int32) (ao : Nat) (f : Nat → Int64) {r1 : Int32} {T1 : AT} (h : g_X11_path T o a0 = some (0, r1, T1)) (hrc : RC T) (h_o : o < T.1) (h_s : T.2.1 o = (11, 0)) : tWi l yL_path (Cond.codeWith yL_path cL_path 4 (some .int) [(0, 9, 12, 21), (0, 9, 15, 15)] :: wsA) 8 180 cI cJ cZ cMic cSrc cSt cAI cAJ cD D h0 ad T (oJ ao cJ f) [.ref (ad o), .int a0, .ref ao] (vck 1 0 2 (0)) T1 (oJ ao cJ (vfJ (0) f r1.toInt64)) := by
  intro sz
  refine va_MetW (cc := cL_path) (maxL := 4) (ret := some .int) (by decide) rfl ?_
  intro p e s m args below meth c s₁ B hml hv
  obtain ⟨rfl, hsz, hP, hK, hD0, hX, hN, hA0, hTS⟩ := hv
  have hx := B.exec
  have hb := B.bytes
  have hr := B.returns
  have hts := atoms_spec (ws := (Cond.codeWith yL_path cL_path 4 (some .int) [(0, 9, 12, 21), (0, 9, 15, 15)] :: wsA)) B.pre
  have hown : s.vm.findClass RL = some m.cls := findClass_of_methodNamed B.named
  have hlocks := B.notSynchronized
  have htb := vx_table (x := yL_path) B (hts _ (.head _))
  subst hsz
  have hD := hD0.self (sz := s.heap.size)
  generalize hAe : va_A (cW ad T.1 (cc cI cJ cZ cMic cSrc cSt cAI cAJ ad T) ++ [oJ ao cJ f]) s.heap.size = A at hD hX hA0 ⊢
  have hA : ∀ q : Nat, s.heap.size ≤ q → A q := fun q h => by rw [← hAe]; exact Or.inr h
  have G : gL cI cJ cZ cMic cSrc cSt cAI cAJ D ad A s.heap s.heap [] T [oJ ao cJ f] := ⟨hP, hD, va_S.rf⟩
  have E : cE p c cL_path s m ([.ref (ad o), .int a0, .ref ao] : List Value).toArray (Cond.codeWith yL_path cL_path 4 (some .int) [(0, 9, 12, 21), (0, 9, 15, 15)] :: wsA) D RL (CT cI cJ cZ cMic cSrc cSt cAI cAJ ++ [(cD, .double)]) := ⟨hx, hb, hts, hown, hK⟩
  have hl := lv_entry ([.ref (ad o), .int a0, .ref ao]) (n := 4) (Nat.le_of_ble_eq_true rfl)
  rw [lg_entry_eq]
  generalize (lg_sl ([.ref (ad o), .int a0, .ref ao]) ++ List.replicate (4 - (lg_sl ([.ref (ad o), .int a0, .ref ao])).length) Slot.unset).toArray = ls at hl ⊢
  have hl : lv_has ls 4 [(0, .ref (ad o)), (1, .int a0), (2, .ref ao)] := hl
  refine lv_aload_n hx hb dL_path_0 rfl (lv_at hl 2 rfl) ?_
  refine lv_iconst (v := 0) hx hb dL_path_1 (by decide) ?_
  refine lv_aload_n hx hb dL_path_2 rfl (lv_at hl 0 rfl) ?_
  refine lv_iload_n hx hb dL_path_3 rfl (lv_at hl 1 rfl) ?_
  refine t_avi (As := [.int a0]) (rest := [.int 0, .ref ao]) E G hA hX hX.2.2.2.1 hml (a_X11_path l hst D cI cJ cZ cMic cSrc cSt cAI cAJ ad T o a0 h hrc h_o) (cwV 1 hts (gaV qA_1065 qA_1066 qA_1067 qA_131 qA_862) rfl rfl rfl (by decide +kernel) ⟨Nat.le_of_ble_eq_true rfl, Nat.le_of_ble_eq_true rfl⟩) h_o (cc_o11 h_s) rfl rfl hl.1 rfl (lv_room (Nat.le_of_ble_eq_true rfl)) dL_path_4 ⟨by show 0 + (T1.1 - T.1) ≤ T1.1 - T.1 + 1; omega, by show 0 + (sg T1 - sg T) ≤ sg T1 - sg T + 6; omega⟩ ?_
  intro ad2 H locs had G
  refine lv_i2l (v := r1.toInt64) hx hb dL_path_7 rfl ?_
  refine t_last E G dL_path_8 (fun H locs G => ?_)
  refine lv_goto (tgt := 18) hx hb dL_path_9 (by decide) ?_
  refine lv_iconst (v := 0) hx hb dL_path_18 (by decide) ?_
  refine W.widen (k := T1.1 - T.1 + 1) (n := sg T1 - sg T + 6) (by omega) (by omega) ?_
  exact W.iret (v := 0) hx hb hr (fun t ht hW => ⟨⟨0, ad2, rfl, ⟨rfl, had⟩, ⟨by rw [ht]; exact G.1, va_K.moved hW.alike hK, G.2.1⟩⟩, G.2.2.F ht⟩) G.2.2.2.2 dL_path_19
set_option maxHeartbeats 4000000 in
set_option maxRecDepth 100000 in
theorem v_path_t (l : Launch) (hst : l.stackTraces = false) (D : va_G) {cI cJ cZ cMic cSrc cSt cAI cAJ cD : ClassId} (h0 : Nat) (ad : Nat → Nat) (T : AT) (o : Nat) (a0 : Int32) (ao : Nat) (f : Nat → Int64) {e1 : Nat} {r1 : Int32} {T1 : AT} (h : g_X11_path T o a0 = some (e1 + 1, r1, T1)) (hrc : RC T) (h_o : o < T.1) (h_s : T.2.1 o = (11, 0)) : tWi l yL_path (Cond.codeWith yL_path cL_path 4 (some .int) [(0, 9, 12, 21), (0, 9, 15, 15)] :: wsA) 8 180 cI cJ cZ cMic cSrc cSt cAI cAJ cD D h0 ad T (oJ ao cJ f) [.ref (ad o), .int a0, .ref ao] (vck 1 0 2 (e1 + 1)) T1 (oJ ao cJ (vfJ (e1 + 1) f r1.toInt64)) := by
  intro sz
  refine va_MetW (cc := cL_path) (maxL := 4) (ret := some .int) (by decide) rfl ?_
  intro p e s m args below meth c s₁ B hml hv
  obtain ⟨rfl, hsz, hP, hK, hD0, hX, hN, hA0, hTS⟩ := hv
  have hx := B.exec
  have hb := B.bytes
  have hr := B.returns
  have hts := atoms_spec (ws := (Cond.codeWith yL_path cL_path 4 (some .int) [(0, 9, 12, 21), (0, 9, 15, 15)] :: wsA)) B.pre
  have hown : s.vm.findClass RL = some m.cls := findClass_of_methodNamed B.named
  have hlocks := B.notSynchronized
  have htb := vx_table (x := yL_path) B (hts _ (.head _))
  subst hsz
  have hD := hD0.self (sz := s.heap.size)
  generalize hAe : va_A (cW ad T.1 (cc cI cJ cZ cMic cSrc cSt cAI cAJ ad T) ++ [oJ ao cJ f]) s.heap.size = A at hD hX hA0 ⊢
  have hA : ∀ q : Nat, s.heap.size ≤ q → A q := fun q h => by rw [← hAe]; exact Or.inr h
  have G : gL cI cJ cZ cMic cSrc cSt cAI cAJ D ad A s.heap s.heap [] T [oJ ao cJ f] := ⟨hP, hD, va_S.rf⟩
  have E : cE p c cL_path s m ([.ref (ad o), .int a0, .ref ao] : List Value).toArray (Cond.codeWith yL_path cL_path 4 (some .int) [(0, 9, 12, 21), (0, 9, 15, 15)] :: wsA) D RL (CT cI cJ cZ cMic cSrc cSt cAI cAJ ++ [(cD, .double)]) := ⟨hx, hb, hts, hown, hK⟩
  have hl := lv_entry ([.ref (ad o), .int a0, .ref ao]) (n := 4) (Nat.le_of_ble_eq_true rfl)
  rw [lg_entry_eq]
  generalize (lg_sl ([.ref (ad o), .int a0, .ref ao]) ++ List.replicate (4 - (lg_sl ([.ref (ad o), .int a0, .ref ao])).length) Slot.unset).toArray = ls at hl ⊢
  have hl : lv_has ls 4 [(0, .ref (ad o)), (1, .int a0), (2, .ref ao)] := hl
  refine lv_aload_n hx hb dL_path_0 rfl (lv_at hl 2 rfl) ?_
  refine lv_iconst (v := 0) hx hb dL_path_1 (by decide) ?_
  refine lv_aload_n hx hb dL_path_2 rfl (lv_at hl 0 rfl) ?_
  refine lv_iload_n hx hb dL_path_3 rfl (lv_at hl 1 rfl) ?_
  refine t_bvi (As := [.int a0]) (rest := [.int 0, .ref ao]) E G hA hX hX.2.2.2.1 hml (b_X11_path l hst D cI cJ cZ cMic cSrc cSt cAI cAJ ad T o a0 h hrc h_o) (cwV 1 hts (gaV qA_1065 qA_1066 qA_1067 qA_131 qA_862) rfl rfl rfl (by decide +kernel) ⟨Nat.le_of_ble_eq_true rfl, Nat.le_of_ble_eq_true rfl⟩) h_o (cc_o11 h_s) rfl rfl hl.1 rfl (lv_room (Nat.le_of_ble_eq_true rfl)) dL_path_4 ⟨by show 0 + (T1.1 - T.1 + 1) ≤ T1.1 - T.1 + 1; omega, by show 0 + (sg T1 - sg T + 6) ≤ sg T1 - sg T + 6; omega⟩ ?_
  intro E9 ce q9 ad2 H locs hE had G hce hcv hcl
  rcases e1 with _ | _ | e1
  · have hE : E9 = xISE := hE
    subst hE
    refine vx_catch (name := xISE) hown [] { startPc := 0, endPc := 9, handlerPc := 12, catchType := 21 } [{ startPc := 0, endPc := 9, handlerPc := 15, catchType := 15 }] htb (fun z hz => absurd hz List.not_mem_nil) (by decide) (by decide) (hts _ (.tail _ qA_952)) (hX.use (.castable xISE xISE) (by decide +kernel)) hce hcv hcl ?_
    refine lv_astore_n (lv' := [(3, .ref q9), (0, .ref (ad o)), (1, .int a0), (2, .ref ao)]) hx hb dL_path_12 rfl hl (by decide) rfl (fun ls hl => ?_)
    refine lv_iconst (v := 1) hx hb dL_path_13 (by decide) ?_
    refine W.widen (k := T1.1 - T.1 + 1) (n := sg T1 - sg T + 6) (by omega) (by omega) ?_
    exact W.iret (v := 1) hx hb hr (fun t ht hW => ⟨⟨1, ad2, rfl, ⟨rfl, had⟩, ⟨by rw [ht]; exact G.1, va_K.moved hW.alike hK, G.2.1⟩⟩, G.2.2.F ht⟩) G.2.2.2.2 dL_path_14
  · exact absurd (cd_g_X11_path (S := [0, 1, 3]) (fun _ h => h) T o a0 _ _ _ h) (by decide)
  · have hE : E9 = xIAE := hE
    subst hE
    refine vx_catch (name := xIAE) hown [{ startPc := 0, endPc := 9, handlerPc := 12, catchType := 21 }] { startPc := 0, endPc := 9, handlerPc := 15, catchType := 15 } [] htb (List.forall_mem_cons.mpr ⟨Or.inr ⟨by decide, xISE, hts _ (.tail _ qA_952), hN.2.2.2⟩, fun z hz => absurd hz List.not_mem_nil⟩) (by decide) (by decide) (hts _ (.tail _ qA_947)) (hX.use (.castable xIAE xIAE) (by decide +kernel)) hce hcv hcl ?_
    refine lv_astore_n (lv' := [(3, .ref q9), (0, .ref (ad o)), (1, .int a0), (2, .ref ao)]) hx hb dL_path_15 rfl hl (by decide) rfl (fun ls hl => ?_)
    refine lv_iconst (v := 2) hx hb dL_path_16 (by decide) ?_
    refine W.widen (k := T1.1 - T.1 + 1) (n := sg T1 - sg T + 6) (by omega) (by omega) ?_
    exact W.iret (v := 2) hx hb hr (fun t ht hW => ⟨⟨2, ad2, rfl, ⟨rfl, had⟩, ⟨by rw [ht]; exact G.1, va_K.moved hW.alike hK, G.2.1⟩⟩, G.2.2.F ht⟩) G.2.2.2.2 dL_path_17
theorem v_path (l : Launch) (hst : l.stackTraces = false) (D : va_G) {cI cJ cZ cMic cSrc cSt cAI cAJ cD : ClassId} (h0 : Nat) (ad : Nat → Nat) (T : AT) (o : Nat) (a0 : Int32) (ao : Nat) (f : Nat → Int64) {k1 : Nat} {r1 : Int32} {T1 : AT} (h : g_X11_path T o a0 = some (k1, r1, T1)) (hrc : RC T) (h_o : o < T.1) (h_s : T.2.1 o = (11, 0)) : tWi l yL_path (Cond.codeWith yL_path cL_path 4 (some .int) [(0, 9, 12, 21), (0, 9, 15, 15)] :: wsA) 8 180 cI cJ cZ cMic cSrc cSt cAI cAJ cD D h0 ad T (oJ ao cJ f) [.ref (ad o), .int a0, .ref ao] (vck 1 0 2 k1) T1 (oJ ao cJ (vfJ k1 f r1.toInt64)) := by
  cases k1 with
  | zero => exact v_path_n l hst D h0 ad T o a0 ao f h hrc h_o h_s
  | succ e1 => exact v_path_t l hst D h0 ad T o a0 ao f h hrc h_o h_s
set_option maxHeartbeats 4000000 in
set_option maxRecDepth 100000 in
theorem v_trackScore_n (l : Launch) (hst : l.stackTraces = false) (D : va_G) {cI cJ cZ cMic cSrc cSt cAI cAJ cD : ClassId} (h0 : Nat) (ad : Nat → Nat) (T : AT) (o : Nat) (a0 : Int32) (ao : Nat) (f : Nat → Int64) {r1 : Int64} {T1 : AT} (h : g_X11_trackScore T o a0 = some (0, r1, T1)) (hrc : RC T) (h_o : o < T.1) (h_s : T.2.1 o = (11, 0)) : tWi l yL_trackScore (Cond.codeWith yL_trackScore cL_trackScore 4 (some .int) [(0, 8, 11, 21), (0, 8, 14, 15)] :: wsA) 8 180 cI cJ cZ cMic cSrc cSt cAI cAJ cD D h0 ad T (oJ ao cJ f) [.ref (ad o), .int a0, .ref ao] (vck 1 0 2 (0)) T1 (oJ ao cJ (vfJ (0) f r1)) := by
  intro sz
  refine va_MetW (cc := cL_trackScore) (maxL := 4) (ret := some .int) (by decide) rfl ?_
  intro p e s m args below meth c s₁ B hml hv
  obtain ⟨rfl, hsz, hP, hK, hD0, hX, hN, hA0, hTS⟩ := hv
  have hx := B.exec
  have hb := B.bytes
  have hr := B.returns
  have hts := atoms_spec (ws := (Cond.codeWith yL_trackScore cL_trackScore 4 (some .int) [(0, 8, 11, 21), (0, 8, 14, 15)] :: wsA)) B.pre
  have hown : s.vm.findClass RL = some m.cls := findClass_of_methodNamed B.named
  have hlocks := B.notSynchronized
  have htb := vx_table (x := yL_trackScore) B (hts _ (.head _))
  subst hsz
  have hD := hD0.self (sz := s.heap.size)
  generalize hAe : va_A (cW ad T.1 (cc cI cJ cZ cMic cSrc cSt cAI cAJ ad T) ++ [oJ ao cJ f]) s.heap.size = A at hD hX hA0 ⊢
  have hA : ∀ q : Nat, s.heap.size ≤ q → A q := fun q h => by rw [← hAe]; exact Or.inr h
  have G : gL cI cJ cZ cMic cSrc cSt cAI cAJ D ad A s.heap s.heap [] T [oJ ao cJ f] := ⟨hP, hD, va_S.rf⟩
  have E : cE p c cL_trackScore s m ([.ref (ad o), .int a0, .ref ao] : List Value).toArray (Cond.codeWith yL_trackScore cL_trackScore 4 (some .int) [(0, 8, 11, 21), (0, 8, 14, 15)] :: wsA) D RL (CT cI cJ cZ cMic cSrc cSt cAI cAJ ++ [(cD, .double)]) := ⟨hx, hb, hts, hown, hK⟩
  have hl := lv_entry ([.ref (ad o), .int a0, .ref ao]) (n := 4) (Nat.le_of_ble_eq_true rfl)
  rw [lg_entry_eq]
  generalize (lg_sl ([.ref (ad o), .int a0, .ref ao]) ++ List.replicate (4 - (lg_sl ([.ref (ad o), .int a0, .ref ao])).length) Slot.unset).toArray = ls at hl ⊢
  have hl : lv_has ls 4 [(0, .ref (ad o)), (1, .int a0), (2, .ref ao)] := hl
  refine lv_aload_n hx hb dL_trackScore_0 rfl (lv_at hl 2 rfl) ?_
  refine lv_iconst (v := 0) hx hb dL_trackScore_1 (by decide) ?_
  refine lv_aload_n hx hb dL_trackScore_2 rfl (lv_at hl 0 rfl) ?_
  refine lv_iload_n hx hb dL_trackScore_3 rfl (lv_at hl 1 rfl) ?_
  refine t_avl (As := [.int a0]) (rest := [.int 0, .ref ao]) E G hA hX hX.2.2.2.1 hml (a_X11_trackScore l hst D cI cJ cZ cMic cSrc cSt cAI cAJ ad T o a0 h hrc h_o) (cwV 1 hts (gaV qA_1069 qA_1070 qA_1071 qA_131 qA_863) rfl rfl rfl (by decide +kernel) ⟨Nat.le_of_ble_eq_true rfl, Nat.le_of_ble_eq_true rfl⟩) h_o (cc_o11 h_s) rfl rfl hl.1 rfl (lv_room (Nat.le_of_ble_eq_true rfl)) dL_trackScore_4 ⟨by show 0 + (T1.1 - T.1) ≤ T1.1 - T.1 + 1; omega, by show 0 + (sg T1 - sg T) ≤ sg T1 - sg T + 6; omega⟩ ?_
  intro ad2 H locs had G
  refine t_last E G dL_trackScore_7 (fun H locs G => ?_)
  refine lv_goto (tgt := 17) hx hb dL_trackScore_8 (by decide) ?_
  refine lv_iconst (v := 0) hx hb dL_trackScore_17 (by decide) ?_
  refine W.widen (k := T1.1 - T.1 + 1) (n := sg T1 - sg T + 6) (by omega) (by omega) ?_
  exact W.iret (v := 0) hx hb hr (fun t ht hW => ⟨⟨0, ad2, rfl, ⟨rfl, had⟩, ⟨by rw [ht]; exact G.1, va_K.moved hW.alike hK, G.2.1⟩⟩, G.2.2.F ht⟩) G.2.2.2.2 dL_trackScore_18
set_option maxHeartbeats 4000000 in
set_option maxRecDepth 100000 in
theorem v_trackScore_t (l : Launch) (hst : l.stackTraces = false) (D : va_G) {cI cJ cZ cMic cSrc cSt cAI cAJ cD : ClassId} (h0 : Nat) (ad : Nat → Nat) (T : AT) (o : Nat) (a0 : Int32) (ao : Nat) (f : Nat → Int64) {e1 : Nat} {r1 : Int64} {T1 : AT} (h : g_X11_trackScore T o a0 = some (e1 + 1, r1, T1)) (hrc : RC T) (h_o : o < T.1) (h_s : T.2.1 o = (11, 0)) : tWi l yL_trackScore (Cond.codeWith yL_trackScore cL_trackScore 4 (some .int) [(0, 8, 11, 21), (0, 8, 14, 15)] :: wsA) 8 180 cI cJ cZ cMic cSrc cSt cAI cAJ cD D h0 ad T (oJ ao cJ f) [.ref (ad o), .int a0, .ref ao] (vck 1 0 2 (e1 + 1)) T1 (oJ ao cJ (vfJ (e1 + 1) f r1)) := by
  intro sz
  refine va_MetW (cc := cL_trackScore) (maxL := 4) (ret := some .int) (by decide) rfl ?_
  intro p e s m args below meth c s₁ B hml hv
  obtain ⟨rfl, hsz, hP, hK, hD0, hX, hN, hA0, hTS⟩ := hv
  have hx := B.exec
  have hb := B.bytes
  have hr := B.returns
  have hts := atoms_spec (ws := (Cond.codeWith yL_trackScore cL_trackScore 4 (some .int) [(0, 8, 11, 21), (0, 8, 14, 15)] :: wsA)) B.pre
  have hown : s.vm.findClass RL = some m.cls := findClass_of_methodNamed B.named
  have hlocks := B.notSynchronized
  have htb := vx_table (x := yL_trackScore) B (hts _ (.head _))
  subst hsz
  have hD := hD0.self (sz := s.heap.size)
  generalize hAe : va_A (cW ad T.1 (cc cI cJ cZ cMic cSrc cSt cAI cAJ ad T) ++ [oJ ao cJ f]) s.heap.size = A at hD hX hA0 ⊢
  have hA : ∀ q : Nat, s.heap.size ≤ q → A q := fun q h => by rw [← hAe]; exact Or.inr h
  have G : gL cI cJ cZ cMic cSrc cSt cAI cAJ D ad A s.heap s.heap [] T [oJ ao cJ f] := ⟨hP, hD, va_S.rf⟩
  have E : cE p c cL_trackScore s m ([.ref (ad o), .int a0, .ref ao] : List Value).toArray (Cond.codeWith yL_trackScore cL_trackScore 4 (some .int) [(0, 8, 11, 21), (0, 8, 14, 15)] :: wsA) D RL (CT cI cJ cZ cMic cSrc cSt cAI cAJ ++ [(cD, .double)]) := ⟨hx, hb, hts, hown, hK⟩
  have hl := lv_entry ([.ref (ad o), .int a0, .ref ao]) (n := 4) (Nat.le_of_ble_eq_true rfl)
  rw [lg_entry_eq]
  generalize (lg_sl ([.ref (ad o), .int a0, .ref ao]) ++ List.replicate (4 - (lg_sl ([.ref (ad o), .int a0, .ref ao])).length) Slot.unset).toArray = ls at hl ⊢
  have hl : lv_has ls 4 [(0, .ref (ad o)), (1, .int a0), (2, .ref ao)] := hl
  refine lv_aload_n hx hb dL_trackScore_0 rfl (lv_at hl 2 rfl) ?_
  refine lv_iconst (v := 0) hx hb dL_trackScore_1 (by decide) ?_
  refine lv_aload_n hx hb dL_trackScore_2 rfl (lv_at hl 0 rfl) ?_
  refine lv_iload_n hx hb dL_trackScore_3 rfl (lv_at hl 1 rfl) ?_
  refine t_bvl (As := [.int a0]) (rest := [.int 0, .ref ao]) E G hA hX hX.2.2.2.1 hml (b_X11_trackScore l hst D cI cJ cZ cMic cSrc cSt cAI cAJ ad T o a0 h hrc h_o) (cwV 1 hts (gaV qA_1069 qA_1070 qA_1071 qA_131 qA_863) rfl rfl rfl (by decide +kernel) ⟨Nat.le_of_ble_eq_true rfl, Nat.le_of_ble_eq_true rfl⟩) h_o (cc_o11 h_s) rfl rfl hl.1 rfl (lv_room (Nat.le_of_ble_eq_true rfl)) dL_trackScore_4 ⟨by show 0 + (T1.1 - T.1 + 1) ≤ T1.1 - T.1 + 1; omega, by show 0 + (sg T1 - sg T + 6) ≤ sg T1 - sg T + 6; omega⟩ ?_
  intro E9 ce q9 ad2 H locs hE had G hce hcv hcl
  rcases e1 with _ | _ | e1
  · have hE : E9 = xISE := hE
    subst hE
    refine vx_catch (name := xISE) hown [] { startPc := 0, endPc := 8, handlerPc := 11, catchType := 21 } [{ startPc := 0, endPc := 8, handlerPc := 14, catchType := 15 }] htb (fun z hz => absurd hz List.not_mem_nil) (by decide) (by decide) (hts _ (.tail _ qA_952)) (hX.use (.castable xISE xISE) (by decide +kernel)) hce hcv hcl ?_
    refine lv_astore_n (lv' := [(3, .ref q9), (0, .ref (ad o)), (1, .int a0), (2, .ref ao)]) hx hb dL_trackScore_11 rfl hl (by decide) rfl (fun ls hl => ?_)
    refine lv_iconst (v := 1) hx hb dL_trackScore_12 (by decide) ?_
    refine W.widen (k := T1.1 - T.1 + 1) (n := sg T1 - sg T + 6) (by omega) (by omega) ?_
    exact W.iret (v := 1) hx hb hr (fun t ht hW => ⟨⟨1, ad2, rfl, ⟨rfl, had⟩, ⟨by rw [ht]; exact G.1, va_K.moved hW.alike hK, G.2.1⟩⟩, G.2.2.F ht⟩) G.2.2.2.2 dL_trackScore_13
  · exact absurd (cd_g_X11_trackScore (S := [0, 1, 3]) (fun _ h => h) T o a0 _ _ _ h) (by decide)
  · have hE : E9 = xIAE := hE
    subst hE
    refine vx_catch (name := xIAE) hown [{ startPc := 0, endPc := 8, handlerPc := 11, catchType := 21 }] { startPc := 0, endPc := 8, handlerPc := 14, catchType := 15 } [] htb (List.forall_mem_cons.mpr ⟨Or.inr ⟨by decide, xISE, hts _ (.tail _ qA_952), hN.2.2.2⟩, fun z hz => absurd hz List.not_mem_nil⟩) (by decide) (by decide) (hts _ (.tail _ qA_947)) (hX.use (.castable xIAE xIAE) (by decide +kernel)) hce hcv hcl ?_
    refine lv_astore_n (lv' := [(3, .ref q9), (0, .ref (ad o)), (1, .int a0), (2, .ref ao)]) hx hb dL_trackScore_14 rfl hl (by decide) rfl (fun ls hl => ?_)
    refine lv_iconst (v := 2) hx hb dL_trackScore_15 (by decide) ?_
    refine W.widen (k := T1.1 - T.1 + 1) (n := sg T1 - sg T + 6) (by omega) (by omega) ?_
    exact W.iret (v := 2) hx hb hr (fun t ht hW => ⟨⟨2, ad2, rfl, ⟨rfl, had⟩, ⟨by rw [ht]; exact G.1, va_K.moved hW.alike hK, G.2.1⟩⟩, G.2.2.F ht⟩) G.2.2.2.2 dL_trackScore_16
theorem v_trackScore (l : Launch) (hst : l.stackTraces = false) (D : va_G) {cI cJ cZ cMic cSrc cSt cAI cAJ cD : ClassId} (h0 : Nat) (ad : Nat → Nat) (T : AT) (o : Nat) (a0 : Int32) (ao : Nat) (f : Nat → Int64) {k1 : Nat} {r1 : Int64} {T1 : AT} (h : g_X11_trackScore T o a0 = some (k1, r1, T1)) (hrc : RC T) (h_o : o < T.1) (h_s : T.2.1 o = (11, 0)) : tWi l yL_trackScore (Cond.codeWith yL_trackScore cL_trackScore 4 (some .int) [(0, 8, 11, 21), (0, 8, 14, 15)] :: wsA) 8 180 cI cJ cZ cMic cSrc cSt cAI cAJ cD D h0 ad T (oJ ao cJ f) [.ref (ad o), .int a0, .ref ao] (vck 1 0 2 k1) T1 (oJ ao cJ (vfJ k1 f r1)) := by
  cases k1 with
  | zero => exact v_trackScore_n l hst D h0 ad T o a0 ao f h hrc h_o h_s
  | succ e1 => exact v_trackScore_t l hst D h0 ad T o a0 ao f h hrc h_o h_s
set_option maxHeartbeats 4000000 in
set_option maxRecDepth 100000 in
theorem v_trackCell_n (l : Launch) (hst : l.stackTraces = false) (D : va_G) {cI cJ cZ cMic cSrc cSt cAI cAJ cD : ClassId} (h0 : Nat) (ad : Nat → Nat) (T : AT) (o : Nat) (a0 a1 : Int32) (ao : Nat) (f : Nat → Int64) {r1 : Int32} {T1 : AT} (h : g_X11_trackCell T o a0 a1 = some (0, r1, T1)) (hrc : RC T) (h_o : o < T.1) (h_s : T.2.1 o = (11, 0)) : tWi l yL_trackCell (Cond.codeWith yL_trackCell cL_trackCell 5 (some .int) [(0, 10, 13, 21), (0, 10, 17, 13), (0, 10, 21, 15)] :: wsA) 8 182 cI cJ cZ cMic cSrc cSt cAI cAJ cD D h0 ad T (oJ ao cJ f) [.ref (ad o), .int a0, .int a1, .ref ao] (vck 1 2 3 (0)) T1 (oJ ao cJ (vfJ (0) f r1.toInt64)) := by
  intro sz
  refine va_MetW (cc := cL_trackCell) (maxL := 5) (ret := some .int) (by decide) rfl ?_
  intro p e s m args below meth c s₁ B hml hv
  obtain ⟨rfl, hsz, hP, hK, hD0, hX, hN, hA0, hTS⟩ := hv
  have hx := B.exec
  have hb := B.bytes
  have hr := B.returns
  have hts := atoms_spec (ws := (Cond.codeWith yL_trackCell cL_trackCell 5 (some .int) [(0, 10, 13, 21), (0, 10, 17, 13), (0, 10, 21, 15)] :: wsA)) B.pre
  have hown : s.vm.findClass RL = some m.cls := findClass_of_methodNamed B.named
  have hlocks := B.notSynchronized
  have htb := vx_table (x := yL_trackCell) B (hts _ (.head _))
  subst hsz
  have hD := hD0.self (sz := s.heap.size)
  generalize hAe : va_A (cW ad T.1 (cc cI cJ cZ cMic cSrc cSt cAI cAJ ad T) ++ [oJ ao cJ f]) s.heap.size = A at hD hX hA0 ⊢
  have hA : ∀ q : Nat, s.heap.size ≤ q → A q := fun q h => by rw [← hAe]; exact Or.inr h
  have G : gL cI cJ cZ cMic cSrc cSt cAI cAJ D ad A s.heap s.heap [] T [oJ ao cJ f] := ⟨hP, hD, va_S.rf⟩
  have E : cE p c cL_trackCell s m ([.ref (ad o), .int a0, .int a1, .ref ao] : List Value).toArray (Cond.codeWith yL_trackCell cL_trackCell 5 (some .int) [(0, 10, 13, 21), (0, 10, 17, 13), (0, 10, 21, 15)] :: wsA) D RL (CT cI cJ cZ cMic cSrc cSt cAI cAJ ++ [(cD, .double)]) := ⟨hx, hb, hts, hown, hK⟩
  have hl := lv_entry ([.ref (ad o), .int a0, .int a1, .ref ao]) (n := 5) (Nat.le_of_ble_eq_true rfl)
  rw [lg_entry_eq]
  generalize (lg_sl ([.ref (ad o), .int a0, .int a1, .ref ao]) ++ List.replicate (5 - (lg_sl ([.ref (ad o), .int a0, .int a1, .ref ao])).length) Slot.unset).toArray = ls at hl ⊢
  have hl : lv_has ls 5 [(0, .ref (ad o)), (1, .int a0), (2, .int a1), (3, .ref ao)] := hl
  refine lv_aload_n hx hb dL_trackCell_0 rfl (lv_at hl 3 rfl) ?_
  refine lv_iconst (v := 0) hx hb dL_trackCell_1 (by decide) ?_
  refine lv_aload_n hx hb dL_trackCell_2 rfl (lv_at hl 0 rfl) ?_
  refine lv_iload_n hx hb dL_trackCell_3 rfl (lv_at hl 1 rfl) ?_
  refine lv_iload_n hx hb dL_trackCell_4 rfl (lv_at hl 2 rfl) ?_
  refine t_avi (As := [.int a0, .int a1]) (rest := [.int 0, .ref ao]) E G hA hX hX.2.2.2.1 hml (a_X11_trackCell l hst D cI cJ cZ cMic cSrc cSt cAI cAJ ad T o a0 a1 h hrc h_o) (cwV 2 hts (gaV qA_1073 qA_1074 qA_1075 qA_131 qA_871) rfl rfl rfl (by decide +kernel) ⟨Nat.le_of_ble_eq_true rfl, Nat.le_of_ble_eq_true rfl⟩) h_o (cc_o11 h_s) rfl rfl hl.1 rfl (lv_room (Nat.le_of_ble_eq_true rfl)) dL_trackCell_5 ⟨by show 0 + (T1.1 - T.1) ≤ T1.1 - T.1 + 1; omega, by show 0 + (sg T1 - sg T) ≤ sg T1 - sg T + 6; omega⟩ ?_
  intro ad2 H locs had G
  refine lv_i2l (v := r1.toInt64) hx hb dL_trackCell_8 rfl ?_
  refine t_last E G dL_trackCell_9 (fun H locs G => ?_)
  refine lv_goto (tgt := 25) hx hb dL_trackCell_10 (by decide) ?_
  refine lv_iconst (v := 0) hx hb dL_trackCell_25 (by decide) ?_
  refine W.widen (k := T1.1 - T.1 + 1) (n := sg T1 - sg T + 6) (by omega) (by omega) ?_
  exact W.iret (v := 0) hx hb hr (fun t ht hW => ⟨⟨0, ad2, rfl, ⟨rfl, had⟩, ⟨by rw [ht]; exact G.1, va_K.moved hW.alike hK, G.2.1⟩⟩, G.2.2.F ht⟩) G.2.2.2.2 dL_trackCell_26
set_option maxHeartbeats 4000000 in
set_option maxRecDepth 100000 in
theorem v_trackCell_t (l : Launch) (hst : l.stackTraces = false) (D : va_G) {cI cJ cZ cMic cSrc cSt cAI cAJ cD : ClassId} (h0 : Nat) (ad : Nat → Nat) (T : AT) (o : Nat) (a0 a1 : Int32) (ao : Nat) (f : Nat → Int64) {e1 : Nat} {r1 : Int32} {T1 : AT} (h : g_X11_trackCell T o a0 a1 = some (e1 + 1, r1, T1)) (hrc : RC T) (h_o : o < T.1) (h_s : T.2.1 o = (11, 0)) : tWi l yL_trackCell (Cond.codeWith yL_trackCell cL_trackCell 5 (some .int) [(0, 10, 13, 21), (0, 10, 17, 13), (0, 10, 21, 15)] :: wsA) 8 182 cI cJ cZ cMic cSrc cSt cAI cAJ cD D h0 ad T (oJ ao cJ f) [.ref (ad o), .int a0, .int a1, .ref ao] (vck 1 2 3 (e1 + 1)) T1 (oJ ao cJ (vfJ (e1 + 1) f r1.toInt64)) := by
  intro sz
  refine va_MetW (cc := cL_trackCell) (maxL := 5) (ret := some .int) (by decide) rfl ?_
  intro p e s m args below meth c s₁ B hml hv
  obtain ⟨rfl, hsz, hP, hK, hD0, hX, hN, hA0, hTS⟩ := hv
  have hx := B.exec
  have hb := B.bytes
  have hr := B.returns
  have hts := atoms_spec (ws := (Cond.codeWith yL_trackCell cL_trackCell 5 (some .int) [(0, 10, 13, 21), (0, 10, 17, 13), (0, 10, 21, 15)] :: wsA)) B.pre
  have hown : s.vm.findClass RL = some m.cls := findClass_of_methodNamed B.named
  have hlocks := B.notSynchronized
  have htb := vx_table (x := yL_trackCell) B (hts _ (.head _))
  subst hsz
  have hD := hD0.self (sz := s.heap.size)
  generalize hAe : va_A (cW ad T.1 (cc cI cJ cZ cMic cSrc cSt cAI cAJ ad T) ++ [oJ ao cJ f]) s.heap.size = A at hD hX hA0 ⊢
  have hA : ∀ q : Nat, s.heap.size ≤ q → A q := fun q h => by rw [← hAe]; exact Or.inr h
  have G : gL cI cJ cZ cMic cSrc cSt cAI cAJ D ad A s.heap s.heap [] T [oJ ao cJ f] := ⟨hP, hD, va_S.rf⟩
  have E : cE p c cL_trackCell s m ([.ref (ad o), .int a0, .int a1, .ref ao] : List Value).toArray (Cond.codeWith yL_trackCell cL_trackCell 5 (some .int) [(0, 10, 13, 21), (0, 10, 17, 13), (0, 10, 21, 15)] :: wsA) D RL (CT cI cJ cZ cMic cSrc cSt cAI cAJ ++ [(cD, .double)]) := ⟨hx, hb, hts, hown, hK⟩
  have hl := lv_entry ([.ref (ad o), .int a0, .int a1, .ref ao]) (n := 5) (Nat.le_of_ble_eq_true rfl)
  rw [lg_entry_eq]
  generalize (lg_sl ([.ref (ad o), .int a0, .int a1, .ref ao]) ++ List.replicate (5 - (lg_sl ([.ref (ad o), .int a0, .int a1, .ref ao])).length) Slot.unset).toArray = ls at hl ⊢
  have hl : lv_has ls 5 [(0, .ref (ad o)), (1, .int a0), (2, .int a1), (3, .ref ao)] := hl
  refine lv_aload_n hx hb dL_trackCell_0 rfl (lv_at hl 3 rfl) ?_
  refine lv_iconst (v := 0) hx hb dL_trackCell_1 (by decide) ?_
  refine lv_aload_n hx hb dL_trackCell_2 rfl (lv_at hl 0 rfl) ?_
  refine lv_iload_n hx hb dL_trackCell_3 rfl (lv_at hl 1 rfl) ?_
  refine lv_iload_n hx hb dL_trackCell_4 rfl (lv_at hl 2 rfl) ?_
  refine t_bvi (As := [.int a0, .int a1]) (rest := [.int 0, .ref ao]) E G hA hX hX.2.2.2.1 hml (b_X11_trackCell l hst D cI cJ cZ cMic cSrc cSt cAI cAJ ad T o a0 a1 h hrc h_o) (cwV 2 hts (gaV qA_1073 qA_1074 qA_1075 qA_131 qA_871) rfl rfl rfl (by decide +kernel) ⟨Nat.le_of_ble_eq_true rfl, Nat.le_of_ble_eq_true rfl⟩) h_o (cc_o11 h_s) rfl rfl hl.1 rfl (lv_room (Nat.le_of_ble_eq_true rfl)) dL_trackCell_5 ⟨by show 0 + (T1.1 - T.1 + 1) ≤ T1.1 - T.1 + 1; omega, by show 0 + (sg T1 - sg T + 6) ≤ sg T1 - sg T + 6; omega⟩ ?_
  intro E9 ce q9 ad2 H locs hE had G hce hcv hcl
  rcases e1 with _ | _ | e1
  · have hE : E9 = xISE := hE
    subst hE
    refine vx_catch (name := xISE) hown [] { startPc := 0, endPc := 10, handlerPc := 13, catchType := 21 } [{ startPc := 0, endPc := 10, handlerPc := 17, catchType := 13 }, { startPc := 0, endPc := 10, handlerPc := 21, catchType := 15 }] htb (fun z hz => absurd hz List.not_mem_nil) (by decide) (by decide) (hts _ (.tail _ qA_952)) (hX.use (.castable xISE xISE) (by decide +kernel)) hce hcv hcl ?_
    refine lv_astore (lv' := [(4, .ref q9), (0, .ref (ad o)), (1, .int a0), (2, .int a1), (3, .ref ao)]) hx hb dL_trackCell_13 hl (by decide) rfl (fun ls hl => ?_)
    refine lv_iconst (v := 1) hx hb dL_trackCell_15 (by decide) ?_
    refine W.widen (k := T1.1 - T.1 + 1) (n := sg T1 - sg T + 6) (by omega) (by omega) ?_
    exact W.iret (v := 1) hx hb hr (fun t ht hW => ⟨⟨1, ad2, rfl, ⟨rfl, had⟩, ⟨by rw [ht]; exact G.1, va_K.moved hW.alike hK, G.2.1⟩⟩, G.2.2.F ht⟩) G.2.2.2.2 dL_trackCell_16
  · have hE : E9 = xIOB := hE
    subst hE
    refine vx_catch (name := xIOB) hown [{ startPc := 0, endPc := 10, handlerPc := 13, catchType := 21 }] { startPc := 0, endPc := 10, handlerPc := 17, catchType := 13 } [{ startPc := 0, endPc := 10, handlerPc := 21, catchType := 15 }] htb (List.forall_mem_cons.mpr ⟨Or.inr ⟨by decide, xISE, hts _ (.tail _ qA_952), hN.2.2.1⟩, fun z hz => absurd hz List.not_mem_nil⟩) (by decide) (by decide) (hts _ (.tail _ qA_946)) (hX.use (.castable xIOB xIOB) (by decide +kernel)) hce hcv hcl ?_
    refine lv_astore (lv' := [(4, .ref q9), (0, .ref (ad o)), (1, .int a0), (2, .int a1), (3, .ref ao)]) hx hb dL_trackCell_17 hl (by decide) rfl (fun ls hl => ?_)
    refine lv_iconst (v := 2) hx hb dL_trackCell_19 (by decide) ?_
    refine W.widen (k := T1.1 - T.1 + 1) (n := sg T1 - sg T + 6) (by omega) (by omega) ?_
    exact W.iret (v := 2) hx hb hr (fun t ht hW => ⟨⟨2, ad2, rfl, ⟨rfl, had⟩, ⟨by rw [ht]; exact G.1, va_K.moved hW.alike hK, G.2.1⟩⟩, G.2.2.F ht⟩) G.2.2.2.2 dL_trackCell_20
  · have hE : E9 = xIAE := hE
    subst hE
    refine vx_catch (name := xIAE) hown [{ startPc := 0, endPc := 10, handlerPc := 13, catchType := 21 }, { startPc := 0, endPc := 10, handlerPc := 17, catchType := 13 }] { startPc := 0, endPc := 10, handlerPc := 21, catchType := 15 } [] htb (List.forall_mem_cons.mpr ⟨Or.inr ⟨by decide, xISE, hts _ (.tail _ qA_952), hN.2.2.2⟩, List.forall_mem_cons.mpr ⟨Or.inr ⟨by decide, xIOB, hts _ (.tail _ qA_946), hN.1⟩, fun z hz => absurd hz List.not_mem_nil⟩⟩) (by decide) (by decide) (hts _ (.tail _ qA_947)) (hX.use (.castable xIAE xIAE) (by decide +kernel)) hce hcv hcl ?_
    refine lv_astore (lv' := [(4, .ref q9), (0, .ref (ad o)), (1, .int a0), (2, .int a1), (3, .ref ao)]) hx hb dL_trackCell_21 hl (by decide) rfl (fun ls hl => ?_)
    refine lv_iconst (v := 3) hx hb dL_trackCell_23 (by decide) ?_
    refine W.widen (k := T1.1 - T.1 + 1) (n := sg T1 - sg T + 6) (by omega) (by omega) ?_
    exact W.iret (v := 3) hx hb hr (fun t ht hW => ⟨⟨3, ad2, rfl, ⟨rfl, had⟩, ⟨by rw [ht]; exact G.1, va_K.moved hW.alike hK, G.2.1⟩⟩, G.2.2.F ht⟩) G.2.2.2.2 dL_trackCell_24
theorem v_trackCell (l : Launch) (hst : l.stackTraces = false) (D : va_G) {cI cJ cZ cMic cSrc cSt cAI cAJ cD : ClassId} (h0 : Nat) (ad : Nat → Nat) (T : AT) (o : Nat) (a0 a1 : Int32) (ao : Nat) (f : Nat → Int64) {k1 : Nat} {r1 : Int32} {T1 : AT} (h : g_X11_trackCell T o a0 a1 = some (k1, r1, T1)) (hrc : RC T) (h_o : o < T.1) (h_s : T.2.1 o = (11, 0)) : tWi l yL_trackCell (Cond.codeWith yL_trackCell cL_trackCell 5 (some .int) [(0, 10, 13, 21), (0, 10, 17, 13), (0, 10, 21, 15)] :: wsA) 8 182 cI cJ cZ cMic cSrc cSt cAI cAJ cD D h0 ad T (oJ ao cJ f) [.ref (ad o), .int a0, .int a1, .ref ao] (vck 1 2 3 k1) T1 (oJ ao cJ (vfJ k1 f r1.toInt64)) := by
  cases k1 with
  | zero => exact v_trackCell_n l hst D h0 ad T o a0 a1 ao f h hrc h_o h_s
  | succ e1 => exact v_trackCell_t l hst D h0 ad T o a0 a1 ao f h hrc h_o h_s
set_option maxHeartbeats 4000000 in
set_option maxRecDepth 100000 in
theorem v_movingPower_n (l : Launch) (hst : l.stackTraces = false) (D : va_G) {cI cJ cZ cMic cSrc cSt cAI cAJ cD : ClassId} (h0 : Nat) (ad : Nat → Nat) (T : AT) (o : Nat) (a0 a1 a2 : Int32) (ao : Nat) (f : Nat → Int64) {r1 : Int64} {T1 : AT} (h : g_X11_movingPower T o a0 a1 a2 = some (0, r1, T1)) (hrc : RC T) (h_o : o < T.1) (h_s : T.2.1 o = (11, 0)) : tWi l yL_movingPower (Cond.codeWith yL_movingPower cL_movingPower 6 (some .int) [(0, 11, 14, 21), (0, 11, 18, 13), (0, 11, 22, 15)] :: wsA) 9 146 cI cJ cZ cMic cSrc cSt cAI cAJ cD D h0 ad T (oJ ao cJ f) [.ref (ad o), .int a0, .int a1, .int a2, .ref ao] (vck 1 2 3 (0)) T1 (oJ ao cJ (vfJ (0) f r1)) := by
  intro sz
  refine va_MetW (cc := cL_movingPower) (maxL := 6) (ret := some .int) (by decide) rfl ?_
  intro p e s m args below meth c s₁ B hml hv
  obtain ⟨rfl, hsz, hP, hK, hD0, hX, hN, hA0, hTS⟩ := hv
  have hx := B.exec
  have hb := B.bytes
  have hr := B.returns
  have hts := atoms_spec (ws := (Cond.codeWith yL_movingPower cL_movingPower 6 (some .int) [(0, 11, 14, 21), (0, 11, 18, 13), (0, 11, 22, 15)] :: wsA)) B.pre
  have hown : s.vm.findClass RL = some m.cls := findClass_of_methodNamed B.named
  have hlocks := B.notSynchronized
  have htb := vx_table (x := yL_movingPower) B (hts _ (.head _))
  subst hsz
  have hD := hD0.self (sz := s.heap.size)
  generalize hAe : va_A (cW ad T.1 (cc cI cJ cZ cMic cSrc cSt cAI cAJ ad T) ++ [oJ ao cJ f]) s.heap.size = A at hD hX hA0 ⊢
  have hA : ∀ q : Nat, s.heap.size ≤ q → A q := fun q h => by rw [← hAe]; exact Or.inr h
  have G : gL cI cJ cZ cMic cSrc cSt cAI cAJ D ad A s.heap s.heap [] T [oJ ao cJ f] := ⟨hP, hD, va_S.rf⟩
  have E : cE p c cL_movingPower s m ([.ref (ad o), .int a0, .int a1, .int a2, .ref ao] : List Value).toArray (Cond.codeWith yL_movingPower cL_movingPower 6 (some .int) [(0, 11, 14, 21), (0, 11, 18, 13), (0, 11, 22, 15)] :: wsA) D RL (CT cI cJ cZ cMic cSrc cSt cAI cAJ ++ [(cD, .double)]) := ⟨hx, hb, hts, hown, hK⟩
  have hl := lv_entry ([.ref (ad o), .int a0, .int a1, .int a2, .ref ao]) (n := 6) (Nat.le_of_ble_eq_true rfl)
  rw [lg_entry_eq]
  generalize (lg_sl ([.ref (ad o), .int a0, .int a1, .int a2, .ref ao]) ++ List.replicate (6 - (lg_sl ([.ref (ad o), .int a0, .int a1, .int a2, .ref ao])).length) Slot.unset).toArray = ls at hl ⊢
  have hl : lv_has ls 6 [(0, .ref (ad o)), (1, .int a0), (2, .int a1), (3, .int a2), (4, .ref ao)] := hl
  refine lv_aload hx hb dL_movingPower_0 (lv_at hl 4 rfl) ?_
  refine lv_iconst (v := 0) hx hb dL_movingPower_2 (by decide) ?_
  refine lv_aload_n hx hb dL_movingPower_3 rfl (lv_at hl 0 rfl) ?_
  refine lv_iload_n hx hb dL_movingPower_4 rfl (lv_at hl 1 rfl) ?_
  refine lv_iload_n hx hb dL_movingPower_5 rfl (lv_at hl 2 rfl) ?_
  refine lv_iload_n hx hb dL_movingPower_6 rfl (lv_at hl 3 rfl) ?_
  refine t_avl (As := [.int a0, .int a1, .int a2]) (rest := [.int 0, .ref ao]) E G hA hX hX.2.2.2.1 hml (a_X11_movingPower l hst D cI cJ cZ cMic cSrc cSt cAI cAJ ad T o a0 a1 a2 h hrc h_o) (cwV 3 hts (gaV qA_1077 qA_1078 qA_1079 qA_131 qA_873) rfl rfl rfl (by decide +kernel) ⟨Nat.le_of_ble_eq_true rfl, Nat.le_of_ble_eq_true rfl⟩) h_o (cc_o11 h_s) rfl rfl hl.1 rfl (lv_room (Nat.le_of_ble_eq_true rfl)) dL_movingPower_7 ⟨by show 0 + (T1.1 - T.1) ≤ T1.1 - T.1 + 1; omega, by show 0 + (sg T1 - sg T) ≤ sg T1 - sg T + 6; omega⟩ ?_
  intro ad2 H locs had G
  refine t_last E G dL_movingPower_10 (fun H locs G => ?_)
  refine lv_goto (tgt := 26) hx hb dL_movingPower_11 (by decide) ?_
  refine lv_iconst (v := 0) hx hb dL_movingPower_26 (by decide) ?_
  refine W.widen (k := T1.1 - T.1 + 1) (n := sg T1 - sg T + 6) (by omega) (by omega) ?_
  exact W.iret (v := 0) hx hb hr (fun t ht hW => ⟨⟨0, ad2, rfl, ⟨rfl, had⟩, ⟨by rw [ht]; exact G.1, va_K.moved hW.alike hK, G.2.1⟩⟩, G.2.2.F ht⟩) G.2.2.2.2 dL_movingPower_27
set_option maxHeartbeats 4000000 in
set_option maxRecDepth 100000 in
theorem v_movingPower_t (l : Launch) (hst : l.stackTraces = false) (D : va_G) {cI cJ cZ cMic cSrc cSt cAI cAJ cD : ClassId} (h0 : Nat) (ad : Nat → Nat) (T : AT) (o : Nat) (a0 a1 a2 : Int32) (ao : Nat) (f : Nat → Int64) {e1 : Nat} {r1 : Int64} {T1 : AT} (h : g_X11_movingPower T o a0 a1 a2 = some (e1 + 1, r1, T1)) (hrc : RC T) (h_o : o < T.1) (h_s : T.2.1 o = (11, 0)) : tWi l yL_movingPower (Cond.codeWith yL_movingPower cL_movingPower 6 (some .int) [(0, 11, 14, 21), (0, 11, 18, 13), (0, 11, 22, 15)] :: wsA) 9 146 cI cJ cZ cMic cSrc cSt cAI cAJ cD D h0 ad T (oJ ao cJ f) [.ref (ad o), .int a0, .int a1, .int a2, .ref ao] (vck 1 2 3 (e1 + 1)) T1 (oJ ao cJ (vfJ (e1 + 1) f r1)) := by
  intro sz
  refine va_MetW (cc := cL_movingPower) (maxL := 6) (ret := some .int) (by decide) rfl ?_
  intro p e s m args below meth c s₁ B hml hv
  obtain ⟨rfl, hsz, hP, hK, hD0, hX, hN, hA0, hTS⟩ := hv
  have hx := B.exec
  have hb := B.bytes
  have hr := B.returns
  have hts := atoms_spec (ws := (Cond.codeWith yL_movingPower cL_movingPower 6 (some .int) [(0, 11, 14, 21), (0, 11, 18, 13), (0, 11, 22, 15)] :: wsA)) B.pre
  have hown : s.vm.findClass RL = some m.cls := findClass_of_methodNamed B.named
  have hlocks := B.notSynchronized
  have htb := vx_table (x := yL_movingPower) B (hts _ (.head _))
  subst hsz
  have hD := hD0.self (sz := s.heap.size)
  generalize hAe : va_A (cW ad T.1 (cc cI cJ cZ cMic cSrc cSt cAI cAJ ad T) ++ [oJ ao cJ f]) s.heap.size = A at hD hX hA0 ⊢
  have hA : ∀ q : Nat, s.heap.size ≤ q → A q := fun q h => by rw [← hAe]; exact Or.inr h
  have G : gL cI cJ cZ cMic cSrc cSt cAI cAJ D ad A s.heap s.heap [] T [oJ ao cJ f] := ⟨hP, hD, va_S.rf⟩
  have E : cE p c cL_movingPower s m ([.ref (ad o), .int a0, .int a1, .int a2, .ref ao] : List Value).toArray (Cond.codeWith yL_movingPower cL_movingPower 6 (some .int) [(0, 11, 14, 21), (0, 11, 18, 13), (0, 11, 22, 15)] :: wsA) D RL (CT cI cJ cZ cMic cSrc cSt cAI cAJ ++ [(cD, .double)]) := ⟨hx, hb, hts, hown, hK⟩
  have hl := lv_entry ([.ref (ad o), .int a0, .int a1, .int a2, .ref ao]) (n := 6) (Nat.le_of_ble_eq_true rfl)
  rw [lg_entry_eq]
  generalize (lg_sl ([.ref (ad o), .int a0, .int a1, .int a2, .ref ao]) ++ List.replicate (6 - (lg_sl ([.ref (ad o), .int a0, .int a1, .int a2, .ref ao])).length) Slot.unset).toArray = ls at hl ⊢
  have hl : lv_has ls 6 [(0, .ref (ad o)), (1, .int a0), (2, .int a1), (3, .int a2), (4, .ref ao)] := hl
  refine lv_aload hx hb dL_movingPower_0 (lv_at hl 4 rfl) ?_
  refine lv_iconst (v := 0) hx hb dL_movingPower_2 (by decide) ?_
  refine lv_aload_n hx hb dL_movingPower_3 rfl (lv_at hl 0 rfl) ?_
  refine lv_iload_n hx hb dL_movingPower_4 rfl (lv_at hl 1 rfl) ?_
  refine lv_iload_n hx hb dL_movingPower_5 rfl (lv_at hl 2 rfl) ?_
  refine lv_iload_n hx hb dL_movingPower_6 rfl (lv_at hl 3 rfl) ?_
  refine t_bvl (As := [.int a0, .int a1, .int a2]) (rest := [.int 0, .ref ao]) E G hA hX hX.2.2.2.1 hml (b_X11_movingPower l hst D cI cJ cZ cMic cSrc cSt cAI cAJ ad T o a0 a1 a2 h hrc h_o) (cwV 3 hts (gaV qA_1077 qA_1078 qA_1079 qA_131 qA_873) rfl rfl rfl (by decide +kernel) ⟨Nat.le_of_ble_eq_true rfl, Nat.le_of_ble_eq_true rfl⟩) h_o (cc_o11 h_s) rfl rfl hl.1 rfl (lv_room (Nat.le_of_ble_eq_true rfl)) dL_movingPower_7 ⟨by show 0 + (T1.1 - T.1 + 1) ≤ T1.1 - T.1 + 1; omega, by show 0 + (sg T1 - sg T + 6) ≤ sg T1 - sg T + 6; omega⟩ ?_
  intro E9 ce q9 ad2 H locs hE had G hce hcv hcl
  rcases e1 with _ | _ | e1
  · have hE : E9 = xISE := hE
    subst hE
    refine vx_catch (name := xISE) hown [] { startPc := 0, endPc := 11, handlerPc := 14, catchType := 21 } [{ startPc := 0, endPc := 11, handlerPc := 18, catchType := 13 }, { startPc := 0, endPc := 11, handlerPc := 22, catchType := 15 }] htb (fun z hz => absurd hz List.not_mem_nil) (by decide) (by decide) (hts _ (.tail _ qA_952)) (hX.use (.castable xISE xISE) (by decide +kernel)) hce hcv hcl ?_
    refine lv_astore (lv' := [(5, .ref q9), (0, .ref (ad o)), (1, .int a0), (2, .int a1), (3, .int a2), (4, .ref ao)]) hx hb dL_movingPower_14 hl (by decide) rfl (fun ls hl => ?_)
    refine lv_iconst (v := 1) hx hb dL_movingPower_16 (by decide) ?_
    refine W.widen (k := T1.1 - T.1 + 1) (n := sg T1 - sg T + 6) (by omega) (by omega) ?_
    exact W.iret (v := 1) hx hb hr (fun t ht hW => ⟨⟨1, ad2, rfl, ⟨rfl, had⟩, ⟨by rw [ht]; exact G.1, va_K.moved hW.alike hK, G.2.1⟩⟩, G.2.2.F ht⟩) G.2.2.2.2 dL_movingPower_17
  · have hE : E9 = xIOB := hE
    subst hE
    refine vx_catch (name := xIOB) hown [{ startPc := 0, endPc := 11, handlerPc := 14, catchType := 21 }] { startPc := 0, endPc := 11, handlerPc := 18, catchType := 13 } [{ startPc := 0, endPc := 11, handlerPc := 22, catchType := 15 }] htb (List.forall_mem_cons.mpr ⟨Or.inr ⟨by decide, xISE, hts _ (.tail _ qA_952), hN.2.2.1⟩, fun z hz => absurd hz List.not_mem_nil⟩) (by decide) (by decide) (hts _ (.tail _ qA_946)) (hX.use (.castable xIOB xIOB) (by decide +kernel)) hce hcv hcl ?_
    refine lv_astore (lv' := [(5, .ref q9), (0, .ref (ad o)), (1, .int a0), (2, .int a1), (3, .int a2), (4, .ref ao)]) hx hb dL_movingPower_18 hl (by decide) rfl (fun ls hl => ?_)
    refine lv_iconst (v := 2) hx hb dL_movingPower_20 (by decide) ?_
    refine W.widen (k := T1.1 - T.1 + 1) (n := sg T1 - sg T + 6) (by omega) (by omega) ?_
    exact W.iret (v := 2) hx hb hr (fun t ht hW => ⟨⟨2, ad2, rfl, ⟨rfl, had⟩, ⟨by rw [ht]; exact G.1, va_K.moved hW.alike hK, G.2.1⟩⟩, G.2.2.F ht⟩) G.2.2.2.2 dL_movingPower_21
  · have hE : E9 = xIAE := hE
    subst hE
    refine vx_catch (name := xIAE) hown [{ startPc := 0, endPc := 11, handlerPc := 14, catchType := 21 }, { startPc := 0, endPc := 11, handlerPc := 18, catchType := 13 }] { startPc := 0, endPc := 11, handlerPc := 22, catchType := 15 } [] htb (List.forall_mem_cons.mpr ⟨Or.inr ⟨by decide, xISE, hts _ (.tail _ qA_952), hN.2.2.2⟩, List.forall_mem_cons.mpr ⟨Or.inr ⟨by decide, xIOB, hts _ (.tail _ qA_946), hN.1⟩, fun z hz => absurd hz List.not_mem_nil⟩⟩) (by decide) (by decide) (hts _ (.tail _ qA_947)) (hX.use (.castable xIAE xIAE) (by decide +kernel)) hce hcv hcl ?_
    refine lv_astore (lv' := [(5, .ref q9), (0, .ref (ad o)), (1, .int a0), (2, .int a1), (3, .int a2), (4, .ref ao)]) hx hb dL_movingPower_22 hl (by decide) rfl (fun ls hl => ?_)
    refine lv_iconst (v := 3) hx hb dL_movingPower_24 (by decide) ?_
    refine W.widen (k := T1.1 - T.1 + 1) (n := sg T1 - sg T + 6) (by omega) (by omega) ?_
    exact W.iret (v := 3) hx hb hr (fun t ht hW => ⟨⟨3, ad2, rfl, ⟨rfl, had⟩, ⟨by rw [ht]; exact G.1, va_K.moved hW.alike hK, G.2.1⟩⟩, G.2.2.F ht⟩) G.2.2.2.2 dL_movingPower_25
theorem v_movingPower (l : Launch) (hst : l.stackTraces = false) (D : va_G) {cI cJ cZ cMic cSrc cSt cAI cAJ cD : ClassId} (h0 : Nat) (ad : Nat → Nat) (T : AT) (o : Nat) (a0 a1 a2 : Int32) (ao : Nat) (f : Nat → Int64) {k1 : Nat} {r1 : Int64} {T1 : AT} (h : g_X11_movingPower T o a0 a1 a2 = some (k1, r1, T1)) (hrc : RC T) (h_o : o < T.1) (h_s : T.2.1 o = (11, 0)) : tWi l yL_movingPower (Cond.codeWith yL_movingPower cL_movingPower 6 (some .int) [(0, 11, 14, 21), (0, 11, 18, 13), (0, 11, 22, 15)] :: wsA) 9 146 cI cJ cZ cMic cSrc cSt cAI cAJ cD D h0 ad T (oJ ao cJ f) [.ref (ad o), .int a0, .int a1, .int a2, .ref ao] (vck 1 2 3 k1) T1 (oJ ao cJ (vfJ k1 f r1)) := by
  cases k1 with
  | zero => exact v_movingPower_n l hst D h0 ad T o a0 a1 a2 ao f h hrc h_o h_s
  | succ e1 => exact v_movingPower_t l hst D h0 ad T o a0 a1 a2 ao f h hrc h_o h_s
set_option maxHeartbeats 4000000 in
set_option maxRecDepth 100000 in
theorem v_bestVelocity_n (l : Launch) (hst : l.stackTraces = false) (D : va_G) {cI cJ cZ cMic cSrc cSt cAI cAJ cD : ClassId} (h0 : Nat) (ad : Nat → Nat) (T : AT) (o : Nat) (a0 a1 a2 : Int32) (ao : Nat) (f : Nat → Int64) {r1 : Int32} {T1 : AT} (h : g_X11_bestVelocity T o a0 a1 a2 = some (0, r1, T1)) (hrc : RC T) (h_o : o < T.1) (h_s : T.2.1 o = (11, 0)) : tWi l yL_bestVelocity (Cond.codeWith yL_bestVelocity cL_bestVelocity 6 (some .int) [(0, 12, 15, 21), (0, 12, 19, 13), (0, 12, 23, 15)] :: wsA) 9 149 cI cJ cZ cMic cSrc cSt cAI cAJ cD D h0 ad T (oJ ao cJ f) [.ref (ad o), .int a0, .int a1, .int a2, .ref ao] (vck 1 2 3 (0)) T1 (oJ ao cJ (vfJ (0) f r1.toInt64)) := by
  intro sz
  refine va_MetW (cc := cL_bestVelocity) (maxL := 6) (ret := some .int) (by decide) rfl ?_
  intro p e s m args below meth c s₁ B hml hv
  obtain ⟨rfl, hsz, hP, hK, hD0, hX, hN, hA0, hTS⟩ := hv
  have hx := B.exec
  have hb := B.bytes
  have hr := B.returns
  have hts := atoms_spec (ws := (Cond.codeWith yL_bestVelocity cL_bestVelocity 6 (some .int) [(0, 12, 15, 21), (0, 12, 19, 13), (0, 12, 23, 15)] :: wsA)) B.pre
  have hown : s.vm.findClass RL = some m.cls := findClass_of_methodNamed B.named
  have hlocks := B.notSynchronized
  have htb := vx_table (x := yL_bestVelocity) B (hts _ (.head _))
  subst hsz
  have hD := hD0.self (sz := s.heap.size)
  generalize hAe : va_A (cW ad T.1 (cc cI cJ cZ cMic cSrc cSt cAI cAJ ad T) ++ [oJ ao cJ f]) s.heap.size = A at hD hX hA0 ⊢
  have hA : ∀ q : Nat, s.heap.size ≤ q → A q := fun q h => by rw [← hAe]; exact Or.inr h
  have G : gL cI cJ cZ cMic cSrc cSt cAI cAJ D ad A s.heap s.heap [] T [oJ ao cJ f] := ⟨hP, hD, va_S.rf⟩
  have E : cE p c cL_bestVelocity s m ([.ref (ad o), .int a0, .int a1, .int a2, .ref ao] : List Value).toArray (Cond.codeWith yL_bestVelocity cL_bestVelocity 6 (some .int) [(0, 12, 15, 21), (0, 12, 19, 13), (0, 12, 23, 15)] :: wsA) D RL (CT cI cJ cZ cMic cSrc cSt cAI cAJ ++ [(cD, .double)]) := ⟨hx, hb, hts, hown, hK⟩
  have hl := lv_entry ([.ref (ad o), .int a0, .int a1, .int a2, .ref ao]) (n := 6) (Nat.le_of_ble_eq_true rfl)
  rw [lg_entry_eq]
  generalize (lg_sl ([.ref (ad o), .int a0, .int a1, .int a2, .ref ao]) ++ List.replicate (6 - (lg_sl ([.ref (ad o), .int a0, .int a1, .int a2, .ref ao])).length) Slot.unset).toArray = ls at hl ⊢
  have hl : lv_has ls 6 [(0, .ref (ad o)), (1, .int a0), (2, .int a1), (3, .int a2), (4, .ref ao)] := hl
  refine lv_aload hx hb dL_bestVelocity_0 (lv_at hl 4 rfl) ?_
  refine lv_iconst (v := 0) hx hb dL_bestVelocity_2 (by decide) ?_
  refine lv_aload_n hx hb dL_bestVelocity_3 rfl (lv_at hl 0 rfl) ?_
  refine lv_iload_n hx hb dL_bestVelocity_4 rfl (lv_at hl 1 rfl) ?_
  refine lv_iload_n hx hb dL_bestVelocity_5 rfl (lv_at hl 2 rfl) ?_
  refine lv_iload_n hx hb dL_bestVelocity_6 rfl (lv_at hl 3 rfl) ?_
  refine t_avi (As := [.int a0, .int a1, .int a2]) (rest := [.int 0, .ref ao]) E G hA hX hX.2.2.2.1 hml (a_X11_bestVelocity l hst D cI cJ cZ cMic cSrc cSt cAI cAJ ad T o a0 a1 a2 h hrc h_o) (cwV 3 hts (gaV qA_1081 qA_1082 qA_1083 qA_131 qA_880) rfl rfl rfl (by decide +kernel) ⟨Nat.le_of_ble_eq_true rfl, Nat.le_of_ble_eq_true rfl⟩) h_o (cc_o11 h_s) rfl rfl hl.1 rfl (lv_room (Nat.le_of_ble_eq_true rfl)) dL_bestVelocity_7 ⟨by show 0 + (T1.1 - T.1) ≤ T1.1 - T.1 + 1; omega, by show 0 + (sg T1 - sg T) ≤ sg T1 - sg T + 6; omega⟩ ?_
  intro ad2 H locs had G
  refine lv_i2l (v := r1.toInt64) hx hb dL_bestVelocity_10 rfl ?_
  refine t_last E G dL_bestVelocity_11 (fun H locs G => ?_)
  refine lv_goto (tgt := 27) hx hb dL_bestVelocity_12 (by decide) ?_
  refine lv_iconst (v := 0) hx hb dL_bestVelocity_27 (by decide) ?_
  refine W.widen (k := T1.1 - T.1 + 1) (n := sg T1 - sg T + 6) (by omega) (by omega) ?_
  exact W.iret (v := 0) hx hb hr (fun t ht hW => ⟨⟨0, ad2, rfl, ⟨rfl, had⟩, ⟨by rw [ht]; exact G.1, va_K.moved hW.alike hK, G.2.1⟩⟩, G.2.2.F ht⟩) G.2.2.2.2 dL_bestVelocity_28
set_option maxHeartbeats 4000000 in
set_option maxRecDepth 100000 in
theorem v_bestVelocity_t (l : Launch) (hst : l.stackTraces = false) (D : va_G) {cI cJ cZ cMic cSrc cSt cAI cAJ cD : ClassId} (h0 : Nat) (ad : Nat → Nat) (T : AT) (o : Nat) (a0 a1 a2 : Int32) (ao : Nat) (f : Nat → Int64) {e1 : Nat} {r1 : Int32} {T1 : AT} (h : g_X11_bestVelocity T o a0 a1 a2 = some (e1 + 1, r1, T1)) (hrc : RC T) (h_o : o < T.1) (h_s : T.2.1 o = (11, 0)) : tWi l yL_bestVelocity (Cond.codeWith yL_bestVelocity cL_bestVelocity 6 (some .int) [(0, 12, 15, 21), (0, 12, 19, 13), (0, 12, 23, 15)] :: wsA) 9 149 cI cJ cZ cMic cSrc cSt cAI cAJ cD D h0 ad T (oJ ao cJ f) [.ref (ad o), .int a0, .int a1, .int a2, .ref ao] (vck 1 2 3 (e1 + 1)) T1 (oJ ao cJ (vfJ (e1 + 1) f r1.toInt64)) := by
  intro sz
  refine va_MetW (cc := cL_bestVelocity) (maxL := 6) (ret := some .int) (by decide) rfl ?_
  intro p e s m args below meth c s₁ B hml hv
  obtain ⟨rfl, hsz, hP, hK, hD0, hX, hN, hA0, hTS⟩ := hv
  have hx := B.exec
  have hb := B.bytes
  have hr := B.returns
  have hts := atoms_spec (ws := (Cond.codeWith yL_bestVelocity cL_bestVelocity 6 (some .int) [(0, 12, 15, 21), (0, 12, 19, 13), (0, 12, 23, 15)] :: wsA)) B.pre
  have hown : s.vm.findClass RL = some m.cls := findClass_of_methodNamed B.named
  have hlocks := B.notSynchronized
  have htb := vx_table (x := yL_bestVelocity) B (hts _ (.head _))
  subst hsz
  have hD := hD0.self (sz := s.heap.size)
  generalize hAe : va_A (cW ad T.1 (cc cI cJ cZ cMic cSrc cSt cAI cAJ ad T) ++ [oJ ao cJ f]) s.heap.size = A at hD hX hA0 ⊢
  have hA : ∀ q : Nat, s.heap.size ≤ q → A q := fun q h => by rw [← hAe]; exact Or.inr h
  have G : gL cI cJ cZ cMic cSrc cSt cAI cAJ D ad A s.heap s.heap [] T [oJ ao cJ f] := ⟨hP, hD, va_S.rf⟩
  have E : cE p c cL_bestVelocity s m ([.ref (ad o), .int a0, .int a1, .int a2, .ref ao] : List Value).toArray (Cond.codeWith yL_bestVelocity cL_bestVelocity 6 (some .int) [(0, 12, 15, 21), (0, 12, 19, 13), (0, 12, 23, 15)] :: wsA) D RL (CT cI cJ cZ cMic cSrc cSt cAI cAJ ++ [(cD, .double)]) := ⟨hx, hb, hts, hown, hK⟩
  have hl := lv_entry ([.ref (ad o), .int a0, .int a1, .int a2, .ref ao]) (n := 6) (Nat.le_of_ble_eq_true rfl)
  rw [lg_entry_eq]
  generalize (lg_sl ([.ref (ad o), .int a0, .int a1, .int a2, .ref ao]) ++ List.replicate (6 - (lg_sl ([.ref (ad o), .int a0, .int a1, .int a2, .ref ao])).length) Slot.unset).toArray = ls at hl ⊢
  have hl : lv_has ls 6 [(0, .ref (ad o)), (1, .int a0), (2, .int a1), (3, .int a2), (4, .ref ao)] := hl
  refine lv_aload hx hb dL_bestVelocity_0 (lv_at hl 4 rfl) ?_
  refine lv_iconst (v := 0) hx hb dL_bestVelocity_2 (by decide) ?_
  refine lv_aload_n hx hb dL_bestVelocity_3 rfl (lv_at hl 0 rfl) ?_
  refine lv_iload_n hx hb dL_bestVelocity_4 rfl (lv_at hl 1 rfl) ?_
  refine lv_iload_n hx hb dL_bestVelocity_5 rfl (lv_at hl 2 rfl) ?_
  refine lv_iload_n hx hb dL_bestVelocity_6 rfl (lv_at hl 3 rfl) ?_
  refine t_bvi (As := [.int a0, .int a1, .int a2]) (rest := [.int 0, .ref ao]) E G hA hX hX.2.2.2.1 hml (b_X11_bestVelocity l hst D cI cJ cZ cMic cSrc cSt cAI cAJ ad T o a0 a1 a2 h hrc h_o) (cwV 3 hts (gaV qA_1081 qA_1082 qA_1083 qA_131 qA_880) rfl rfl rfl (by decide +kernel) ⟨Nat.le_of_ble_eq_true rfl, Nat.le_of_ble_eq_true rfl⟩) h_o (cc_o11 h_s) rfl rfl hl.1 rfl (lv_room (Nat.le_of_ble_eq_true rfl)) dL_bestVelocity_7 ⟨by show 0 + (T1.1 - T.1 + 1) ≤ T1.1 - T.1 + 1; omega, by show 0 + (sg T1 - sg T + 6) ≤ sg T1 - sg T + 6; omega⟩ ?_
  intro E9 ce q9 ad2 H locs hE had G hce hcv hcl
  rcases e1 with _ | _ | e1
  · have hE : E9 = xISE := hE
    subst hE
    refine vx_catch (name := xISE) hown [] { startPc := 0, endPc := 12, handlerPc := 15, catchType := 21 } [{ startPc := 0, endPc := 12, handlerPc := 19, catchType := 13 }, { startPc := 0, endPc := 12, handlerPc := 23, catchType := 15 }] htb (fun z hz => absurd hz List.not_mem_nil) (by decide) (by decide) (hts _ (.tail _ qA_952)) (hX.use (.castable xISE xISE) (by decide +kernel)) hce hcv hcl ?_
    refine lv_astore (lv' := [(5, .ref q9), (0, .ref (ad o)), (1, .int a0), (2, .int a1), (3, .int a2), (4, .ref ao)]) hx hb dL_bestVelocity_15 hl (by decide) rfl (fun ls hl => ?_)
    refine lv_iconst (v := 1) hx hb dL_bestVelocity_17 (by decide) ?_
    refine W.widen (k := T1.1 - T.1 + 1) (n := sg T1 - sg T + 6) (by omega) (by omega) ?_
    exact W.iret (v := 1) hx hb hr (fun t ht hW => ⟨⟨1, ad2, rfl, ⟨rfl, had⟩, ⟨by rw [ht]; exact G.1, va_K.moved hW.alike hK, G.2.1⟩⟩, G.2.2.F ht⟩) G.2.2.2.2 dL_bestVelocity_18
  · have hE : E9 = xIOB := hE
    subst hE
    refine vx_catch (name := xIOB) hown [{ startPc := 0, endPc := 12, handlerPc := 15, catchType := 21 }] { startPc := 0, endPc := 12, handlerPc := 19, catchType := 13 } [{ startPc := 0, endPc := 12, handlerPc := 23, catchType := 15 }] htb (List.forall_mem_cons.mpr ⟨Or.inr ⟨by decide, xISE, hts _ (.tail _ qA_952), hN.2.2.1⟩, fun z hz => absurd hz List.not_mem_nil⟩) (by decide) (by decide) (hts _ (.tail _ qA_946)) (hX.use (.castable xIOB xIOB) (by decide +kernel)) hce hcv hcl ?_
    refine lv_astore (lv' := [(5, .ref q9), (0, .ref (ad o)), (1, .int a0), (2, .int a1), (3, .int a2), (4, .ref ao)]) hx hb dL_bestVelocity_19 hl (by decide) rfl (fun ls hl => ?_)
    refine lv_iconst (v := 2) hx hb dL_bestVelocity_21 (by decide) ?_
    refine W.widen (k := T1.1 - T.1 + 1) (n := sg T1 - sg T + 6) (by omega) (by omega) ?_
    exact W.iret (v := 2) hx hb hr (fun t ht hW => ⟨⟨2, ad2, rfl, ⟨rfl, had⟩, ⟨by rw [ht]; exact G.1, va_K.moved hW.alike hK, G.2.1⟩⟩, G.2.2.F ht⟩) G.2.2.2.2 dL_bestVelocity_22
  · have hE : E9 = xIAE := hE
    subst hE
    refine vx_catch (name := xIAE) hown [{ startPc := 0, endPc := 12, handlerPc := 15, catchType := 21 }, { startPc := 0, endPc := 12, handlerPc := 19, catchType := 13 }] { startPc := 0, endPc := 12, handlerPc := 23, catchType := 15 } [] htb (List.forall_mem_cons.mpr ⟨Or.inr ⟨by decide, xISE, hts _ (.tail _ qA_952), hN.2.2.2⟩, List.forall_mem_cons.mpr ⟨Or.inr ⟨by decide, xIOB, hts _ (.tail _ qA_946), hN.1⟩, fun z hz => absurd hz List.not_mem_nil⟩⟩) (by decide) (by decide) (hts _ (.tail _ qA_947)) (hX.use (.castable xIAE xIAE) (by decide +kernel)) hce hcv hcl ?_
    refine lv_astore (lv' := [(5, .ref q9), (0, .ref (ad o)), (1, .int a0), (2, .int a1), (3, .int a2), (4, .ref ao)]) hx hb dL_bestVelocity_23 hl (by decide) rfl (fun ls hl => ?_)
    refine lv_iconst (v := 3) hx hb dL_bestVelocity_25 (by decide) ?_
    refine W.widen (k := T1.1 - T.1 + 1) (n := sg T1 - sg T + 6) (by omega) (by omega) ?_
    exact W.iret (v := 3) hx hb hr (fun t ht hW => ⟨⟨3, ad2, rfl, ⟨rfl, had⟩, ⟨by rw [ht]; exact G.1, va_K.moved hW.alike hK, G.2.1⟩⟩, G.2.2.F ht⟩) G.2.2.2.2 dL_bestVelocity_26
theorem v_bestVelocity (l : Launch) (hst : l.stackTraces = false) (D : va_G) {cI cJ cZ cMic cSrc cSt cAI cAJ cD : ClassId} (h0 : Nat) (ad : Nat → Nat) (T : AT) (o : Nat) (a0 a1 a2 : Int32) (ao : Nat) (f : Nat → Int64) {k1 : Nat} {r1 : Int32} {T1 : AT} (h : g_X11_bestVelocity T o a0 a1 a2 = some (k1, r1, T1)) (hrc : RC T) (h_o : o < T.1) (h_s : T.2.1 o = (11, 0)) : tWi l yL_bestVelocity (Cond.codeWith yL_bestVelocity cL_bestVelocity 6 (some .int) [(0, 12, 15, 21), (0, 12, 19, 13), (0, 12, 23, 15)] :: wsA) 9 149 cI cJ cZ cMic cSrc cSt cAI cAJ cD D h0 ad T (oJ ao cJ f) [.ref (ad o), .int a0, .int a1, .int a2, .ref ao] (vck 1 2 3 k1) T1 (oJ ao cJ (vfJ k1 f r1.toInt64)) := by
  cases k1 with
  | zero => exact v_bestVelocity_n l hst D h0 ad T o a0 a1 a2 ao f h hrc h_o h_s
  | succ e1 => exact v_bestVelocity_t l hst D h0 ad T o a0 a1 a2 ao f h hrc h_o h_s
set_option maxHeartbeats 4000000 in
set_option maxRecDepth 100000 in
theorem v_correlation_n (l : Launch) (hst : l.stackTraces = false) (D : va_G) {cI cJ cZ cMic cSrc cSt cAI cAJ cD : ClassId} (h0 : Nat) (ad : Nat → Nat) (T : AT) (o : Nat) (a0 a1 a2 : Int32) (ao : Nat) (f : Nat → Int64) {r1 : Int64} {T1 : AT} (h : g_X11_correlation T o a0 a1 a2 = some (0, r1, T1)) (hrc : RC T) (h_o : o < T.1) (h_s : T.2.1 o = (11, 0)) : tWi l yL_correlation (Cond.codeWith yL_correlation cL_correlation 6 (some .int) [(0, 11, 14, 21), (0, 11, 18, 13), (0, 11, 22, 15)] :: wsA) 9 146 cI cJ cZ cMic cSrc cSt cAI cAJ cD D h0 ad T (oJ ao cJ f) [.ref (ad o), .int a0, .int a1, .int a2, .ref ao] (vck 1 2 3 (0)) T1 (oJ ao cJ (vfJ (0) f r1)) := by
  intro sz
  refine va_MetW (cc := cL_correlation) (maxL := 6) (ret := some .int) (by decide) rfl ?_
  intro p e s m args below meth c s₁ B hml hv
  obtain ⟨rfl, hsz, hP, hK, hD0, hX, hN, hA0, hTS⟩ := hv
  have hx := B.exec
  have hb := B.bytes
  have hr := B.returns
  have hts := atoms_spec (ws := (Cond.codeWith yL_correlation cL_correlation 6 (some .int) [(0, 11, 14, 21), (0, 11, 18, 13), (0, 11, 22, 15)] :: wsA)) B.pre
  have hown : s.vm.findClass RL = some m.cls := findClass_of_methodNamed B.named
  have hlocks := B.notSynchronized
  have htb := vx_table (x := yL_correlation) B (hts _ (.head _))
  subst hsz
  have hD := hD0.self (sz := s.heap.size)
  generalize hAe : va_A (cW ad T.1 (cc cI cJ cZ cMic cSrc cSt cAI cAJ ad T) ++ [oJ ao cJ f]) s.heap.size = A at hD hX hA0 ⊢
  have hA : ∀ q : Nat, s.heap.size ≤ q → A q := fun q h => by rw [← hAe]; exact Or.inr h
  have G : gL cI cJ cZ cMic cSrc cSt cAI cAJ D ad A s.heap s.heap [] T [oJ ao cJ f] := ⟨hP, hD, va_S.rf⟩
  have E : cE p c cL_correlation s m ([.ref (ad o), .int a0, .int a1, .int a2, .ref ao] : List Value).toArray (Cond.codeWith yL_correlation cL_correlation 6 (some .int) [(0, 11, 14, 21), (0, 11, 18, 13), (0, 11, 22, 15)] :: wsA) D RL (CT cI cJ cZ cMic cSrc cSt cAI cAJ ++ [(cD, .double)]) := ⟨hx, hb, hts, hown, hK⟩
  have hl := lv_entry ([.ref (ad o), .int a0, .int a1, .int a2, .ref ao]) (n := 6) (Nat.le_of_ble_eq_true rfl)
  rw [lg_entry_eq]
  generalize (lg_sl ([.ref (ad o), .int a0, .int a1, .int a2, .ref ao]) ++ List.replicate (6 - (lg_sl ([.ref (ad o), .int a0, .int a1, .int a2, .ref ao])).length) Slot.unset).toArray = ls at hl ⊢
  have hl : lv_has ls 6 [(0, .ref (ad o)), (1, .int a0), (2, .int a1), (3, .int a2), (4, .ref ao)] := hl
  refine lv_aload hx hb dL_correlation_0 (lv_at hl 4 rfl) ?_
  refine lv_iconst (v := 0) hx hb dL_correlation_2 (by decide) ?_
  refine lv_aload_n hx hb dL_correlation_3 rfl (lv_at hl 0 rfl) ?_
  refine lv_iload_n hx hb dL_correlation_4 rfl (lv_at hl 1 rfl) ?_
  refine lv_iload_n hx hb dL_correlation_5 rfl (lv_at hl 2 rfl) ?_
  refine lv_iload_n hx hb dL_correlation_6 rfl (lv_at hl 3 rfl) ?_
  refine t_avl (As := [.int a0, .int a1, .int a2]) (rest := [.int 0, .ref ao]) E G hA hX hX.2.2.2.1 hml (a_X11_correlation l hst D cI cJ cZ cMic cSrc cSt cAI cAJ ad T o a0 a1 a2 h hrc h_o) (cwV 3 hts (gaV qA_1085 qA_1086 qA_1087 qA_131 qA_883) rfl rfl rfl (by decide +kernel) ⟨Nat.le_of_ble_eq_true rfl, Nat.le_of_ble_eq_true rfl⟩) h_o (cc_o11 h_s) rfl rfl hl.1 rfl (lv_room (Nat.le_of_ble_eq_true rfl)) dL_correlation_7 ⟨by show 0 + (T1.1 - T.1) ≤ T1.1 - T.1 + 1; omega, by show 0 + (sg T1 - sg T) ≤ sg T1 - sg T + 6; omega⟩ ?_
  intro ad2 H locs had G
  refine t_last E G dL_correlation_10 (fun H locs G => ?_)
  refine lv_goto (tgt := 26) hx hb dL_correlation_11 (by decide) ?_
  refine lv_iconst (v := 0) hx hb dL_correlation_26 (by decide) ?_
  refine W.widen (k := T1.1 - T.1 + 1) (n := sg T1 - sg T + 6) (by omega) (by omega) ?_
  exact W.iret (v := 0) hx hb hr (fun t ht hW => ⟨⟨0, ad2, rfl, ⟨rfl, had⟩, ⟨by rw [ht]; exact G.1, va_K.moved hW.alike hK, G.2.1⟩⟩, G.2.2.F ht⟩) G.2.2.2.2 dL_correlation_27
set_option maxHeartbeats 4000000 in
set_option maxRecDepth 100000 in
theorem v_correlation_t (l : Launch) (hst : l.stackTraces = false) (D : va_G) {cI cJ cZ cMic cSrc cSt cAI cAJ cD : ClassId} (h0 : Nat) (ad : Nat → Nat) (T : AT) (o : Nat) (a0 a1 a2 : Int32) (ao : Nat) (f : Nat → Int64) {e1 : Nat} {r1 : Int64} {T1 : AT} (h : g_X11_correlation T o a0 a1 a2 = some (e1 + 1, r1, T1)) (hrc : RC T) (h_o : o < T.1) (h_s : T.2.1 o = (11, 0)) : tWi l yL_correlation (Cond.codeWith yL_correlation cL_correlation 6 (some .int) [(0, 11, 14, 21), (0, 11, 18, 13), (0, 11, 22, 15)] :: wsA) 9 146 cI cJ cZ cMic cSrc cSt cAI cAJ cD D h0 ad T (oJ ao cJ f) [.ref (ad o), .int a0, .int a1, .int a2, .ref ao] (vck 1 2 3 (e1 + 1)) T1 (oJ ao cJ (vfJ (e1 + 1) f r1)) := by
  intro sz
  refine va_MetW (cc := cL_correlation) (maxL := 6) (ret := some .int) (by decide) rfl ?_
  intro p e s m args below meth c s₁ B hml hv
  obtain ⟨rfl, hsz, hP, hK, hD0, hX, hN, hA0, hTS⟩ := hv
  have hx := B.exec
  have hb := B.bytes
  have hr := B.returns
  have hts := atoms_spec (ws := (Cond.codeWith yL_correlation cL_correlation 6 (some .int) [(0, 11, 14, 21), (0, 11, 18, 13), (0, 11, 22, 15)] :: wsA)) B.pre
  have hown : s.vm.findClass RL = some m.cls := findClass_of_methodNamed B.named
  have hlocks := B.notSynchronized
  have htb := vx_table (x := yL_correlation) B (hts _ (.head _))
  subst hsz
  have hD := hD0.self (sz := s.heap.size)
  generalize hAe : va_A (cW ad T.1 (cc cI cJ cZ cMic cSrc cSt cAI cAJ ad T) ++ [oJ ao cJ f]) s.heap.size = A at hD hX hA0 ⊢
  have hA : ∀ q : Nat, s.heap.size ≤ q → A q := fun q h => by rw [← hAe]; exact Or.inr h
  have G : gL cI cJ cZ cMic cSrc cSt cAI cAJ D ad A s.heap s.heap [] T [oJ ao cJ f] := ⟨hP, hD, va_S.rf⟩
  have E : cE p c cL_correlation s m ([.ref (ad o), .int a0, .int a1, .int a2, .ref ao] : List Value).toArray (Cond.codeWith yL_correlation cL_correlation 6 (some .int) [(0, 11, 14, 21), (0, 11, 18, 13), (0, 11, 22, 15)] :: wsA) D RL (CT cI cJ cZ cMic cSrc cSt cAI cAJ ++ [(cD, .double)]) := ⟨hx, hb, hts, hown, hK⟩
  have hl := lv_entry ([.ref (ad o), .int a0, .int a1, .int a2, .ref ao]) (n := 6) (Nat.le_of_ble_eq_true rfl)
  rw [lg_entry_eq]
  generalize (lg_sl ([.ref (ad o), .int a0, .int a1, .int a2, .ref ao]) ++ List.replicate (6 - (lg_sl ([.ref (ad o), .int a0, .int a1, .int a2, .ref ao])).length) Slot.unset).toArray = ls at hl ⊢
  have hl : lv_has ls 6 [(0, .ref (ad o)), (1, .int a0), (2, .int a1), (3, .int a2), (4, .ref ao)] := hl
  refine lv_aload hx hb dL_correlation_0 (lv_at hl 4 rfl) ?_
  refine lv_iconst (v := 0) hx hb dL_correlation_2 (by decide) ?_
  refine lv_aload_n hx hb dL_correlation_3 rfl (lv_at hl 0 rfl) ?_
  refine lv_iload_n hx hb dL_correlation_4 rfl (lv_at hl 1 rfl) ?_
  refine lv_iload_n hx hb dL_correlation_5 rfl (lv_at hl 2 rfl) ?_
  refine lv_iload_n hx hb dL_correlation_6 rfl (lv_at hl 3 rfl) ?_
  refine t_bvl (As := [.int a0, .int a1, .int a2]) (rest := [.int 0, .ref ao]) E G hA hX hX.2.2.2.1 hml (b_X11_correlation l hst D cI cJ cZ cMic cSrc cSt cAI cAJ ad T o a0 a1 a2 h hrc h_o) (cwV 3 hts (gaV qA_1085 qA_1086 qA_1087 qA_131 qA_883) rfl rfl rfl (by decide +kernel) ⟨Nat.le_of_ble_eq_true rfl, Nat.le_of_ble_eq_true rfl⟩) h_o (cc_o11 h_s) rfl rfl hl.1 rfl (lv_room (Nat.le_of_ble_eq_true rfl)) dL_correlation_7 ⟨by show 0 + (T1.1 - T.1 + 1) ≤ T1.1 - T.1 + 1; omega, by show 0 + (sg T1 - sg T + 6) ≤ sg T1 - sg T + 6; omega⟩ ?_
  intro E9 ce q9 ad2 H locs hE had G hce hcv hcl
  rcases e1 with _ | _ | e1
  · have hE : E9 = xISE := hE
    subst hE
    refine vx_catch (name := xISE) hown [] { startPc := 0, endPc := 11, handlerPc := 14, catchType := 21 } [{ startPc := 0, endPc := 11, handlerPc := 18, catchType := 13 }, { startPc := 0, endPc := 11, handlerPc := 22, catchType := 15 }] htb (fun z hz => absurd hz List.not_mem_nil) (by decide) (by decide) (hts _ (.tail _ qA_952)) (hX.use (.castable xISE xISE) (by decide +kernel)) hce hcv hcl ?_
    refine lv_astore (lv' := [(5, .ref q9), (0, .ref (ad o)), (1, .int a0), (2, .int a1), (3, .int a2), (4, .ref ao)]) hx hb dL_correlation_14 hl (by decide) rfl (fun ls hl => ?_)
    refine lv_iconst (v := 1) hx hb dL_correlation_16 (by decide) ?_
    refine W.widen (k := T1.1 - T.1 + 1) (n := sg T1 - sg T + 6) (by omega) (by omega) ?_
    exact W.iret (v := 1) hx hb hr (fun t ht hW => ⟨⟨1, ad2, rfl, ⟨rfl, had⟩, ⟨by rw [ht]; exact G.1, va_K.moved hW.alike hK, G.2.1⟩⟩, G.2.2.F ht⟩) G.2.2.2.2 dL_correlation_17
  · have hE : E9 = xIOB := hE
    subst hE
    refine vx_catch (name := xIOB) hown [{ startPc := 0, endPc := 11, handlerPc := 14, catchType := 21 }] { startPc := 0, endPc := 11, handlerPc := 18, catchType := 13 } [{ startPc := 0, endPc := 11, handlerPc := 22, catchType := 15 }] htb (List.forall_mem_cons.mpr ⟨Or.inr ⟨by decide, xISE, hts _ (.tail _ qA_952), hN.2.2.1⟩, fun z hz => absurd hz List.not_mem_nil⟩) (by decide) (by decide) (hts _ (.tail _ qA_946)) (hX.use (.castable xIOB xIOB) (by decide +kernel)) hce hcv hcl ?_
    refine lv_astore (lv' := [(5, .ref q9), (0, .ref (ad o)), (1, .int a0), (2, .int a1), (3, .int a2), (4, .ref ao)]) hx hb dL_correlation_18 hl (by decide) rfl (fun ls hl => ?_)
    refine lv_iconst (v := 2) hx hb dL_correlation_20 (by decide) ?_
    refine W.widen (k := T1.1 - T.1 + 1) (n := sg T1 - sg T + 6) (by omega) (by omega) ?_
    exact W.iret (v := 2) hx hb hr (fun t ht hW => ⟨⟨2, ad2, rfl, ⟨rfl, had⟩, ⟨by rw [ht]; exact G.1, va_K.moved hW.alike hK, G.2.1⟩⟩, G.2.2.F ht⟩) G.2.2.2.2 dL_correlation_21
  · have hE : E9 = xIAE := hE
    subst hE
    refine vx_catch (name := xIAE) hown [{ startPc := 0, endPc := 11, handlerPc := 14, catchType := 21 }, { startPc := 0, endPc := 11, handlerPc := 18, catchType := 13 }] { startPc := 0, endPc := 11, handlerPc := 22, catchType := 15 } [] htb (List.forall_mem_cons.mpr ⟨Or.inr ⟨by decide, xISE, hts _ (.tail _ qA_952), hN.2.2.2⟩, List.forall_mem_cons.mpr ⟨Or.inr ⟨by decide, xIOB, hts _ (.tail _ qA_946), hN.1⟩, fun z hz => absurd hz List.not_mem_nil⟩⟩) (by decide) (by decide) (hts _ (.tail _ qA_947)) (hX.use (.castable xIAE xIAE) (by decide +kernel)) hce hcv hcl ?_
    refine lv_astore (lv' := [(5, .ref q9), (0, .ref (ad o)), (1, .int a0), (2, .int a1), (3, .int a2), (4, .ref ao)]) hx hb dL_correlation_22 hl (by decide) rfl (fun ls hl => ?_)
    refine lv_iconst (v := 3) hx hb dL_correlation_24 (by decide) ?_
    refine W.widen (k := T1.1 - T.1 + 1) (n := sg T1 - sg T + 6) (by omega) (by omega) ?_
    exact W.iret (v := 3) hx hb hr (fun t ht hW => ⟨⟨3, ad2, rfl, ⟨rfl, had⟩, ⟨by rw [ht]; exact G.1, va_K.moved hW.alike hK, G.2.1⟩⟩, G.2.2.F ht⟩) G.2.2.2.2 dL_correlation_25
theorem v_correlation (l : Launch) (hst : l.stackTraces = false) (D : va_G) {cI cJ cZ cMic cSrc cSt cAI cAJ cD : ClassId} (h0 : Nat) (ad : Nat → Nat) (T : AT) (o : Nat) (a0 a1 a2 : Int32) (ao : Nat) (f : Nat → Int64) {k1 : Nat} {r1 : Int64} {T1 : AT} (h : g_X11_correlation T o a0 a1 a2 = some (k1, r1, T1)) (hrc : RC T) (h_o : o < T.1) (h_s : T.2.1 o = (11, 0)) : tWi l yL_correlation (Cond.codeWith yL_correlation cL_correlation 6 (some .int) [(0, 11, 14, 21), (0, 11, 18, 13), (0, 11, 22, 15)] :: wsA) 9 146 cI cJ cZ cMic cSrc cSt cAI cAJ cD D h0 ad T (oJ ao cJ f) [.ref (ad o), .int a0, .int a1, .int a2, .ref ao] (vck 1 2 3 k1) T1 (oJ ao cJ (vfJ k1 f r1)) := by
  cases k1 with
  | zero => exact v_correlation_n l hst D h0 ad T o a0 a1 a2 ao f h hrc h_o h_s
  | succ e1 => exact v_correlation_t l hst D h0 ad T o a0 a1 a2 ao f h hrc h_o h_s
set_option maxHeartbeats 4000000 in
set_option maxRecDepth 100000 in
theorem v_bestLag_n (l : Launch) (hst : l.stackTraces = false) (D : va_G) {cI cJ cZ cMic cSrc cSt cAI cAJ cD : ClassId} (h0 : Nat) (ad : Nat → Nat) (T : AT) (o : Nat) (a0 a1 a2 : Int32) (ao : Nat) (f : Nat → Int64) {r1 : Int32} {T1 : AT} (h : g_X11_bestLag T o a0 a1 a2 = some (0, r1, T1)) (hrc : RC T) (h_o : o < T.1) (h_s : T.2.1 o = (11, 0)) : tWi l yL_bestLag (Cond.codeWith yL_bestLag cL_bestLag 6 (some .int) [(0, 12, 15, 21), (0, 12, 19, 13), (0, 12, 23, 15)] :: wsA) 9 148 cI cJ cZ cMic cSrc cSt cAI cAJ cD D h0 ad T (oJ ao cJ f) [.ref (ad o), .int a0, .int a1, .int a2, .ref ao] (vck 1 2 3 (0)) T1 (oJ ao cJ (vfJ (0) f r1.toInt64)) := by
  intro sz
  refine va_MetW (cc := cL_bestLag) (maxL := 6) (ret := some .int) (by decide) rfl ?_
  intro p e s m args below meth c s₁ B hml hv
  obtain ⟨rfl, hsz, hP, hK, hD0, hX, hN, hA0, hTS⟩ := hv
  have hx := B.exec
  have hb := B.bytes
  have hr := B.returns
  have hts := atoms_spec (ws := (Cond.codeWith yL_bestLag cL_bestLag 6 (some .int) [(0, 12, 15, 21), (0, 12, 19, 13), (0, 12, 23, 15)] :: wsA)) B.pre
  have hown : s.vm.findClass RL = some m.cls := findClass_of_methodNamed B.named
  have hlocks := B.notSynchronized
  have htb := vx_table (x := yL_bestLag) B (hts _ (.head _))
  subst hsz
  have hD := hD0.self (sz := s.heap.size)
  generalize hAe : va_A (cW ad T.1 (cc cI cJ cZ cMic cSrc cSt cAI cAJ ad T) ++ [oJ ao cJ f]) s.heap.size = A at hD hX hA0 ⊢
  have hA : ∀ q : Nat, s.heap.size ≤ q → A q := fun q h => by rw [← hAe]; exact Or.inr h
  have G : gL cI cJ cZ cMic cSrc cSt cAI cAJ D ad A s.heap s.heap [] T [oJ ao cJ f] := ⟨hP, hD, va_S.rf⟩
  have E : cE p c cL_bestLag s m ([.ref (ad o), .int a0, .int a1, .int a2, .ref ao] : List Value).toArray (Cond.codeWith yL_bestLag cL_bestLag 6 (some .int) [(0, 12, 15, 21), (0, 12, 19, 13), (0, 12, 23, 15)] :: wsA) D RL (CT cI cJ cZ cMic cSrc cSt cAI cAJ ++ [(cD, .double)]) := ⟨hx, hb, hts, hown, hK⟩
  have hl := lv_entry ([.ref (ad o), .int a0, .int a1, .int a2, .ref ao]) (n := 6) (Nat.le_of_ble_eq_true rfl)
  rw [lg_entry_eq]
  generalize (lg_sl ([.ref (ad o), .int a0, .int a1, .int a2, .ref ao]) ++ List.replicate (6 - (lg_sl ([.ref (ad o), .int a0, .int a1, .int a2, .ref ao])).length) Slot.unset).toArray = ls at hl ⊢
  have hl : lv_has ls 6 [(0, .ref (ad o)), (1, .int a0), (2, .int a1), (3, .int a2), (4, .ref ao)] := hl
  refine lv_aload hx hb dL_bestLag_0 (lv_at hl 4 rfl) ?_
  refine lv_iconst (v := 0) hx hb dL_bestLag_2 (by decide) ?_
  refine lv_aload_n hx hb dL_bestLag_3 rfl (lv_at hl 0 rfl) ?_
  refine lv_iload_n hx hb dL_bestLag_4 rfl (lv_at hl 1 rfl) ?_
  refine lv_iload_n hx hb dL_bestLag_5 rfl (lv_at hl 2 rfl) ?_
  refine lv_iload_n hx hb dL_bestLag_6 rfl (lv_at hl 3 rfl) ?_
  refine t_avi (As := [.int a0, .int a1, .int a2]) (rest := [.int 0, .ref ao]) E G hA hX hX.2.2.2.1 hml (a_X11_bestLag l hst D cI cJ cZ cMic cSrc cSt cAI cAJ ad T o a0 a1 a2 h hrc h_o) (cwV 3 hts (gaV qA_1089 qA_1090 qA_1091 qA_131 qA_887) rfl rfl rfl (by decide +kernel) ⟨Nat.le_of_ble_eq_true rfl, Nat.le_of_ble_eq_true rfl⟩) h_o (cc_o11 h_s) rfl rfl hl.1 rfl (lv_room (Nat.le_of_ble_eq_true rfl)) dL_bestLag_7 ⟨by show 0 + (T1.1 - T.1) ≤ T1.1 - T.1 + 1; omega, by show 0 + (sg T1 - sg T) ≤ sg T1 - sg T + 6; omega⟩ ?_
  intro ad2 H locs had G
  refine lv_i2l (v := r1.toInt64) hx hb dL_bestLag_10 rfl ?_
  refine t_last E G dL_bestLag_11 (fun H locs G => ?_)
  refine lv_goto (tgt := 27) hx hb dL_bestLag_12 (by decide) ?_
  refine lv_iconst (v := 0) hx hb dL_bestLag_27 (by decide) ?_
  refine W.widen (k := T1.1 - T.1 + 1) (n := sg T1 - sg T + 6) (by omega) (by omega) ?_
  exact W.iret (v := 0) hx hb hr (fun t ht hW => ⟨⟨0, ad2, rfl, ⟨rfl, had⟩, ⟨by rw [ht]; exact G.1, va_K.moved hW.alike hK, G.2.1⟩⟩, G.2.2.F ht⟩) G.2.2.2.2 dL_bestLag_28
set_option maxHeartbeats 4000000 in
set_option maxRecDepth 100000 in
theorem v_bestLag_t (l : Launch) (hst : l.stackTraces = false) (D : va_G) {cI cJ cZ cMic cSrc cSt cAI cAJ cD : ClassId} (h0 : Nat) (ad : Nat → Nat) (T : AT) (o : Nat) (a0 a1 a2 : Int32) (ao : Nat) (f : Nat → Int64) {e1 : Nat} {r1 : Int32} {T1 : AT} (h : g_X11_bestLag T o a0 a1 a2 = some (e1 + 1, r1, T1)) (hrc : RC T) (h_o : o < T.1) (h_s : T.2.1 o = (11, 0)) : tWi l yL_bestLag (Cond.codeWith yL_bestLag cL_bestLag 6 (some .int) [(0, 12, 15, 21), (0, 12, 19, 13), (0, 12, 23, 15)] :: wsA) 9 148 cI cJ cZ cMic cSrc cSt cAI cAJ cD D h0 ad T (oJ ao cJ f) [.ref (ad o), .int a0, .int a1, .int a2, .ref ao] (vck 1 2 3 (e1 + 1)) T1 (oJ ao cJ (vfJ (e1 + 1) f r1.toInt64)) := by
  intro sz
  refine va_MetW (cc := cL_bestLag) (maxL := 6) (ret := some .int) (by decide) rfl ?_
  intro p e s m args below meth c s₁ B hml hv
  obtain ⟨rfl, hsz, hP, hK, hD0, hX, hN, hA0, hTS⟩ := hv
  have hx := B.exec
  have hb := B.bytes
  have hr := B.returns
  have hts := atoms_spec (ws := (Cond.codeWith yL_bestLag cL_bestLag 6 (some .int) [(0, 12, 15, 21), (0, 12, 19, 13), (0, 12, 23, 15)] :: wsA)) B.pre
  have hown : s.vm.findClass RL = some m.cls := findClass_of_methodNamed B.named
  have hlocks := B.notSynchronized
  have htb := vx_table (x := yL_bestLag) B (hts _ (.head _))
  subst hsz
  have hD := hD0.self (sz := s.heap.size)
  generalize hAe : va_A (cW ad T.1 (cc cI cJ cZ cMic cSrc cSt cAI cAJ ad T) ++ [oJ ao cJ f]) s.heap.size = A at hD hX hA0 ⊢
  have hA : ∀ q : Nat, s.heap.size ≤ q → A q := fun q h => by rw [← hAe]; exact Or.inr h
  have G : gL cI cJ cZ cMic cSrc cSt cAI cAJ D ad A s.heap s.heap [] T [oJ ao cJ f] := ⟨hP, hD, va_S.rf⟩
  have E : cE p c cL_bestLag s m ([.ref (ad o), .int a0, .int a1, .int a2, .ref ao] : List Value).toArray (Cond.codeWith yL_bestLag cL_bestLag 6 (some .int) [(0, 12, 15, 21), (0, 12, 19, 13), (0, 12, 23, 15)] :: wsA) D RL (CT cI cJ cZ cMic cSrc cSt cAI cAJ ++ [(cD, .double)]) := ⟨hx, hb, hts, hown, hK⟩
  have hl := lv_entry ([.ref (ad o), .int a0, .int a1, .int a2, .ref ao]) (n := 6) (Nat.le_of_ble_eq_true rfl)
  rw [lg_entry_eq]
  generalize (lg_sl ([.ref (ad o), .int a0, .int a1, .int a2, .ref ao]) ++ List.replicate (6 - (lg_sl ([.ref (ad o), .int a0, .int a1, .int a2, .ref ao])).length) Slot.unset).toArray = ls at hl ⊢
  have hl : lv_has ls 6 [(0, .ref (ad o)), (1, .int a0), (2, .int a1), (3, .int a2), (4, .ref ao)] := hl
  refine lv_aload hx hb dL_bestLag_0 (lv_at hl 4 rfl) ?_
  refine lv_iconst (v := 0) hx hb dL_bestLag_2 (by decide) ?_
  refine lv_aload_n hx hb dL_bestLag_3 rfl (lv_at hl 0 rfl) ?_
  refine lv_iload_n hx hb dL_bestLag_4 rfl (lv_at hl 1 rfl) ?_
  refine lv_iload_n hx hb dL_bestLag_5 rfl (lv_at hl 2 rfl) ?_
  refine lv_iload_n hx hb dL_bestLag_6 rfl (lv_at hl 3 rfl) ?_
  refine t_bvi (As := [.int a0, .int a1, .int a2]) (rest := [.int 0, .ref ao]) E G hA hX hX.2.2.2.1 hml (b_X11_bestLag l hst D cI cJ cZ cMic cSrc cSt cAI cAJ ad T o a0 a1 a2 h hrc h_o) (cwV 3 hts (gaV qA_1089 qA_1090 qA_1091 qA_131 qA_887) rfl rfl rfl (by decide +kernel) ⟨Nat.le_of_ble_eq_true rfl, Nat.le_of_ble_eq_true rfl⟩) h_o (cc_o11 h_s) rfl rfl hl.1 rfl (lv_room (Nat.le_of_ble_eq_true rfl)) dL_bestLag_7 ⟨by show 0 + (T1.1 - T.1 + 1) ≤ T1.1 - T.1 + 1; omega, by show 0 + (sg T1 - sg T + 6) ≤ sg T1 - sg T + 6; omega⟩ ?_
  intro E9 ce q9 ad2 H locs hE had G hce hcv hcl
  rcases e1 with _ | _ | e1
  · have hE : E9 = xISE := hE
    subst hE
    refine vx_catch (name := xISE) hown [] { startPc := 0, endPc := 12, handlerPc := 15, catchType := 21 } [{ startPc := 0, endPc := 12, handlerPc := 19, catchType := 13 }, { startPc := 0, endPc := 12, handlerPc := 23, catchType := 15 }] htb (fun z hz => absurd hz List.not_mem_nil) (by decide) (by decide) (hts _ (.tail _ qA_952)) (hX.use (.castable xISE xISE) (by decide +kernel)) hce hcv hcl ?_
    refine lv_astore (lv' := [(5, .ref q9), (0, .ref (ad o)), (1, .int a0), (2, .int a1), (3, .int a2), (4, .ref ao)]) hx hb dL_bestLag_15 hl (by decide) rfl (fun ls hl => ?_)
    refine lv_iconst (v := 1) hx hb dL_bestLag_17 (by decide) ?_
    refine W.widen (k := T1.1 - T.1 + 1) (n := sg T1 - sg T + 6) (by omega) (by omega) ?_
    exact W.iret (v := 1) hx hb hr (fun t ht hW => ⟨⟨1, ad2, rfl, ⟨rfl, had⟩, ⟨by rw [ht]; exact G.1, va_K.moved hW.alike hK, G.2.1⟩⟩, G.2.2.F ht⟩) G.2.2.2.2 dL_bestLag_18
  · have hE : E9 = xIOB := hE
    subst hE
    refine vx_catch (name := xIOB) hown [{ startPc := 0, endPc := 12, handlerPc := 15, catchType := 21 }] { startPc := 0, endPc := 12, handlerPc := 19, catchType := 13 } [{ startPc := 0, endPc := 12, handlerPc := 23, catchType := 15 }] htb (List.forall_mem_cons.mpr ⟨Or.inr ⟨by decide, xISE, hts _ (.tail _ qA_952), hN.2.2.1⟩, fun z hz => absurd hz List.not_mem_nil⟩) (by decide) (by decide) (hts _ (.tail _ qA_946)) (hX.use (.castable xIOB xIOB) (by decide +kernel)) hce hcv hcl ?_
    refine lv_astore (lv' := [(5, .ref q9), (0, .ref (ad o)), (1, .int a0), (2, .int a1), (3, .int a2), (4, .ref ao)]) hx hb dL_bestLag_19 hl (by decide) rfl (fun ls hl => ?_)
    refine lv_iconst (v := 2) hx hb dL_bestLag_21 (by decide) ?_
    refine W.widen (k := T1.1 - T.1 + 1) (n := sg T1 - sg T + 6) (by omega) (by omega) ?_
    exact W.iret (v := 2) hx hb hr (fun t ht hW => ⟨⟨2, ad2, rfl, ⟨rfl, had⟩, ⟨by rw [ht]; exact G.1, va_K.moved hW.alike hK, G.2.1⟩⟩, G.2.2.F ht⟩) G.2.2.2.2 dL_bestLag_22
  · have hE : E9 = xIAE := hE
    subst hE
    refine vx_catch (name := xIAE) hown [{ startPc := 0, endPc := 12, handlerPc := 15, catchType := 21 }, { startPc := 0, endPc := 12, handlerPc := 19, catchType := 13 }] { startPc := 0, endPc := 12, handlerPc := 23, catchType := 15 } [] htb (List.forall_mem_cons.mpr ⟨Or.inr ⟨by decide, xISE, hts _ (.tail _ qA_952), hN.2.2.2⟩, List.forall_mem_cons.mpr ⟨Or.inr ⟨by decide, xIOB, hts _ (.tail _ qA_946), hN.1⟩, fun z hz => absurd hz List.not_mem_nil⟩⟩) (by decide) (by decide) (hts _ (.tail _ qA_947)) (hX.use (.castable xIAE xIAE) (by decide +kernel)) hce hcv hcl ?_
    refine lv_astore (lv' := [(5, .ref q9), (0, .ref (ad o)), (1, .int a0), (2, .int a1), (3, .int a2), (4, .ref ao)]) hx hb dL_bestLag_23 hl (by decide) rfl (fun ls hl => ?_)
    refine lv_iconst (v := 3) hx hb dL_bestLag_25 (by decide) ?_
    refine W.widen (k := T1.1 - T.1 + 1) (n := sg T1 - sg T + 6) (by omega) (by omega) ?_
    exact W.iret (v := 3) hx hb hr (fun t ht hW => ⟨⟨3, ad2, rfl, ⟨rfl, had⟩, ⟨by rw [ht]; exact G.1, va_K.moved hW.alike hK, G.2.1⟩⟩, G.2.2.F ht⟩) G.2.2.2.2 dL_bestLag_26
theorem v_bestLag (l : Launch) (hst : l.stackTraces = false) (D : va_G) {cI cJ cZ cMic cSrc cSt cAI cAJ cD : ClassId} (h0 : Nat) (ad : Nat → Nat) (T : AT) (o : Nat) (a0 a1 a2 : Int32) (ao : Nat) (f : Nat → Int64) {k1 : Nat} {r1 : Int32} {T1 : AT} (h : g_X11_bestLag T o a0 a1 a2 = some (k1, r1, T1)) (hrc : RC T) (h_o : o < T.1) (h_s : T.2.1 o = (11, 0)) : tWi l yL_bestLag (Cond.codeWith yL_bestLag cL_bestLag 6 (some .int) [(0, 12, 15, 21), (0, 12, 19, 13), (0, 12, 23, 15)] :: wsA) 9 148 cI cJ cZ cMic cSrc cSt cAI cAJ cD D h0 ad T (oJ ao cJ f) [.ref (ad o), .int a0, .int a1, .int a2, .ref ao] (vck 1 2 3 k1) T1 (oJ ao cJ (vfJ k1 f r1.toInt64)) := by
  cases k1 with
  | zero => exact v_bestLag_n l hst D h0 ad T o a0 a1 a2 ao f h hrc h_o h_s
  | succ e1 => exact v_bestLag_t l hst D h0 ad T o a0 a1 a2 ao f h hrc h_o h_s
set_option maxHeartbeats 4000000 in
set_option maxRecDepth 100000 in
theorem v_level_n (l : Launch) (hst : l.stackTraces = false) (D : va_G) {cI cJ cZ cMic cSrc cSt cAI cAJ cD : ClassId} (h0 : Nat) (ad : Nat → Nat) (T : AT) (o : Nat) (a0 : Int32) (ao : Nat) (f : Nat → Int64) {r1 : Int64} {T1 : AT} (h : g_X11_level T o a0 = some (0, r1, T1)) (hrc : RC T) (h_o : o < T.1) (h_s : T.2.1 o = (11, 0)) : tWi l yL_level (Cond.codeWith yL_level cL_level 4 (some .int) [(0, 8, 11, 21), (0, 8, 14, 13)] :: wsA) 9 146 cI cJ cZ cMic cSrc cSt cAI cAJ cD D h0 ad T (oJ ao cJ f) [.ref (ad o), .int a0, .ref ao] (vck 1 2 0 (0)) T1 (oJ ao cJ (vfJ (0) f r1)) := by
  intro sz
  refine va_MetW (cc := cL_level) (maxL := 4) (ret := some .int) (by decide) rfl ?_
  intro p e s m args below meth c s₁ B hml hv
  obtain ⟨rfl, hsz, hP, hK, hD0, hX, hN, hA0, hTS⟩ := hv
  have hx := B.exec
  have hb := B.bytes
  have hr := B.returns
  have hts := atoms_spec (ws := (Cond.codeWith yL_level cL_level 4 (some .int) [(0, 8, 11, 21), (0, 8, 14, 13)] :: wsA)) B.pre
  have hown : s.vm.findClass RL = some m.cls := findClass_of_methodNamed B.named
  have hlocks := B.notSynchronized
  have htb := vx_table (x := yL_level) B (hts _ (.head _))
  subst hsz
  have hD := hD0.self (sz := s.heap.size)
  generalize hAe : va_A (cW ad T.1 (cc cI cJ cZ cMic cSrc cSt cAI cAJ ad T) ++ [oJ ao cJ f]) s.heap.size = A at hD hX hA0 ⊢
  have hA : ∀ q : Nat, s.heap.size ≤ q → A q := fun q h => by rw [← hAe]; exact Or.inr h
  have G : gL cI cJ cZ cMic cSrc cSt cAI cAJ D ad A s.heap s.heap [] T [oJ ao cJ f] := ⟨hP, hD, va_S.rf⟩
  have E : cE p c cL_level s m ([.ref (ad o), .int a0, .ref ao] : List Value).toArray (Cond.codeWith yL_level cL_level 4 (some .int) [(0, 8, 11, 21), (0, 8, 14, 13)] :: wsA) D RL (CT cI cJ cZ cMic cSrc cSt cAI cAJ ++ [(cD, .double)]) := ⟨hx, hb, hts, hown, hK⟩
  have hl := lv_entry ([.ref (ad o), .int a0, .ref ao]) (n := 4) (Nat.le_of_ble_eq_true rfl)
  rw [lg_entry_eq]
  generalize (lg_sl ([.ref (ad o), .int a0, .ref ao]) ++ List.replicate (4 - (lg_sl ([.ref (ad o), .int a0, .ref ao])).length) Slot.unset).toArray = ls at hl ⊢
  have hl : lv_has ls 4 [(0, .ref (ad o)), (1, .int a0), (2, .ref ao)] := hl
  refine lv_aload_n hx hb dL_level_0 rfl (lv_at hl 2 rfl) ?_
  refine lv_iconst (v := 0) hx hb dL_level_1 (by decide) ?_
  refine lv_aload_n hx hb dL_level_2 rfl (lv_at hl 0 rfl) ?_
  refine lv_iload_n hx hb dL_level_3 rfl (lv_at hl 1 rfl) ?_
  refine t_avl (As := [.int a0]) (rest := [.int 0, .ref ao]) E G hA hX hX.2.2.2.1 hml (a_X11_level l hst D cI cJ cZ cMic cSrc cSt cAI cAJ ad T o a0 h hrc h_o) (cwV 1 hts (gaV qA_1093 qA_1094 qA_1095 qA_131 qA_888) rfl rfl rfl (by decide +kernel) ⟨Nat.le_of_ble_eq_true rfl, Nat.le_of_ble_eq_true rfl⟩) h_o (cc_o11 h_s) rfl rfl hl.1 rfl (lv_room (Nat.le_of_ble_eq_true rfl)) dL_level_4 ⟨by show 0 + (T1.1 - T.1) ≤ T1.1 - T.1 + 1; omega, by show 0 + (sg T1 - sg T) ≤ sg T1 - sg T + 6; omega⟩ ?_
  intro ad2 H locs had G
  refine t_last E G dL_level_7 (fun H locs G => ?_)
  refine lv_goto (tgt := 17) hx hb dL_level_8 (by decide) ?_
  refine lv_iconst (v := 0) hx hb dL_level_17 (by decide) ?_
  refine W.widen (k := T1.1 - T.1 + 1) (n := sg T1 - sg T + 6) (by omega) (by omega) ?_
  exact W.iret (v := 0) hx hb hr (fun t ht hW => ⟨⟨0, ad2, rfl, ⟨rfl, had⟩, ⟨by rw [ht]; exact G.1, va_K.moved hW.alike hK, G.2.1⟩⟩, G.2.2.F ht⟩) G.2.2.2.2 dL_level_18
set_option maxHeartbeats 4000000 in
set_option maxRecDepth 100000 in
theorem v_level_t (l : Launch) (hst : l.stackTraces = false) (D : va_G) {cI cJ cZ cMic cSrc cSt cAI cAJ cD : ClassId} (h0 : Nat) (ad : Nat → Nat) (T : AT) (o : Nat) (a0 : Int32) (ao : Nat) (f : Nat → Int64) {e1 : Nat} {r1 : Int64} {T1 : AT} (h : g_X11_level T o a0 = some (e1 + 1, r1, T1)) (hrc : RC T) (h_o : o < T.1) (h_s : T.2.1 o = (11, 0)) : tWi l yL_level (Cond.codeWith yL_level cL_level 4 (some .int) [(0, 8, 11, 21), (0, 8, 14, 13)] :: wsA) 9 146 cI cJ cZ cMic cSrc cSt cAI cAJ cD D h0 ad T (oJ ao cJ f) [.ref (ad o), .int a0, .ref ao] (vck 1 2 0 (e1 + 1)) T1 (oJ ao cJ (vfJ (e1 + 1) f r1)) := by
  intro sz
  refine va_MetW (cc := cL_level) (maxL := 4) (ret := some .int) (by decide) rfl ?_
  intro p e s m args below meth c s₁ B hml hv
  obtain ⟨rfl, hsz, hP, hK, hD0, hX, hN, hA0, hTS⟩ := hv
  have hx := B.exec
  have hb := B.bytes
  have hr := B.returns
  have hts := atoms_spec (ws := (Cond.codeWith yL_level cL_level 4 (some .int) [(0, 8, 11, 21), (0, 8, 14, 13)] :: wsA)) B.pre
  have hown : s.vm.findClass RL = some m.cls := findClass_of_methodNamed B.named
  have hlocks := B.notSynchronized
  have htb := vx_table (x := yL_level) B (hts _ (.head _))
  subst hsz
  have hD := hD0.self (sz := s.heap.size)
  generalize hAe : va_A (cW ad T.1 (cc cI cJ cZ cMic cSrc cSt cAI cAJ ad T) ++ [oJ ao cJ f]) s.heap.size = A at hD hX hA0 ⊢
  have hA : ∀ q : Nat, s.heap.size ≤ q → A q := fun q h => by rw [← hAe]; exact Or.inr h
  have G : gL cI cJ cZ cMic cSrc cSt cAI cAJ D ad A s.heap s.heap [] T [oJ ao cJ f] := ⟨hP, hD, va_S.rf⟩
  have E : cE p c cL_level s m ([.ref (ad o), .int a0, .ref ao] : List Value).toArray (Cond.codeWith yL_level cL_level 4 (some .int) [(0, 8, 11, 21), (0, 8, 14, 13)] :: wsA) D RL (CT cI cJ cZ cMic cSrc cSt cAI cAJ ++ [(cD, .double)]) := ⟨hx, hb, hts, hown, hK⟩
  have hl := lv_entry ([.ref (ad o), .int a0, .ref ao]) (n := 4) (Nat.le_of_ble_eq_true rfl)
  rw [lg_entry_eq]
  generalize (lg_sl ([.ref (ad o), .int a0, .ref ao]) ++ List.replicate (4 - (lg_sl ([.ref (ad o), .int a0, .ref ao])).length) Slot.unset).toArray = ls at hl ⊢
  have hl : lv_has ls 4 [(0, .ref (ad o)), (1, .int a0), (2, .ref ao)] := hl
  refine lv_aload_n hx hb dL_level_0 rfl (lv_at hl 2 rfl) ?_
  refine lv_iconst (v := 0) hx hb dL_level_1 (by decide) ?_
  refine lv_aload_n hx hb dL_level_2 rfl (lv_at hl 0 rfl) ?_
  refine lv_iload_n hx hb dL_level_3 rfl (lv_at hl 1 rfl) ?_
  refine t_bvl (As := [.int a0]) (rest := [.int 0, .ref ao]) E G hA hX hX.2.2.2.1 hml (b_X11_level l hst D cI cJ cZ cMic cSrc cSt cAI cAJ ad T o a0 h hrc h_o) (cwV 1 hts (gaV qA_1093 qA_1094 qA_1095 qA_131 qA_888) rfl rfl rfl (by decide +kernel) ⟨Nat.le_of_ble_eq_true rfl, Nat.le_of_ble_eq_true rfl⟩) h_o (cc_o11 h_s) rfl rfl hl.1 rfl (lv_room (Nat.le_of_ble_eq_true rfl)) dL_level_4 ⟨by show 0 + (T1.1 - T.1 + 1) ≤ T1.1 - T.1 + 1; omega, by show 0 + (sg T1 - sg T + 6) ≤ sg T1 - sg T + 6; omega⟩ ?_
  intro E9 ce q9 ad2 H locs hE had G hce hcv hcl
  rcases e1 with _ | _ | e1
  · have hE : E9 = xISE := hE
    subst hE
    refine vx_catch (name := xISE) hown [] { startPc := 0, endPc := 8, handlerPc := 11, catchType := 21 } [{ startPc := 0, endPc := 8, handlerPc := 14, catchType := 13 }] htb (fun z hz => absurd hz List.not_mem_nil) (by decide) (by decide) (hts _ (.tail _ qA_952)) (hX.use (.castable xISE xISE) (by decide +kernel)) hce hcv hcl ?_
    refine lv_astore_n (lv' := [(3, .ref q9), (0, .ref (ad o)), (1, .int a0), (2, .ref ao)]) hx hb dL_level_11 rfl hl (by decide) rfl (fun ls hl => ?_)
    refine lv_iconst (v := 1) hx hb dL_level_12 (by decide) ?_
    refine W.widen (k := T1.1 - T.1 + 1) (n := sg T1 - sg T + 6) (by omega) (by omega) ?_
    exact W.iret (v := 1) hx hb hr (fun t ht hW => ⟨⟨1, ad2, rfl, ⟨rfl, had⟩, ⟨by rw [ht]; exact G.1, va_K.moved hW.alike hK, G.2.1⟩⟩, G.2.2.F ht⟩) G.2.2.2.2 dL_level_13
  · have hE : E9 = xIOB := hE
    subst hE
    refine vx_catch (name := xIOB) hown [{ startPc := 0, endPc := 8, handlerPc := 11, catchType := 21 }] { startPc := 0, endPc := 8, handlerPc := 14, catchType := 13 } [] htb (List.forall_mem_cons.mpr ⟨Or.inr ⟨by decide, xISE, hts _ (.tail _ qA_952), hN.2.2.1⟩, fun z hz => absurd hz List.not_mem_nil⟩) (by decide) (by decide) (hts _ (.tail _ qA_946)) (hX.use (.castable xIOB xIOB) (by decide +kernel)) hce hcv hcl ?_
    refine lv_astore_n (lv' := [(3, .ref q9), (0, .ref (ad o)), (1, .int a0), (2, .ref ao)]) hx hb dL_level_14 rfl hl (by decide) rfl (fun ls hl => ?_)
    refine lv_iconst (v := 2) hx hb dL_level_15 (by decide) ?_
    refine W.widen (k := T1.1 - T.1 + 1) (n := sg T1 - sg T + 6) (by omega) (by omega) ?_
    exact W.iret (v := 2) hx hb hr (fun t ht hW => ⟨⟨2, ad2, rfl, ⟨rfl, had⟩, ⟨by rw [ht]; exact G.1, va_K.moved hW.alike hK, G.2.1⟩⟩, G.2.2.F ht⟩) G.2.2.2.2 dL_level_16
  · have q := (cd_g_X11_level (S := [0, 1, 2]) (fun _ h => h) T o a0 _ _ _ h)
    simp only [List.mem_cons, List.not_mem_nil, or_false] at q
    omega
theorem v_level (l : Launch) (hst : l.stackTraces = false) (D : va_G) {cI cJ cZ cMic cSrc cSt cAI cAJ cD : ClassId} (h0 : Nat) (ad : Nat → Nat) (T : AT) (o : Nat) (a0 : Int32) (ao : Nat) (f : Nat → Int64) {k1 : Nat} {r1 : Int64} {T1 : AT} (h : g_X11_level T o a0 = some (k1, r1, T1)) (hrc : RC T) (h_o : o < T.1) (h_s : T.2.1 o = (11, 0)) : tWi l yL_level (Cond.codeWith yL_level cL_level 4 (some .int) [(0, 8, 11, 21), (0, 8, 14, 13)] :: wsA) 9 146 cI cJ cZ cMic cSrc cSt cAI cAJ cD D h0 ad T (oJ ao cJ f) [.ref (ad o), .int a0, .ref ao] (vck 1 2 0 k1) T1 (oJ ao cJ (vfJ k1 f r1)) := by
  cases k1 with
  | zero => exact v_level_n l hst D h0 ad T o a0 ao f h hrc h_o h_s
  | succ e1 => exact v_level_t l hst D h0 ad T o a0 ao f h hrc h_o h_s
set_option maxHeartbeats 4000000 in
set_option maxRecDepth 100000 in
theorem v_loudest_n (l : Launch) (hst : l.stackTraces = false) (D : va_G) {cI cJ cZ cMic cSrc cSt cAI cAJ cD : ClassId} (h0 : Nat) (ad : Nat → Nat) (T : AT) (o : Nat) (a0 : Int32) (ao : Nat) (f : Nat → Int64) {r1 : Int32} {T1 : AT} (h : g_X11_loudest T o a0 = some (0, r1, T1)) (hrc : RC T) (h_o : o < T.1) (h_s : T.2.1 o = (11, 0)) : tWi l yL_loudest (Cond.codeWith yL_loudest cL_loudest 4 (some .int) [(0, 9, 12, 21), (0, 9, 15, 13)] :: wsA) 8 147 cI cJ cZ cMic cSrc cSt cAI cAJ cD D h0 ad T (oJ ao cJ f) [.ref (ad o), .int a0, .ref ao] (vck 1 2 0 (0)) T1 (oJ ao cJ (vfJ (0) f r1.toInt64)) := by
  intro sz
  refine va_MetW (cc := cL_loudest) (maxL := 4) (ret := some .int) (by decide) rfl ?_
  intro p e s m args below meth c s₁ B hml hv
  obtain ⟨rfl, hsz, hP, hK, hD0, hX, hN, hA0, hTS⟩ := hv
  have hx := B.exec
  have hb := B.bytes
  have hr := B.returns
  have hts := atoms_spec (ws := (Cond.codeWith yL_loudest cL_loudest 4 (some .int) [(0, 9, 12, 21), (0, 9, 15, 13)] :: wsA)) B.pre
  have hown : s.vm.findClass RL = some m.cls := findClass_of_methodNamed B.named
  have hlocks := B.notSynchronized
  have htb := vx_table (x := yL_loudest) B (hts _ (.head _))
  subst hsz
  have hD := hD0.self (sz := s.heap.size)
  generalize hAe : va_A (cW ad T.1 (cc cI cJ cZ cMic cSrc cSt cAI cAJ ad T) ++ [oJ ao cJ f]) s.heap.size = A at hD hX hA0 ⊢
  have hA : ∀ q : Nat, s.heap.size ≤ q → A q := fun q h => by rw [← hAe]; exact Or.inr h
  have G : gL cI cJ cZ cMic cSrc cSt cAI cAJ D ad A s.heap s.heap [] T [oJ ao cJ f] := ⟨hP, hD, va_S.rf⟩
  have E : cE p c cL_loudest s m ([.ref (ad o), .int a0, .ref ao] : List Value).toArray (Cond.codeWith yL_loudest cL_loudest 4 (some .int) [(0, 9, 12, 21), (0, 9, 15, 13)] :: wsA) D RL (CT cI cJ cZ cMic cSrc cSt cAI cAJ ++ [(cD, .double)]) := ⟨hx, hb, hts, hown, hK⟩
  have hl := lv_entry ([.ref (ad o), .int a0, .ref ao]) (n := 4) (Nat.le_of_ble_eq_true rfl)
  rw [lg_entry_eq]
  generalize (lg_sl ([.ref (ad o), .int a0, .ref ao]) ++ List.replicate (4 - (lg_sl ([.ref (ad o), .int a0, .ref ao])).length) Slot.unset).toArray = ls at hl ⊢
  have hl : lv_has ls 4 [(0, .ref (ad o)), (1, .int a0), (2, .ref ao)] := hl
  refine lv_aload_n hx hb dL_loudest_0 rfl (lv_at hl 2 rfl) ?_
  refine lv_iconst (v := 0) hx hb dL_loudest_1 (by decide) ?_
  refine lv_aload_n hx hb dL_loudest_2 rfl (lv_at hl 0 rfl) ?_
  refine lv_iload_n hx hb dL_loudest_3 rfl (lv_at hl 1 rfl) ?_
  refine t_avi (As := [.int a0]) (rest := [.int 0, .ref ao]) E G hA hX hX.2.2.2.1 hml (a_X11_loudest l hst D cI cJ cZ cMic cSrc cSt cAI cAJ ad T o a0 h hrc h_o) (cwV 1 hts (gaV qA_1097 qA_1098 qA_1099 qA_131 qA_893) rfl rfl rfl (by decide +kernel) ⟨Nat.le_of_ble_eq_true rfl, Nat.le_of_ble_eq_true rfl⟩) h_o (cc_o11 h_s) rfl rfl hl.1 rfl (lv_room (Nat.le_of_ble_eq_true rfl)) dL_loudest_4 ⟨by show 0 + (T1.1 - T.1) ≤ T1.1 - T.1 + 1; omega, by show 0 + (sg T1 - sg T) ≤ sg T1 - sg T + 6; omega⟩ ?_
  intro ad2 H locs had G
  refine lv_i2l (v := r1.toInt64) hx hb dL_loudest_7 rfl ?_
  refine t_last E G dL_loudest_8 (fun H locs G => ?_)
  refine lv_goto (tgt := 18) hx hb dL_loudest_9 (by decide) ?_
  refine lv_iconst (v := 0) hx hb dL_loudest_18 (by decide) ?_
  refine W.widen (k := T1.1 - T.1 + 1) (n := sg T1 - sg T + 6) (by omega) (by omega) ?_
  exact W.iret (v := 0) hx hb hr (fun t ht hW => ⟨⟨0, ad2, rfl, ⟨rfl, had⟩, ⟨by rw [ht]; exact G.1, va_K.moved hW.alike hK, G.2.1⟩⟩, G.2.2.F ht⟩) G.2.2.2.2 dL_loudest_19
set_option maxHeartbeats 4000000 in
set_option maxRecDepth 100000 in
theorem v_loudest_t (l : Launch) (hst : l.stackTraces = false) (D : va_G) {cI cJ cZ cMic cSrc cSt cAI cAJ cD : ClassId} (h0 : Nat) (ad : Nat → Nat) (T : AT) (o : Nat) (a0 : Int32) (ao : Nat) (f : Nat → Int64) {e1 : Nat} {r1 : Int32} {T1 : AT} (h : g_X11_loudest T o a0 = some (e1 + 1, r1, T1)) (hrc : RC T) (h_o : o < T.1) (h_s : T.2.1 o = (11, 0)) : tWi l yL_loudest (Cond.codeWith yL_loudest cL_loudest 4 (some .int) [(0, 9, 12, 21), (0, 9, 15, 13)] :: wsA) 8 147 cI cJ cZ cMic cSrc cSt cAI cAJ cD D h0 ad T (oJ ao cJ f) [.ref (ad o), .int a0, .ref ao] (vck 1 2 0 (e1 + 1)) T1 (oJ ao cJ (vfJ (e1 + 1) f r1.toInt64)) := by
  intro sz
  refine va_MetW (cc := cL_loudest) (maxL := 4) (ret := some .int) (by decide) rfl ?_
  intro p e s m args below meth c s₁ B hml hv
  obtain ⟨rfl, hsz, hP, hK, hD0, hX, hN, hA0, hTS⟩ := hv
  have hx := B.exec
  have hb := B.bytes
  have hr := B.returns
  have hts := atoms_spec (ws := (Cond.codeWith yL_loudest cL_loudest 4 (some .int) [(0, 9, 12, 21), (0, 9, 15, 13)] :: wsA)) B.pre
  have hown : s.vm.findClass RL = some m.cls := findClass_of_methodNamed B.named
  have hlocks := B.notSynchronized
  have htb := vx_table (x := yL_loudest) B (hts _ (.head _))
  subst hsz
  have hD := hD0.self (sz := s.heap.size)
  generalize hAe : va_A (cW ad T.1 (cc cI cJ cZ cMic cSrc cSt cAI cAJ ad T) ++ [oJ ao cJ f]) s.heap.size = A at hD hX hA0 ⊢
  have hA : ∀ q : Nat, s.heap.size ≤ q → A q := fun q h => by rw [← hAe]; exact Or.inr h
  have G : gL cI cJ cZ cMic cSrc cSt cAI cAJ D ad A s.heap s.heap [] T [oJ ao cJ f] := ⟨hP, hD, va_S.rf⟩
  have E : cE p c cL_loudest s m ([.ref (ad o), .int a0, .ref ao] : List Value).toArray (Cond.codeWith yL_loudest cL_loudest 4 (some .int) [(0, 9, 12, 21), (0, 9, 15, 13)] :: wsA) D RL (CT cI cJ cZ cMic cSrc cSt cAI cAJ ++ [(cD, .double)]) := ⟨hx, hb, hts, hown, hK⟩
  have hl := lv_entry ([.ref (ad o), .int a0, .ref ao]) (n := 4) (Nat.le_of_ble_eq_true rfl)
  rw [lg_entry_eq]
  generalize (lg_sl ([.ref (ad o), .int a0, .ref ao]) ++ List.replicate (4 - (lg_sl ([.ref (ad o), .int a0, .ref ao])).length) Slot.unset).toArray = ls at hl ⊢
  have hl : lv_has ls 4 [(0, .ref (ad o)), (1, .int a0), (2, .ref ao)] := hl
  refine lv_aload_n hx hb dL_loudest_0 rfl (lv_at hl 2 rfl) ?_
  refine lv_iconst (v := 0) hx hb dL_loudest_1 (by decide) ?_
  refine lv_aload_n hx hb dL_loudest_2 rfl (lv_at hl 0 rfl) ?_
  refine lv_iload_n hx hb dL_loudest_3 rfl (lv_at hl 1 rfl) ?_
  refine t_bvi (As := [.int a0]) (rest := [.int 0, .ref ao]) E G hA hX hX.2.2.2.1 hml (b_X11_loudest l hst D cI cJ cZ cMic cSrc cSt cAI cAJ ad T o a0 h hrc h_o) (cwV 1 hts (gaV qA_1097 qA_1098 qA_1099 qA_131 qA_893) rfl rfl rfl (by decide +kernel) ⟨Nat.le_of_ble_eq_true rfl, Nat.le_of_ble_eq_true rfl⟩) h_o (cc_o11 h_s) rfl rfl hl.1 rfl (lv_room (Nat.le_of_ble_eq_true rfl)) dL_loudest_4 ⟨by show 0 + (T1.1 - T.1 + 1) ≤ T1.1 - T.1 + 1; omega, by show 0 + (sg T1 - sg T + 6) ≤ sg T1 - sg T + 6; omega⟩ ?_
  intro E9 ce q9 ad2 H locs hE had G hce hcv hcl
  rcases e1 with _ | _ | e1
  · have hE : E9 = xISE := hE
    subst hE
    refine vx_catch (name := xISE) hown [] { startPc := 0, endPc := 9, handlerPc := 12, catchType := 21 } [{ startPc := 0, endPc := 9, handlerPc := 15, catchType := 13 }] htb (fun z hz => absurd hz List.not_mem_nil) (by decide) (by decide) (hts _ (.tail _ qA_952)) (hX.use (.castable xISE xISE) (by decide +kernel)) hce hcv hcl ?_
    refine lv_astore_n (lv' := [(3, .ref q9), (0, .ref (ad o)), (1, .int a0), (2, .ref ao)]) hx hb dL_loudest_12 rfl hl (by decide) rfl (fun ls hl => ?_)
    refine lv_iconst (v := 1) hx hb dL_loudest_13 (by decide) ?_
    refine W.widen (k := T1.1 - T.1 + 1) (n := sg T1 - sg T + 6) (by omega) (by omega) ?_
    exact W.iret (v := 1) hx hb hr (fun t ht hW => ⟨⟨1, ad2, rfl, ⟨rfl, had⟩, ⟨by rw [ht]; exact G.1, va_K.moved hW.alike hK, G.2.1⟩⟩, G.2.2.F ht⟩) G.2.2.2.2 dL_loudest_14
  · have hE : E9 = xIOB := hE
    subst hE
    refine vx_catch (name := xIOB) hown [{ startPc := 0, endPc := 9, handlerPc := 12, catchType := 21 }] { startPc := 0, endPc := 9, handlerPc := 15, catchType := 13 } [] htb (List.forall_mem_cons.mpr ⟨Or.inr ⟨by decide, xISE, hts _ (.tail _ qA_952), hN.2.2.1⟩, fun z hz => absurd hz List.not_mem_nil⟩) (by decide) (by decide) (hts _ (.tail _ qA_946)) (hX.use (.castable xIOB xIOB) (by decide +kernel)) hce hcv hcl ?_
    refine lv_astore_n (lv' := [(3, .ref q9), (0, .ref (ad o)), (1, .int a0), (2, .ref ao)]) hx hb dL_loudest_15 rfl hl (by decide) rfl (fun ls hl => ?_)
    refine lv_iconst (v := 2) hx hb dL_loudest_16 (by decide) ?_
    refine W.widen (k := T1.1 - T.1 + 1) (n := sg T1 - sg T + 6) (by omega) (by omega) ?_
    exact W.iret (v := 2) hx hb hr (fun t ht hW => ⟨⟨2, ad2, rfl, ⟨rfl, had⟩, ⟨by rw [ht]; exact G.1, va_K.moved hW.alike hK, G.2.1⟩⟩, G.2.2.F ht⟩) G.2.2.2.2 dL_loudest_17
  · have q := (cd_g_X11_loudest (S := [0, 1, 2]) (fun _ h => h) T o a0 _ _ _ h)
    simp only [List.mem_cons, List.not_mem_nil, or_false] at q
    omega
theorem v_loudest (l : Launch) (hst : l.stackTraces = false) (D : va_G) {cI cJ cZ cMic cSrc cSt cAI cAJ cD : ClassId} (h0 : Nat) (ad : Nat → Nat) (T : AT) (o : Nat) (a0 : Int32) (ao : Nat) (f : Nat → Int64) {k1 : Nat} {r1 : Int32} {T1 : AT} (h : g_X11_loudest T o a0 = some (k1, r1, T1)) (hrc : RC T) (h_o : o < T.1) (h_s : T.2.1 o = (11, 0)) : tWi l yL_loudest (Cond.codeWith yL_loudest cL_loudest 4 (some .int) [(0, 9, 12, 21), (0, 9, 15, 13)] :: wsA) 8 147 cI cJ cZ cMic cSrc cSt cAI cAJ cD D h0 ad T (oJ ao cJ f) [.ref (ad o), .int a0, .ref ao] (vck 1 2 0 k1) T1 (oJ ao cJ (vfJ k1 f r1.toInt64)) := by
  cases k1 with
  | zero => exact v_loudest_n l hst D h0 ad T o a0 ao f h hrc h_o h_s
  | succ e1 => exact v_loudest_t l hst D h0 ad T o a0 ao f h hrc h_o h_s
set_option maxHeartbeats 4000000 in
set_option maxRecDepth 100000 in
theorem v_writeMap_n (l : Launch) (hst : l.stackTraces = false) (D : va_G) {cI cJ cZ cMic cSrc cSt cAI cAJ cD : ClassId} (h0 : Nat) (ad : Nat → Nat) (T : AT) (o : Nat) (ao : Nat) (f : Nat → Int64) {r1 : Int32} {T1 : AT} (h : g_X11_writeMap T o = some (0, r1, T1)) (hrc : RC T) (h_o : o < T.1) (h_s : T.2.1 o = (11, 0)) : tWi l yL_writeMap (Cond.codeWith yL_writeMap cL_writeMap 3 (some .int) [(0, 8, 11, 21)] :: wsA) 8 171 cI cJ cZ cMic cSrc cSt cAI cAJ cD D h0 ad T (oJ ao cJ f) [.ref (ad o), .ref ao] (vck 1 0 0 (0)) T1 (oJ ao cJ (vfJ (0) f r1.toInt64)) := by
  intro sz
  refine va_MetW (cc := cL_writeMap) (maxL := 3) (ret := some .int) (by decide) rfl ?_
  intro p e s m args below meth c s₁ B hml hv
  obtain ⟨rfl, hsz, hP, hK, hD0, hX, hN, hA0, hTS⟩ := hv
  have hx := B.exec
  have hb := B.bytes
  have hr := B.returns
  have hts := atoms_spec (ws := (Cond.codeWith yL_writeMap cL_writeMap 3 (some .int) [(0, 8, 11, 21)] :: wsA)) B.pre
  have hown : s.vm.findClass RL = some m.cls := findClass_of_methodNamed B.named
  have hlocks := B.notSynchronized
  have htb := vx_table (x := yL_writeMap) B (hts _ (.head _))
  subst hsz
  have hD := hD0.self (sz := s.heap.size)
  generalize hAe : va_A (cW ad T.1 (cc cI cJ cZ cMic cSrc cSt cAI cAJ ad T) ++ [oJ ao cJ f]) s.heap.size = A at hD hX hA0 ⊢
  have hA : ∀ q : Nat, s.heap.size ≤ q → A q := fun q h => by rw [← hAe]; exact Or.inr h
  have G : gL cI cJ cZ cMic cSrc cSt cAI cAJ D ad A s.heap s.heap [] T [oJ ao cJ f] := ⟨hP, hD, va_S.rf⟩
  have E : cE p c cL_writeMap s m ([.ref (ad o), .ref ao] : List Value).toArray (Cond.codeWith yL_writeMap cL_writeMap 3 (some .int) [(0, 8, 11, 21)] :: wsA) D RL (CT cI cJ cZ cMic cSrc cSt cAI cAJ ++ [(cD, .double)]) := ⟨hx, hb, hts, hown, hK⟩
  have hl := lv_entry ([.ref (ad o), .ref ao]) (n := 3) (Nat.le_of_ble_eq_true rfl)
  rw [lg_entry_eq]
  generalize (lg_sl ([.ref (ad o), .ref ao]) ++ List.replicate (3 - (lg_sl ([.ref (ad o), .ref ao])).length) Slot.unset).toArray = ls at hl ⊢
  have hl : lv_has ls 3 [(0, .ref (ad o)), (1, .ref ao)] := hl
  refine lv_aload_n hx hb dL_writeMap_0 rfl (lv_at hl 1 rfl) ?_
  refine lv_iconst (v := 0) hx hb dL_writeMap_1 (by decide) ?_
  refine lv_aload_n hx hb dL_writeMap_2 rfl (lv_at hl 0 rfl) ?_
  refine t_avi (As := []) (rest := [.int 0, .ref ao]) E G hA hX hX.2.2.2.1 hml (a_X11_writeMap l hst D cI cJ cZ cMic cSrc cSt cAI cAJ ad T o  h hrc h_o) (cwV 0 hts (gaV qA_1101 qA_1102 qA_1103 qA_131 qA_895) rfl rfl rfl (by decide +kernel) ⟨Nat.le_of_ble_eq_true rfl, Nat.le_of_ble_eq_true rfl⟩) h_o (cc_o11 h_s) rfl rfl hl.1 rfl (lv_room (Nat.le_of_ble_eq_true rfl)) dL_writeMap_3 ⟨by show 0 + (T1.1 - T.1) ≤ T1.1 - T.1 + 1; omega, by show 0 + (sg T1 - sg T) ≤ sg T1 - sg T + 6; omega⟩ ?_
  intro ad2 H locs had G
  refine lv_i2l (v := r1.toInt64) hx hb dL_writeMap_6 rfl ?_
  refine t_last E G dL_writeMap_7 (fun H locs G => ?_)
  refine lv_goto (tgt := 14) hx hb dL_writeMap_8 (by decide) ?_
  refine lv_iconst (v := 0) hx hb dL_writeMap_14 (by decide) ?_
  refine W.widen (k := T1.1 - T.1 + 1) (n := sg T1 - sg T + 6) (by omega) (by omega) ?_
  exact W.iret (v := 0) hx hb hr (fun t ht hW => ⟨⟨0, ad2, rfl, ⟨rfl, had⟩, ⟨by rw [ht]; exact G.1, va_K.moved hW.alike hK, G.2.1⟩⟩, G.2.2.F ht⟩) G.2.2.2.2 dL_writeMap_15
set_option maxHeartbeats 4000000 in
set_option maxRecDepth 100000 in
theorem v_writeMap_t (l : Launch) (hst : l.stackTraces = false) (D : va_G) {cI cJ cZ cMic cSrc cSt cAI cAJ cD : ClassId} (h0 : Nat) (ad : Nat → Nat) (T : AT) (o : Nat) (ao : Nat) (f : Nat → Int64) {e1 : Nat} {r1 : Int32} {T1 : AT} (h : g_X11_writeMap T o = some (e1 + 1, r1, T1)) (hrc : RC T) (h_o : o < T.1) (h_s : T.2.1 o = (11, 0)) : tWi l yL_writeMap (Cond.codeWith yL_writeMap cL_writeMap 3 (some .int) [(0, 8, 11, 21)] :: wsA) 8 171 cI cJ cZ cMic cSrc cSt cAI cAJ cD D h0 ad T (oJ ao cJ f) [.ref (ad o), .ref ao] (vck 1 0 0 (e1 + 1)) T1 (oJ ao cJ (vfJ (e1 + 1) f r1.toInt64)) := by
  intro sz
  refine va_MetW (cc := cL_writeMap) (maxL := 3) (ret := some .int) (by decide) rfl ?_
  intro p e s m args below meth c s₁ B hml hv
  obtain ⟨rfl, hsz, hP, hK, hD0, hX, hN, hA0, hTS⟩ := hv
  have hx := B.exec
  have hb := B.bytes
  have hr := B.returns
  have hts := atoms_spec (ws := (Cond.codeWith yL_writeMap cL_writeMap 3 (some .int) [(0, 8, 11, 21)] :: wsA)) B.pre
  have hown : s.vm.findClass RL = some m.cls := findClass_of_methodNamed B.named
  have hlocks := B.notSynchronized
  have htb := vx_table (x := yL_writeMap) B (hts _ (.head _))
  subst hsz
  have hD := hD0.self (sz := s.heap.size)
  generalize hAe : va_A (cW ad T.1 (cc cI cJ cZ cMic cSrc cSt cAI cAJ ad T) ++ [oJ ao cJ f]) s.heap.size = A at hD hX hA0 ⊢
  have hA : ∀ q : Nat, s.heap.size ≤ q → A q := fun q h => by rw [← hAe]; exact Or.inr h
  have G : gL cI cJ cZ cMic cSrc cSt cAI cAJ D ad A s.heap s.heap [] T [oJ ao cJ f] := ⟨hP, hD, va_S.rf⟩
  have E : cE p c cL_writeMap s m ([.ref (ad o), .ref ao] : List Value).toArray (Cond.codeWith yL_writeMap cL_writeMap 3 (some .int) [(0, 8, 11, 21)] :: wsA) D RL (CT cI cJ cZ cMic cSrc cSt cAI cAJ ++ [(cD, .double)]) := ⟨hx, hb, hts, hown, hK⟩
  have hl := lv_entry ([.ref (ad o), .ref ao]) (n := 3) (Nat.le_of_ble_eq_true rfl)
  rw [lg_entry_eq]
  generalize (lg_sl ([.ref (ad o), .ref ao]) ++ List.replicate (3 - (lg_sl ([.ref (ad o), .ref ao])).length) Slot.unset).toArray = ls at hl ⊢
  have hl : lv_has ls 3 [(0, .ref (ad o)), (1, .ref ao)] := hl
  refine lv_aload_n hx hb dL_writeMap_0 rfl (lv_at hl 1 rfl) ?_
  refine lv_iconst (v := 0) hx hb dL_writeMap_1 (by decide) ?_
  refine lv_aload_n hx hb dL_writeMap_2 rfl (lv_at hl 0 rfl) ?_
  refine t_bvi (As := []) (rest := [.int 0, .ref ao]) E G hA hX hX.2.2.2.1 hml (b_X11_writeMap l hst D cI cJ cZ cMic cSrc cSt cAI cAJ ad T o  h hrc h_o) (cwV 0 hts (gaV qA_1101 qA_1102 qA_1103 qA_131 qA_895) rfl rfl rfl (by decide +kernel) ⟨Nat.le_of_ble_eq_true rfl, Nat.le_of_ble_eq_true rfl⟩) h_o (cc_o11 h_s) rfl rfl hl.1 rfl (lv_room (Nat.le_of_ble_eq_true rfl)) dL_writeMap_3 ⟨by show 0 + (T1.1 - T.1 + 1) ≤ T1.1 - T.1 + 1; omega, by show 0 + (sg T1 - sg T + 6) ≤ sg T1 - sg T + 6; omega⟩ ?_
  intro E9 ce q9 ad2 H locs hE had G hce hcv hcl
  rcases e1 with _ | _ | e1
  · have hE : E9 = xISE := hE
    subst hE
    refine vx_catch (name := xISE) hown [] { startPc := 0, endPc := 8, handlerPc := 11, catchType := 21 } [] htb (fun z hz => absurd hz List.not_mem_nil) (by decide) (by decide) (hts _ (.tail _ qA_952)) (hX.use (.castable xISE xISE) (by decide +kernel)) hce hcv hcl ?_
    refine lv_astore_n (lv' := [(2, .ref q9), (0, .ref (ad o)), (1, .ref ao)]) hx hb dL_writeMap_11 rfl hl (by decide) rfl (fun ls hl => ?_)
    refine lv_iconst (v := 1) hx hb dL_writeMap_12 (by decide) ?_
    refine W.widen (k := T1.1 - T.1 + 1) (n := sg T1 - sg T + 6) (by omega) (by omega) ?_
    exact W.iret (v := 1) hx hb hr (fun t ht hW => ⟨⟨1, ad2, rfl, ⟨rfl, had⟩, ⟨by rw [ht]; exact G.1, va_K.moved hW.alike hK, G.2.1⟩⟩, G.2.2.F ht⟩) G.2.2.2.2 dL_writeMap_13
  · exact absurd (cd_g_X11_writeMap (S := [0, 1]) (fun _ h => h) T o _ _ _ h) (by decide)
  · have q := (cd_g_X11_writeMap (S := [0, 1]) (fun _ h => h) T o _ _ _ h)
    simp only [List.mem_cons, List.not_mem_nil, or_false] at q
    omega
theorem v_writeMap (l : Launch) (hst : l.stackTraces = false) (D : va_G) {cI cJ cZ cMic cSrc cSt cAI cAJ cD : ClassId} (h0 : Nat) (ad : Nat → Nat) (T : AT) (o : Nat) (ao : Nat) (f : Nat → Int64) {k1 : Nat} {r1 : Int32} {T1 : AT} (h : g_X11_writeMap T o = some (k1, r1, T1)) (hrc : RC T) (h_o : o < T.1) (h_s : T.2.1 o = (11, 0)) : tWi l yL_writeMap (Cond.codeWith yL_writeMap cL_writeMap 3 (some .int) [(0, 8, 11, 21)] :: wsA) 8 171 cI cJ cZ cMic cSrc cSt cAI cAJ cD D h0 ad T (oJ ao cJ f) [.ref (ad o), .ref ao] (vck 1 0 0 k1) T1 (oJ ao cJ (vfJ k1 f r1.toInt64)) := by
  cases k1 with
  | zero => exact v_writeMap_n l hst D h0 ad T o  ao f h hrc h_o h_s
  | succ e1 => exact v_writeMap_t l hst D h0 ad T o  ao f h hrc h_o h_s
set_option maxHeartbeats 4000000 in
set_option maxRecDepth 100000 in
theorem v_mapByte_n (l : Launch) (hst : l.stackTraces = false) (D : va_G) {cI cJ cZ cMic cSrc cSt cAI cAJ cD : ClassId} (h0 : Nat) (ad : Nat → Nat) (T : AT) (o : Nat) (a0 : Int32) (ao : Nat) (f : Nat → Int64) {r1 : Int32} {T1 : AT} (h : g_X11_mapByte T o a0 = some (0, r1, T1)) (hrc : RC T) (h_o : o < T.1) (h_s : T.2.1 o = (11, 0)) : tWi l yL_mapByte (Cond.codeWith yL_mapByte cL_mapByte 4 (some .int) [(0, 9, 12, 13)] :: wsA) 8 123 cI cJ cZ cMic cSrc cSt cAI cAJ cD D h0 ad T (oJ ao cJ f) [.ref (ad o), .int a0, .ref ao] (vck 0 1 0 (0)) T1 (oJ ao cJ (vfJ (0) f r1.toInt64)) := by
  intro sz
  refine va_MetW (cc := cL_mapByte) (maxL := 4) (ret := some .int) (by decide) rfl ?_
  intro p e s m args below meth c s₁ B hml hv
  obtain ⟨rfl, hsz, hP, hK, hD0, hX, hN, hA0, hTS⟩ := hv
  have hx := B.exec
  have hb := B.bytes
  have hr := B.returns
  have hts := atoms_spec (ws := (Cond.codeWith yL_mapByte cL_mapByte 4 (some .int) [(0, 9, 12, 13)] :: wsA)) B.pre
  have hown : s.vm.findClass RL = some m.cls := findClass_of_methodNamed B.named
  have hlocks := B.notSynchronized
  have htb := vx_table (x := yL_mapByte) B (hts _ (.head _))
  subst hsz
  have hD := hD0.self (sz := s.heap.size)
  generalize hAe : va_A (cW ad T.1 (cc cI cJ cZ cMic cSrc cSt cAI cAJ ad T) ++ [oJ ao cJ f]) s.heap.size = A at hD hX hA0 ⊢
  have hA : ∀ q : Nat, s.heap.size ≤ q → A q := fun q h => by rw [← hAe]; exact Or.inr h
  have G : gL cI cJ cZ cMic cSrc cSt cAI cAJ D ad A s.heap s.heap [] T [oJ ao cJ f] := ⟨hP, hD, va_S.rf⟩
  have E : cE p c cL_mapByte s m ([.ref (ad o), .int a0, .ref ao] : List Value).toArray (Cond.codeWith yL_mapByte cL_mapByte 4 (some .int) [(0, 9, 12, 13)] :: wsA) D RL (CT cI cJ cZ cMic cSrc cSt cAI cAJ ++ [(cD, .double)]) := ⟨hx, hb, hts, hown, hK⟩
  have hl := lv_entry ([.ref (ad o), .int a0, .ref ao]) (n := 4) (Nat.le_of_ble_eq_true rfl)
  rw [lg_entry_eq]
  generalize (lg_sl ([.ref (ad o), .int a0, .ref ao]) ++ List.replicate (4 - (lg_sl ([.ref (ad o), .int a0, .ref ao])).length) Slot.unset).toArray = ls at hl ⊢
  have hl : lv_has ls 4 [(0, .ref (ad o)), (1, .int a0), (2, .ref ao)] := hl
  refine lv_aload_n hx hb dL_mapByte_0 rfl (lv_at hl 2 rfl) ?_
  refine lv_iconst (v := 0) hx hb dL_mapByte_1 (by decide) ?_
  refine lv_aload_n hx hb dL_mapByte_2 rfl (lv_at hl 0 rfl) ?_
  refine lv_iload_n hx hb dL_mapByte_3 rfl (lv_at hl 1 rfl) ?_
  refine t_cvi (As := [.int a0]) (rest := [.int 0, .ref ao]) E G hA hX hX.2.2.2.1 hml (u_X11_mapByte l hst D cI cJ cZ cMic cSrc cSt cAI cAJ ad T o a0 h) (cwV 1 hts (gaV qA_1105 qA_1106 qA_1107 qA_131 qA_905) rfl rfl rfl (by decide +kernel) ⟨Nat.le_of_ble_eq_true rfl, Nat.le_of_ble_eq_true rfl⟩) h_o (cc_o11 h_s) rfl rfl hl.1 rfl (lv_room (Nat.le_of_ble_eq_true rfl)) dL_mapByte_4 ⟨by show 0 + (0) ≤ T1.1 - T.1 + 1; omega, by show 0 + (0) ≤ sg T1 - sg T + 6; omega⟩ ?_
  intro r9 S1 H locs hp G
  obtain ⟨hr9, hS1⟩ := hp
  rw [hS1] at G
  rw [hr9]
  have had : ∀ n, n < T.1 → ad n = ad n := fun _ _ => rfl
  refine lv_i2l (v := r1.toInt64) hx hb dL_mapByte_7 rfl ?_
  refine t_last E G dL_mapByte_8 (fun H locs G => ?_)
  refine lv_goto (tgt := 15) hx hb dL_mapByte_9 (by decide) ?_
  refine lv_iconst (v := 0) hx hb dL_mapByte_15 (by decide) ?_
  refine W.widen (k := T1.1 - T.1 + 1) (n := sg T1 - sg T + 6) (by omega) (by omega) ?_
  exact W.iret (v := 0) hx hb hr (fun t ht hW => ⟨⟨0, ad, rfl, ⟨rfl, had⟩, ⟨by rw [ht]; exact G.1, va_K.moved hW.alike hK, G.2.1⟩⟩, G.2.2.F ht⟩) G.2.2.2.2 dL_mapByte_16
set_option maxHeartbeats 4000000 in
set_option maxRecDepth 100000 in
theorem v_mapByte_t (l : Launch) (hst : l.stackTraces = false) (D : va_G) {cI cJ cZ cMic cSrc cSt cAI cAJ cD : ClassId} (h0 : Nat) (ad : Nat → Nat) (T : AT) (o : Nat) (a0 : Int32) (ao : Nat) (f : Nat → Int64) {e1 : Nat} {r1 : Int32} {T1 : AT} (h : g_X11_mapByte T o a0 = some (e1 + 1, r1, T1)) (hrc : RC T) (h_o : o < T.1) (h_s : T.2.1 o = (11, 0)) : tWi l yL_mapByte (Cond.codeWith yL_mapByte cL_mapByte 4 (some .int) [(0, 9, 12, 13)] :: wsA) 8 123 cI cJ cZ cMic cSrc cSt cAI cAJ cD D h0 ad T (oJ ao cJ f) [.ref (ad o), .int a0, .ref ao] (vck 0 1 0 (e1 + 1)) T1 (oJ ao cJ (vfJ (e1 + 1) f r1.toInt64)) := by
  intro sz
  refine va_MetW (cc := cL_mapByte) (maxL := 4) (ret := some .int) (by decide) rfl ?_
  intro p e s m args below meth c s₁ B hml hv
  obtain ⟨rfl, hsz, hP, hK, hD0, hX, hN, hA0, hTS⟩ := hv
  have hx := B.exec
  have hb := B.bytes
  have hr := B.returns
  have hts := atoms_spec (ws := (Cond.codeWith yL_mapByte cL_mapByte 4 (some .int) [(0, 9, 12, 13)] :: wsA)) B.pre
  have hown : s.vm.findClass RL = some m.cls := findClass_of_methodNamed B.named
  have hlocks := B.notSynchronized
  have htb := vx_table (x := yL_mapByte) B (hts _ (.head _))
  subst hsz
  have hD := hD0.self (sz := s.heap.size)
  generalize hAe : va_A (cW ad T.1 (cc cI cJ cZ cMic cSrc cSt cAI cAJ ad T) ++ [oJ ao cJ f]) s.heap.size = A at hD hX hA0 ⊢
  have hA : ∀ q : Nat, s.heap.size ≤ q → A q := fun q h => by rw [← hAe]; exact Or.inr h
  have G : gL cI cJ cZ cMic cSrc cSt cAI cAJ D ad A s.heap s.heap [] T [oJ ao cJ f] := ⟨hP, hD, va_S.rf⟩
  have E : cE p c cL_mapByte s m ([.ref (ad o), .int a0, .ref ao] : List Value).toArray (Cond.codeWith yL_mapByte cL_mapByte 4 (some .int) [(0, 9, 12, 13)] :: wsA) D RL (CT cI cJ cZ cMic cSrc cSt cAI cAJ ++ [(cD, .double)]) := ⟨hx, hb, hts, hown, hK⟩
  have hl := lv_entry ([.ref (ad o), .int a0, .ref ao]) (n := 4) (Nat.le_of_ble_eq_true rfl)
  rw [lg_entry_eq]
  generalize (lg_sl ([.ref (ad o), .int a0, .ref ao]) ++ List.replicate (4 - (lg_sl ([.ref (ad o), .int a0, .ref ao])).length) Slot.unset).toArray = ls at hl ⊢
  have hl : lv_has ls 4 [(0, .ref (ad o)), (1, .int a0), (2, .ref ao)] := hl
  refine lv_aload_n hx hb dL_mapByte_0 rfl (lv_at hl 2 rfl) ?_
  refine lv_iconst (v := 0) hx hb dL_mapByte_1 (by decide) ?_
  refine lv_aload_n hx hb dL_mapByte_2 rfl (lv_at hl 0 rfl) ?_
  refine lv_iload_n hx hb dL_mapByte_3 rfl (lv_at hl 1 rfl) ?_
  refine t_xvi (As := [.int a0]) (rest := [.int 0, .ref ao]) E G hA hX hX.2.2.2.1 hml (x_X11_mapByte l hst D cI cJ cZ cMic cSrc cSt cAI cAJ ad T o a0 h) (cwV 1 hts (gaV qA_1105 qA_1106 qA_1107 qA_131 qA_905) rfl rfl rfl (by decide +kernel) ⟨Nat.le_of_ble_eq_true rfl, Nat.le_of_ble_eq_true rfl⟩) h_o (cc_o11 h_s) rfl rfl hl.1 rfl (lv_room (Nat.le_of_ble_eq_true rfl)) dL_mapByte_4 ⟨by show 0 + (1) ≤ T1.1 - T.1 + 1; omega, by show 0 + (6) ≤ sg T1 - sg T + 6; omega⟩ ?_
  intro E9 ce q9 S1 H locs hp G hce hcv hcl
  obtain ⟨hE, hS1⟩ := hp
  rw [hS1] at G
  have had : ∀ n, n < T.1 → ad n = ad n := fun _ _ => rfl
  rcases e1 with _ | _ | e1
  · exact absurd (cd_g_X11_mapByte (S := [0, 2]) (fun _ h => h) T o a0 _ _ _ h) (by decide)
  · have hE : E9 = xIOB := hE
    subst hE
    refine vx_catch (name := xIOB) hown [] { startPc := 0, endPc := 9, handlerPc := 12, catchType := 13 } [] htb (fun z hz => absurd hz List.not_mem_nil) (by decide) (by decide) (hts _ (.tail _ qA_946)) (hX.use (.castable xIOB xIOB) (by decide +kernel)) hce hcv hcl ?_
    refine lv_astore_n (lv' := [(3, .ref q9), (0, .ref (ad o)), (1, .int a0), (2, .ref ao)]) hx hb dL_mapByte_12 rfl hl (by decide) rfl (fun ls hl => ?_)
    refine lv_iconst (v := 1) hx hb dL_mapByte_13 (by decide) ?_
    refine W.widen (k := T1.1 - T.1 + 1) (n := sg T1 - sg T + 6) (by omega) (by omega) ?_
    exact W.iret (v := 1) hx hb hr (fun t ht hW => ⟨⟨1, ad, rfl, ⟨rfl, had⟩, ⟨by rw [ht]; exact G.1, va_K.moved hW.alike hK, G.2.1⟩⟩, G.2.2.F ht⟩) G.2.2.2.2 dL_mapByte_14
  · have q := (cd_g_X11_mapByte (S := [0, 2]) (fun _ h => h) T o a0 _ _ _ h)
    simp only [List.mem_cons, List.not_mem_nil, or_false] at q
    omega
theorem v_mapByte (l : Launch) (hst : l.stackTraces = false) (D : va_G) {cI cJ cZ cMic cSrc cSt cAI cAJ cD : ClassId} (h0 : Nat) (ad : Nat → Nat) (T : AT) (o : Nat) (a0 : Int32) (ao : Nat) (f : Nat → Int64) {k1 : Nat} {r1 : Int32} {T1 : AT} (h : g_X11_mapByte T o a0 = some (k1, r1, T1)) (hrc : RC T) (h_o : o < T.1) (h_s : T.2.1 o = (11, 0)) : tWi l yL_mapByte (Cond.codeWith yL_mapByte cL_mapByte 4 (some .int) [(0, 9, 12, 13)] :: wsA) 8 123 cI cJ cZ cMic cSrc cSt cAI cAJ cD D h0 ad T (oJ ao cJ f) [.ref (ad o), .int a0, .ref ao] (vck 0 1 0 k1) T1 (oJ ao cJ (vfJ k1 f r1.toInt64)) := by
  cases k1 with
  | zero => exact v_mapByte_n l hst D h0 ad T o a0 ao f h hrc h_o h_s
  | succ e1 => exact v_mapByte_t l hst D h0 ad T o a0 ao f h hrc h_o h_s
set_option maxHeartbeats 4000000 in
set_option maxRecDepth 100000 in
theorem v_pointBest_n (l : Launch) (hst : l.stackTraces = false) (D : va_G) {cI cJ cZ cMic cSrc cSt cAI cAJ cD : ClassId} (h0 : Nat) (ad : Nat → Nat) (T : AT) (o : Nat) (a0 a1 : Int32) (ao : Nat) (f : Nat → Int64) {r1 : Int32} {T1 : AT} (h : g_X11_pointBest T o a0 a1 = some (0, r1, T1)) (hrc : RC T) (h_o : o < T.1) (h_s : T.2.1 o = (11, 0)) : tWi l yL_pointBest (Cond.codeWith yL_pointBest cL_pointBest 5 (some .int) [(0, 10, 13, 21), (0, 10, 17, 13), (0, 10, 21, 15)] :: wsA) 9 171 cI cJ cZ cMic cSrc cSt cAI cAJ cD D h0 ad T (oJ ao cJ f) [.ref (ad o), .int a0, .int a1, .ref ao] (vck 1 2 3 (0)) T1 (oJ ao cJ (vfJ (0) f r1.toInt64)) := by
  intro sz
  refine va_MetW (cc := cL_pointBest) (maxL := 5) (ret := some .int) (by decide) rfl ?_
  intro p e s m args below meth c s₁ B hml hv
  obtain ⟨rfl, hsz, hP, hK, hD0, hX, hN, hA0, hTS⟩ := hv
  have hx := B.exec
  have hb := B.bytes
  have hr := B.returns
  have hts := atoms_spec (ws := (Cond.codeWith yL_pointBest cL_pointBest 5 (some .int) [(0, 10, 13, 21), (0, 10, 17, 13), (0, 10, 21, 15)] :: wsA)) B.pre
  have hown : s.vm.findClass RL = some m.cls := findClass_of_methodNamed B.named
  have hlocks := B.notSynchronized
  have htb := vx_table (x := yL_pointBest) B (hts _ (.head _))
  subst hsz
  have hD := hD0.self (sz := s.heap.size)
  generalize hAe : va_A (cW ad T.1 (cc cI cJ cZ cMic cSrc cSt cAI cAJ ad T) ++ [oJ ao cJ f]) s.heap.size = A at hD hX hA0 ⊢
  have hA : ∀ q : Nat, s.heap.size ≤ q → A q := fun q h => by rw [← hAe]; exact Or.inr h
  have G : gL cI cJ cZ cMic cSrc cSt cAI cAJ D ad A s.heap s.heap [] T [oJ ao cJ f] := ⟨hP, hD, va_S.rf⟩
  have E : cE p c cL_pointBest s m ([.ref (ad o), .int a0, .int a1, .ref ao] : List Value).toArray (Cond.codeWith yL_pointBest cL_pointBest 5 (some .int) [(0, 10, 13, 21), (0, 10, 17, 13), (0, 10, 21, 15)] :: wsA) D RL (CT cI cJ cZ cMic cSrc cSt cAI cAJ ++ [(cD, .double)]) := ⟨hx, hb, hts, hown, hK⟩
  have hl := lv_entry ([.ref (ad o), .int a0, .int a1, .ref ao]) (n := 5) (Nat.le_of_ble_eq_true rfl)
  rw [lg_entry_eq]
  generalize (lg_sl ([.ref (ad o), .int a0, .int a1, .ref ao]) ++ List.replicate (5 - (lg_sl ([.ref (ad o), .int a0, .int a1, .ref ao])).length) Slot.unset).toArray = ls at hl ⊢
  have hl : lv_has ls 5 [(0, .ref (ad o)), (1, .int a0), (2, .int a1), (3, .ref ao)] := hl
  refine lv_aload_n hx hb dL_pointBest_0 rfl (lv_at hl 3 rfl) ?_
  refine lv_iconst (v := 0) hx hb dL_pointBest_1 (by decide) ?_
  refine lv_aload_n hx hb dL_pointBest_2 rfl (lv_at hl 0 rfl) ?_
  refine lv_iload_n hx hb dL_pointBest_3 rfl (lv_at hl 1 rfl) ?_
  refine lv_iload_n hx hb dL_pointBest_4 rfl (lv_at hl 2 rfl) ?_
  refine t_avi (As := [.int a0, .int a1]) (rest := [.int 0, .ref ao]) E G hA hX hX.2.2.2.1 hml (a_X11_pointBest l hst D cI cJ cZ cMic cSrc cSt cAI cAJ ad T o a0 a1 h hrc h_o) (cwV 2 hts (gaV qA_1109 qA_1110 qA_1111 qA_131 qA_906) rfl rfl rfl (by decide +kernel) ⟨Nat.le_of_ble_eq_true rfl, Nat.le_of_ble_eq_true rfl⟩) h_o (cc_o11 h_s) rfl rfl hl.1 rfl (lv_room (Nat.le_of_ble_eq_true rfl)) dL_pointBest_5 ⟨by show 0 + (T1.1 - T.1) ≤ T1.1 - T.1 + 1; omega, by show 0 + (sg T1 - sg T) ≤ sg T1 - sg T + 6; omega⟩ ?_
  intro ad2 H locs had G
  refine lv_i2l (v := r1.toInt64) hx hb dL_pointBest_8 rfl ?_
  refine t_last E G dL_pointBest_9 (fun H locs G => ?_)
  refine lv_goto (tgt := 25) hx hb dL_pointBest_10 (by decide) ?_
  refine lv_iconst (v := 0) hx hb dL_pointBest_25 (by decide) ?_
  refine W.widen (k := T1.1 - T.1 + 1) (n := sg T1 - sg T + 6) (by omega) (by omega) ?_
  exact W.iret (v := 0) hx hb hr (fun t ht hW => ⟨⟨0, ad2, rfl, ⟨rfl, had⟩, ⟨by rw [ht]; exact G.1, va_K.moved hW.alike hK, G.2.1⟩⟩, G.2.2.F ht⟩) G.2.2.2.2 dL_pointBest_26
set_option maxHeartbeats 4000000 in
set_option maxRecDepth 100000 in
theorem v_pointBest_t (l : Launch) (hst : l.stackTraces = false) (D : va_G) {cI cJ cZ cMic cSrc cSt cAI cAJ cD : ClassId} (h0 : Nat) (ad : Nat → Nat) (T : AT) (o : Nat) (a0 a1 : Int32) (ao : Nat) (f : Nat → Int64) {e1 : Nat} {r1 : Int32} {T1 : AT} (h : g_X11_pointBest T o a0 a1 = some (e1 + 1, r1, T1)) (hrc : RC T) (h_o : o < T.1) (h_s : T.2.1 o = (11, 0)) : tWi l yL_pointBest (Cond.codeWith yL_pointBest cL_pointBest 5 (some .int) [(0, 10, 13, 21), (0, 10, 17, 13), (0, 10, 21, 15)] :: wsA) 9 171 cI cJ cZ cMic cSrc cSt cAI cAJ cD D h0 ad T (oJ ao cJ f) [.ref (ad o), .int a0, .int a1, .ref ao] (vck 1 2 3 (e1 + 1)) T1 (oJ ao cJ (vfJ (e1 + 1) f r1.toInt64)) := by
  intro sz
  refine va_MetW (cc := cL_pointBest) (maxL := 5) (ret := some .int) (by decide) rfl ?_
  intro p e s m args below meth c s₁ B hml hv
  obtain ⟨rfl, hsz, hP, hK, hD0, hX, hN, hA0, hTS⟩ := hv
  have hx := B.exec
  have hb := B.bytes
  have hr := B.returns
  have hts := atoms_spec (ws := (Cond.codeWith yL_pointBest cL_pointBest 5 (some .int) [(0, 10, 13, 21), (0, 10, 17, 13), (0, 10, 21, 15)] :: wsA)) B.pre
  have hown : s.vm.findClass RL = some m.cls := findClass_of_methodNamed B.named
  have hlocks := B.notSynchronized
  have htb := vx_table (x := yL_pointBest) B (hts _ (.head _))
  subst hsz
  have hD := hD0.self (sz := s.heap.size)
  generalize hAe : va_A (cW ad T.1 (cc cI cJ cZ cMic cSrc cSt cAI cAJ ad T) ++ [oJ ao cJ f]) s.heap.size = A at hD hX hA0 ⊢
  have hA : ∀ q : Nat, s.heap.size ≤ q → A q := fun q h => by rw [← hAe]; exact Or.inr h
  have G : gL cI cJ cZ cMic cSrc cSt cAI cAJ D ad A s.heap s.heap [] T [oJ ao cJ f] := ⟨hP, hD, va_S.rf⟩
  have E : cE p c cL_pointBest s m ([.ref (ad o), .int a0, .int a1, .ref ao] : List Value).toArray (Cond.codeWith yL_pointBest cL_pointBest 5 (some .int) [(0, 10, 13, 21), (0, 10, 17, 13), (0, 10, 21, 15)] :: wsA) D RL (CT cI cJ cZ cMic cSrc cSt cAI cAJ ++ [(cD, .double)]) := ⟨hx, hb, hts, hown, hK⟩
  have hl := lv_entry ([.ref (ad o), .int a0, .int a1, .ref ao]) (n := 5) (Nat.le_of_ble_eq_true rfl)
  rw [lg_entry_eq]
  generalize (lg_sl ([.ref (ad o), .int a0, .int a1, .ref ao]) ++ List.replicate (5 - (lg_sl ([.ref (ad o), .int a0, .int a1, .ref ao])).length) Slot.unset).toArray = ls at hl ⊢
  have hl : lv_has ls 5 [(0, .ref (ad o)), (1, .int a0), (2, .int a1), (3, .ref ao)] := hl
  refine lv_aload_n hx hb dL_pointBest_0 rfl (lv_at hl 3 rfl) ?_
  refine lv_iconst (v := 0) hx hb dL_pointBest_1 (by decide) ?_
  refine lv_aload_n hx hb dL_pointBest_2 rfl (lv_at hl 0 rfl) ?_
  refine lv_iload_n hx hb dL_pointBest_3 rfl (lv_at hl 1 rfl) ?_
  refine lv_iload_n hx hb dL_pointBest_4 rfl (lv_at hl 2 rfl) ?_
  refine t_bvi (As := [.int a0, .int a1]) (rest := [.int 0, .ref ao]) E G hA hX hX.2.2.2.1 hml (b_X11_pointBest l hst D cI cJ cZ cMic cSrc cSt cAI cAJ ad T o a0 a1 h hrc h_o) (cwV 2 hts (gaV qA_1109 qA_1110 qA_1111 qA_131 qA_906) rfl rfl rfl (by decide +kernel) ⟨Nat.le_of_ble_eq_true rfl, Nat.le_of_ble_eq_true rfl⟩) h_o (cc_o11 h_s) rfl rfl hl.1 rfl (lv_room (Nat.le_of_ble_eq_true rfl)) dL_pointBest_5 ⟨by show 0 + (T1.1 - T.1 + 1) ≤ T1.1 - T.1 + 1; omega, by show 0 + (sg T1 - sg T + 6) ≤ sg T1 - sg T + 6; omega⟩ ?_
  intro E9 ce q9 ad2 H locs hE had G hce hcv hcl
  rcases e1 with _ | _ | e1
  · have hE : E9 = xISE := hE
    subst hE
    refine vx_catch (name := xISE) hown [] { startPc := 0, endPc := 10, handlerPc := 13, catchType := 21 } [{ startPc := 0, endPc := 10, handlerPc := 17, catchType := 13 }, { startPc := 0, endPc := 10, handlerPc := 21, catchType := 15 }] htb (fun z hz => absurd hz List.not_mem_nil) (by decide) (by decide) (hts _ (.tail _ qA_952)) (hX.use (.castable xISE xISE) (by decide +kernel)) hce hcv hcl ?_
    refine lv_astore (lv' := [(4, .ref q9), (0, .ref (ad o)), (1, .int a0), (2, .int a1), (3, .ref ao)]) hx hb dL_pointBest_13 hl (by decide) rfl (fun ls hl => ?_)
    refine lv_iconst (v := 1) hx hb dL_pointBest_15 (by decide) ?_
    refine W.widen (k := T1.1 - T.1 + 1) (n := sg T1 - sg T + 6) (by omega) (by omega) ?_
    exact W.iret (v := 1) hx hb hr (fun t ht hW => ⟨⟨1, ad2, rfl, ⟨rfl, had⟩, ⟨by rw [ht]; exact G.1, va_K.moved hW.alike hK, G.2.1⟩⟩, G.2.2.F ht⟩) G.2.2.2.2 dL_pointBest_16
  · have hE : E9 = xIOB := hE
    subst hE
    refine vx_catch (name := xIOB) hown [{ startPc := 0, endPc := 10, handlerPc := 13, catchType := 21 }] { startPc := 0, endPc := 10, handlerPc := 17, catchType := 13 } [{ startPc := 0, endPc := 10, handlerPc := 21, catchType := 15 }] htb (List.forall_mem_cons.mpr ⟨Or.inr ⟨by decide, xISE, hts _ (.tail _ qA_952), hN.2.2.1⟩, fun z hz => absurd hz List.not_mem_nil⟩) (by decide) (by decide) (hts _ (.tail _ qA_946)) (hX.use (.castable xIOB xIOB) (by decide +kernel)) hce hcv hcl ?_
    refine lv_astore (lv' := [(4, .ref q9), (0, .ref (ad o)), (1, .int a0), (2, .int a1), (3, .ref ao)]) hx hb dL_pointBest_17 hl (by decide) rfl (fun ls hl => ?_)
    refine lv_iconst (v := 2) hx hb dL_pointBest_19 (by decide) ?_
    refine W.widen (k := T1.1 - T.1 + 1) (n := sg T1 - sg T + 6) (by omega) (by omega) ?_
    exact W.iret (v := 2) hx hb hr (fun t ht hW => ⟨⟨2, ad2, rfl, ⟨rfl, had⟩, ⟨by rw [ht]; exact G.1, va_K.moved hW.alike hK, G.2.1⟩⟩, G.2.2.F ht⟩) G.2.2.2.2 dL_pointBest_20
  · have hE : E9 = xIAE := hE
    subst hE
    refine vx_catch (name := xIAE) hown [{ startPc := 0, endPc := 10, handlerPc := 13, catchType := 21 }, { startPc := 0, endPc := 10, handlerPc := 17, catchType := 13 }] { startPc := 0, endPc := 10, handlerPc := 21, catchType := 15 } [] htb (List.forall_mem_cons.mpr ⟨Or.inr ⟨by decide, xISE, hts _ (.tail _ qA_952), hN.2.2.2⟩, List.forall_mem_cons.mpr ⟨Or.inr ⟨by decide, xIOB, hts _ (.tail _ qA_946), hN.1⟩, fun z hz => absurd hz List.not_mem_nil⟩⟩) (by decide) (by decide) (hts _ (.tail _ qA_947)) (hX.use (.castable xIAE xIAE) (by decide +kernel)) hce hcv hcl ?_
    refine lv_astore (lv' := [(4, .ref q9), (0, .ref (ad o)), (1, .int a0), (2, .int a1), (3, .ref ao)]) hx hb dL_pointBest_21 hl (by decide) rfl (fun ls hl => ?_)
    refine lv_iconst (v := 3) hx hb dL_pointBest_23 (by decide) ?_
    refine W.widen (k := T1.1 - T.1 + 1) (n := sg T1 - sg T + 6) (by omega) (by omega) ?_
    exact W.iret (v := 3) hx hb hr (fun t ht hW => ⟨⟨3, ad2, rfl, ⟨rfl, had⟩, ⟨by rw [ht]; exact G.1, va_K.moved hW.alike hK, G.2.1⟩⟩, G.2.2.F ht⟩) G.2.2.2.2 dL_pointBest_24
theorem v_pointBest (l : Launch) (hst : l.stackTraces = false) (D : va_G) {cI cJ cZ cMic cSrc cSt cAI cAJ cD : ClassId} (h0 : Nat) (ad : Nat → Nat) (T : AT) (o : Nat) (a0 a1 : Int32) (ao : Nat) (f : Nat → Int64) {k1 : Nat} {r1 : Int32} {T1 : AT} (h : g_X11_pointBest T o a0 a1 = some (k1, r1, T1)) (hrc : RC T) (h_o : o < T.1) (h_s : T.2.1 o = (11, 0)) : tWi l yL_pointBest (Cond.codeWith yL_pointBest cL_pointBest 5 (some .int) [(0, 10, 13, 21), (0, 10, 17, 13), (0, 10, 21, 15)] :: wsA) 9 171 cI cJ cZ cMic cSrc cSt cAI cAJ cD D h0 ad T (oJ ao cJ f) [.ref (ad o), .int a0, .int a1, .ref ao] (vck 1 2 3 k1) T1 (oJ ao cJ (vfJ k1 f r1.toInt64)) := by
  cases k1 with
  | zero => exact v_pointBest_n l hst D h0 ad T o a0 a1 ao f h hrc h_o h_s
  | succ e1 => exact v_pointBest_t l hst D h0 ad T o a0 a1 ao f h hrc h_o h_s
set_option maxHeartbeats 4000000 in
set_option maxRecDepth 100000 in
theorem v_pointPower_n (l : Launch) (hst : l.stackTraces = false) (D : va_G) {cI cJ cZ cMic cSrc cSt cAI cAJ cD : ClassId} (h0 : Nat) (ad : Nat → Nat) (T : AT) (o : Nat) (a0 a1 a2 : Int32) (ao : Nat) (f : Nat → Int64) {r1 : Int64} {T1 : AT} (h : g_X11_pointPower T o a0 a1 a2 = some (0, r1, T1)) (hrc : RC T) (h_o : o < T.1) (h_s : T.2.1 o = (11, 0)) : tWi l yL_pointPower (Cond.codeWith yL_pointPower cL_pointPower 6 (some .int) [(0, 11, 14, 21), (0, 11, 18, 13), (0, 11, 22, 15)] :: wsA) 9 171 cI cJ cZ cMic cSrc cSt cAI cAJ cD D h0 ad T (oJ ao cJ f) [.ref (ad o), .int a0, .int a1, .int a2, .ref ao] (vck 1 2 3 (0)) T1 (oJ ao cJ (vfJ (0) f r1)) := by
  intro sz
  refine va_MetW (cc := cL_pointPower) (maxL := 6) (ret := some .int) (by decide) rfl ?_
  intro p e s m args below meth c s₁ B hml hv
  obtain ⟨rfl, hsz, hP, hK, hD0, hX, hN, hA0, hTS⟩ := hv
  have hx := B.exec
  have hb := B.bytes
  have hr := B.returns
  have hts := atoms_spec (ws := (Cond.codeWith yL_pointPower cL_pointPower 6 (some .int) [(0, 11, 14, 21), (0, 11, 18, 13), (0, 11, 22, 15)] :: wsA)) B.pre
  have hown : s.vm.findClass RL = some m.cls := findClass_of_methodNamed B.named
  have hlocks := B.notSynchronized
  have htb := vx_table (x := yL_pointPower) B (hts _ (.head _))
  subst hsz
  have hD := hD0.self (sz := s.heap.size)
  generalize hAe : va_A (cW ad T.1 (cc cI cJ cZ cMic cSrc cSt cAI cAJ ad T) ++ [oJ ao cJ f]) s.heap.size = A at hD hX hA0 ⊢
  have hA : ∀ q : Nat, s.heap.size ≤ q → A q := fun q h => by rw [← hAe]; exact Or.inr h
  have G : gL cI cJ cZ cMic cSrc cSt cAI cAJ D ad A s.heap s.heap [] T [oJ ao cJ f] := ⟨hP, hD, va_S.rf⟩
  have E : cE p c cL_pointPower s m ([.ref (ad o), .int a0, .int a1, .int a2, .ref ao] : List Value).toArray (Cond.codeWith yL_pointPower cL_pointPower 6 (some .int) [(0, 11, 14, 21), (0, 11, 18, 13), (0, 11, 22, 15)] :: wsA) D RL (CT cI cJ cZ cMic cSrc cSt cAI cAJ ++ [(cD, .double)]) := ⟨hx, hb, hts, hown, hK⟩
  have hl := lv_entry ([.ref (ad o), .int a0, .int a1, .int a2, .ref ao]) (n := 6) (Nat.le_of_ble_eq_true rfl)
  rw [lg_entry_eq]
  generalize (lg_sl ([.ref (ad o), .int a0, .int a1, .int a2, .ref ao]) ++ List.replicate (6 - (lg_sl ([.ref (ad o), .int a0, .int a1, .int a2, .ref ao])).length) Slot.unset).toArray = ls at hl ⊢
  have hl : lv_has ls 6 [(0, .ref (ad o)), (1, .int a0), (2, .int a1), (3, .int a2), (4, .ref ao)] := hl
  refine lv_aload hx hb dL_pointPower_0 (lv_at hl 4 rfl) ?_
  refine lv_iconst (v := 0) hx hb dL_pointPower_2 (by decide) ?_
  refine lv_aload_n hx hb dL_pointPower_3 rfl (lv_at hl 0 rfl) ?_
  refine lv_iload_n hx hb dL_pointPower_4 rfl (lv_at hl 1 rfl) ?_
  refine lv_iload_n hx hb dL_pointPower_5 rfl (lv_at hl 2 rfl) ?_
  refine lv_iload_n hx hb dL_pointPower_6 rfl (lv_at hl 3 rfl) ?_
  refine t_avl (As := [.int a0, .int a1, .int a2]) (rest := [.int 0, .ref ao]) E G hA hX hX.2.2.2.1 hml (a_X11_pointPower l hst D cI cJ cZ cMic cSrc cSt cAI cAJ ad T o a0 a1 a2 h hrc h_o) (cwV 3 hts (gaV qA_1113 qA_1114 qA_1115 qA_131 qA_921) rfl rfl rfl (by decide +kernel) ⟨Nat.le_of_ble_eq_true rfl, Nat.le_of_ble_eq_true rfl⟩) h_o (cc_o11 h_s) rfl rfl hl.1 rfl (lv_room (Nat.le_of_ble_eq_true rfl)) dL_pointPower_7 ⟨by show 0 + (T1.1 - T.1) ≤ T1.1 - T.1 + 1; omega, by show 0 + (sg T1 - sg T) ≤ sg T1 - sg T + 6; omega⟩ ?_
  intro ad2 H locs had G
  refine t_last E G dL_pointPower_10 (fun H locs G => ?_)
  refine lv_goto (tgt := 26) hx hb dL_pointPower_11 (by decide) ?_
  refine lv_iconst (v := 0) hx hb dL_pointPower_26 (by decide) ?_
  refine W.widen (k := T1.1 - T.1 + 1) (n := sg T1 - sg T + 6) (by omega) (by omega) ?_
  exact W.iret (v := 0) hx hb hr (fun t ht hW => ⟨⟨0, ad2, rfl, ⟨rfl, had⟩, ⟨by rw [ht]; exact G.1, va_K.moved hW.alike hK, G.2.1⟩⟩, G.2.2.F ht⟩) G.2.2.2.2 dL_pointPower_27
set_option maxHeartbeats 4000000 in
set_option maxRecDepth 100000 in
theorem v_pointPower_t (l : Launch) (hst : l.stackTraces = false) (D : va_G) {cI cJ cZ cMic cSrc cSt cAI cAJ cD : ClassId} (h0 : Nat) (ad : Nat → Nat) (T : AT) (o : Nat) (a0 a1 a2 : Int32) (ao : Nat) (f : Nat → Int64) {e1 : Nat} {r1 : Int64} {T1 : AT} (h : g_X11_pointPower T o a0 a1 a2 = some (e1 + 1, r1, T1)) (hrc : RC T) (h_o : o < T.1) (h_s : T.2.1 o = (11, 0)) : tWi l yL_pointPower (Cond.codeWith yL_pointPower cL_pointPower 6 (some .int) [(0, 11, 14, 21), (0, 11, 18, 13), (0, 11, 22, 15)] :: wsA) 9 171 cI cJ cZ cMic cSrc cSt cAI cAJ cD D h0 ad T (oJ ao cJ f) [.ref (ad o), .int a0, .int a1, .int a2, .ref ao] (vck 1 2 3 (e1 + 1)) T1 (oJ ao cJ (vfJ (e1 + 1) f r1)) := by
  intro sz
  refine va_MetW (cc := cL_pointPower) (maxL := 6) (ret := some .int) (by decide) rfl ?_
  intro p e s m args below meth c s₁ B hml hv
  obtain ⟨rfl, hsz, hP, hK, hD0, hX, hN, hA0, hTS⟩ := hv
  have hx := B.exec
  have hb := B.bytes
  have hr := B.returns
  have hts := atoms_spec (ws := (Cond.codeWith yL_pointPower cL_pointPower 6 (some .int) [(0, 11, 14, 21), (0, 11, 18, 13), (0, 11, 22, 15)] :: wsA)) B.pre
  have hown : s.vm.findClass RL = some m.cls := findClass_of_methodNamed B.named
  have hlocks := B.notSynchronized
  have htb := vx_table (x := yL_pointPower) B (hts _ (.head _))
  subst hsz
  have hD := hD0.self (sz := s.heap.size)
  generalize hAe : va_A (cW ad T.1 (cc cI cJ cZ cMic cSrc cSt cAI cAJ ad T) ++ [oJ ao cJ f]) s.heap.size = A at hD hX hA0 ⊢
  have hA : ∀ q : Nat, s.heap.size ≤ q → A q := fun q h => by rw [← hAe]; exact Or.inr h
  have G : gL cI cJ cZ cMic cSrc cSt cAI cAJ D ad A s.heap s.heap [] T [oJ ao cJ f] := ⟨hP, hD, va_S.rf⟩
  have E : cE p c cL_pointPower s m ([.ref (ad o), .int a0, .int a1, .int a2, .ref ao] : List Value).toArray (Cond.codeWith yL_pointPower cL_pointPower 6 (some .int) [(0, 11, 14, 21), (0, 11, 18, 13), (0, 11, 22, 15)] :: wsA) D RL (CT cI cJ cZ cMic cSrc cSt cAI cAJ ++ [(cD, .double)]) := ⟨hx, hb, hts, hown, hK⟩
  have hl := lv_entry ([.ref (ad o), .int a0, .int a1, .int a2, .ref ao]) (n := 6) (Nat.le_of_ble_eq_true rfl)
  rw [lg_entry_eq]
  generalize (lg_sl ([.ref (ad o), .int a0, .int a1, .int a2, .ref ao]) ++ List.replicate (6 - (lg_sl ([.ref (ad o), .int a0, .int a1, .int a2, .ref ao])).length) Slot.unset).toArray = ls at hl ⊢
  have hl : lv_has ls 6 [(0, .ref (ad o)), (1, .int a0), (2, .int a1), (3, .int a2), (4, .ref ao)] := hl
  refine lv_aload hx hb dL_pointPower_0 (lv_at hl 4 rfl) ?_
  refine lv_iconst (v := 0) hx hb dL_pointPower_2 (by decide) ?_
  refine lv_aload_n hx hb dL_pointPower_3 rfl (lv_at hl 0 rfl) ?_
  refine lv_iload_n hx hb dL_pointPower_4 rfl (lv_at hl 1 rfl) ?_
  refine lv_iload_n hx hb dL_pointPower_5 rfl (lv_at hl 2 rfl) ?_
  refine lv_iload_n hx hb dL_pointPower_6 rfl (lv_at hl 3 rfl) ?_
  refine t_bvl (As := [.int a0, .int a1, .int a2]) (rest := [.int 0, .ref ao]) E G hA hX hX.2.2.2.1 hml (b_X11_pointPower l hst D cI cJ cZ cMic cSrc cSt cAI cAJ ad T o a0 a1 a2 h hrc h_o) (cwV 3 hts (gaV qA_1113 qA_1114 qA_1115 qA_131 qA_921) rfl rfl rfl (by decide +kernel) ⟨Nat.le_of_ble_eq_true rfl, Nat.le_of_ble_eq_true rfl⟩) h_o (cc_o11 h_s) rfl rfl hl.1 rfl (lv_room (Nat.le_of_ble_eq_true rfl)) dL_pointPower_7 ⟨by show 0 + (T1.1 - T.1 + 1) ≤ T1.1 - T.1 + 1; omega, by show 0 + (sg T1 - sg T + 6) ≤ sg T1 - sg T + 6; omega⟩ ?_
  intro E9 ce q9 ad2 H locs hE had G hce hcv hcl
  rcases e1 with _ | _ | e1
  · have hE : E9 = xISE := hE
    subst hE
    refine vx_catch (name := xISE) hown [] { startPc := 0, endPc := 11, handlerPc := 14, catchType := 21 } [{ startPc := 0, endPc := 11, handlerPc := 18, catchType := 13 }, { startPc := 0, endPc := 11, handlerPc := 22, catchType := 15 }] htb (fun z hz => absurd hz List.not_mem_nil) (by decide) (by decide) (hts _ (.tail _ qA_952)) (hX.use (.castable xISE xISE) (by decide +kernel)) hce hcv hcl ?_
    refine lv_astore (lv' := [(5, .ref q9), (0, .ref (ad o)), (1, .int a0), (2, .int a1), (3, .int a2), (4, .ref ao)]) hx hb dL_pointPower_14 hl (by decide) rfl (fun ls hl => ?_)
    refine lv_iconst (v := 1) hx hb dL_pointPower_16 (by decide) ?_
    refine W.widen (k := T1.1 - T.1 + 1) (n := sg T1 - sg T + 6) (by omega) (by omega) ?_
    exact W.iret (v := 1) hx hb hr (fun t ht hW => ⟨⟨1, ad2, rfl, ⟨rfl, had⟩, ⟨by rw [ht]; exact G.1, va_K.moved hW.alike hK, G.2.1⟩⟩, G.2.2.F ht⟩) G.2.2.2.2 dL_pointPower_17
  · have hE : E9 = xIOB := hE
    subst hE
    refine vx_catch (name := xIOB) hown [{ startPc := 0, endPc := 11, handlerPc := 14, catchType := 21 }] { startPc := 0, endPc := 11, handlerPc := 18, catchType := 13 } [{ startPc := 0, endPc := 11, handlerPc := 22, catchType := 15 }] htb (List.forall_mem_cons.mpr ⟨Or.inr ⟨by decide, xISE, hts _ (.tail _ qA_952), hN.2.2.1⟩, fun z hz => absurd hz List.not_mem_nil⟩) (by decide) (by decide) (hts _ (.tail _ qA_946)) (hX.use (.castable xIOB xIOB) (by decide +kernel)) hce hcv hcl ?_
    refine lv_astore (lv' := [(5, .ref q9), (0, .ref (ad o)), (1, .int a0), (2, .int a1), (3, .int a2), (4, .ref ao)]) hx hb dL_pointPower_18 hl (by decide) rfl (fun ls hl => ?_)
    refine lv_iconst (v := 2) hx hb dL_pointPower_20 (by decide) ?_
    refine W.widen (k := T1.1 - T.1 + 1) (n := sg T1 - sg T + 6) (by omega) (by omega) ?_
    exact W.iret (v := 2) hx hb hr (fun t ht hW => ⟨⟨2, ad2, rfl, ⟨rfl, had⟩, ⟨by rw [ht]; exact G.1, va_K.moved hW.alike hK, G.2.1⟩⟩, G.2.2.F ht⟩) G.2.2.2.2 dL_pointPower_21
  · have hE : E9 = xIAE := hE
    subst hE
    refine vx_catch (name := xIAE) hown [{ startPc := 0, endPc := 11, handlerPc := 14, catchType := 21 }, { startPc := 0, endPc := 11, handlerPc := 18, catchType := 13 }] { startPc := 0, endPc := 11, handlerPc := 22, catchType := 15 } [] htb (List.forall_mem_cons.mpr ⟨Or.inr ⟨by decide, xISE, hts _ (.tail _ qA_952), hN.2.2.2⟩, List.forall_mem_cons.mpr ⟨Or.inr ⟨by decide, xIOB, hts _ (.tail _ qA_946), hN.1⟩, fun z hz => absurd hz List.not_mem_nil⟩⟩) (by decide) (by decide) (hts _ (.tail _ qA_947)) (hX.use (.castable xIAE xIAE) (by decide +kernel)) hce hcv hcl ?_
    refine lv_astore (lv' := [(5, .ref q9), (0, .ref (ad o)), (1, .int a0), (2, .int a1), (3, .int a2), (4, .ref ao)]) hx hb dL_pointPower_22 hl (by decide) rfl (fun ls hl => ?_)
    refine lv_iconst (v := 3) hx hb dL_pointPower_24 (by decide) ?_
    refine W.widen (k := T1.1 - T.1 + 1) (n := sg T1 - sg T + 6) (by omega) (by omega) ?_
    exact W.iret (v := 3) hx hb hr (fun t ht hW => ⟨⟨3, ad2, rfl, ⟨rfl, had⟩, ⟨by rw [ht]; exact G.1, va_K.moved hW.alike hK, G.2.1⟩⟩, G.2.2.F ht⟩) G.2.2.2.2 dL_pointPower_25
theorem v_pointPower (l : Launch) (hst : l.stackTraces = false) (D : va_G) {cI cJ cZ cMic cSrc cSt cAI cAJ cD : ClassId} (h0 : Nat) (ad : Nat → Nat) (T : AT) (o : Nat) (a0 a1 a2 : Int32) (ao : Nat) (f : Nat → Int64) {k1 : Nat} {r1 : Int64} {T1 : AT} (h : g_X11_pointPower T o a0 a1 a2 = some (k1, r1, T1)) (hrc : RC T) (h_o : o < T.1) (h_s : T.2.1 o = (11, 0)) : tWi l yL_pointPower (Cond.codeWith yL_pointPower cL_pointPower 6 (some .int) [(0, 11, 14, 21), (0, 11, 18, 13), (0, 11, 22, 15)] :: wsA) 9 171 cI cJ cZ cMic cSrc cSt cAI cAJ cD D h0 ad T (oJ ao cJ f) [.ref (ad o), .int a0, .int a1, .int a2, .ref ao] (vck 1 2 3 k1) T1 (oJ ao cJ (vfJ k1 f r1)) := by
  cases k1 with
  | zero => exact v_pointPower_n l hst D h0 ad T o a0 a1 a2 ao f h hrc h_o h_s
  | succ e1 => exact v_pointPower_t l hst D h0 ad T o a0 a1 a2 ao f h hrc h_o h_s
end
section
/-! 14d.vd3.lean.txt -/
set_option maxHeartbeats 4000000 in
set_option maxRecDepth 100000 in
theorem v_bestWithout_n (l : Launch) (hst : l.stackTraces = false) (D : va_G) {cI cJ cZ cMic cSrc cSt cAI cAJ cD : ClassId} (h0 : Nat) (ad : Nat → Nat) (T : AT) (o : Nat) (a0 : Int32) (ao : Nat) (f : Nat → Int64) {r1 : Int32} {T1 : AT} (h : g_X11_bestWithout T o a0 = some (0, r1, T1)) (hrc : RC T) (h_o : o < T.1) (h_s : T.2.1 o = (11, 0)) : tWi l yL_bestWithout (Cond.codeWith yL_bestWithout cL_bestWithout 4 (some .int) [(0, 9, 12, 21), (0, 9, 15, 13)] :: wsA) 9 170 cI cJ cZ cMic cSrc cSt cAI cAJ cD D h0 ad T (oJ ao cJ f) [.ref (ad o), .int a0, .ref ao] (vck 1 2 0 (0)) T1 (oJ ao cJ (vfJ (0) f r1.toInt64)) := by
  intro sz
  refine va_MetW (cc := cL_bestWithout) (maxL := 4) (ret := some .int) (by decide) rfl ?_
  intro p e s m args below meth c s₁ B hml hv
  obtain ⟨rfl, hsz, hP, hK, hD0, hX, hN, hA0, hTS⟩ := hv
  have hx := B.exec
  have hb := B.bytes
  have hr := B.returns
  have hts := atoms_spec (ws := (Cond.codeWith yL_bestWithout cL_bestWithout 4 (some .int) [(0, 9, 12, 21), (0, 9, 15, 13)] :: wsA)) B.pre
  have hown : s.vm.findClass RL = some m.cls := findClass_of_methodNamed B.named
  have hlocks := B.notSynchronized
  have htb := vx_table (x := yL_bestWithout) B (hts _ (.head _))
  subst hsz
  have hD := hD0.self (sz := s.heap.size)
  generalize hAe : va_A (cW ad T.1 (cc cI cJ cZ cMic cSrc cSt cAI cAJ ad T) ++ [oJ ao cJ f]) s.heap.size = A at hD hX hA0 ⊢
  have hA : ∀ q : Nat, s.heap.size ≤ q → A q := fun q h => by rw [← hAe]; exact Or.inr h
  have G : gL cI cJ cZ cMic cSrc cSt cAI cAJ D ad A s.heap s.heap [] T [oJ ao cJ f] := ⟨hP, hD, va_S.rf⟩
  have E : cE p c cL_bestWithout s m ([.ref (ad o), .int a0, .ref ao] : List Value).toArray (Cond.codeWith yL_bestWithout cL_bestWithout 4 (some .int) [(0, 9, 12, 21), (0, 9, 15, 13)] :: wsA) D RL (CT cI cJ cZ cMic cSrc cSt cAI cAJ ++ [(cD, .double)]) := ⟨hx, hb, hts, hown, hK⟩
  have hl := lv_entry ([.ref (ad o), .int a0, .ref ao]) (n := 4) (Nat.le_of_ble_eq_true rfl)
  rw [lg_entry_eq]
  generalize (lg_sl ([.ref (ad o), .int a0, .ref ao]) ++ List.replicate (4 - (lg_sl ([.ref (ad o), .int a0, .ref ao])).length) Slot.unset).toArray = ls at hl ⊢
  have hl : lv_has ls 4 [(0, .ref (ad o)), (1, .int a0), (2, .ref ao)] := hl
  refine lv_aload_n hx hb dL_bestWithout_0 rfl (lv_at hl 2 rfl) ?_
  refine lv_iconst (v := 0) hx hb dL_bestWithout_1 (by decide) ?_
  refine lv_aload_n hx hb dL_bestWithout_2 rfl (lv_at hl 0 rfl) ?_
  refine lv_iload_n hx hb dL_bestWithout_3 rfl (lv_at hl 1 rfl) ?_
  refine t_avi (As := [.int a0]) (rest := [.int 0, .ref ao]) E G hA hX hX.2.2.2.1 hml (a_X11_bestWithout l hst D cI cJ cZ cMic cSrc cSt cAI cAJ ad T o a0 h hrc h_o) (cwV 1 hts (gaV qA_1117 qA_1118 qA_1119 qA_131 qA_922) rfl rfl rfl (by decide +kernel) ⟨Nat.le_of_ble_eq_true rfl, Nat.le_of_ble_eq_true rfl⟩) h_o (cc_o11 h_s) rfl rfl hl.1 rfl (lv_room (Nat.le_of_ble_eq_true rfl)) dL_bestWithout_4 ⟨by show 0 + (T1.1 - T.1) ≤ T1.1 - T.1 + 1; omega, by show 0 + (sg T1 - sg T) ≤ sg T1 - sg T + 6; omega⟩ ?_
  intro ad2 H locs had G
  refine lv_i2l (v := r1.toInt64) hx hb dL_bestWithout_7 rfl ?_
  refine t_last E G dL_bestWithout_8 (fun H locs G => ?_)
  refine lv_goto (tgt := 18) hx hb dL_bestWithout_9 (by decide) ?_
  refine lv_iconst (v := 0) hx hb dL_bestWithout_18 (by decide) ?_
  refine W.widen (k := T1.1 - T.1 + 1) (n := sg T1 - sg T + 6) (by omega) (by omega) ?_
  exact W.iret (v := 0) hx hb hr (fun t ht hW => ⟨⟨0, ad2, rfl, ⟨rfl, had⟩, ⟨by rw [ht]; exact G.1, va_K.moved hW.alike hK, G.2.1⟩⟩, G.2.2.F ht⟩) G.2.2.2.2 dL_bestWithout_19
set_option maxHeartbeats 4000000 in
set_option maxRecDepth 100000 in
theorem v_bestWithout_t (l : Launch) (hst : l.stackTraces = false) (D : va_G) {cI cJ cZ cMic cSrc cSt cAI cAJ cD : ClassId} (h0 : Nat) (ad : Nat → Nat) (T : AT) (o : Nat) (a0 : Int32) (ao : Nat) (f : Nat → Int64) {e1 : Nat} {r1 : Int32} {T1 : AT} (h : g_X11_bestWithout T o a0 = some (e1 + 1, r1, T1)) (hrc : RC T) (h_o : o < T.1) (h_s : T.2.1 o = (11, 0)) : tWi l yL_bestWithout (Cond.codeWith yL_bestWithout cL_bestWithout 4 (some .int) [(0, 9, 12, 21), (0, 9, 15, 13)] :: wsA) 9 170 cI cJ cZ cMic cSrc cSt cAI cAJ cD D h0 ad T (oJ ao cJ f) [.ref (ad o), .int a0, .ref ao] (vck 1 2 0 (e1 + 1)) T1 (oJ ao cJ (vfJ (e1 + 1) f r1.toInt64)) := by
  intro sz
  refine va_MetW (cc := cL_bestWithout) (maxL := 4) (ret := some .int) (by decide) rfl ?_
  intro p e s m args below meth c s₁ B hml hv
  obtain ⟨rfl, hsz, hP, hK, hD0, hX, hN, hA0, hTS⟩ := hv
  have hx := B.exec
  have hb := B.bytes
  have hr := B.returns
  have hts := atoms_spec (ws := (Cond.codeWith yL_bestWithout cL_bestWithout 4 (some .int) [(0, 9, 12, 21), (0, 9, 15, 13)] :: wsA)) B.pre
  have hown : s.vm.findClass RL = some m.cls := findClass_of_methodNamed B.named
  have hlocks := B.notSynchronized
  have htb := vx_table (x := yL_bestWithout) B (hts _ (.head _))
  subst hsz
  have hD := hD0.self (sz := s.heap.size)
  generalize hAe : va_A (cW ad T.1 (cc cI cJ cZ cMic cSrc cSt cAI cAJ ad T) ++ [oJ ao cJ f]) s.heap.size = A at hD hX hA0 ⊢
  have hA : ∀ q : Nat, s.heap.size ≤ q → A q := fun q h => by rw [← hAe]; exact Or.inr h
  have G : gL cI cJ cZ cMic cSrc cSt cAI cAJ D ad A s.heap s.heap [] T [oJ ao cJ f] := ⟨hP, hD, va_S.rf⟩
  have E : cE p c cL_bestWithout s m ([.ref (ad o), .int a0, .ref ao] : List Value).toArray (Cond.codeWith yL_bestWithout cL_bestWithout 4 (some .int) [(0, 9, 12, 21), (0, 9, 15, 13)] :: wsA) D RL (CT cI cJ cZ cMic cSrc cSt cAI cAJ ++ [(cD, .double)]) := ⟨hx, hb, hts, hown, hK⟩
  have hl := lv_entry ([.ref (ad o), .int a0, .ref ao]) (n := 4) (Nat.le_of_ble_eq_true rfl)
  rw [lg_entry_eq]
  generalize (lg_sl ([.ref (ad o), .int a0, .ref ao]) ++ List.replicate (4 - (lg_sl ([.ref (ad o), .int a0, .ref ao])).length) Slot.unset).toArray = ls at hl ⊢
  have hl : lv_has ls 4 [(0, .ref (ad o)), (1, .int a0), (2, .ref ao)] := hl
  refine lv_aload_n hx hb dL_bestWithout_0 rfl (lv_at hl 2 rfl) ?_
  refine lv_iconst (v := 0) hx hb dL_bestWithout_1 (by decide) ?_
  refine lv_aload_n hx hb dL_bestWithout_2 rfl (lv_at hl 0 rfl) ?_
  refine lv_iload_n hx hb dL_bestWithout_3 rfl (lv_at hl 1 rfl) ?_
  refine t_bvi (As := [.int a0]) (rest := [.int 0, .ref ao]) E G hA hX hX.2.2.2.1 hml (b_X11_bestWithout l hst D cI cJ cZ cMic cSrc cSt cAI cAJ ad T o a0 h hrc h_o) (cwV 1 hts (gaV qA_1117 qA_1118 qA_1119 qA_131 qA_922) rfl rfl rfl (by decide +kernel) ⟨Nat.le_of_ble_eq_true rfl, Nat.le_of_ble_eq_true rfl⟩) h_o (cc_o11 h_s) rfl rfl hl.1 rfl (lv_room (Nat.le_of_ble_eq_true rfl)) dL_bestWithout_4 ⟨by show 0 + (T1.1 - T.1 + 1) ≤ T1.1 - T.1 + 1; omega, by show 0 + (sg T1 - sg T + 6) ≤ sg T1 - sg T + 6; omega⟩ ?_
  intro E9 ce q9 ad2 H locs hE had G hce hcv hcl
  rcases e1 with _ | _ | e1
  · have hE : E9 = xISE := hE
    subst hE
    refine vx_catch (name := xISE) hown [] { startPc := 0, endPc := 9, handlerPc := 12, catchType := 21 } [{ startPc := 0, endPc := 9, handlerPc := 15, catchType := 13 }] htb (fun z hz => absurd hz List.not_mem_nil) (by decide) (by decide) (hts _ (.tail _ qA_952)) (hX.use (.castable xISE xISE) (by decide +kernel)) hce hcv hcl ?_
    refine lv_astore_n (lv' := [(3, .ref q9), (0, .ref (ad o)), (1, .int a0), (2, .ref ao)]) hx hb dL_bestWithout_12 rfl hl (by decide) rfl (fun ls hl => ?_)
    refine lv_iconst (v := 1) hx hb dL_bestWithout_13 (by decide) ?_
    refine W.widen (k := T1.1 - T.1 + 1) (n := sg T1 - sg T + 6) (by omega) (by omega) ?_
    exact W.iret (v := 1) hx hb hr (fun t ht hW => ⟨⟨1, ad2, rfl, ⟨rfl, had⟩, ⟨by rw [ht]; exact G.1, va_K.moved hW.alike hK, G.2.1⟩⟩, G.2.2.F ht⟩) G.2.2.2.2 dL_bestWithout_14
  · have hE : E9 = xIOB := hE
    subst hE
    refine vx_catch (name := xIOB) hown [{ startPc := 0, endPc := 9, handlerPc := 12, catchType := 21 }] { startPc := 0, endPc := 9, handlerPc := 15, catchType := 13 } [] htb (List.forall_mem_cons.mpr ⟨Or.inr ⟨by decide, xISE, hts _ (.tail _ qA_952), hN.2.2.1⟩, fun z hz => absurd hz List.not_mem_nil⟩) (by decide) (by decide) (hts _ (.tail _ qA_946)) (hX.use (.castable xIOB xIOB) (by decide +kernel)) hce hcv hcl ?_
    refine lv_astore_n (lv' := [(3, .ref q9), (0, .ref (ad o)), (1, .int a0), (2, .ref ao)]) hx hb dL_bestWithout_15 rfl hl (by decide) rfl (fun ls hl => ?_)
    refine lv_iconst (v := 2) hx hb dL_bestWithout_16 (by decide) ?_
    refine W.widen (k := T1.1 - T.1 + 1) (n := sg T1 - sg T + 6) (by omega) (by omega) ?_
    exact W.iret (v := 2) hx hb hr (fun t ht hW => ⟨⟨2, ad2, rfl, ⟨rfl, had⟩, ⟨by rw [ht]; exact G.1, va_K.moved hW.alike hK, G.2.1⟩⟩, G.2.2.F ht⟩) G.2.2.2.2 dL_bestWithout_17
  · have q := (cd_g_X11_bestWithout (S := [0, 1, 2]) (fun _ h => h) T o a0 _ _ _ h)
    simp only [List.mem_cons, List.not_mem_nil, or_false] at q
    omega
theorem v_bestWithout (l : Launch) (hst : l.stackTraces = false) (D : va_G) {cI cJ cZ cMic cSrc cSt cAI cAJ cD : ClassId} (h0 : Nat) (ad : Nat → Nat) (T : AT) (o : Nat) (a0 : Int32) (ao : Nat) (f : Nat → Int64) {k1 : Nat} {r1 : Int32} {T1 : AT} (h : g_X11_bestWithout T o a0 = some (k1, r1, T1)) (hrc : RC T) (h_o : o < T.1) (h_s : T.2.1 o = (11, 0)) : tWi l yL_bestWithout (Cond.codeWith yL_bestWithout cL_bestWithout 4 (some .int) [(0, 9, 12, 21), (0, 9, 15, 13)] :: wsA) 9 170 cI cJ cZ cMic cSrc cSt cAI cAJ cD D h0 ad T (oJ ao cJ f) [.ref (ad o), .int a0, .ref ao] (vck 1 2 0 k1) T1 (oJ ao cJ (vfJ k1 f r1.toInt64)) := by
  cases k1 with
  | zero => exact v_bestWithout_n l hst D h0 ad T o a0 ao f h hrc h_o h_s
  | succ e1 => exact v_bestWithout_t l hst D h0 ad T o a0 ao f h hrc h_o h_s
set_option maxHeartbeats 4000000 in
set_option maxRecDepth 100000 in
theorem v_bestIfOff_n (l : Launch) (hst : l.stackTraces = false) (D : va_G) {cI cJ cZ cMic cSrc cSt cAI cAJ cD : ClassId} (h0 : Nat) (ad : Nat → Nat) (T : AT) (o : Nat) (a0 : Int32) (ao : Nat) (f : Nat → Int64) {r1 : Int32} {T1 : AT} (h : g_X11_bestIfOff T o a0 = some (0, r1, T1)) (hrc : RC T) (h_o : o < T.1) (h_s : T.2.1 o = (11, 0)) : tWi l yL_bestIfOff (Cond.codeWith yL_bestIfOff cL_bestIfOff 4 (some .int) [(0, 9, 12, 21), (0, 9, 15, 13)] :: wsA) 9 170 cI cJ cZ cMic cSrc cSt cAI cAJ cD D h0 ad T (oJ ao cJ f) [.ref (ad o), .int a0, .ref ao] (vck 1 2 0 (0)) T1 (oJ ao cJ (vfJ (0) f r1.toInt64)) := by
  intro sz
  refine va_MetW (cc := cL_bestIfOff) (maxL := 4) (ret := some .int) (by decide) rfl ?_
  intro p e s m args below meth c s₁ B hml hv
  obtain ⟨rfl, hsz, hP, hK, hD0, hX, hN, hA0, hTS⟩ := hv
  have hx := B.exec
  have hb := B.bytes
  have hr := B.returns
  have hts := atoms_spec (ws := (Cond.codeWith yL_bestIfOff cL_bestIfOff 4 (some .int) [(0, 9, 12, 21), (0, 9, 15, 13)] :: wsA)) B.pre
  have hown : s.vm.findClass RL = some m.cls := findClass_of_methodNamed B.named
  have hlocks := B.notSynchronized
  have htb := vx_table (x := yL_bestIfOff) B (hts _ (.head _))
  subst hsz
  have hD := hD0.self (sz := s.heap.size)
  generalize hAe : va_A (cW ad T.1 (cc cI cJ cZ cMic cSrc cSt cAI cAJ ad T) ++ [oJ ao cJ f]) s.heap.size = A at hD hX hA0 ⊢
  have hA : ∀ q : Nat, s.heap.size ≤ q → A q := fun q h => by rw [← hAe]; exact Or.inr h
  have G : gL cI cJ cZ cMic cSrc cSt cAI cAJ D ad A s.heap s.heap [] T [oJ ao cJ f] := ⟨hP, hD, va_S.rf⟩
  have E : cE p c cL_bestIfOff s m ([.ref (ad o), .int a0, .ref ao] : List Value).toArray (Cond.codeWith yL_bestIfOff cL_bestIfOff 4 (some .int) [(0, 9, 12, 21), (0, 9, 15, 13)] :: wsA) D RL (CT cI cJ cZ cMic cSrc cSt cAI cAJ ++ [(cD, .double)]) := ⟨hx, hb, hts, hown, hK⟩
  have hl := lv_entry ([.ref (ad o), .int a0, .ref ao]) (n := 4) (Nat.le_of_ble_eq_true rfl)
  rw [lg_entry_eq]
  generalize (lg_sl ([.ref (ad o), .int a0, .ref ao]) ++ List.replicate (4 - (lg_sl ([.ref (ad o), .int a0, .ref ao])).length) Slot.unset).toArray = ls at hl ⊢
  have hl : lv_has ls 4 [(0, .ref (ad o)), (1, .int a0), (2, .ref ao)] := hl
  refine lv_aload_n hx hb dL_bestIfOff_0 rfl (lv_at hl 2 rfl) ?_
  refine lv_iconst (v := 0) hx hb dL_bestIfOff_1 (by decide) ?_
  refine lv_aload_n hx hb dL_bestIfOff_2 rfl (lv_at hl 0 rfl) ?_
  refine lv_iload_n hx hb dL_bestIfOff_3 rfl (lv_at hl 1 rfl) ?_
  refine t_avi (As := [.int a0]) (rest := [.int 0, .ref ao]) E G hA hX hX.2.2.2.1 hml (a_X11_bestIfOff l hst D cI cJ cZ cMic cSrc cSt cAI cAJ ad T o a0 h hrc h_o) (cwV 1 hts (gaV qA_1121 qA_1122 qA_1123 qA_131 qA_923) rfl rfl rfl (by decide +kernel) ⟨Nat.le_of_ble_eq_true rfl, Nat.le_of_ble_eq_true rfl⟩) h_o (cc_o11 h_s) rfl rfl hl.1 rfl (lv_room (Nat.le_of_ble_eq_true rfl)) dL_bestIfOff_4 ⟨by show 0 + (T1.1 - T.1) ≤ T1.1 - T.1 + 1; omega, by show 0 + (sg T1 - sg T) ≤ sg T1 - sg T + 6; omega⟩ ?_
  intro ad2 H locs had G
  refine lv_i2l (v := r1.toInt64) hx hb dL_bestIfOff_7 rfl ?_
  refine t_last E G dL_bestIfOff_8 (fun H locs G => ?_)
  refine lv_goto (tgt := 18) hx hb dL_bestIfOff_9 (by decide) ?_
  refine lv_iconst (v := 0) hx hb dL_bestIfOff_18 (by decide) ?_
  refine W.widen (k := T1.1 - T.1 + 1) (n := sg T1 - sg T + 6) (by omega) (by omega) ?_
  exact W.iret (v := 0) hx hb hr (fun t ht hW => ⟨⟨0, ad2, rfl, ⟨rfl, had⟩, ⟨by rw [ht]; exact G.1, va_K.moved hW.alike hK, G.2.1⟩⟩, G.2.2.F ht⟩) G.2.2.2.2 dL_bestIfOff_19
set_option maxHeartbeats 4000000 in
set_option maxRecDepth 100000 in
theorem v_bestIfOff_t (l : Launch) (hst : l.stackTraces = false) (D : va_G) {cI cJ cZ cMic cSrc cSt cAI cAJ cD : ClassId} (h0 : Nat) (ad : Nat → Nat) (T : AT) (o : Nat) (a0 : Int32) (ao : Nat) (f : Nat → Int64) {e1 : Nat} {r1 : Int32} {T1 : AT} (h : g_X11_bestIfOff T o a0 = some (e1 + 1, r1, T1)) (hrc : RC T) (h_o : o < T.1) (h_s : T.2.1 o = (11, 0)) : tWi l yL_bestIfOff (Cond.codeWith yL_bestIfOff cL_bestIfOff 4 (some .int) [(0, 9, 12, 21), (0, 9, 15, 13)] :: wsA) 9 170 cI cJ cZ cMic cSrc cSt cAI cAJ cD D h0 ad T (oJ ao cJ f) [.ref (ad o), .int a0, .ref ao] (vck 1 2 0 (e1 + 1)) T1 (oJ ao cJ (vfJ (e1 + 1) f r1.toInt64)) := by
  intro sz
  refine va_MetW (cc := cL_bestIfOff) (maxL := 4) (ret := some .int) (by decide) rfl ?_
  intro p e s m args below meth c s₁ B hml hv
  obtain ⟨rfl, hsz, hP, hK, hD0, hX, hN, hA0, hTS⟩ := hv
  have hx := B.exec
  have hb := B.bytes
  have hr := B.returns
  have hts := atoms_spec (ws := (Cond.codeWith yL_bestIfOff cL_bestIfOff 4 (some .int) [(0, 9, 12, 21), (0, 9, 15, 13)] :: wsA)) B.pre
  have hown : s.vm.findClass RL = some m.cls := findClass_of_methodNamed B.named
  have hlocks := B.notSynchronized
  have htb := vx_table (x := yL_bestIfOff) B (hts _ (.head _))
  subst hsz
  have hD := hD0.self (sz := s.heap.size)
  generalize hAe : va_A (cW ad T.1 (cc cI cJ cZ cMic cSrc cSt cAI cAJ ad T) ++ [oJ ao cJ f]) s.heap.size = A at hD hX hA0 ⊢
  have hA : ∀ q : Nat, s.heap.size ≤ q → A q := fun q h => by rw [← hAe]; exact Or.inr h
  have G : gL cI cJ cZ cMic cSrc cSt cAI cAJ D ad A s.heap s.heap [] T [oJ ao cJ f] := ⟨hP, hD, va_S.rf⟩
  have E : cE p c cL_bestIfOff s m ([.ref (ad o), .int a0, .ref ao] : List Value).toArray (Cond.codeWith yL_bestIfOff cL_bestIfOff 4 (some .int) [(0, 9, 12, 21), (0, 9, 15, 13)] :: wsA) D RL (CT cI cJ cZ cMic cSrc cSt cAI cAJ ++ [(cD, .double)]) := ⟨hx, hb, hts, hown, hK⟩
  have hl := lv_entry ([.ref (ad o), .int a0, .ref ao]) (n := 4) (Nat.le_of_ble_eq_true rfl)
  rw [lg_entry_eq]
  generalize (lg_sl ([.ref (ad o), .int a0, .ref ao]) ++ List.replicate (4 - (lg_sl ([.ref (ad o), .int a0, .ref ao])).length) Slot.unset).toArray = ls at hl ⊢
  have hl : lv_has ls 4 [(0, .ref (ad o)), (1, .int a0), (2, .ref ao)] := hl
  refine lv_aload_n hx hb dL_bestIfOff_0 rfl (lv_at hl 2 rfl) ?_
  refine lv_iconst (v := 0) hx hb dL_bestIfOff_1 (by decide) ?_
  refine lv_aload_n hx hb dL_bestIfOff_2 rfl (lv_at hl 0 rfl) ?_
  refine lv_iload_n hx hb dL_bestIfOff_3 rfl (lv_at hl 1 rfl) ?_
  refine t_bvi (As := [.int a0]) (rest := [.int 0, .ref ao]) E G hA hX hX.2.2.2.1 hml (b_X11_bestIfOff l hst D cI cJ cZ cMic cSrc cSt cAI cAJ ad T o a0 h hrc h_o) (cwV 1 hts (gaV qA_1121 qA_1122 qA_1123 qA_131 qA_923) rfl rfl rfl (by decide +kernel) ⟨Nat.le_of_ble_eq_true rfl, Nat.le_of_ble_eq_true rfl⟩) h_o (cc_o11 h_s) rfl rfl hl.1 rfl (lv_room (Nat.le_of_ble_eq_true rfl)) dL_bestIfOff_4 ⟨by show 0 + (T1.1 - T.1 + 1) ≤ T1.1 - T.1 + 1; omega, by show 0 + (sg T1 - sg T + 6) ≤ sg T1 - sg T + 6; omega⟩ ?_
  intro E9 ce q9 ad2 H locs hE had G hce hcv hcl
  rcases e1 with _ | _ | e1
  · have hE : E9 = xISE := hE
    subst hE
    refine vx_catch (name := xISE) hown [] { startPc := 0, endPc := 9, handlerPc := 12, catchType := 21 } [{ startPc := 0, endPc := 9, handlerPc := 15, catchType := 13 }] htb (fun z hz => absurd hz List.not_mem_nil) (by decide) (by decide) (hts _ (.tail _ qA_952)) (hX.use (.castable xISE xISE) (by decide +kernel)) hce hcv hcl ?_
    refine lv_astore_n (lv' := [(3, .ref q9), (0, .ref (ad o)), (1, .int a0), (2, .ref ao)]) hx hb dL_bestIfOff_12 rfl hl (by decide) rfl (fun ls hl => ?_)
    refine lv_iconst (v := 1) hx hb dL_bestIfOff_13 (by decide) ?_
    refine W.widen (k := T1.1 - T.1 + 1) (n := sg T1 - sg T + 6) (by omega) (by omega) ?_
    exact W.iret (v := 1) hx hb hr (fun t ht hW => ⟨⟨1, ad2, rfl, ⟨rfl, had⟩, ⟨by rw [ht]; exact G.1, va_K.moved hW.alike hK, G.2.1⟩⟩, G.2.2.F ht⟩) G.2.2.2.2 dL_bestIfOff_14
  · have hE : E9 = xIOB := hE
    subst hE
    refine vx_catch (name := xIOB) hown [{ startPc := 0, endPc := 9, handlerPc := 12, catchType := 21 }] { startPc := 0, endPc := 9, handlerPc := 15, catchType := 13 } [] htb (List.forall_mem_cons.mpr ⟨Or.inr ⟨by decide, xISE, hts _ (.tail _ qA_952), hN.2.2.1⟩, fun z hz => absurd hz List.not_mem_nil⟩) (by decide) (by decide) (hts _ (.tail _ qA_946)) (hX.use (.castable xIOB xIOB) (by decide +kernel)) hce hcv hcl ?_
    refine lv_astore_n (lv' := [(3, .ref q9), (0, .ref (ad o)), (1, .int a0), (2, .ref ao)]) hx hb dL_bestIfOff_15 rfl hl (by decide) rfl (fun ls hl => ?_)
    refine lv_iconst (v := 2) hx hb dL_bestIfOff_16 (by decide) ?_
    refine W.widen (k := T1.1 - T.1 + 1) (n := sg T1 - sg T + 6) (by omega) (by omega) ?_
    exact W.iret (v := 2) hx hb hr (fun t ht hW => ⟨⟨2, ad2, rfl, ⟨rfl, had⟩, ⟨by rw [ht]; exact G.1, va_K.moved hW.alike hK, G.2.1⟩⟩, G.2.2.F ht⟩) G.2.2.2.2 dL_bestIfOff_17
  · have q := (cd_g_X11_bestIfOff (S := [0, 1, 2]) (fun _ h => h) T o a0 _ _ _ h)
    simp only [List.mem_cons, List.not_mem_nil, or_false] at q
    omega
theorem v_bestIfOff (l : Launch) (hst : l.stackTraces = false) (D : va_G) {cI cJ cZ cMic cSrc cSt cAI cAJ cD : ClassId} (h0 : Nat) (ad : Nat → Nat) (T : AT) (o : Nat) (a0 : Int32) (ao : Nat) (f : Nat → Int64) {k1 : Nat} {r1 : Int32} {T1 : AT} (h : g_X11_bestIfOff T o a0 = some (k1, r1, T1)) (hrc : RC T) (h_o : o < T.1) (h_s : T.2.1 o = (11, 0)) : tWi l yL_bestIfOff (Cond.codeWith yL_bestIfOff cL_bestIfOff 4 (some .int) [(0, 9, 12, 21), (0, 9, 15, 13)] :: wsA) 9 170 cI cJ cZ cMic cSrc cSt cAI cAJ cD D h0 ad T (oJ ao cJ f) [.ref (ad o), .int a0, .ref ao] (vck 1 2 0 k1) T1 (oJ ao cJ (vfJ k1 f r1.toInt64)) := by
  cases k1 with
  | zero => exact v_bestIfOff_n l hst D h0 ad T o a0 ao f h hrc h_o h_s
  | succ e1 => exact v_bestIfOff_t l hst D h0 ad T o a0 ao f h hrc h_o h_s
set_option maxHeartbeats 4000000 in
set_option maxRecDepth 100000 in
theorem v_mute_n (l : Launch) (hst : l.stackTraces = false) (D : va_G) {cI cJ cZ cMic cSrc cSt cAI cAJ cD : ClassId} (h0 : Nat) (ad : Nat → Nat) (T : AT) (o : Nat) (a0 a1 : Int32) (ao : Nat) (f : Nat → Int64) {r1 : Int32} {T1 : AT} (h : g_X11_mute T o a0 a1 = some (0, r1, T1)) (hrc : RC T) (h_o : o < T.1) (h_s : T.2.1 o = (11, 0)) : tWi l yL_mute (Cond.codeWith yL_mute cL_mute 5 (some .int) [(0, 17, 20, 21), (0, 17, 24, 13)] :: wsA) 9 146 cI cJ cZ cMic cSrc cSt cAI cAJ cD D h0 ad T (oJ ao cJ f) [.ref (ad o), .int a0, .int a1, .ref ao] (vck 1 2 0 (0)) T1 (oJ ao cJ (vfJ (0) f (vzb r1))) := by
  intro sz
  refine va_MetW (cc := cL_mute) (maxL := 5) (ret := some .int) (by decide) rfl ?_
  intro p e s m args below meth c s₁ B hml hv
  obtain ⟨rfl, hsz, hP, hK, hD0, hX, hN, hA0, hTS⟩ := hv
  have hx := B.exec
  have hb := B.bytes
  have hr := B.returns
  have hts := atoms_spec (ws := (Cond.codeWith yL_mute cL_mute 5 (some .int) [(0, 17, 20, 21), (0, 17, 24, 13)] :: wsA)) B.pre
  have hown : s.vm.findClass RL = some m.cls := findClass_of_methodNamed B.named
  have hlocks := B.notSynchronized
  have htb := vx_table (x := yL_mute) B (hts _ (.head _))
  subst hsz
  have hD := hD0.self (sz := s.heap.size)
  generalize hAe : va_A (cW ad T.1 (cc cI cJ cZ cMic cSrc cSt cAI cAJ ad T) ++ [oJ ao cJ f]) s.heap.size = A at hD hX hA0 ⊢
  have hA : ∀ q : Nat, s.heap.size ≤ q → A q := fun q h => by rw [← hAe]; exact Or.inr h
  have G : gL cI cJ cZ cMic cSrc cSt cAI cAJ D ad A s.heap s.heap [] T [oJ ao cJ f] := ⟨hP, hD, va_S.rf⟩
  have E : cE p c cL_mute s m ([.ref (ad o), .int a0, .int a1, .ref ao] : List Value).toArray (Cond.codeWith yL_mute cL_mute 5 (some .int) [(0, 17, 20, 21), (0, 17, 24, 13)] :: wsA) D RL (CT cI cJ cZ cMic cSrc cSt cAI cAJ ++ [(cD, .double)]) := ⟨hx, hb, hts, hown, hK⟩
  have hl := lv_entry ([.ref (ad o), .int a0, .int a1, .ref ao]) (n := 5) (Nat.le_of_ble_eq_true rfl)
  rw [lg_entry_eq]
  generalize (lg_sl ([.ref (ad o), .int a0, .int a1, .ref ao]) ++ List.replicate (5 - (lg_sl ([.ref (ad o), .int a0, .int a1, .ref ao])).length) Slot.unset).toArray = ls at hl ⊢
  have hl : lv_has ls 5 [(0, .ref (ad o)), (1, .int a0), (2, .int a1), (3, .ref ao)] := hl
  refine lv_aload_n hx hb dL_mute_0 rfl (lv_at hl 3 rfl) ?_
  refine lv_iconst (v := 0) hx hb dL_mute_1 (by decide) ?_
  refine lv_aload_n hx hb dL_mute_2 rfl (lv_at hl 0 rfl) ?_
  refine lv_iload_n hx hb dL_mute_3 rfl (lv_at hl 1 rfl) ?_
  refine lv_iload_n hx hb dL_mute_4 rfl (lv_at hl 2 rfl) ?_
  refine t_avi (As := [.int a0, .int a1]) (rest := [.int 0, .ref ao]) E G hA hX hX.2.2.2.1 hml (a_X11_mute l hst D cI cJ cZ cMic cSrc cSt cAI cAJ ad T o a0 a1 h hrc h_o) (cwV 2 hts (gaV qA_1125 qA_1126 qA_1127 qA_131 qA_924) rfl rfl rfl (by decide +kernel) ⟨Nat.le_of_ble_eq_true rfl, Nat.le_of_ble_eq_true rfl⟩) h_o (cc_o11 h_s) rfl rfl hl.1 rfl (lv_room (Nat.le_of_ble_eq_true rfl)) dL_mute_5 ⟨by show 0 + (T1.1 - T.1) ≤ T1.1 - T.1 + 1; omega, by show 0 + (sg T1 - sg T) ≤ sg T1 - sg T + 6; omega⟩ ?_
  intro ad2 H locs had G
  refine lv_if_eq (tgt := 15) hx hb dL_mute_8 (by decide) (fun c1 => ?_) (fun c1 => ?_)
  · refine lv_lconst (v := vzb r1) hx hb dL_mute_15 (by rw [vzb, if_pos c1]; rfl) ?_
    refine t_last E G dL_mute_16 (fun H locs G => ?_)
    refine lv_goto (tgt := 28) hx hb dL_mute_17 (by decide) ?_
    refine lv_iconst (v := 0) hx hb dL_mute_28 (by decide) ?_
    refine W.widen (k := T1.1 - T.1 + 1) (n := sg T1 - sg T + 6) (by omega) (by omega) ?_
    exact W.iret (v := 0) hx hb hr (fun t ht hW => ⟨⟨0, ad2, rfl, ⟨rfl, had⟩, ⟨by rw [ht]; exact G.1, va_K.moved hW.alike hK, G.2.1⟩⟩, G.2.2.F ht⟩) G.2.2.2.2 dL_mute_29
  · refine lv_lconst (v := vzb r1) hx hb dL_mute_11 (by rw [vzb, if_neg c1]; rfl) ?_
    refine lv_goto (tgt := 16) hx hb dL_mute_12 (by decide) ?_
    refine t_last E G dL_mute_16 (fun H locs G => ?_)
    refine lv_goto (tgt := 28) hx hb dL_mute_17 (by decide) ?_
    refine lv_iconst (v := 0) hx hb dL_mute_28 (by decide) ?_
    refine W.widen (k := T1.1 - T.1 + 1) (n := sg T1 - sg T + 6) (by omega) (by omega) ?_
    exact W.iret (v := 0) hx hb hr (fun t ht hW => ⟨⟨0, ad2, rfl, ⟨rfl, had⟩, ⟨by rw [ht]; exact G.1, va_K.moved hW.alike hK, G.2.1⟩⟩, G.2.2.F ht⟩) G.2.2.2.2 dL_mute_29
set_option maxHeartbeats 4000000 in
set_option maxRecDepth 100000 in
theorem v_mute_t (l : Launch) (hst : l.stackTraces = false) (D : va_G) {cI cJ cZ cMic cSrc cSt cAI cAJ cD : ClassId} (h0 : Nat) (ad : Nat → Nat) (T : AT) (o : Nat) (a0 a1 : Int32) (ao : Nat) (f : Nat → Int64) {e1 : Nat} {r1 : Int32} {T1 : AT} (h : g_X11_mute T o a0 a1 = some (e1 + 1, r1, T1)) (hrc : RC T) (h_o : o < T.1) (h_s : T.2.1 o = (11, 0)) : tWi l yL_mute (Cond.codeWith yL_mute cL_mute 5 (some .int) [(0, 17, 20, 21), (0, 17, 24, 13)] :: wsA) 9 146 cI cJ cZ cMic cSrc cSt cAI cAJ cD D h0 ad T (oJ ao cJ f) [.ref (ad o), .int a0, .int a1, .ref ao] (vck 1 2 0 (e1 + 1)) T1 (oJ ao cJ (vfJ (e1 + 1) f (vzb r1))) := by
  intro sz
  refine va_MetW (cc := cL_mute) (maxL := 5) (ret := some .int) (by decide) rfl ?_
  intro p e s m args below meth c s₁ B hml hv
  obtain ⟨rfl, hsz, hP, hK, hD0, hX, hN, hA0, hTS⟩ := hv
  have hx := B.exec
  have hb := B.bytes
  have hr := B.returns
  have hts := atoms_spec (ws := (Cond.codeWith yL_mute cL_mute 5 (some .int) [(0, 17, 20, 21), (0, 17, 24, 13)] :: wsA)) B.pre
  have hown : s.vm.findClass RL = some m.cls := findClass_of_methodNamed B.named
  have hlocks := B.notSynchronized
  have htb := vx_table (x := yL_mute) B (hts _ (.head _))
  subst hsz
  have hD := hD0.self (sz := s.heap.size)
  generalize hAe : va_A (cW ad T.1 (cc cI cJ cZ cMic cSrc cSt cAI cAJ ad T) ++ [oJ ao cJ f]) s.heap.size = A at hD hX hA0 ⊢
  have hA : ∀ q : Nat, s.heap.size ≤ q → A q := fun q h => by rw [← hAe]; exact Or.inr h
  have G : gL cI cJ cZ cMic cSrc cSt cAI cAJ D ad A s.heap s.heap [] T [oJ ao cJ f] := ⟨hP, hD, va_S.rf⟩
  have E : cE p c cL_mute s m ([.ref (ad o), .int a0, .int a1, .ref ao] : List Value).toArray (Cond.codeWith yL_mute cL_mute 5 (some .int) [(0, 17, 20, 21), (0, 17, 24, 13)] :: wsA) D RL (CT cI cJ cZ cMic cSrc cSt cAI cAJ ++ [(cD, .double)]) := ⟨hx, hb, hts, hown, hK⟩
  have hl := lv_entry ([.ref (ad o), .int a0, .int a1, .ref ao]) (n := 5) (Nat.le_of_ble_eq_true rfl)
  rw [lg_entry_eq]
  generalize (lg_sl ([.ref (ad o), .int a0, .int a1, .ref ao]) ++ List.replicate (5 - (lg_sl ([.ref (ad o), .int a0, .int a1, .ref ao])).length) Slot.unset).toArray = ls at hl ⊢
  have hl : lv_has ls 5 [(0, .ref (ad o)), (1, .int a0), (2, .int a1), (3, .ref ao)] := hl
  refine lv_aload_n hx hb dL_mute_0 rfl (lv_at hl 3 rfl) ?_
  refine lv_iconst (v := 0) hx hb dL_mute_1 (by decide) ?_
  refine lv_aload_n hx hb dL_mute_2 rfl (lv_at hl 0 rfl) ?_
  refine lv_iload_n hx hb dL_mute_3 rfl (lv_at hl 1 rfl) ?_
  refine lv_iload_n hx hb dL_mute_4 rfl (lv_at hl 2 rfl) ?_
  refine t_bvi (As := [.int a0, .int a1]) (rest := [.int 0, .ref ao]) E G hA hX hX.2.2.2.1 hml (b_X11_mute l hst D cI cJ cZ cMic cSrc cSt cAI cAJ ad T o a0 a1 h hrc h_o) (cwV 2 hts (gaV qA_1125 qA_1126 qA_1127 qA_131 qA_924) rfl rfl rfl (by decide +kernel) ⟨Nat.le_of_ble_eq_true rfl, Nat.le_of_ble_eq_true rfl⟩) h_o (cc_o11 h_s) rfl rfl hl.1 rfl (lv_room (Nat.le_of_ble_eq_true rfl)) dL_mute_5 ⟨by show 0 + (T1.1 - T.1 + 1) ≤ T1.1 - T.1 + 1; omega, by show 0 + (sg T1 - sg T + 6) ≤ sg T1 - sg T + 6; omega⟩ ?_
  intro E9 ce q9 ad2 H locs hE had G hce hcv hcl
  rcases e1 with _ | _ | e1
  · have hE : E9 = xISE := hE
    subst hE
    refine vx_catch (name := xISE) hown [] { startPc := 0, endPc := 17, handlerPc := 20, catchType := 21 } [{ startPc := 0, endPc := 17, handlerPc := 24, catchType := 13 }] htb (fun z hz => absurd hz List.not_mem_nil) (by decide) (by decide) (hts _ (.tail _ qA_952)) (hX.use (.castable xISE xISE) (by decide +kernel)) hce hcv hcl ?_
    refine lv_astore (lv' := [(4, .ref q9), (0, .ref (ad o)), (1, .int a0), (2, .int a1), (3, .ref ao)]) hx hb dL_mute_20 hl (by decide) rfl (fun ls hl => ?_)
    refine lv_iconst (v := 1) hx hb dL_mute_22 (by decide) ?_
    refine W.widen (k := T1.1 - T.1 + 1) (n := sg T1 - sg T + 6) (by omega) (by omega) ?_
    exact W.iret (v := 1) hx hb hr (fun t ht hW => ⟨⟨1, ad2, rfl, ⟨rfl, had⟩, ⟨by rw [ht]; exact G.1, va_K.moved hW.alike hK, G.2.1⟩⟩, G.2.2.F ht⟩) G.2.2.2.2 dL_mute_23
  · have hE : E9 = xIOB := hE
    subst hE
    refine vx_catch (name := xIOB) hown [{ startPc := 0, endPc := 17, handlerPc := 20, catchType := 21 }] { startPc := 0, endPc := 17, handlerPc := 24, catchType := 13 } [] htb (List.forall_mem_cons.mpr ⟨Or.inr ⟨by decide, xISE, hts _ (.tail _ qA_952), hN.2.2.1⟩, fun z hz => absurd hz List.not_mem_nil⟩) (by decide) (by decide) (hts _ (.tail _ qA_946)) (hX.use (.castable xIOB xIOB) (by decide +kernel)) hce hcv hcl ?_
    refine lv_astore (lv' := [(4, .ref q9), (0, .ref (ad o)), (1, .int a0), (2, .int a1), (3, .ref ao)]) hx hb dL_mute_24 hl (by decide) rfl (fun ls hl => ?_)
    refine lv_iconst (v := 2) hx hb dL_mute_26 (by decide) ?_
    refine W.widen (k := T1.1 - T.1 + 1) (n := sg T1 - sg T + 6) (by omega) (by omega) ?_
    exact W.iret (v := 2) hx hb hr (fun t ht hW => ⟨⟨2, ad2, rfl, ⟨rfl, had⟩, ⟨by rw [ht]; exact G.1, va_K.moved hW.alike hK, G.2.1⟩⟩, G.2.2.F ht⟩) G.2.2.2.2 dL_mute_27
  · have q := (cd_g_X11_mute (S := [0, 1, 2]) (fun _ h => h) T o a0 a1 _ _ _ h)
    simp only [List.mem_cons, List.not_mem_nil, or_false] at q
    omega
theorem v_mute (l : Launch) (hst : l.stackTraces = false) (D : va_G) {cI cJ cZ cMic cSrc cSt cAI cAJ cD : ClassId} (h0 : Nat) (ad : Nat → Nat) (T : AT) (o : Nat) (a0 a1 : Int32) (ao : Nat) (f : Nat → Int64) {k1 : Nat} {r1 : Int32} {T1 : AT} (h : g_X11_mute T o a0 a1 = some (k1, r1, T1)) (hrc : RC T) (h_o : o < T.1) (h_s : T.2.1 o = (11, 0)) : tWi l yL_mute (Cond.codeWith yL_mute cL_mute 5 (some .int) [(0, 17, 20, 21), (0, 17, 24, 13)] :: wsA) 9 146 cI cJ cZ cMic cSrc cSt cAI cAJ cD D h0 ad T (oJ ao cJ f) [.ref (ad o), .int a0, .int a1, .ref ao] (vck 1 2 0 k1) T1 (oJ ao cJ (vfJ k1 f (vzb r1))) := by
  cases k1 with
  | zero => exact v_mute_n l hst D h0 ad T o a0 a1 ao f h hrc h_o h_s
  | succ e1 => exact v_mute_t l hst D h0 ad T o a0 a1 ao f h hrc h_o h_s
set_option maxHeartbeats 4000000 in
set_option maxRecDepth 100000 in
theorem v_setWeight_n (l : Launch) (hst : l.stackTraces = false) (D : va_G) {cI cJ cZ cMic cSrc cSt cAI cAJ cD : ClassId} (h0 : Nat) (ad : Nat → Nat) (T : AT) (o : Nat) (a0 a1 : Int32) (ao : Nat) (f : Nat → Int64) {r1 : Int32} {T1 : AT} (h : g_X11_setWeight T o a0 a1 = some (0, r1, T1)) (hrc : RC T) (h_o : o < T.1) (h_s : T.2.1 o = (11, 0)) : tWi l yL_setWeight (Cond.codeWith yL_setWeight cL_setWeight 5 (some .int) [(0, 10, 13, 21), (0, 10, 17, 13), (0, 10, 21, 15)] :: wsA) 9 146 cI cJ cZ cMic cSrc cSt cAI cAJ cD D h0 ad T (oJ ao cJ f) [.ref (ad o), .int a0, .int a1, .ref ao] (vck 1 2 3 (0)) T1 (oJ ao cJ (vfJ (0) f r1.toInt64)) := by
  intro sz
  refine va_MetW (cc := cL_setWeight) (maxL := 5) (ret := some .int) (by decide) rfl ?_
  intro p e s m args below meth c s₁ B hml hv
  obtain ⟨rfl, hsz, hP, hK, hD0, hX, hN, hA0, hTS⟩ := hv
  have hx := B.exec
  have hb := B.bytes
  have hr := B.returns
  have hts := atoms_spec (ws := (Cond.codeWith yL_setWeight cL_setWeight 5 (some .int) [(0, 10, 13, 21), (0, 10, 17, 13), (0, 10, 21, 15)] :: wsA)) B.pre
  have hown : s.vm.findClass RL = some m.cls := findClass_of_methodNamed B.named
  have hlocks := B.notSynchronized
  have htb := vx_table (x := yL_setWeight) B (hts _ (.head _))
  subst hsz
  have hD := hD0.self (sz := s.heap.size)
  generalize hAe : va_A (cW ad T.1 (cc cI cJ cZ cMic cSrc cSt cAI cAJ ad T) ++ [oJ ao cJ f]) s.heap.size = A at hD hX hA0 ⊢
  have hA : ∀ q : Nat, s.heap.size ≤ q → A q := fun q h => by rw [← hAe]; exact Or.inr h
  have G : gL cI cJ cZ cMic cSrc cSt cAI cAJ D ad A s.heap s.heap [] T [oJ ao cJ f] := ⟨hP, hD, va_S.rf⟩
  have E : cE p c cL_setWeight s m ([.ref (ad o), .int a0, .int a1, .ref ao] : List Value).toArray (Cond.codeWith yL_setWeight cL_setWeight 5 (some .int) [(0, 10, 13, 21), (0, 10, 17, 13), (0, 10, 21, 15)] :: wsA) D RL (CT cI cJ cZ cMic cSrc cSt cAI cAJ ++ [(cD, .double)]) := ⟨hx, hb, hts, hown, hK⟩
  have hl := lv_entry ([.ref (ad o), .int a0, .int a1, .ref ao]) (n := 5) (Nat.le_of_ble_eq_true rfl)
  rw [lg_entry_eq]
  generalize (lg_sl ([.ref (ad o), .int a0, .int a1, .ref ao]) ++ List.replicate (5 - (lg_sl ([.ref (ad o), .int a0, .int a1, .ref ao])).length) Slot.unset).toArray = ls at hl ⊢
  have hl : lv_has ls 5 [(0, .ref (ad o)), (1, .int a0), (2, .int a1), (3, .ref ao)] := hl
  refine lv_aload_n hx hb dL_setWeight_0 rfl (lv_at hl 3 rfl) ?_
  refine lv_iconst (v := 0) hx hb dL_setWeight_1 (by decide) ?_
  refine lv_aload_n hx hb dL_setWeight_2 rfl (lv_at hl 0 rfl) ?_
  refine lv_iload_n hx hb dL_setWeight_3 rfl (lv_at hl 1 rfl) ?_
  refine lv_iload_n hx hb dL_setWeight_4 rfl (lv_at hl 2 rfl) ?_
  refine t_avi (As := [.int a0, .int a1]) (rest := [.int 0, .ref ao]) E G hA hX hX.2.2.2.1 hml (a_X11_setWeight l hst D cI cJ cZ cMic cSrc cSt cAI cAJ ad T o a0 a1 h hrc h_o) (cwV 2 hts (gaV qA_1129 qA_1130 qA_1131 qA_131 qA_930) rfl rfl rfl (by decide +kernel) ⟨Nat.le_of_ble_eq_true rfl, Nat.le_of_ble_eq_true rfl⟩) h_o (cc_o11 h_s) rfl rfl hl.1 rfl (lv_room (Nat.le_of_ble_eq_true rfl)) dL_setWeight_5 ⟨by show 0 + (T1.1 - T.1) ≤ T1.1 - T.1 + 1; omega, by show 0 + (sg T1 - sg T) ≤ sg T1 - sg T + 6; omega⟩ ?_
  intro ad2 H locs had G
  refine lv_i2l (v := r1.toInt64) hx hb dL_setWeight_8 rfl ?_
  refine t_last E G dL_setWeight_9 (fun H locs G => ?_)
  refine lv_goto (tgt := 25) hx hb dL_setWeight_10 (by decide) ?_
  refine lv_iconst (v := 0) hx hb dL_setWeight_25 (by decide) ?_
  refine W.widen (k := T1.1 - T.1 + 1) (n := sg T1 - sg T + 6) (by omega) (by omega) ?_
  exact W.iret (v := 0) hx hb hr (fun t ht hW => ⟨⟨0, ad2, rfl, ⟨rfl, had⟩, ⟨by rw [ht]; exact G.1, va_K.moved hW.alike hK, G.2.1⟩⟩, G.2.2.F ht⟩) G.2.2.2.2 dL_setWeight_26
set_option maxHeartbeats 4000000 in
set_option maxRecDepth 100000 in
theorem v_setWeight_t (l : Launch) (hst : l.stackTraces = false) (D : va_G) {cI cJ cZ cMic cSrc cSt cAI cAJ cD : ClassId} (h0 : Nat) (ad : Nat → Nat) (T : AT) (o : Nat) (a0 a1 : Int32) (ao : Nat) (f : Nat → Int64) {e1 : Nat} {r1 : Int32} {T1 : AT} (h : g_X11_setWeight T o a0 a1 = some (e1 + 1, r1, T1)) (hrc : RC T) (h_o : o < T.1) (h_s : T.2.1 o = (11, 0)) : tWi l yL_setWeight (Cond.codeWith yL_setWeight cL_setWeight 5 (some .int) [(0, 10, 13, 21), (0, 10, 17, 13), (0, 10, 21, 15)] :: wsA) 9 146 cI cJ cZ cMic cSrc cSt cAI cAJ cD D h0 ad T (oJ ao cJ f) [.ref (ad o), .int a0, .int a1, .ref ao] (vck 1 2 3 (e1 + 1)) T1 (oJ ao cJ (vfJ (e1 + 1) f r1.toInt64)) := by
  intro sz
  refine va_MetW (cc := cL_setWeight) (maxL := 5) (ret := some .int) (by decide) rfl ?_
  intro p e s m args below meth c s₁ B hml hv
  obtain ⟨rfl, hsz, hP, hK, hD0, hX, hN, hA0, hTS⟩ := hv
  have hx := B.exec
  have hb := B.bytes
  have hr := B.returns
  have hts := atoms_spec (ws := (Cond.codeWith yL_setWeight cL_setWeight 5 (some .int) [(0, 10, 13, 21), (0, 10, 17, 13), (0, 10, 21, 15)] :: wsA)) B.pre
  have hown : s.vm.findClass RL = some m.cls := findClass_of_methodNamed B.named
  have hlocks := B.notSynchronized
  have htb := vx_table (x := yL_setWeight) B (hts _ (.head _))
  subst hsz
  have hD := hD0.self (sz := s.heap.size)
  generalize hAe : va_A (cW ad T.1 (cc cI cJ cZ cMic cSrc cSt cAI cAJ ad T) ++ [oJ ao cJ f]) s.heap.size = A at hD hX hA0 ⊢
  have hA : ∀ q : Nat, s.heap.size ≤ q → A q := fun q h => by rw [← hAe]; exact Or.inr h
  have G : gL cI cJ cZ cMic cSrc cSt cAI cAJ D ad A s.heap s.heap [] T [oJ ao cJ f] := ⟨hP, hD, va_S.rf⟩
  have E : cE p c cL_setWeight s m ([.ref (ad o), .int a0, .int a1, .ref ao] : List Value).toArray (Cond.codeWith yL_setWeight cL_setWeight 5 (some .int) [(0, 10, 13, 21), (0, 10, 17, 13), (0, 10, 21, 15)] :: wsA) D RL (CT cI cJ cZ cMic cSrc cSt cAI cAJ ++ [(cD, .double)]) := ⟨hx, hb, hts, hown, hK⟩
  have hl := lv_entry ([.ref (ad o), .int a0, .int a1, .ref ao]) (n := 5) (Nat.le_of_ble_eq_true rfl)
  rw [lg_entry_eq]
  generalize (lg_sl ([.ref (ad o), .int a0, .int a1, .ref ao]) ++ List.replicate (5 - (lg_sl ([.ref (ad o), .int a0, .int a1, .ref ao])).length) Slot.unset).toArray = ls at hl ⊢
  have hl : lv_has ls 5 [(0, .ref (ad o)), (1, .int a0), (2, .int a1), (3, .ref ao)] := hl
  refine lv_aload_n hx hb dL_setWeight_0 rfl (lv_at hl 3 rfl) ?_
  refine lv_iconst (v := 0) hx hb dL_setWeight_1 (by decide) ?_
  refine lv_aload_n hx hb dL_setWeight_2 rfl (lv_at hl 0 rfl) ?_
  refine lv_iload_n hx hb dL_setWeight_3 rfl (lv_at hl 1 rfl) ?_
  refine lv_iload_n hx hb dL_setWeight_4 rfl (lv_at hl 2 rfl) ?_
  refine t_bvi (As := [.int a0, .int a1]) (rest := [.int 0, .ref ao]) E G hA hX hX.2.2.2.1 hml (b_X11_setWeight l hst D cI cJ cZ cMic cSrc cSt cAI cAJ ad T o a0 a1 h hrc h_o) (cwV 2 hts (gaV qA_1129 qA_1130 qA_1131 qA_131 qA_930) rfl rfl rfl (by decide +kernel) ⟨Nat.le_of_ble_eq_true rfl, Nat.le_of_ble_eq_true rfl⟩) h_o (cc_o11 h_s) rfl rfl hl.1 rfl (lv_room (Nat.le_of_ble_eq_true rfl)) dL_setWeight_5 ⟨by show 0 + (T1.1 - T.1 + 1) ≤ T1.1 - T.1 + 1; omega, by show 0 + (sg T1 - sg T + 6) ≤ sg T1 - sg T + 6; omega⟩ ?_
  intro E9 ce q9 ad2 H locs hE had G hce hcv hcl
  rcases e1 with _ | _ | e1
  · have hE : E9 = xISE := hE
    subst hE
    refine vx_catch (name := xISE) hown [] { startPc := 0, endPc := 10, handlerPc := 13, catchType := 21 } [{ startPc := 0, endPc := 10, handlerPc := 17, catchType := 13 }, { startPc := 0, endPc := 10, handlerPc := 21, catchType := 15 }] htb (fun z hz => absurd hz List.not_mem_nil) (by decide) (by decide) (hts _ (.tail _ qA_952)) (hX.use (.castable xISE xISE) (by decide +kernel)) hce hcv hcl ?_
    refine lv_astore (lv' := [(4, .ref q9), (0, .ref (ad o)), (1, .int a0), (2, .int a1), (3, .ref ao)]) hx hb dL_setWeight_13 hl (by decide) rfl (fun ls hl => ?_)
    refine lv_iconst (v := 1) hx hb dL_setWeight_15 (by decide) ?_
    refine W.widen (k := T1.1 - T.1 + 1) (n := sg T1 - sg T + 6) (by omega) (by omega) ?_
    exact W.iret (v := 1) hx hb hr (fun t ht hW => ⟨⟨1, ad2, rfl, ⟨rfl, had⟩, ⟨by rw [ht]; exact G.1, va_K.moved hW.alike hK, G.2.1⟩⟩, G.2.2.F ht⟩) G.2.2.2.2 dL_setWeight_16
  · have hE : E9 = xIOB := hE
    subst hE
    refine vx_catch (name := xIOB) hown [{ startPc := 0, endPc := 10, handlerPc := 13, catchType := 21 }] { startPc := 0, endPc := 10, handlerPc := 17, catchType := 13 } [{ startPc := 0, endPc := 10, handlerPc := 21, catchType := 15 }] htb (List.forall_mem_cons.mpr ⟨Or.inr ⟨by decide, xISE, hts _ (.tail _ qA_952), hN.2.2.1⟩, fun z hz => absurd hz List.not_mem_nil⟩) (by decide) (by decide) (hts _ (.tail _ qA_946)) (hX.use (.castable xIOB xIOB) (by decide +kernel)) hce hcv hcl ?_
    refine lv_astore (lv' := [(4, .ref q9), (0, .ref (ad o)), (1, .int a0), (2, .int a1), (3, .ref ao)]) hx hb dL_setWeight_17 hl (by decide) rfl (fun ls hl => ?_)
    refine lv_iconst (v := 2) hx hb dL_setWeight_19 (by decide) ?_
    refine W.widen (k := T1.1 - T.1 + 1) (n := sg T1 - sg T + 6) (by omega) (by omega) ?_
    exact W.iret (v := 2) hx hb hr (fun t ht hW => ⟨⟨2, ad2, rfl, ⟨rfl, had⟩, ⟨by rw [ht]; exact G.1, va_K.moved hW.alike hK, G.2.1⟩⟩, G.2.2.F ht⟩) G.2.2.2.2 dL_setWeight_20
  · have hE : E9 = xIAE := hE
    subst hE
    refine vx_catch (name := xIAE) hown [{ startPc := 0, endPc := 10, handlerPc := 13, catchType := 21 }, { startPc := 0, endPc := 10, handlerPc := 17, catchType := 13 }] { startPc := 0, endPc := 10, handlerPc := 21, catchType := 15 } [] htb (List.forall_mem_cons.mpr ⟨Or.inr ⟨by decide, xISE, hts _ (.tail _ qA_952), hN.2.2.2⟩, List.forall_mem_cons.mpr ⟨Or.inr ⟨by decide, xIOB, hts _ (.tail _ qA_946), hN.1⟩, fun z hz => absurd hz List.not_mem_nil⟩⟩) (by decide) (by decide) (hts _ (.tail _ qA_947)) (hX.use (.castable xIAE xIAE) (by decide +kernel)) hce hcv hcl ?_
    refine lv_astore (lv' := [(4, .ref q9), (0, .ref (ad o)), (1, .int a0), (2, .int a1), (3, .ref ao)]) hx hb dL_setWeight_21 hl (by decide) rfl (fun ls hl => ?_)
    refine lv_iconst (v := 3) hx hb dL_setWeight_23 (by decide) ?_
    refine W.widen (k := T1.1 - T.1 + 1) (n := sg T1 - sg T + 6) (by omega) (by omega) ?_
    exact W.iret (v := 3) hx hb hr (fun t ht hW => ⟨⟨3, ad2, rfl, ⟨rfl, had⟩, ⟨by rw [ht]; exact G.1, va_K.moved hW.alike hK, G.2.1⟩⟩, G.2.2.F ht⟩) G.2.2.2.2 dL_setWeight_24
theorem v_setWeight (l : Launch) (hst : l.stackTraces = false) (D : va_G) {cI cJ cZ cMic cSrc cSt cAI cAJ cD : ClassId} (h0 : Nat) (ad : Nat → Nat) (T : AT) (o : Nat) (a0 a1 : Int32) (ao : Nat) (f : Nat → Int64) {k1 : Nat} {r1 : Int32} {T1 : AT} (h : g_X11_setWeight T o a0 a1 = some (k1, r1, T1)) (hrc : RC T) (h_o : o < T.1) (h_s : T.2.1 o = (11, 0)) : tWi l yL_setWeight (Cond.codeWith yL_setWeight cL_setWeight 5 (some .int) [(0, 10, 13, 21), (0, 10, 17, 13), (0, 10, 21, 15)] :: wsA) 9 146 cI cJ cZ cMic cSrc cSt cAI cAJ cD D h0 ad T (oJ ao cJ f) [.ref (ad o), .int a0, .int a1, .ref ao] (vck 1 2 3 k1) T1 (oJ ao cJ (vfJ k1 f r1.toInt64)) := by
  cases k1 with
  | zero => exact v_setWeight_n l hst D h0 ad T o a0 a1 ao f h hrc h_o h_s
  | succ e1 => exact v_setWeight_t l hst D h0 ad T o a0 a1 ao f h hrc h_o h_s
set_option maxHeartbeats 4000000 in
set_option maxRecDepth 100000 in
theorem v_setOn_n (l : Launch) (hst : l.stackTraces = false) (D : va_G) {cI cJ cZ cMic cSrc cSt cAI cAJ cD : ClassId} (h0 : Nat) (ad : Nat → Nat) (T : AT) (o : Nat) (a0 a1 : Int32) (ao : Nat) (f : Nat → Int64) {r1 : Int32} {T1 : AT} (h : g_X11_setOn T o a0 a1 = some (0, r1, T1)) (hrc : RC T) (h_o : o < T.1) (h_s : T.2.1 o = (11, 0)) : tWi l yL_setOn (Cond.codeWith yL_setOn cL_setOn 5 (some .int) [(0, 17, 20, 21), (0, 17, 24, 13)] :: wsA) 9 147 cI cJ cZ cMic cSrc cSt cAI cAJ cD D h0 ad T (oJ ao cJ f) [.ref (ad o), .int a0, .int a1, .ref ao] (vck 1 2 0 (0)) T1 (oJ ao cJ (vfJ (0) f (vzb r1))) := by
  intro sz
  refine va_MetW (cc := cL_setOn) (maxL := 5) (ret := some .int) (by decide) rfl ?_
  intro p e s m args below meth c s₁ B hml hv
  obtain ⟨rfl, hsz, hP, hK, hD0, hX, hN, hA0, hTS⟩ := hv
  have hx := B.exec
  have hb := B.bytes
  have hr := B.returns
  have hts := atoms_spec (ws := (Cond.codeWith yL_setOn cL_setOn 5 (some .int) [(0, 17, 20, 21), (0, 17, 24, 13)] :: wsA)) B.pre
  have hown : s.vm.findClass RL = some m.cls := findClass_of_methodNamed B.named
  have hlocks := B.notSynchronized
  have htb := vx_table (x := yL_setOn) B (hts _ (.head _))
  subst hsz
  have hD := hD0.self (sz := s.heap.size)
  generalize hAe : va_A (cW ad T.1 (cc cI cJ cZ cMic cSrc cSt cAI cAJ ad T) ++ [oJ ao cJ f]) s.heap.size = A at hD hX hA0 ⊢
  have hA : ∀ q : Nat, s.heap.size ≤ q → A q := fun q h => by rw [← hAe]; exact Or.inr h
  have G : gL cI cJ cZ cMic cSrc cSt cAI cAJ D ad A s.heap s.heap [] T [oJ ao cJ f] := ⟨hP, hD, va_S.rf⟩
  have E : cE p c cL_setOn s m ([.ref (ad o), .int a0, .int a1, .ref ao] : List Value).toArray (Cond.codeWith yL_setOn cL_setOn 5 (some .int) [(0, 17, 20, 21), (0, 17, 24, 13)] :: wsA) D RL (CT cI cJ cZ cMic cSrc cSt cAI cAJ ++ [(cD, .double)]) := ⟨hx, hb, hts, hown, hK⟩
  have hl := lv_entry ([.ref (ad o), .int a0, .int a1, .ref ao]) (n := 5) (Nat.le_of_ble_eq_true rfl)
  rw [lg_entry_eq]
  generalize (lg_sl ([.ref (ad o), .int a0, .int a1, .ref ao]) ++ List.replicate (5 - (lg_sl ([.ref (ad o), .int a0, .int a1, .ref ao])).length) Slot.unset).toArray = ls at hl ⊢
  have hl : lv_has ls 5 [(0, .ref (ad o)), (1, .int a0), (2, .int a1), (3, .ref ao)] := hl
  refine lv_aload_n hx hb dL_setOn_0 rfl (lv_at hl 3 rfl) ?_
  refine lv_iconst (v := 0) hx hb dL_setOn_1 (by decide) ?_
  refine lv_aload_n hx hb dL_setOn_2 rfl (lv_at hl 0 rfl) ?_
  refine lv_iload_n hx hb dL_setOn_3 rfl (lv_at hl 1 rfl) ?_
  refine lv_iload_n hx hb dL_setOn_4 rfl (lv_at hl 2 rfl) ?_
  refine t_avi (As := [.int a0, .int a1]) (rest := [.int 0, .ref ao]) E G hA hX hX.2.2.2.1 hml (a_X11_setOn l hst D cI cJ cZ cMic cSrc cSt cAI cAJ ad T o a0 a1 h hrc h_o) (cwV 2 hts (gaV qA_1133 qA_1134 qA_1135 qA_131 qA_931) rfl rfl rfl (by decide +kernel) ⟨Nat.le_of_ble_eq_true rfl, Nat.le_of_ble_eq_true rfl⟩) h_o (cc_o11 h_s) rfl rfl hl.1 rfl (lv_room (Nat.le_of_ble_eq_true rfl)) dL_setOn_5 ⟨by show 0 + (T1.1 - T.1) ≤ T1.1 - T.1 + 1; omega, by show 0 + (sg T1 - sg T) ≤ sg T1 - sg T + 6; omega⟩ ?_
  intro ad2 H locs had G
  refine lv_if_eq (tgt := 15) hx hb dL_setOn_8 (by decide) (fun c1 => ?_) (fun c1 => ?_)
  · refine lv_lconst (v := vzb r1) hx hb dL_setOn_15 (by rw [vzb, if_pos c1]; rfl) ?_
    refine t_last E G dL_setOn_16 (fun H locs G => ?_)
    refine lv_goto (tgt := 28) hx hb dL_setOn_17 (by decide) ?_
    refine lv_iconst (v := 0) hx hb dL_setOn_28 (by decide) ?_
    refine W.widen (k := T1.1 - T.1 + 1) (n := sg T1 - sg T + 6) (by omega) (by omega) ?_
    exact W.iret (v := 0) hx hb hr (fun t ht hW => ⟨⟨0, ad2, rfl, ⟨rfl, had⟩, ⟨by rw [ht]; exact G.1, va_K.moved hW.alike hK, G.2.1⟩⟩, G.2.2.F ht⟩) G.2.2.2.2 dL_setOn_29
  · refine lv_lconst (v := vzb r1) hx hb dL_setOn_11 (by rw [vzb, if_neg c1]; rfl) ?_
    refine lv_goto (tgt := 16) hx hb dL_setOn_12 (by decide) ?_
    refine t_last E G dL_setOn_16 (fun H locs G => ?_)
    refine lv_goto (tgt := 28) hx hb dL_setOn_17 (by decide) ?_
    refine lv_iconst (v := 0) hx hb dL_setOn_28 (by decide) ?_
    refine W.widen (k := T1.1 - T.1 + 1) (n := sg T1 - sg T + 6) (by omega) (by omega) ?_
    exact W.iret (v := 0) hx hb hr (fun t ht hW => ⟨⟨0, ad2, rfl, ⟨rfl, had⟩, ⟨by rw [ht]; exact G.1, va_K.moved hW.alike hK, G.2.1⟩⟩, G.2.2.F ht⟩) G.2.2.2.2 dL_setOn_29
set_option maxHeartbeats 4000000 in
set_option maxRecDepth 100000 in
theorem v_setOn_t (l : Launch) (hst : l.stackTraces = false) (D : va_G) {cI cJ cZ cMic cSrc cSt cAI cAJ cD : ClassId} (h0 : Nat) (ad : Nat → Nat) (T : AT) (o : Nat) (a0 a1 : Int32) (ao : Nat) (f : Nat → Int64) {e1 : Nat} {r1 : Int32} {T1 : AT} (h : g_X11_setOn T o a0 a1 = some (e1 + 1, r1, T1)) (hrc : RC T) (h_o : o < T.1) (h_s : T.2.1 o = (11, 0)) : tWi l yL_setOn (Cond.codeWith yL_setOn cL_setOn 5 (some .int) [(0, 17, 20, 21), (0, 17, 24, 13)] :: wsA) 9 147 cI cJ cZ cMic cSrc cSt cAI cAJ cD D h0 ad T (oJ ao cJ f) [.ref (ad o), .int a0, .int a1, .ref ao] (vck 1 2 0 (e1 + 1)) T1 (oJ ao cJ (vfJ (e1 + 1) f (vzb r1))) := by
  intro sz
  refine va_MetW (cc := cL_setOn) (maxL := 5) (ret := some .int) (by decide) rfl ?_
  intro p e s m args below meth c s₁ B hml hv
  obtain ⟨rfl, hsz, hP, hK, hD0, hX, hN, hA0, hTS⟩ := hv
  have hx := B.exec
  have hb := B.bytes
  have hr := B.returns
  have hts := atoms_spec (ws := (Cond.codeWith yL_setOn cL_setOn 5 (some .int) [(0, 17, 20, 21), (0, 17, 24, 13)] :: wsA)) B.pre
  have hown : s.vm.findClass RL = some m.cls := findClass_of_methodNamed B.named
  have hlocks := B.notSynchronized
  have htb := vx_table (x := yL_setOn) B (hts _ (.head _))
  subst hsz
  have hD := hD0.self (sz := s.heap.size)
  generalize hAe : va_A (cW ad T.1 (cc cI cJ cZ cMic cSrc cSt cAI cAJ ad T) ++ [oJ ao cJ f]) s.heap.size = A at hD hX hA0 ⊢
  have hA : ∀ q : Nat, s.heap.size ≤ q → A q := fun q h => by rw [← hAe]; exact Or.inr h
  have G : gL cI cJ cZ cMic cSrc cSt cAI cAJ D ad A s.heap s.heap [] T [oJ ao cJ f] := ⟨hP, hD, va_S.rf⟩
  have E : cE p c cL_setOn s m ([.ref (ad o), .int a0, .int a1, .ref ao] : List Value).toArray (Cond.codeWith yL_setOn cL_setOn 5 (some .int) [(0, 17, 20, 21), (0, 17, 24, 13)] :: wsA) D RL (CT cI cJ cZ cMic cSrc cSt cAI cAJ ++ [(cD, .double)]) := ⟨hx, hb, hts, hown, hK⟩
  have hl := lv_entry ([.ref (ad o), .int a0, .int a1, .ref ao]) (n := 5) (Nat.le_of_ble_eq_true rfl)
  rw [lg_entry_eq]
  generalize (lg_sl ([.ref (ad o), .int a0, .int a1, .ref ao]) ++ List.replicate (5 - (lg_sl ([.ref (ad o), .int a0, .int a1, .ref ao])).length) Slot.unset).toArray = ls at hl ⊢
  have hl : lv_has ls 5 [(0, .ref (ad o)), (1, .int a0), (2, .int a1), (3, .ref ao)] := hl
  refine lv_aload_n hx hb dL_setOn_0 rfl (lv_at hl 3 rfl) ?_
  refine lv_iconst (v := 0) hx hb dL_setOn_1 (by decide) ?_
  refine lv_aload_n hx hb dL_setOn_2 rfl (lv_at hl 0 rfl) ?_
  refine lv_iload_n hx hb dL_setOn_3 rfl (lv_at hl 1 rfl) ?_
  refine lv_iload_n hx hb dL_setOn_4 rfl (lv_at hl 2 rfl) ?_
  refine t_bvi (As := [.int a0, .int a1]) (rest := [.int 0, .ref ao]) E G hA hX hX.2.2.2.1 hml (b_X11_setOn l hst D cI cJ cZ cMic cSrc cSt cAI cAJ ad T o a0 a1 h hrc h_o) (cwV 2 hts (gaV qA_1133 qA_1134 qA_1135 qA_131 qA_931) rfl rfl rfl (by decide +kernel) ⟨Nat.le_of_ble_eq_true rfl, Nat.le_of_ble_eq_true rfl⟩) h_o (cc_o11 h_s) rfl rfl hl.1 rfl (lv_room (Nat.le_of_ble_eq_true rfl)) dL_setOn_5 ⟨by show 0 + (T1.1 - T.1 + 1) ≤ T1.1 - T.1 + 1; omega, by show 0 + (sg T1 - sg T + 6) ≤ sg T1 - sg T + 6; omega⟩ ?_
  intro E9 ce q9 ad2 H locs hE had G hce hcv hcl
  rcases e1 with _ | _ | e1
  · have hE : E9 = xISE := hE
    subst hE
    refine vx_catch (name := xISE) hown [] { startPc := 0, endPc := 17, handlerPc := 20, catchType := 21 } [{ startPc := 0, endPc := 17, handlerPc := 24, catchType := 13 }] htb (fun z hz => absurd hz List.not_mem_nil) (by decide) (by decide) (hts _ (.tail _ qA_952)) (hX.use (.castable xISE xISE) (by decide +kernel)) hce hcv hcl ?_
    refine lv_astore (lv' := [(4, .ref q9), (0, .ref (ad o)), (1, .int a0), (2, .int a1), (3, .ref ao)]) hx hb dL_setOn_20 hl (by decide) rfl (fun ls hl => ?_)
    refine lv_iconst (v := 1) hx hb dL_setOn_22 (by decide) ?_
    refine W.widen (k := T1.1 - T.1 + 1) (n := sg T1 - sg T + 6) (by omega) (by omega) ?_
    exact W.iret (v := 1) hx hb hr (fun t ht hW => ⟨⟨1, ad2, rfl, ⟨rfl, had⟩, ⟨by rw [ht]; exact G.1, va_K.moved hW.alike hK, G.2.1⟩⟩, G.2.2.F ht⟩) G.2.2.2.2 dL_setOn_23
  · have hE : E9 = xIOB := hE
    subst hE
    refine vx_catch (name := xIOB) hown [{ startPc := 0, endPc := 17, handlerPc := 20, catchType := 21 }] { startPc := 0, endPc := 17, handlerPc := 24, catchType := 13 } [] htb (List.forall_mem_cons.mpr ⟨Or.inr ⟨by decide, xISE, hts _ (.tail _ qA_952), hN.2.2.1⟩, fun z hz => absurd hz List.not_mem_nil⟩) (by decide) (by decide) (hts _ (.tail _ qA_946)) (hX.use (.castable xIOB xIOB) (by decide +kernel)) hce hcv hcl ?_
    refine lv_astore (lv' := [(4, .ref q9), (0, .ref (ad o)), (1, .int a0), (2, .int a1), (3, .ref ao)]) hx hb dL_setOn_24 hl (by decide) rfl (fun ls hl => ?_)
    refine lv_iconst (v := 2) hx hb dL_setOn_26 (by decide) ?_
    refine W.widen (k := T1.1 - T.1 + 1) (n := sg T1 - sg T + 6) (by omega) (by omega) ?_
    exact W.iret (v := 2) hx hb hr (fun t ht hW => ⟨⟨2, ad2, rfl, ⟨rfl, had⟩, ⟨by rw [ht]; exact G.1, va_K.moved hW.alike hK, G.2.1⟩⟩, G.2.2.F ht⟩) G.2.2.2.2 dL_setOn_27
  · have q := (cd_g_X11_setOn (S := [0, 1, 2]) (fun _ h => h) T o a0 a1 _ _ _ h)
    simp only [List.mem_cons, List.not_mem_nil, or_false] at q
    omega
theorem v_setOn (l : Launch) (hst : l.stackTraces = false) (D : va_G) {cI cJ cZ cMic cSrc cSt cAI cAJ cD : ClassId} (h0 : Nat) (ad : Nat → Nat) (T : AT) (o : Nat) (a0 a1 : Int32) (ao : Nat) (f : Nat → Int64) {k1 : Nat} {r1 : Int32} {T1 : AT} (h : g_X11_setOn T o a0 a1 = some (k1, r1, T1)) (hrc : RC T) (h_o : o < T.1) (h_s : T.2.1 o = (11, 0)) : tWi l yL_setOn (Cond.codeWith yL_setOn cL_setOn 5 (some .int) [(0, 17, 20, 21), (0, 17, 24, 13)] :: wsA) 9 147 cI cJ cZ cMic cSrc cSt cAI cAJ cD D h0 ad T (oJ ao cJ f) [.ref (ad o), .int a0, .int a1, .ref ao] (vck 1 2 0 k1) T1 (oJ ao cJ (vfJ k1 f (vzb r1))) := by
  cases k1 with
  | zero => exact v_setOn_n l hst D h0 ad T o a0 a1 ao f h hrc h_o h_s
  | succ e1 => exact v_setOn_t l hst D h0 ad T o a0 a1 ao f h hrc h_o h_s
set_option maxHeartbeats 4000000 in
set_option maxRecDepth 100000 in
theorem v_moveSource_n (l : Launch) (hst : l.stackTraces = false) (D : va_G) {cI cJ cZ cMic cSrc cSt cAI cAJ cD : ClassId} (h0 : Nat) (ad : Nat → Nat) (T : AT) (o : Nat) (a0 a1 a2 : Int32) (ao : Nat) (f : Nat → Int64) {r1 : Int32} {T1 : AT} (h : g_X11_moveSource T o a0 a1 a2 = some (0, r1, T1)) (hrc : RC T) (h_o : o < T.1) (h_s : T.2.1 o = (11, 0)) : tWi l yL_moveSource (Cond.codeWith yL_moveSource cL_moveSource 6 (some .int) [(0, 12, 15, 21), (0, 12, 19, 13), (0, 12, 23, 15)] :: wsA) 9 172 cI cJ cZ cMic cSrc cSt cAI cAJ cD D h0 ad T (oJ ao cJ f) [.ref (ad o), .int a0, .int a1, .int a2, .ref ao] (vck 1 2 3 (0)) T1 (oJ ao cJ (vfJ (0) f r1.toInt64)) := by
  intro sz
  refine va_MetW (cc := cL_moveSource) (maxL := 6) (ret := some .int) (by decide) rfl ?_
  intro p e s m args below meth c s₁ B hml hv
  obtain ⟨rfl, hsz, hP, hK, hD0, hX, hN, hA0, hTS⟩ := hv
  have hx := B.exec
  have hb := B.bytes
  have hr := B.returns
  have hts := atoms_spec (ws := (Cond.codeWith yL_moveSource cL_moveSource 6 (some .int) [(0, 12, 15, 21), (0, 12, 19, 13), (0, 12, 23, 15)] :: wsA)) B.pre
  have hown : s.vm.findClass RL = some m.cls := findClass_of_methodNamed B.named
  have hlocks := B.notSynchronized
  have htb := vx_table (x := yL_moveSource) B (hts _ (.head _))
  subst hsz
  have hD := hD0.self (sz := s.heap.size)
  generalize hAe : va_A (cW ad T.1 (cc cI cJ cZ cMic cSrc cSt cAI cAJ ad T) ++ [oJ ao cJ f]) s.heap.size = A at hD hX hA0 ⊢
  have hA : ∀ q : Nat, s.heap.size ≤ q → A q := fun q h => by rw [← hAe]; exact Or.inr h
  have G : gL cI cJ cZ cMic cSrc cSt cAI cAJ D ad A s.heap s.heap [] T [oJ ao cJ f] := ⟨hP, hD, va_S.rf⟩
  have E : cE p c cL_moveSource s m ([.ref (ad o), .int a0, .int a1, .int a2, .ref ao] : List Value).toArray (Cond.codeWith yL_moveSource cL_moveSource 6 (some .int) [(0, 12, 15, 21), (0, 12, 19, 13), (0, 12, 23, 15)] :: wsA) D RL (CT cI cJ cZ cMic cSrc cSt cAI cAJ ++ [(cD, .double)]) := ⟨hx, hb, hts, hown, hK⟩
  have hl := lv_entry ([.ref (ad o), .int a0, .int a1, .int a2, .ref ao]) (n := 6) (Nat.le_of_ble_eq_true rfl)
  rw [lg_entry_eq]
  generalize (lg_sl ([.ref (ad o), .int a0, .int a1, .int a2, .ref ao]) ++ List.replicate (6 - (lg_sl ([.ref (ad o), .int a0, .int a1, .int a2, .ref ao])).length) Slot.unset).toArray = ls at hl ⊢
  have hl : lv_has ls 6 [(0, .ref (ad o)), (1, .int a0), (2, .int a1), (3, .int a2), (4, .ref ao)] := hl
  refine lv_aload hx hb dL_moveSource_0 (lv_at hl 4 rfl) ?_
  refine lv_iconst (v := 0) hx hb dL_moveSource_2 (by decide) ?_
  refine lv_aload_n hx hb dL_moveSource_3 rfl (lv_at hl 0 rfl) ?_
  refine lv_iload_n hx hb dL_moveSource_4 rfl (lv_at hl 1 rfl) ?_
  refine lv_iload_n hx hb dL_moveSource_5 rfl (lv_at hl 2 rfl) ?_
  refine lv_iload_n hx hb dL_moveSource_6 rfl (lv_at hl 3 rfl) ?_
  refine t_avi (As := [.int a0, .int a1, .int a2]) (rest := [.int 0, .ref ao]) E G hA hX hX.2.2.2.1 hml (a_X11_moveSource l hst D cI cJ cZ cMic cSrc cSt cAI cAJ ad T o a0 a1 a2 h hrc h_o) (cwV 3 hts (gaV qA_1137 qA_1138 qA_1139 qA_131 qA_932) rfl rfl rfl (by decide +kernel) ⟨Nat.le_of_ble_eq_true rfl, Nat.le_of_ble_eq_true rfl⟩) h_o (cc_o11 h_s) rfl rfl hl.1 rfl (lv_room (Nat.le_of_ble_eq_true rfl)) dL_moveSource_7 ⟨by show 0 + (T1.1 - T.1) ≤ T1.1 - T.1 + 1; omega, by show 0 + (sg T1 - sg T) ≤ sg T1 - sg T + 6; omega⟩ ?_
  intro ad2 H locs had G
  refine lv_i2l (v := r1.toInt64) hx hb dL_moveSource_10 rfl ?_
  refine t_last E G dL_moveSource_11 (fun H locs G => ?_)
  refine lv_goto (tgt := 27) hx hb dL_moveSource_12 (by decide) ?_
  refine lv_iconst (v := 0) hx hb dL_moveSource_27 (by decide) ?_
  refine W.widen (k := T1.1 - T.1 + 1) (n := sg T1 - sg T + 6) (by omega) (by omega) ?_
  exact W.iret (v := 0) hx hb hr (fun t ht hW => ⟨⟨0, ad2, rfl, ⟨rfl, had⟩, ⟨by rw [ht]; exact G.1, va_K.moved hW.alike hK, G.2.1⟩⟩, G.2.2.F ht⟩) G.2.2.2.2 dL_moveSource_28
set_option maxHeartbeats 4000000 in
set_option maxRecDepth 100000 in
theorem v_moveSource_t (l : Launch) (hst : l.stackTraces = false) (D : va_G) {cI cJ cZ cMic cSrc cSt cAI cAJ cD : ClassId} (h0 : Nat) (ad : Nat → Nat) (T : AT) (o : Nat) (a0 a1 a2 : Int32) (ao : Nat) (f : Nat → Int64) {e1 : Nat} {r1 : Int32} {T1 : AT} (h : g_X11_moveSource T o a0 a1 a2 = some (e1 + 1, r1, T1)) (hrc : RC T) (h_o : o < T.1) (h_s : T.2.1 o = (11, 0)) : tWi l yL_moveSource (Cond.codeWith yL_moveSource cL_moveSource 6 (some .int) [(0, 12, 15, 21), (0, 12, 19, 13), (0, 12, 23, 15)] :: wsA) 9 172 cI cJ cZ cMic cSrc cSt cAI cAJ cD D h0 ad T (oJ ao cJ f) [.ref (ad o), .int a0, .int a1, .int a2, .ref ao] (vck 1 2 3 (e1 + 1)) T1 (oJ ao cJ (vfJ (e1 + 1) f r1.toInt64)) := by
  intro sz
  refine va_MetW (cc := cL_moveSource) (maxL := 6) (ret := some .int) (by decide) rfl ?_
  intro p e s m args below meth c s₁ B hml hv
  obtain ⟨rfl, hsz, hP, hK, hD0, hX, hN, hA0, hTS⟩ := hv
  have hx := B.exec
  have hb := B.bytes
  have hr := B.returns
  have hts := atoms_spec (ws := (Cond.codeWith yL_moveSource cL_moveSource 6 (some .int) [(0, 12, 15, 21), (0, 12, 19, 13), (0, 12, 23, 15)] :: wsA)) B.pre
  have hown : s.vm.findClass RL = some m.cls := findClass_of_methodNamed B.named
  have hlocks := B.notSynchronized
  have htb := vx_table (x := yL_moveSource) B (hts _ (.head _))
  subst hsz
  have hD := hD0.self (sz := s.heap.size)
  generalize hAe : va_A (cW ad T.1 (cc cI cJ cZ cMic cSrc cSt cAI cAJ ad T) ++ [oJ ao cJ f]) s.heap.size = A at hD hX hA0 ⊢
  have hA : ∀ q : Nat, s.heap.size ≤ q → A q := fun q h => by rw [← hAe]; exact Or.inr h
  have G : gL cI cJ cZ cMic cSrc cSt cAI cAJ D ad A s.heap s.heap [] T [oJ ao cJ f] := ⟨hP, hD, va_S.rf⟩
  have E : cE p c cL_moveSource s m ([.ref (ad o), .int a0, .int a1, .int a2, .ref ao] : List Value).toArray (Cond.codeWith yL_moveSource cL_moveSource 6 (some .int) [(0, 12, 15, 21), (0, 12, 19, 13), (0, 12, 23, 15)] :: wsA) D RL (CT cI cJ cZ cMic cSrc cSt cAI cAJ ++ [(cD, .double)]) := ⟨hx, hb, hts, hown, hK⟩
  have hl := lv_entry ([.ref (ad o), .int a0, .int a1, .int a2, .ref ao]) (n := 6) (Nat.le_of_ble_eq_true rfl)
  rw [lg_entry_eq]
  generalize (lg_sl ([.ref (ad o), .int a0, .int a1, .int a2, .ref ao]) ++ List.replicate (6 - (lg_sl ([.ref (ad o), .int a0, .int a1, .int a2, .ref ao])).length) Slot.unset).toArray = ls at hl ⊢
  have hl : lv_has ls 6 [(0, .ref (ad o)), (1, .int a0), (2, .int a1), (3, .int a2), (4, .ref ao)] := hl
  refine lv_aload hx hb dL_moveSource_0 (lv_at hl 4 rfl) ?_
  refine lv_iconst (v := 0) hx hb dL_moveSource_2 (by decide) ?_
  refine lv_aload_n hx hb dL_moveSource_3 rfl (lv_at hl 0 rfl) ?_
  refine lv_iload_n hx hb dL_moveSource_4 rfl (lv_at hl 1 rfl) ?_
  refine lv_iload_n hx hb dL_moveSource_5 rfl (lv_at hl 2 rfl) ?_
  refine lv_iload_n hx hb dL_moveSource_6 rfl (lv_at hl 3 rfl) ?_
  refine t_bvi (As := [.int a0, .int a1, .int a2]) (rest := [.int 0, .ref ao]) E G hA hX hX.2.2.2.1 hml (b_X11_moveSource l hst D cI cJ cZ cMic cSrc cSt cAI cAJ ad T o a0 a1 a2 h hrc h_o) (cwV 3 hts (gaV qA_1137 qA_1138 qA_1139 qA_131 qA_932) rfl rfl rfl (by decide +kernel) ⟨Nat.le_of_ble_eq_true rfl, Nat.le_of_ble_eq_true rfl⟩) h_o (cc_o11 h_s) rfl rfl hl.1 rfl (lv_room (Nat.le_of_ble_eq_true rfl)) dL_moveSource_7 ⟨by show 0 + (T1.1 - T.1 + 1) ≤ T1.1 - T.1 + 1; omega, by show 0 + (sg T1 - sg T + 6) ≤ sg T1 - sg T + 6; omega⟩ ?_
  intro E9 ce q9 ad2 H locs hE had G hce hcv hcl
  rcases e1 with _ | _ | e1
  · have hE : E9 = xISE := hE
    subst hE
    refine vx_catch (name := xISE) hown [] { startPc := 0, endPc := 12, handlerPc := 15, catchType := 21 } [{ startPc := 0, endPc := 12, handlerPc := 19, catchType := 13 }, { startPc := 0, endPc := 12, handlerPc := 23, catchType := 15 }] htb (fun z hz => absurd hz List.not_mem_nil) (by decide) (by decide) (hts _ (.tail _ qA_952)) (hX.use (.castable xISE xISE) (by decide +kernel)) hce hcv hcl ?_
    refine lv_astore (lv' := [(5, .ref q9), (0, .ref (ad o)), (1, .int a0), (2, .int a1), (3, .int a2), (4, .ref ao)]) hx hb dL_moveSource_15 hl (by decide) rfl (fun ls hl => ?_)
    refine lv_iconst (v := 1) hx hb dL_moveSource_17 (by decide) ?_
    refine W.widen (k := T1.1 - T.1 + 1) (n := sg T1 - sg T + 6) (by omega) (by omega) ?_
    exact W.iret (v := 1) hx hb hr (fun t ht hW => ⟨⟨1, ad2, rfl, ⟨rfl, had⟩, ⟨by rw [ht]; exact G.1, va_K.moved hW.alike hK, G.2.1⟩⟩, G.2.2.F ht⟩) G.2.2.2.2 dL_moveSource_18
  · have hE : E9 = xIOB := hE
    subst hE
    refine vx_catch (name := xIOB) hown [{ startPc := 0, endPc := 12, handlerPc := 15, catchType := 21 }] { startPc := 0, endPc := 12, handlerPc := 19, catchType := 13 } [{ startPc := 0, endPc := 12, handlerPc := 23, catchType := 15 }] htb (List.forall_mem_cons.mpr ⟨Or.inr ⟨by decide, xISE, hts _ (.tail _ qA_952), hN.2.2.1⟩, fun z hz => absurd hz List.not_mem_nil⟩) (by decide) (by decide) (hts _ (.tail _ qA_946)) (hX.use (.castable xIOB xIOB) (by decide +kernel)) hce hcv hcl ?_
    refine lv_astore (lv' := [(5, .ref q9), (0, .ref (ad o)), (1, .int a0), (2, .int a1), (3, .int a2), (4, .ref ao)]) hx hb dL_moveSource_19 hl (by decide) rfl (fun ls hl => ?_)
    refine lv_iconst (v := 2) hx hb dL_moveSource_21 (by decide) ?_
    refine W.widen (k := T1.1 - T.1 + 1) (n := sg T1 - sg T + 6) (by omega) (by omega) ?_
    exact W.iret (v := 2) hx hb hr (fun t ht hW => ⟨⟨2, ad2, rfl, ⟨rfl, had⟩, ⟨by rw [ht]; exact G.1, va_K.moved hW.alike hK, G.2.1⟩⟩, G.2.2.F ht⟩) G.2.2.2.2 dL_moveSource_22
  · have hE : E9 = xIAE := hE
    subst hE
    refine vx_catch (name := xIAE) hown [{ startPc := 0, endPc := 12, handlerPc := 15, catchType := 21 }, { startPc := 0, endPc := 12, handlerPc := 19, catchType := 13 }] { startPc := 0, endPc := 12, handlerPc := 23, catchType := 15 } [] htb (List.forall_mem_cons.mpr ⟨Or.inr ⟨by decide, xISE, hts _ (.tail _ qA_952), hN.2.2.2⟩, List.forall_mem_cons.mpr ⟨Or.inr ⟨by decide, xIOB, hts _ (.tail _ qA_946), hN.1⟩, fun z hz => absurd hz List.not_mem_nil⟩⟩) (by decide) (by decide) (hts _ (.tail _ qA_947)) (hX.use (.castable xIAE xIAE) (by decide +kernel)) hce hcv hcl ?_
    refine lv_astore (lv' := [(5, .ref q9), (0, .ref (ad o)), (1, .int a0), (2, .int a1), (3, .int a2), (4, .ref ao)]) hx hb dL_moveSource_23 hl (by decide) rfl (fun ls hl => ?_)
    refine lv_iconst (v := 3) hx hb dL_moveSource_25 (by decide) ?_
    refine W.widen (k := T1.1 - T.1 + 1) (n := sg T1 - sg T + 6) (by omega) (by omega) ?_
    exact W.iret (v := 3) hx hb hr (fun t ht hW => ⟨⟨3, ad2, rfl, ⟨rfl, had⟩, ⟨by rw [ht]; exact G.1, va_K.moved hW.alike hK, G.2.1⟩⟩, G.2.2.F ht⟩) G.2.2.2.2 dL_moveSource_26
theorem v_moveSource (l : Launch) (hst : l.stackTraces = false) (D : va_G) {cI cJ cZ cMic cSrc cSt cAI cAJ cD : ClassId} (h0 : Nat) (ad : Nat → Nat) (T : AT) (o : Nat) (a0 a1 a2 : Int32) (ao : Nat) (f : Nat → Int64) {k1 : Nat} {r1 : Int32} {T1 : AT} (h : g_X11_moveSource T o a0 a1 a2 = some (k1, r1, T1)) (hrc : RC T) (h_o : o < T.1) (h_s : T.2.1 o = (11, 0)) : tWi l yL_moveSource (Cond.codeWith yL_moveSource cL_moveSource 6 (some .int) [(0, 12, 15, 21), (0, 12, 19, 13), (0, 12, 23, 15)] :: wsA) 9 172 cI cJ cZ cMic cSrc cSt cAI cAJ cD D h0 ad T (oJ ao cJ f) [.ref (ad o), .int a0, .int a1, .int a2, .ref ao] (vck 1 2 3 k1) T1 (oJ ao cJ (vfJ k1 f r1.toInt64)) := by
  cases k1 with
  | zero => exact v_moveSource_n l hst D h0 ad T o a0 a1 a2 ao f h hrc h_o h_s
  | succ e1 => exact v_moveSource_t l hst D h0 ad T o a0 a1 a2 ao f h hrc h_o h_s
set_option maxHeartbeats 4000000 in
set_option maxRecDepth 100000 in
theorem v_setVelocity_n (l : Launch) (hst : l.stackTraces = false) (D : va_G) {cI cJ cZ cMic cSrc cSt cAI cAJ cD : ClassId} (h0 : Nat) (ad : Nat → Nat) (T : AT) (o : Nat) (a0 a1 a2 : Int32) (ao : Nat) (f : Nat → Int64) {r1 : Int32} {T1 : AT} (h : g_X11_setVelocity T o a0 a1 a2 = some (0, r1, T1)) (hrc : RC T) (h_o : o < T.1) (h_s : T.2.1 o = (11, 0)) : tWi l yL_setVelocity (Cond.codeWith yL_setVelocity cL_setVelocity 6 (some .int) [(0, 12, 15, 21), (0, 12, 19, 13), (0, 12, 23, 15)] :: wsA) 9 172 cI cJ cZ cMic cSrc cSt cAI cAJ cD D h0 ad T (oJ ao cJ f) [.ref (ad o), .int a0, .int a1, .int a2, .ref ao] (vck 1 2 3 (0)) T1 (oJ ao cJ (vfJ (0) f r1.toInt64)) := by
  intro sz
  refine va_MetW (cc := cL_setVelocity) (maxL := 6) (ret := some .int) (by decide) rfl ?_
  intro p e s m args below meth c s₁ B hml hv
  obtain ⟨rfl, hsz, hP, hK, hD0, hX, hN, hA0, hTS⟩ := hv
  have hx := B.exec
  have hb := B.bytes
  have hr := B.returns
  have hts := atoms_spec (ws := (Cond.codeWith yL_setVelocity cL_setVelocity 6 (some .int) [(0, 12, 15, 21), (0, 12, 19, 13), (0, 12, 23, 15)] :: wsA)) B.pre
  have hown : s.vm.findClass RL = some m.cls := findClass_of_methodNamed B.named
  have hlocks := B.notSynchronized
  have htb := vx_table (x := yL_setVelocity) B (hts _ (.head _))
  subst hsz
  have hD := hD0.self (sz := s.heap.size)
  generalize hAe : va_A (cW ad T.1 (cc cI cJ cZ cMic cSrc cSt cAI cAJ ad T) ++ [oJ ao cJ f]) s.heap.size = A at hD hX hA0 ⊢
  have hA : ∀ q : Nat, s.heap.size ≤ q → A q := fun q h => by rw [← hAe]; exact Or.inr h
  have G : gL cI cJ cZ cMic cSrc cSt cAI cAJ D ad A s.heap s.heap [] T [oJ ao cJ f] := ⟨hP, hD, va_S.rf⟩
  have E : cE p c cL_setVelocity s m ([.ref (ad o), .int a0, .int a1, .int a2, .ref ao] : List Value).toArray (Cond.codeWith yL_setVelocity cL_setVelocity 6 (some .int) [(0, 12, 15, 21), (0, 12, 19, 13), (0, 12, 23, 15)] :: wsA) D RL (CT cI cJ cZ cMic cSrc cSt cAI cAJ ++ [(cD, .double)]) := ⟨hx, hb, hts, hown, hK⟩
  have hl := lv_entry ([.ref (ad o), .int a0, .int a1, .int a2, .ref ao]) (n := 6) (Nat.le_of_ble_eq_true rfl)
  rw [lg_entry_eq]
  generalize (lg_sl ([.ref (ad o), .int a0, .int a1, .int a2, .ref ao]) ++ List.replicate (6 - (lg_sl ([.ref (ad o), .int a0, .int a1, .int a2, .ref ao])).length) Slot.unset).toArray = ls at hl ⊢
  have hl : lv_has ls 6 [(0, .ref (ad o)), (1, .int a0), (2, .int a1), (3, .int a2), (4, .ref ao)] := hl
  refine lv_aload hx hb dL_setVelocity_0 (lv_at hl 4 rfl) ?_
  refine lv_iconst (v := 0) hx hb dL_setVelocity_2 (by decide) ?_
  refine lv_aload_n hx hb dL_setVelocity_3 rfl (lv_at hl 0 rfl) ?_
  refine lv_iload_n hx hb dL_setVelocity_4 rfl (lv_at hl 1 rfl) ?_
  refine lv_iload_n hx hb dL_setVelocity_5 rfl (lv_at hl 2 rfl) ?_
  refine lv_iload_n hx hb dL_setVelocity_6 rfl (lv_at hl 3 rfl) ?_
  refine t_avi (As := [.int a0, .int a1, .int a2]) (rest := [.int 0, .ref ao]) E G hA hX hX.2.2.2.1 hml (a_X11_setVelocity l hst D cI cJ cZ cMic cSrc cSt cAI cAJ ad T o a0 a1 a2 h hrc h_o) (cwV 3 hts (gaV qA_1141 qA_1142 qA_1143 qA_131 qA_933) rfl rfl rfl (by decide +kernel) ⟨Nat.le_of_ble_eq_true rfl, Nat.le_of_ble_eq_true rfl⟩) h_o (cc_o11 h_s) rfl rfl hl.1 rfl (lv_room (Nat.le_of_ble_eq_true rfl)) dL_setVelocity_7 ⟨by show 0 + (T1.1 - T.1) ≤ T1.1 - T.1 + 1; omega, by show 0 + (sg T1 - sg T) ≤ sg T1 - sg T + 6; omega⟩ ?_
  intro ad2 H locs had G
  refine lv_i2l (v := r1.toInt64) hx hb dL_setVelocity_10 rfl ?_
  refine t_last E G dL_setVelocity_11 (fun H locs G => ?_)
  refine lv_goto (tgt := 27) hx hb dL_setVelocity_12 (by decide) ?_
  refine lv_iconst (v := 0) hx hb dL_setVelocity_27 (by decide) ?_
  refine W.widen (k := T1.1 - T.1 + 1) (n := sg T1 - sg T + 6) (by omega) (by omega) ?_
  exact W.iret (v := 0) hx hb hr (fun t ht hW => ⟨⟨0, ad2, rfl, ⟨rfl, had⟩, ⟨by rw [ht]; exact G.1, va_K.moved hW.alike hK, G.2.1⟩⟩, G.2.2.F ht⟩) G.2.2.2.2 dL_setVelocity_28
set_option maxHeartbeats 4000000 in
set_option maxRecDepth 100000 in
theorem v_setVelocity_t (l : Launch) (hst : l.stackTraces = false) (D : va_G) {cI cJ cZ cMic cSrc cSt cAI cAJ cD : ClassId} (h0 : Nat) (ad : Nat → Nat) (T : AT) (o : Nat) (a0 a1 a2 : Int32) (ao : Nat) (f : Nat → Int64) {e1 : Nat} {r1 : Int32} {T1 : AT} (h : g_X11_setVelocity T o a0 a1 a2 = some (e1 + 1, r1, T1)) (hrc : RC T) (h_o : o < T.1) (h_s : T.2.1 o = (11, 0)) : tWi l yL_setVelocity (Cond.codeWith yL_setVelocity cL_setVelocity 6 (some .int) [(0, 12, 15, 21), (0, 12, 19, 13), (0, 12, 23, 15)] :: wsA) 9 172 cI cJ cZ cMic cSrc cSt cAI cAJ cD D h0 ad T (oJ ao cJ f) [.ref (ad o), .int a0, .int a1, .int a2, .ref ao] (vck 1 2 3 (e1 + 1)) T1 (oJ ao cJ (vfJ (e1 + 1) f r1.toInt64)) := by
  intro sz
  refine va_MetW (cc := cL_setVelocity) (maxL := 6) (ret := some .int) (by decide) rfl ?_
  intro p e s m args below meth c s₁ B hml hv
  obtain ⟨rfl, hsz, hP, hK, hD0, hX, hN, hA0, hTS⟩ := hv
  have hx := B.exec
  have hb := B.bytes
  have hr := B.returns
  have hts := atoms_spec (ws := (Cond.codeWith yL_setVelocity cL_setVelocity 6 (some .int) [(0, 12, 15, 21), (0, 12, 19, 13), (0, 12, 23, 15)] :: wsA)) B.pre
  have hown : s.vm.findClass RL = some m.cls := findClass_of_methodNamed B.named
  have hlocks := B.notSynchronized
  have htb := vx_table (x := yL_setVelocity) B (hts _ (.head _))
  subst hsz
  have hD := hD0.self (sz := s.heap.size)
  generalize hAe : va_A (cW ad T.1 (cc cI cJ cZ cMic cSrc cSt cAI cAJ ad T) ++ [oJ ao cJ f]) s.heap.size = A at hD hX hA0 ⊢
  have hA : ∀ q : Nat, s.heap.size ≤ q → A q := fun q h => by rw [← hAe]; exact Or.inr h
  have G : gL cI cJ cZ cMic cSrc cSt cAI cAJ D ad A s.heap s.heap [] T [oJ ao cJ f] := ⟨hP, hD, va_S.rf⟩
  have E : cE p c cL_setVelocity s m ([.ref (ad o), .int a0, .int a1, .int a2, .ref ao] : List Value).toArray (Cond.codeWith yL_setVelocity cL_setVelocity 6 (some .int) [(0, 12, 15, 21), (0, 12, 19, 13), (0, 12, 23, 15)] :: wsA) D RL (CT cI cJ cZ cMic cSrc cSt cAI cAJ ++ [(cD, .double)]) := ⟨hx, hb, hts, hown, hK⟩
  have hl := lv_entry ([.ref (ad o), .int a0, .int a1, .int a2, .ref ao]) (n := 6) (Nat.le_of_ble_eq_true rfl)
  rw [lg_entry_eq]
  generalize (lg_sl ([.ref (ad o), .int a0, .int a1, .int a2, .ref ao]) ++ List.replicate (6 - (lg_sl ([.ref (ad o), .int a0, .int a1, .int a2, .ref ao])).length) Slot.unset).toArray = ls at hl ⊢
  have hl : lv_has ls 6 [(0, .ref (ad o)), (1, .int a0), (2, .int a1), (3, .int a2), (4, .ref ao)] := hl
  refine lv_aload hx hb dL_setVelocity_0 (lv_at hl 4 rfl) ?_
  refine lv_iconst (v := 0) hx hb dL_setVelocity_2 (by decide) ?_
  refine lv_aload_n hx hb dL_setVelocity_3 rfl (lv_at hl 0 rfl) ?_
  refine lv_iload_n hx hb dL_setVelocity_4 rfl (lv_at hl 1 rfl) ?_
  refine lv_iload_n hx hb dL_setVelocity_5 rfl (lv_at hl 2 rfl) ?_
  refine lv_iload_n hx hb dL_setVelocity_6 rfl (lv_at hl 3 rfl) ?_
  refine t_bvi (As := [.int a0, .int a1, .int a2]) (rest := [.int 0, .ref ao]) E G hA hX hX.2.2.2.1 hml (b_X11_setVelocity l hst D cI cJ cZ cMic cSrc cSt cAI cAJ ad T o a0 a1 a2 h hrc h_o) (cwV 3 hts (gaV qA_1141 qA_1142 qA_1143 qA_131 qA_933) rfl rfl rfl (by decide +kernel) ⟨Nat.le_of_ble_eq_true rfl, Nat.le_of_ble_eq_true rfl⟩) h_o (cc_o11 h_s) rfl rfl hl.1 rfl (lv_room (Nat.le_of_ble_eq_true rfl)) dL_setVelocity_7 ⟨by show 0 + (T1.1 - T.1 + 1) ≤ T1.1 - T.1 + 1; omega, by show 0 + (sg T1 - sg T + 6) ≤ sg T1 - sg T + 6; omega⟩ ?_
  intro E9 ce q9 ad2 H locs hE had G hce hcv hcl
  rcases e1 with _ | _ | e1
  · have hE : E9 = xISE := hE
    subst hE
    refine vx_catch (name := xISE) hown [] { startPc := 0, endPc := 12, handlerPc := 15, catchType := 21 } [{ startPc := 0, endPc := 12, handlerPc := 19, catchType := 13 }, { startPc := 0, endPc := 12, handlerPc := 23, catchType := 15 }] htb (fun z hz => absurd hz List.not_mem_nil) (by decide) (by decide) (hts _ (.tail _ qA_952)) (hX.use (.castable xISE xISE) (by decide +kernel)) hce hcv hcl ?_
    refine lv_astore (lv' := [(5, .ref q9), (0, .ref (ad o)), (1, .int a0), (2, .int a1), (3, .int a2), (4, .ref ao)]) hx hb dL_setVelocity_15 hl (by decide) rfl (fun ls hl => ?_)
    refine lv_iconst (v := 1) hx hb dL_setVelocity_17 (by decide) ?_
    refine W.widen (k := T1.1 - T.1 + 1) (n := sg T1 - sg T + 6) (by omega) (by omega) ?_
    exact W.iret (v := 1) hx hb hr (fun t ht hW => ⟨⟨1, ad2, rfl, ⟨rfl, had⟩, ⟨by rw [ht]; exact G.1, va_K.moved hW.alike hK, G.2.1⟩⟩, G.2.2.F ht⟩) G.2.2.2.2 dL_setVelocity_18
  · have hE : E9 = xIOB := hE
    subst hE
    refine vx_catch (name := xIOB) hown [{ startPc := 0, endPc := 12, handlerPc := 15, catchType := 21 }] { startPc := 0, endPc := 12, handlerPc := 19, catchType := 13 } [{ startPc := 0, endPc := 12, handlerPc := 23, catchType := 15 }] htb (List.forall_mem_cons.mpr ⟨Or.inr ⟨by decide, xISE, hts _ (.tail _ qA_952), hN.2.2.1⟩, fun z hz => absurd hz List.not_mem_nil⟩) (by decide) (by decide) (hts _ (.tail _ qA_946)) (hX.use (.castable xIOB xIOB) (by decide +kernel)) hce hcv hcl ?_
    refine lv_astore (lv' := [(5, .ref q9), (0, .ref (ad o)), (1, .int a0), (2, .int a1), (3, .int a2), (4, .ref ao)]) hx hb dL_setVelocity_19 hl (by decide) rfl (fun ls hl => ?_)
    refine lv_iconst (v := 2) hx hb dL_setVelocity_21 (by decide) ?_
    refine W.widen (k := T1.1 - T.1 + 1) (n := sg T1 - sg T + 6) (by omega) (by omega) ?_
    exact W.iret (v := 2) hx hb hr (fun t ht hW => ⟨⟨2, ad2, rfl, ⟨rfl, had⟩, ⟨by rw [ht]; exact G.1, va_K.moved hW.alike hK, G.2.1⟩⟩, G.2.2.F ht⟩) G.2.2.2.2 dL_setVelocity_22
  · have hE : E9 = xIAE := hE
    subst hE
    refine vx_catch (name := xIAE) hown [{ startPc := 0, endPc := 12, handlerPc := 15, catchType := 21 }, { startPc := 0, endPc := 12, handlerPc := 19, catchType := 13 }] { startPc := 0, endPc := 12, handlerPc := 23, catchType := 15 } [] htb (List.forall_mem_cons.mpr ⟨Or.inr ⟨by decide, xISE, hts _ (.tail _ qA_952), hN.2.2.2⟩, List.forall_mem_cons.mpr ⟨Or.inr ⟨by decide, xIOB, hts _ (.tail _ qA_946), hN.1⟩, fun z hz => absurd hz List.not_mem_nil⟩⟩) (by decide) (by decide) (hts _ (.tail _ qA_947)) (hX.use (.castable xIAE xIAE) (by decide +kernel)) hce hcv hcl ?_
    refine lv_astore (lv' := [(5, .ref q9), (0, .ref (ad o)), (1, .int a0), (2, .int a1), (3, .int a2), (4, .ref ao)]) hx hb dL_setVelocity_23 hl (by decide) rfl (fun ls hl => ?_)
    refine lv_iconst (v := 3) hx hb dL_setVelocity_25 (by decide) ?_
    refine W.widen (k := T1.1 - T.1 + 1) (n := sg T1 - sg T + 6) (by omega) (by omega) ?_
    exact W.iret (v := 3) hx hb hr (fun t ht hW => ⟨⟨3, ad2, rfl, ⟨rfl, had⟩, ⟨by rw [ht]; exact G.1, va_K.moved hW.alike hK, G.2.1⟩⟩, G.2.2.F ht⟩) G.2.2.2.2 dL_setVelocity_26
theorem v_setVelocity (l : Launch) (hst : l.stackTraces = false) (D : va_G) {cI cJ cZ cMic cSrc cSt cAI cAJ cD : ClassId} (h0 : Nat) (ad : Nat → Nat) (T : AT) (o : Nat) (a0 a1 a2 : Int32) (ao : Nat) (f : Nat → Int64) {k1 : Nat} {r1 : Int32} {T1 : AT} (h : g_X11_setVelocity T o a0 a1 a2 = some (k1, r1, T1)) (hrc : RC T) (h_o : o < T.1) (h_s : T.2.1 o = (11, 0)) : tWi l yL_setVelocity (Cond.codeWith yL_setVelocity cL_setVelocity 6 (some .int) [(0, 12, 15, 21), (0, 12, 19, 13), (0, 12, 23, 15)] :: wsA) 9 172 cI cJ cZ cMic cSrc cSt cAI cAJ cD D h0 ad T (oJ ao cJ f) [.ref (ad o), .int a0, .int a1, .int a2, .ref ao] (vck 1 2 3 k1) T1 (oJ ao cJ (vfJ k1 f r1.toInt64)) := by
  cases k1 with
  | zero => exact v_setVelocity_n l hst D h0 ad T o a0 a1 a2 ao f h hrc h_o h_s
  | succ e1 => exact v_setVelocity_t l hst D h0 ad T o a0 a1 a2 ao f h hrc h_o h_s
set_option maxHeartbeats 4000000 in
set_option maxRecDepth 100000 in
theorem v_clean_n (l : Launch) (hst : l.stackTraces = false) (D : va_G) {cI cJ cZ cMic cSrc cSt cAI cAJ cD : ClassId} (h0 : Nat) (ad : Nat → Nat) (T : AT) (o : Nat) (a0 : Int32) (ao : Nat) (f : Nat → Int64) {r1 : Int32} {T1 : AT} (h : g_X11_clean T o a0 = some (0, r1, T1)) (hrc : RC T) (h_o : o < T.1) (h_s : T.2.1 o = (11, 0)) : tWi l yL_clean (Cond.codeWith yL_clean cL_clean 4 (some .int) [(0, 9, 12, 21), (0, 9, 15, 15)] :: wsA) 8 171 cI cJ cZ cMic cSrc cSt cAI cAJ cD D h0 ad T (oJ ao cJ f) [.ref (ad o), .int a0, .ref ao] (vck 1 0 2 (0)) T1 (oJ ao cJ (vfJ (0) f r1.toInt64)) := by
  intro sz
  refine va_MetW (cc := cL_clean) (maxL := 4) (ret := some .int) (by decide) rfl ?_
  intro p e s m args below meth c s₁ B hml hv
  obtain ⟨rfl, hsz, hP, hK, hD0, hX, hN, hA0, hTS⟩ := hv
  have hx := B.exec
  have hb := B.bytes
  have hr := B.returns
  have hts := atoms_spec (ws := (Cond.codeWith yL_clean cL_clean 4 (some .int) [(0, 9, 12, 21), (0, 9, 15, 15)] :: wsA)) B.pre
  have hown : s.vm.findClass RL = some m.cls := findClass_of_methodNamed B.named
  have hlocks := B.notSynchronized
  have htb := vx_table (x := yL_clean) B (hts _ (.head _))
  subst hsz
  have hD := hD0.self (sz := s.heap.size)
  generalize hAe : va_A (cW ad T.1 (cc cI cJ cZ cMic cSrc cSt cAI cAJ ad T) ++ [oJ ao cJ f]) s.heap.size = A at hD hX hA0 ⊢
  have hA : ∀ q : Nat, s.heap.size ≤ q → A q := fun q h => by rw [← hAe]; exact Or.inr h
  have G : gL cI cJ cZ cMic cSrc cSt cAI cAJ D ad A s.heap s.heap [] T [oJ ao cJ f] := ⟨hP, hD, va_S.rf⟩
  have E : cE p c cL_clean s m ([.ref (ad o), .int a0, .ref ao] : List Value).toArray (Cond.codeWith yL_clean cL_clean 4 (some .int) [(0, 9, 12, 21), (0, 9, 15, 15)] :: wsA) D RL (CT cI cJ cZ cMic cSrc cSt cAI cAJ ++ [(cD, .double)]) := ⟨hx, hb, hts, hown, hK⟩
  have hl := lv_entry ([.ref (ad o), .int a0, .ref ao]) (n := 4) (Nat.le_of_ble_eq_true rfl)
  rw [lg_entry_eq]
  generalize (lg_sl ([.ref (ad o), .int a0, .ref ao]) ++ List.replicate (4 - (lg_sl ([.ref (ad o), .int a0, .ref ao])).length) Slot.unset).toArray = ls at hl ⊢
  have hl : lv_has ls 4 [(0, .ref (ad o)), (1, .int a0), (2, .ref ao)] := hl
  refine lv_aload_n hx hb dL_clean_0 rfl (lv_at hl 2 rfl) ?_
  refine lv_iconst (v := 0) hx hb dL_clean_1 (by decide) ?_
  refine lv_aload_n hx hb dL_clean_2 rfl (lv_at hl 0 rfl) ?_
  refine lv_iload_n hx hb dL_clean_3 rfl (lv_at hl 1 rfl) ?_
  refine t_avi (As := [.int a0]) (rest := [.int 0, .ref ao]) E G hA hX hX.2.2.2.1 hml (a_X11_clean l hst D cI cJ cZ cMic cSrc cSt cAI cAJ ad T o a0 h hrc h_o) (cwV 1 hts (gaV qA_1145 qA_1146 qA_1147 qA_131 qA_934) rfl rfl rfl (by decide +kernel) ⟨Nat.le_of_ble_eq_true rfl, Nat.le_of_ble_eq_true rfl⟩) h_o (cc_o11 h_s) rfl rfl hl.1 rfl (lv_room (Nat.le_of_ble_eq_true rfl)) dL_clean_4 ⟨by show 0 + (T1.1 - T.1) ≤ T1.1 - T.1 + 1; omega, by show 0 + (sg T1 - sg T) ≤ sg T1 - sg T + 6; omega⟩ ?_
  intro ad2 H locs had G
  refine lv_i2l (v := r1.toInt64) hx hb dL_clean_7 rfl ?_
  refine t_last E G dL_clean_8 (fun H locs G => ?_)
  refine lv_goto (tgt := 18) hx hb dL_clean_9 (by decide) ?_
  refine lv_iconst (v := 0) hx hb dL_clean_18 (by decide) ?_
  refine W.widen (k := T1.1 - T.1 + 1) (n := sg T1 - sg T + 6) (by omega) (by omega) ?_
  exact W.iret (v := 0) hx hb hr (fun t ht hW => ⟨⟨0, ad2, rfl, ⟨rfl, had⟩, ⟨by rw [ht]; exact G.1, va_K.moved hW.alike hK, G.2.1⟩⟩, G.2.2.F ht⟩) G.2.2.2.2 dL_clean_19
set_option maxHeartbeats 4000000 in
set_option maxRecDepth 100000 in
theorem v_clean_t (l : Launch) (hst : l.stackTraces = false) (D : va_G) {cI cJ cZ cMic cSrc cSt cAI cAJ cD : ClassId} (h0 : Nat) (ad : Nat → Nat) (T : AT) (o : Nat) (a0 : Int32) (ao : Nat) (f : Nat → Int64) {e1 : Nat} {r1 : Int32} {T1 : AT} (h : g_X11_clean T o a0 = some (e1 + 1, r1, T1)) (hrc : RC T) (h_o : o < T.1) (h_s : T.2.1 o = (11, 0)) : tWi l yL_clean (Cond.codeWith yL_clean cL_clean 4 (some .int) [(0, 9, 12, 21), (0, 9, 15, 15)] :: wsA) 8 171 cI cJ cZ cMic cSrc cSt cAI cAJ cD D h0 ad T (oJ ao cJ f) [.ref (ad o), .int a0, .ref ao] (vck 1 0 2 (e1 + 1)) T1 (oJ ao cJ (vfJ (e1 + 1) f r1.toInt64)) := by
  intro sz
  refine va_MetW (cc := cL_clean) (maxL := 4) (ret := some .int) (by decide) rfl ?_
  intro p e s m args below meth c s₁ B hml hv
  obtain ⟨rfl, hsz, hP, hK, hD0, hX, hN, hA0, hTS⟩ := hv
  have hx := B.exec
  have hb := B.bytes
  have hr := B.returns
  have hts := atoms_spec (ws := (Cond.codeWith yL_clean cL_clean 4 (some .int) [(0, 9, 12, 21), (0, 9, 15, 15)] :: wsA)) B.pre
  have hown : s.vm.findClass RL = some m.cls := findClass_of_methodNamed B.named
  have hlocks := B.notSynchronized
  have htb := vx_table (x := yL_clean) B (hts _ (.head _))
  subst hsz
  have hD := hD0.self (sz := s.heap.size)
  generalize hAe : va_A (cW ad T.1 (cc cI cJ cZ cMic cSrc cSt cAI cAJ ad T) ++ [oJ ao cJ f]) s.heap.size = A at hD hX hA0 ⊢
  have hA : ∀ q : Nat, s.heap.size ≤ q → A q := fun q h => by rw [← hAe]; exact Or.inr h
  have G : gL cI cJ cZ cMic cSrc cSt cAI cAJ D ad A s.heap s.heap [] T [oJ ao cJ f] := ⟨hP, hD, va_S.rf⟩
  have E : cE p c cL_clean s m ([.ref (ad o), .int a0, .ref ao] : List Value).toArray (Cond.codeWith yL_clean cL_clean 4 (some .int) [(0, 9, 12, 21), (0, 9, 15, 15)] :: wsA) D RL (CT cI cJ cZ cMic cSrc cSt cAI cAJ ++ [(cD, .double)]) := ⟨hx, hb, hts, hown, hK⟩
  have hl := lv_entry ([.ref (ad o), .int a0, .ref ao]) (n := 4) (Nat.le_of_ble_eq_true rfl)
  rw [lg_entry_eq]
  generalize (lg_sl ([.ref (ad o), .int a0, .ref ao]) ++ List.replicate (4 - (lg_sl ([.ref (ad o), .int a0, .ref ao])).length) Slot.unset).toArray = ls at hl ⊢
  have hl : lv_has ls 4 [(0, .ref (ad o)), (1, .int a0), (2, .ref ao)] := hl
  refine lv_aload_n hx hb dL_clean_0 rfl (lv_at hl 2 rfl) ?_
  refine lv_iconst (v := 0) hx hb dL_clean_1 (by decide) ?_
  refine lv_aload_n hx hb dL_clean_2 rfl (lv_at hl 0 rfl) ?_
  refine lv_iload_n hx hb dL_clean_3 rfl (lv_at hl 1 rfl) ?_
  refine t_bvi (As := [.int a0]) (rest := [.int 0, .ref ao]) E G hA hX hX.2.2.2.1 hml (b_X11_clean l hst D cI cJ cZ cMic cSrc cSt cAI cAJ ad T o a0 h hrc h_o) (cwV 1 hts (gaV qA_1145 qA_1146 qA_1147 qA_131 qA_934) rfl rfl rfl (by decide +kernel) ⟨Nat.le_of_ble_eq_true rfl, Nat.le_of_ble_eq_true rfl⟩) h_o (cc_o11 h_s) rfl rfl hl.1 rfl (lv_room (Nat.le_of_ble_eq_true rfl)) dL_clean_4 ⟨by show 0 + (T1.1 - T.1 + 1) ≤ T1.1 - T.1 + 1; omega, by show 0 + (sg T1 - sg T + 6) ≤ sg T1 - sg T + 6; omega⟩ ?_
  intro E9 ce q9 ad2 H locs hE had G hce hcv hcl
  rcases e1 with _ | _ | e1
  · have hE : E9 = xISE := hE
    subst hE
    refine vx_catch (name := xISE) hown [] { startPc := 0, endPc := 9, handlerPc := 12, catchType := 21 } [{ startPc := 0, endPc := 9, handlerPc := 15, catchType := 15 }] htb (fun z hz => absurd hz List.not_mem_nil) (by decide) (by decide) (hts _ (.tail _ qA_952)) (hX.use (.castable xISE xISE) (by decide +kernel)) hce hcv hcl ?_
    refine lv_astore_n (lv' := [(3, .ref q9), (0, .ref (ad o)), (1, .int a0), (2, .ref ao)]) hx hb dL_clean_12 rfl hl (by decide) rfl (fun ls hl => ?_)
    refine lv_iconst (v := 1) hx hb dL_clean_13 (by decide) ?_
    refine W.widen (k := T1.1 - T.1 + 1) (n := sg T1 - sg T + 6) (by omega) (by omega) ?_
    exact W.iret (v := 1) hx hb hr (fun t ht hW => ⟨⟨1, ad2, rfl, ⟨rfl, had⟩, ⟨by rw [ht]; exact G.1, va_K.moved hW.alike hK, G.2.1⟩⟩, G.2.2.F ht⟩) G.2.2.2.2 dL_clean_14
  · exact absurd (cd_g_X11_clean (S := [0, 1, 3]) (fun _ h => h) T o a0 _ _ _ h) (by decide)
  · have hE : E9 = xIAE := hE
    subst hE
    refine vx_catch (name := xIAE) hown [{ startPc := 0, endPc := 9, handlerPc := 12, catchType := 21 }] { startPc := 0, endPc := 9, handlerPc := 15, catchType := 15 } [] htb (List.forall_mem_cons.mpr ⟨Or.inr ⟨by decide, xISE, hts _ (.tail _ qA_952), hN.2.2.2⟩, fun z hz => absurd hz List.not_mem_nil⟩) (by decide) (by decide) (hts _ (.tail _ qA_947)) (hX.use (.castable xIAE xIAE) (by decide +kernel)) hce hcv hcl ?_
    refine lv_astore_n (lv' := [(3, .ref q9), (0, .ref (ad o)), (1, .int a0), (2, .ref ao)]) hx hb dL_clean_15 rfl hl (by decide) rfl (fun ls hl => ?_)
    refine lv_iconst (v := 2) hx hb dL_clean_16 (by decide) ?_
    refine W.widen (k := T1.1 - T.1 + 1) (n := sg T1 - sg T + 6) (by omega) (by omega) ?_
    exact W.iret (v := 2) hx hb hr (fun t ht hW => ⟨⟨2, ad2, rfl, ⟨rfl, had⟩, ⟨by rw [ht]; exact G.1, va_K.moved hW.alike hK, G.2.1⟩⟩, G.2.2.F ht⟩) G.2.2.2.2 dL_clean_17
theorem v_clean (l : Launch) (hst : l.stackTraces = false) (D : va_G) {cI cJ cZ cMic cSrc cSt cAI cAJ cD : ClassId} (h0 : Nat) (ad : Nat → Nat) (T : AT) (o : Nat) (a0 : Int32) (ao : Nat) (f : Nat → Int64) {k1 : Nat} {r1 : Int32} {T1 : AT} (h : g_X11_clean T o a0 = some (k1, r1, T1)) (hrc : RC T) (h_o : o < T.1) (h_s : T.2.1 o = (11, 0)) : tWi l yL_clean (Cond.codeWith yL_clean cL_clean 4 (some .int) [(0, 9, 12, 21), (0, 9, 15, 15)] :: wsA) 8 171 cI cJ cZ cMic cSrc cSt cAI cAJ cD D h0 ad T (oJ ao cJ f) [.ref (ad o), .int a0, .ref ao] (vck 1 0 2 k1) T1 (oJ ao cJ (vfJ k1 f r1.toInt64)) := by
  cases k1 with
  | zero => exact v_clean_n l hst D h0 ad T o a0 ao f h hrc h_o h_s
  | succ e1 => exact v_clean_t l hst D h0 ad T o a0 ao f h hrc h_o h_s
set_option maxHeartbeats 4000000 in
set_option maxRecDepth 100000 in
theorem v_cleaned_n (l : Launch) (hst : l.stackTraces = false) (D : va_G) {cI cJ cZ cMic cSrc cSt cAI cAJ cD : ClassId} (h0 : Nat) (ad : Nat → Nat) (T : AT) (o : Nat) (ao : Nat) (f : Nat → Int64) {r1 : Int32} {T1 : AT} (h : g_X11_cleaned T o = some (0, r1, T1)) (hrc : RC T) (h_o : o < T.1) (h_s : T.2.1 o = (11, 0)) : tWi l yL_cleaned (Cond.codeWith yL_cleaned cL_cleaned 3 (some .int) [(0, 8, 11, 21)] :: wsA) 8 121 cI cJ cZ cMic cSrc cSt cAI cAJ cD D h0 ad T (oJ ao cJ f) [.ref (ad o), .ref ao] (vck 1 0 0 (0)) T1 (oJ ao cJ (vfJ (0) f r1.toInt64)) := by
  intro sz
  refine va_MetW (cc := cL_cleaned) (maxL := 3) (ret := some .int) (by decide) rfl ?_
  intro p e s m args below meth c s₁ B hml hv
  obtain ⟨rfl, hsz, hP, hK, hD0, hX, hN, hA0, hTS⟩ := hv
  have hx := B.exec
  have hb := B.bytes
  have hr := B.returns
  have hts := atoms_spec (ws := (Cond.codeWith yL_cleaned cL_cleaned 3 (some .int) [(0, 8, 11, 21)] :: wsA)) B.pre
  have hown : s.vm.findClass RL = some m.cls := findClass_of_methodNamed B.named
  have hlocks := B.notSynchronized
  have htb := vx_table (x := yL_cleaned) B (hts _ (.head _))
  subst hsz
  have hD := hD0.self (sz := s.heap.size)
  generalize hAe : va_A (cW ad T.1 (cc cI cJ cZ cMic cSrc cSt cAI cAJ ad T) ++ [oJ ao cJ f]) s.heap.size = A at hD hX hA0 ⊢
  have hA : ∀ q : Nat, s.heap.size ≤ q → A q := fun q h => by rw [← hAe]; exact Or.inr h
  have G : gL cI cJ cZ cMic cSrc cSt cAI cAJ D ad A s.heap s.heap [] T [oJ ao cJ f] := ⟨hP, hD, va_S.rf⟩
  have E : cE p c cL_cleaned s m ([.ref (ad o), .ref ao] : List Value).toArray (Cond.codeWith yL_cleaned cL_cleaned 3 (some .int) [(0, 8, 11, 21)] :: wsA) D RL (CT cI cJ cZ cMic cSrc cSt cAI cAJ ++ [(cD, .double)]) := ⟨hx, hb, hts, hown, hK⟩
  have hl := lv_entry ([.ref (ad o), .ref ao]) (n := 3) (Nat.le_of_ble_eq_true rfl)
  rw [lg_entry_eq]
  generalize (lg_sl ([.ref (ad o), .ref ao]) ++ List.replicate (3 - (lg_sl ([.ref (ad o), .ref ao])).length) Slot.unset).toArray = ls at hl ⊢
  have hl : lv_has ls 3 [(0, .ref (ad o)), (1, .ref ao)] := hl
  refine lv_aload_n hx hb dL_cleaned_0 rfl (lv_at hl 1 rfl) ?_
  refine lv_iconst (v := 0) hx hb dL_cleaned_1 (by decide) ?_
  refine lv_aload_n hx hb dL_cleaned_2 rfl (lv_at hl 0 rfl) ?_
  refine t_cvi (As := []) (rest := [.int 0, .ref ao]) E G hA hX hX.2.2.2.1 hml (u_X11_cleaned l hst D cI cJ cZ cMic cSrc cSt cAI cAJ ad T o  h) (cwV 0 hts (gaV qA_1149 qA_1150 qA_1151 qA_131 qA_939) rfl rfl rfl (by decide +kernel) ⟨Nat.le_of_ble_eq_true rfl, Nat.le_of_ble_eq_true rfl⟩) h_o (cc_o11 h_s) rfl rfl hl.1 rfl (lv_room (Nat.le_of_ble_eq_true rfl)) dL_cleaned_3 ⟨by show 0 + (0) ≤ T1.1 - T.1 + 1; omega, by show 0 + (0) ≤ sg T1 - sg T + 6; omega⟩ ?_
  intro r9 S1 H locs hp G
  obtain ⟨hr9, hS1⟩ := hp
  rw [hS1] at G
  rw [hr9]
  have had : ∀ n, n < T.1 → ad n = ad n := fun _ _ => rfl
  refine lv_i2l (v := r1.toInt64) hx hb dL_cleaned_6 rfl ?_
  refine t_last E G dL_cleaned_7 (fun H locs G => ?_)
  refine lv_goto (tgt := 14) hx hb dL_cleaned_8 (by decide) ?_
  refine lv_iconst (v := 0) hx hb dL_cleaned_14 (by decide) ?_
  refine W.widen (k := T1.1 - T.1 + 1) (n := sg T1 - sg T + 6) (by omega) (by omega) ?_
  exact W.iret (v := 0) hx hb hr (fun t ht hW => ⟨⟨0, ad, rfl, ⟨rfl, had⟩, ⟨by rw [ht]; exact G.1, va_K.moved hW.alike hK, G.2.1⟩⟩, G.2.2.F ht⟩) G.2.2.2.2 dL_cleaned_15
set_option maxHeartbeats 4000000 in
set_option maxRecDepth 100000 in
theorem v_cleaned_t (l : Launch) (hst : l.stackTraces = false) (D : va_G) {cI cJ cZ cMic cSrc cSt cAI cAJ cD : ClassId} (h0 : Nat) (ad : Nat → Nat) (T : AT) (o : Nat) (ao : Nat) (f : Nat → Int64) {e1 : Nat} {r1 : Int32} {T1 : AT} (h : g_X11_cleaned T o = some (e1 + 1, r1, T1)) (hrc : RC T) (h_o : o < T.1) (h_s : T.2.1 o = (11, 0)) : tWi l yL_cleaned (Cond.codeWith yL_cleaned cL_cleaned 3 (some .int) [(0, 8, 11, 21)] :: wsA) 8 121 cI cJ cZ cMic cSrc cSt cAI cAJ cD D h0 ad T (oJ ao cJ f) [.ref (ad o), .ref ao] (vck 1 0 0 (e1 + 1)) T1 (oJ ao cJ (vfJ (e1 + 1) f r1.toInt64)) := by
  intro sz
  refine va_MetW (cc := cL_cleaned) (maxL := 3) (ret := some .int) (by decide) rfl ?_
  intro p e s m args below meth c s₁ B hml hv
  obtain ⟨rfl, hsz, hP, hK, hD0, hX, hN, hA0, hTS⟩ := hv
  have hx := B.exec
  have hb := B.bytes
  have hr := B.returns
  have hts := atoms_spec (ws := (Cond.codeWith yL_cleaned cL_cleaned 3 (some .int) [(0, 8, 11, 21)] :: wsA)) B.pre
  have hown : s.vm.findClass RL = some m.cls := findClass_of_methodNamed B.named
  have hlocks := B.notSynchronized
  have htb := vx_table (x := yL_cleaned) B (hts _ (.head _))
  subst hsz
  have hD := hD0.self (sz := s.heap.size)
  generalize hAe : va_A (cW ad T.1 (cc cI cJ cZ cMic cSrc cSt cAI cAJ ad T) ++ [oJ ao cJ f]) s.heap.size = A at hD hX hA0 ⊢
  have hA : ∀ q : Nat, s.heap.size ≤ q → A q := fun q h => by rw [← hAe]; exact Or.inr h
  have G : gL cI cJ cZ cMic cSrc cSt cAI cAJ D ad A s.heap s.heap [] T [oJ ao cJ f] := ⟨hP, hD, va_S.rf⟩
  have E : cE p c cL_cleaned s m ([.ref (ad o), .ref ao] : List Value).toArray (Cond.codeWith yL_cleaned cL_cleaned 3 (some .int) [(0, 8, 11, 21)] :: wsA) D RL (CT cI cJ cZ cMic cSrc cSt cAI cAJ ++ [(cD, .double)]) := ⟨hx, hb, hts, hown, hK⟩
  have hl := lv_entry ([.ref (ad o), .ref ao]) (n := 3) (Nat.le_of_ble_eq_true rfl)
  rw [lg_entry_eq]
  generalize (lg_sl ([.ref (ad o), .ref ao]) ++ List.replicate (3 - (lg_sl ([.ref (ad o), .ref ao])).length) Slot.unset).toArray = ls at hl ⊢
  have hl : lv_has ls 3 [(0, .ref (ad o)), (1, .ref ao)] := hl
  refine lv_aload_n hx hb dL_cleaned_0 rfl (lv_at hl 1 rfl) ?_
  refine lv_iconst (v := 0) hx hb dL_cleaned_1 (by decide) ?_
  refine lv_aload_n hx hb dL_cleaned_2 rfl (lv_at hl 0 rfl) ?_
  refine t_xvi (As := []) (rest := [.int 0, .ref ao]) E G hA hX hX.2.2.2.1 hml (x_X11_cleaned l hst D cI cJ cZ cMic cSrc cSt cAI cAJ ad T o  h) (cwV 0 hts (gaV qA_1149 qA_1150 qA_1151 qA_131 qA_939) rfl rfl rfl (by decide +kernel) ⟨Nat.le_of_ble_eq_true rfl, Nat.le_of_ble_eq_true rfl⟩) h_o (cc_o11 h_s) rfl rfl hl.1 rfl (lv_room (Nat.le_of_ble_eq_true rfl)) dL_cleaned_3 ⟨by show 0 + (1) ≤ T1.1 - T.1 + 1; omega, by show 0 + (6) ≤ sg T1 - sg T + 6; omega⟩ ?_
  intro E9 ce q9 S1 H locs hp G hce hcv hcl
  obtain ⟨hE, hS1⟩ := hp
  rw [hS1] at G
  have had : ∀ n, n < T.1 → ad n = ad n := fun _ _ => rfl
  rcases e1 with _ | _ | e1
  · have hE : E9 = xISE := hE
    subst hE
    refine vx_catch (name := xISE) hown [] { startPc := 0, endPc := 8, handlerPc := 11, catchType := 21 } [] htb (fun z hz => absurd hz List.not_mem_nil) (by decide) (by decide) (hts _ (.tail _ qA_952)) (hX.use (.castable xISE xISE) (by decide +kernel)) hce hcv hcl ?_
    refine lv_astore_n (lv' := [(2, .ref q9), (0, .ref (ad o)), (1, .ref ao)]) hx hb dL_cleaned_11 rfl hl (by decide) rfl (fun ls hl => ?_)
    refine lv_iconst (v := 1) hx hb dL_cleaned_12 (by decide) ?_
    refine W.widen (k := T1.1 - T.1 + 1) (n := sg T1 - sg T + 6) (by omega) (by omega) ?_
    exact W.iret (v := 1) hx hb hr (fun t ht hW => ⟨⟨1, ad, rfl, ⟨rfl, had⟩, ⟨by rw [ht]; exact G.1, va_K.moved hW.alike hK, G.2.1⟩⟩, G.2.2.F ht⟩) G.2.2.2.2 dL_cleaned_13
  · exact absurd (cd_g_X11_cleaned (S := [0, 1]) (fun _ h => h) T o _ _ _ h) (by decide)
  · have q := (cd_g_X11_cleaned (S := [0, 1]) (fun _ h => h) T o _ _ _ h)
    simp only [List.mem_cons, List.not_mem_nil, or_false] at q
    omega
theorem v_cleaned (l : Launch) (hst : l.stackTraces = false) (D : va_G) {cI cJ cZ cMic cSrc cSt cAI cAJ cD : ClassId} (h0 : Nat) (ad : Nat → Nat) (T : AT) (o : Nat) (ao : Nat) (f : Nat → Int64) {k1 : Nat} {r1 : Int32} {T1 : AT} (h : g_X11_cleaned T o = some (k1, r1, T1)) (hrc : RC T) (h_o : o < T.1) (h_s : T.2.1 o = (11, 0)) : tWi l yL_cleaned (Cond.codeWith yL_cleaned cL_cleaned 3 (some .int) [(0, 8, 11, 21)] :: wsA) 8 121 cI cJ cZ cMic cSrc cSt cAI cAJ cD D h0 ad T (oJ ao cJ f) [.ref (ad o), .ref ao] (vck 1 0 0 k1) T1 (oJ ao cJ (vfJ k1 f r1.toInt64)) := by
  cases k1 with
  | zero => exact v_cleaned_n l hst D h0 ad T o  ao f h hrc h_o h_s
  | succ e1 => exact v_cleaned_t l hst D h0 ad T o  ao f h hrc h_o h_s
set_option maxHeartbeats 4000000 in
set_option maxRecDepth 100000 in
theorem v_undo_n (l : Launch) (hst : l.stackTraces = false) (D : va_G) {cI cJ cZ cMic cSrc cSt cAI cAJ cD : ClassId} (h0 : Nat) (ad : Nat → Nat) (T : AT) (o : Nat) (ao : Nat) (f : Nat → Int64) {r1 : Int32} {T1 : AT} (h : g_X11_undo T o = some (0, r1, T1)) (hrc : RC T) (h_o : o < T.1) (h_s : T.2.1 o = (11, 0)) : tWi l yL_undo (Cond.codeWith yL_undo cL_undo 3 (some .int) [(0, 8, 11, 21)] :: wsA) 7 104 cI cJ cZ cMic cSrc cSt cAI cAJ cD D h0 ad T (oJ ao cJ f) [.ref (ad o), .ref ao] (vck 1 0 0 (0)) T1 (oJ ao cJ (vfJ (0) f r1.toInt64)) := by
  intro sz
  refine va_MetW (cc := cL_undo) (maxL := 3) (ret := some .int) (by decide) rfl ?_
  intro p e s m args below meth c s₁ B hml hv
  obtain ⟨rfl, hsz, hP, hK, hD0, hX, hN, hA0, hTS⟩ := hv
  have hx := B.exec
  have hb := B.bytes
  have hr := B.returns
  have hts := atoms_spec (ws := (Cond.codeWith yL_undo cL_undo 3 (some .int) [(0, 8, 11, 21)] :: wsA)) B.pre
  have hown : s.vm.findClass RL = some m.cls := findClass_of_methodNamed B.named
  have hlocks := B.notSynchronized
  have htb := vx_table (x := yL_undo) B (hts _ (.head _))
  subst hsz
  have hD := hD0.self (sz := s.heap.size)
  generalize hAe : va_A (cW ad T.1 (cc cI cJ cZ cMic cSrc cSt cAI cAJ ad T) ++ [oJ ao cJ f]) s.heap.size = A at hD hX hA0 ⊢
  have hA : ∀ q : Nat, s.heap.size ≤ q → A q := fun q h => by rw [← hAe]; exact Or.inr h
  have G : gL cI cJ cZ cMic cSrc cSt cAI cAJ D ad A s.heap s.heap [] T [oJ ao cJ f] := ⟨hP, hD, va_S.rf⟩
  have E : cE p c cL_undo s m ([.ref (ad o), .ref ao] : List Value).toArray (Cond.codeWith yL_undo cL_undo 3 (some .int) [(0, 8, 11, 21)] :: wsA) D RL (CT cI cJ cZ cMic cSrc cSt cAI cAJ ++ [(cD, .double)]) := ⟨hx, hb, hts, hown, hK⟩
  have hl := lv_entry ([.ref (ad o), .ref ao]) (n := 3) (Nat.le_of_ble_eq_true rfl)
  rw [lg_entry_eq]
  generalize (lg_sl ([.ref (ad o), .ref ao]) ++ List.replicate (3 - (lg_sl ([.ref (ad o), .ref ao])).length) Slot.unset).toArray = ls at hl ⊢
  have hl : lv_has ls 3 [(0, .ref (ad o)), (1, .ref ao)] := hl
  refine lv_aload_n hx hb dL_undo_0 rfl (lv_at hl 1 rfl) ?_
  refine lv_iconst (v := 0) hx hb dL_undo_1 (by decide) ?_
  refine lv_aload_n hx hb dL_undo_2 rfl (lv_at hl 0 rfl) ?_
  refine t_avi (As := []) (rest := [.int 0, .ref ao]) E G hA hX hX.2.2.2.1 hml (a_X11_undo l hst D cI cJ cZ cMic cSrc cSt cAI cAJ ad T o  h hrc h_o) (cwV 0 hts (gaV qA_1153 qA_1154 qA_1155 qA_131 qA_941) rfl rfl rfl (by decide +kernel) ⟨Nat.le_of_ble_eq_true rfl, Nat.le_of_ble_eq_true rfl⟩) h_o (cc_o11 h_s) rfl rfl hl.1 rfl (lv_room (Nat.le_of_ble_eq_true rfl)) dL_undo_3 ⟨by show 0 + (T1.1 - T.1) ≤ T1.1 - T.1 + 1; omega, by show 0 + (sg T1 - sg T) ≤ sg T1 - sg T + 6; omega⟩ ?_
  intro ad2 H locs had G
  refine lv_i2l (v := r1.toInt64) hx hb dL_undo_6 rfl ?_
  refine t_last E G dL_undo_7 (fun H locs G => ?_)
  refine lv_goto (tgt := 14) hx hb dL_undo_8 (by decide) ?_
  refine lv_iconst (v := 0) hx hb dL_undo_14 (by decide) ?_
  refine W.widen (k := T1.1 - T.1 + 1) (n := sg T1 - sg T + 6) (by omega) (by omega) ?_
  exact W.iret (v := 0) hx hb hr (fun t ht hW => ⟨⟨0, ad2, rfl, ⟨rfl, had⟩, ⟨by rw [ht]; exact G.1, va_K.moved hW.alike hK, G.2.1⟩⟩, G.2.2.F ht⟩) G.2.2.2.2 dL_undo_15
set_option maxHeartbeats 4000000 in
set_option maxRecDepth 100000 in
theorem v_undo_t (l : Launch) (hst : l.stackTraces = false) (D : va_G) {cI cJ cZ cMic cSrc cSt cAI cAJ cD : ClassId} (h0 : Nat) (ad : Nat → Nat) (T : AT) (o : Nat) (ao : Nat) (f : Nat → Int64) {e1 : Nat} {r1 : Int32} {T1 : AT} (h : g_X11_undo T o = some (e1 + 1, r1, T1)) (hrc : RC T) (h_o : o < T.1) (h_s : T.2.1 o = (11, 0)) : tWi l yL_undo (Cond.codeWith yL_undo cL_undo 3 (some .int) [(0, 8, 11, 21)] :: wsA) 7 104 cI cJ cZ cMic cSrc cSt cAI cAJ cD D h0 ad T (oJ ao cJ f) [.ref (ad o), .ref ao] (vck 1 0 0 (e1 + 1)) T1 (oJ ao cJ (vfJ (e1 + 1) f r1.toInt64)) := by
  intro sz
  refine va_MetW (cc := cL_undo) (maxL := 3) (ret := some .int) (by decide) rfl ?_
  intro p e s m args below meth c s₁ B hml hv
  obtain ⟨rfl, hsz, hP, hK, hD0, hX, hN, hA0, hTS⟩ := hv
  have hx := B.exec
  have hb := B.bytes
  have hr := B.returns
  have hts := atoms_spec (ws := (Cond.codeWith yL_undo cL_undo 3 (some .int) [(0, 8, 11, 21)] :: wsA)) B.pre
  have hown : s.vm.findClass RL = some m.cls := findClass_of_methodNamed B.named
  have hlocks := B.notSynchronized
  have htb := vx_table (x := yL_undo) B (hts _ (.head _))
  subst hsz
  have hD := hD0.self (sz := s.heap.size)
  generalize hAe : va_A (cW ad T.1 (cc cI cJ cZ cMic cSrc cSt cAI cAJ ad T) ++ [oJ ao cJ f]) s.heap.size = A at hD hX hA0 ⊢
  have hA : ∀ q : Nat, s.heap.size ≤ q → A q := fun q h => by rw [← hAe]; exact Or.inr h
  have G : gL cI cJ cZ cMic cSrc cSt cAI cAJ D ad A s.heap s.heap [] T [oJ ao cJ f] := ⟨hP, hD, va_S.rf⟩
  have E : cE p c cL_undo s m ([.ref (ad o), .ref ao] : List Value).toArray (Cond.codeWith yL_undo cL_undo 3 (some .int) [(0, 8, 11, 21)] :: wsA) D RL (CT cI cJ cZ cMic cSrc cSt cAI cAJ ++ [(cD, .double)]) := ⟨hx, hb, hts, hown, hK⟩
  have hl := lv_entry ([.ref (ad o), .ref ao]) (n := 3) (Nat.le_of_ble_eq_true rfl)
  rw [lg_entry_eq]
  generalize (lg_sl ([.ref (ad o), .ref ao]) ++ List.replicate (3 - (lg_sl ([.ref (ad o), .ref ao])).length) Slot.unset).toArray = ls at hl ⊢
  have hl : lv_has ls 3 [(0, .ref (ad o)), (1, .ref ao)] := hl
  refine lv_aload_n hx hb dL_undo_0 rfl (lv_at hl 1 rfl) ?_
  refine lv_iconst (v := 0) hx hb dL_undo_1 (by decide) ?_
  refine lv_aload_n hx hb dL_undo_2 rfl (lv_at hl 0 rfl) ?_
  refine t_bvi (As := []) (rest := [.int 0, .ref ao]) E G hA hX hX.2.2.2.1 hml (b_X11_undo l hst D cI cJ cZ cMic cSrc cSt cAI cAJ ad T o  h hrc h_o) (cwV 0 hts (gaV qA_1153 qA_1154 qA_1155 qA_131 qA_941) rfl rfl rfl (by decide +kernel) ⟨Nat.le_of_ble_eq_true rfl, Nat.le_of_ble_eq_true rfl⟩) h_o (cc_o11 h_s) rfl rfl hl.1 rfl (lv_room (Nat.le_of_ble_eq_true rfl)) dL_undo_3 ⟨by show 0 + (T1.1 - T.1 + 1) ≤ T1.1 - T.1 + 1; omega, by show 0 + (sg T1 - sg T + 6) ≤ sg T1 - sg T + 6; omega⟩ ?_
  intro E9 ce q9 ad2 H locs hE had G hce hcv hcl
  rcases e1 with _ | _ | e1
  · have hE : E9 = xISE := hE
    subst hE
    refine vx_catch (name := xISE) hown [] { startPc := 0, endPc := 8, handlerPc := 11, catchType := 21 } [] htb (fun z hz => absurd hz List.not_mem_nil) (by decide) (by decide) (hts _ (.tail _ qA_952)) (hX.use (.castable xISE xISE) (by decide +kernel)) hce hcv hcl ?_
    refine lv_astore_n (lv' := [(2, .ref q9), (0, .ref (ad o)), (1, .ref ao)]) hx hb dL_undo_11 rfl hl (by decide) rfl (fun ls hl => ?_)
    refine lv_iconst (v := 1) hx hb dL_undo_12 (by decide) ?_
    refine W.widen (k := T1.1 - T.1 + 1) (n := sg T1 - sg T + 6) (by omega) (by omega) ?_
    exact W.iret (v := 1) hx hb hr (fun t ht hW => ⟨⟨1, ad2, rfl, ⟨rfl, had⟩, ⟨by rw [ht]; exact G.1, va_K.moved hW.alike hK, G.2.1⟩⟩, G.2.2.F ht⟩) G.2.2.2.2 dL_undo_13
  · exact absurd (cd_g_X11_undo (S := [0, 1]) (fun _ h => h) T o _ _ _ h) (by decide)
  · have q := (cd_g_X11_undo (S := [0, 1]) (fun _ h => h) T o _ _ _ h)
    simp only [List.mem_cons, List.not_mem_nil, or_false] at q
    omega
theorem v_undo (l : Launch) (hst : l.stackTraces = false) (D : va_G) {cI cJ cZ cMic cSrc cSt cAI cAJ cD : ClassId} (h0 : Nat) (ad : Nat → Nat) (T : AT) (o : Nat) (ao : Nat) (f : Nat → Int64) {k1 : Nat} {r1 : Int32} {T1 : AT} (h : g_X11_undo T o = some (k1, r1, T1)) (hrc : RC T) (h_o : o < T.1) (h_s : T.2.1 o = (11, 0)) : tWi l yL_undo (Cond.codeWith yL_undo cL_undo 3 (some .int) [(0, 8, 11, 21)] :: wsA) 7 104 cI cJ cZ cMic cSrc cSt cAI cAJ cD D h0 ad T (oJ ao cJ f) [.ref (ad o), .ref ao] (vck 1 0 0 k1) T1 (oJ ao cJ (vfJ k1 f r1.toInt64)) := by
  cases k1 with
  | zero => exact v_undo_n l hst D h0 ad T o  ao f h hrc h_o h_s
  | succ e1 => exact v_undo_t l hst D h0 ad T o  ao f h hrc h_o h_s
set_option maxHeartbeats 4000000 in
set_option maxRecDepth 100000 in
theorem v_save_n (l : Launch) (hst : l.stackTraces = false) (D : va_G) {cI cJ cZ cMic cSrc cSt cAI cAJ cD : ClassId} (h0 : Nat) (ad : Nat → Nat) (T : AT) (o : Nat) (a0 : Int32) (ao : Nat) (f : Nat → Int64) {r1 : Int32} {T1 : AT} (h : g_X11_save T o a0 = some (0, r1, T1)) (hrc : RC T) (h_o : o < T.1) (h_s : T.2.1 o = (11, 0)) : tWi l yL_save (Cond.codeWith yL_save cL_save 4 (some .int) [(0, 9, 12, 21), (0, 9, 15, 13)] :: wsA) 8 170 cI cJ cZ cMic cSrc cSt cAI cAJ cD D h0 ad T (oJ ao cJ f) [.ref (ad o), .int a0, .ref ao] (vck 1 2 0 (0)) T1 (oJ ao cJ (vfJ (0) f r1.toInt64)) := by
  intro sz
  refine va_MetW (cc := cL_save) (maxL := 4) (ret := some .int) (by decide) rfl ?_
  intro p e s m args below meth c s₁ B hml hv
  obtain ⟨rfl, hsz, hP, hK, hD0, hX, hN, hA0, hTS⟩ := hv
  have hx := B.exec
  have hb := B.bytes
  have hr := B.returns
  have hts := atoms_spec (ws := (Cond.codeWith yL_save cL_save 4 (some .int) [(0, 9, 12, 21), (0, 9, 15, 13)] :: wsA)) B.pre
  have hown : s.vm.findClass RL = some m.cls := findClass_of_methodNamed B.named
  have hlocks := B.notSynchronized
  have htb := vx_table (x := yL_save) B (hts _ (.head _))
  subst hsz
  have hD := hD0.self (sz := s.heap.size)
  generalize hAe : va_A (cW ad T.1 (cc cI cJ cZ cMic cSrc cSt cAI cAJ ad T) ++ [oJ ao cJ f]) s.heap.size = A at hD hX hA0 ⊢
  have hA : ∀ q : Nat, s.heap.size ≤ q → A q := fun q h => by rw [← hAe]; exact Or.inr h
  have G : gL cI cJ cZ cMic cSrc cSt cAI cAJ D ad A s.heap s.heap [] T [oJ ao cJ f] := ⟨hP, hD, va_S.rf⟩
  have E : cE p c cL_save s m ([.ref (ad o), .int a0, .ref ao] : List Value).toArray (Cond.codeWith yL_save cL_save 4 (some .int) [(0, 9, 12, 21), (0, 9, 15, 13)] :: wsA) D RL (CT cI cJ cZ cMic cSrc cSt cAI cAJ ++ [(cD, .double)]) := ⟨hx, hb, hts, hown, hK⟩
  have hl := lv_entry ([.ref (ad o), .int a0, .ref ao]) (n := 4) (Nat.le_of_ble_eq_true rfl)
  rw [lg_entry_eq]
  generalize (lg_sl ([.ref (ad o), .int a0, .ref ao]) ++ List.replicate (4 - (lg_sl ([.ref (ad o), .int a0, .ref ao])).length) Slot.unset).toArray = ls at hl ⊢
  have hl : lv_has ls 4 [(0, .ref (ad o)), (1, .int a0), (2, .ref ao)] := hl
  refine lv_aload_n hx hb dL_save_0 rfl (lv_at hl 2 rfl) ?_
  refine lv_iconst (v := 0) hx hb dL_save_1 (by decide) ?_
  refine lv_aload_n hx hb dL_save_2 rfl (lv_at hl 0 rfl) ?_
  refine lv_iload_n hx hb dL_save_3 rfl (lv_at hl 1 rfl) ?_
  refine t_avi (As := [.int a0]) (rest := [.int 0, .ref ao]) E G hA hX hX.2.2.2.1 hml (a_X11_save l hst D cI cJ cZ cMic cSrc cSt cAI cAJ ad T o a0 h hrc h_o) (cwV 1 hts (gaV qA_1157 qA_1158 qA_1159 qA_131 qA_943) rfl rfl rfl (by decide +kernel) ⟨Nat.le_of_ble_eq_true rfl, Nat.le_of_ble_eq_true rfl⟩) h_o (cc_o11 h_s) rfl rfl hl.1 rfl (lv_room (Nat.le_of_ble_eq_true rfl)) dL_save_4 ⟨by show 0 + (T1.1 - T.1) ≤ T1.1 - T.1 + 1; omega, by show 0 + (sg T1 - sg T) ≤ sg T1 - sg T + 6; omega⟩ ?_
  intro ad2 H locs had G
  refine lv_i2l (v := r1.toInt64) hx hb dL_save_7 rfl ?_
  refine t_last E G dL_save_8 (fun H locs G => ?_)
  refine lv_goto (tgt := 18) hx hb dL_save_9 (by decide) ?_
  refine lv_iconst (v := 0) hx hb dL_save_18 (by decide) ?_
  refine W.widen (k := T1.1 - T.1 + 1) (n := sg T1 - sg T + 6) (by omega) (by omega) ?_
  exact W.iret (v := 0) hx hb hr (fun t ht hW => ⟨⟨0, ad2, rfl, ⟨rfl, had⟩, ⟨by rw [ht]; exact G.1, va_K.moved hW.alike hK, G.2.1⟩⟩, G.2.2.F ht⟩) G.2.2.2.2 dL_save_19
set_option maxHeartbeats 4000000 in
set_option maxRecDepth 100000 in
theorem v_save_t (l : Launch) (hst : l.stackTraces = false) (D : va_G) {cI cJ cZ cMic cSrc cSt cAI cAJ cD : ClassId} (h0 : Nat) (ad : Nat → Nat) (T : AT) (o : Nat) (a0 : Int32) (ao : Nat) (f : Nat → Int64) {e1 : Nat} {r1 : Int32} {T1 : AT} (h : g_X11_save T o a0 = some (e1 + 1, r1, T1)) (hrc : RC T) (h_o : o < T.1) (h_s : T.2.1 o = (11, 0)) : tWi l yL_save (Cond.codeWith yL_save cL_save 4 (some .int) [(0, 9, 12, 21), (0, 9, 15, 13)] :: wsA) 8 170 cI cJ cZ cMic cSrc cSt cAI cAJ cD D h0 ad T (oJ ao cJ f) [.ref (ad o), .int a0, .ref ao] (vck 1 2 0 (e1 + 1)) T1 (oJ ao cJ (vfJ (e1 + 1) f r1.toInt64)) := by
  intro sz
  refine va_MetW (cc := cL_save) (maxL := 4) (ret := some .int) (by decide) rfl ?_
  intro p e s m args below meth c s₁ B hml hv
  obtain ⟨rfl, hsz, hP, hK, hD0, hX, hN, hA0, hTS⟩ := hv
  have hx := B.exec
  have hb := B.bytes
  have hr := B.returns
  have hts := atoms_spec (ws := (Cond.codeWith yL_save cL_save 4 (some .int) [(0, 9, 12, 21), (0, 9, 15, 13)] :: wsA)) B.pre
  have hown : s.vm.findClass RL = some m.cls := findClass_of_methodNamed B.named
  have hlocks := B.notSynchronized
  have htb := vx_table (x := yL_save) B (hts _ (.head _))
  subst hsz
  have hD := hD0.self (sz := s.heap.size)
  generalize hAe : va_A (cW ad T.1 (cc cI cJ cZ cMic cSrc cSt cAI cAJ ad T) ++ [oJ ao cJ f]) s.heap.size = A at hD hX hA0 ⊢
  have hA : ∀ q : Nat, s.heap.size ≤ q → A q := fun q h => by rw [← hAe]; exact Or.inr h
  have G : gL cI cJ cZ cMic cSrc cSt cAI cAJ D ad A s.heap s.heap [] T [oJ ao cJ f] := ⟨hP, hD, va_S.rf⟩
  have E : cE p c cL_save s m ([.ref (ad o), .int a0, .ref ao] : List Value).toArray (Cond.codeWith yL_save cL_save 4 (some .int) [(0, 9, 12, 21), (0, 9, 15, 13)] :: wsA) D RL (CT cI cJ cZ cMic cSrc cSt cAI cAJ ++ [(cD, .double)]) := ⟨hx, hb, hts, hown, hK⟩
  have hl := lv_entry ([.ref (ad o), .int a0, .ref ao]) (n := 4) (Nat.le_of_ble_eq_true rfl)
  rw [lg_entry_eq]
  generalize (lg_sl ([.ref (ad o), .int a0, .ref ao]) ++ List.replicate (4 - (lg_sl ([.ref (ad o), .int a0, .ref ao])).length) Slot.unset).toArray = ls at hl ⊢
  have hl : lv_has ls 4 [(0, .ref (ad o)), (1, .int a0), (2, .ref ao)] := hl
  refine lv_aload_n hx hb dL_save_0 rfl (lv_at hl 2 rfl) ?_
  refine lv_iconst (v := 0) hx hb dL_save_1 (by decide) ?_
  refine lv_aload_n hx hb dL_save_2 rfl (lv_at hl 0 rfl) ?_
  refine lv_iload_n hx hb dL_save_3 rfl (lv_at hl 1 rfl) ?_
  refine t_bvi (As := [.int a0]) (rest := [.int 0, .ref ao]) E G hA hX hX.2.2.2.1 hml (b_X11_save l hst D cI cJ cZ cMic cSrc cSt cAI cAJ ad T o a0 h hrc h_o) (cwV 1 hts (gaV qA_1157 qA_1158 qA_1159 qA_131 qA_943) rfl rfl rfl (by decide +kernel) ⟨Nat.le_of_ble_eq_true rfl, Nat.le_of_ble_eq_true rfl⟩) h_o (cc_o11 h_s) rfl rfl hl.1 rfl (lv_room (Nat.le_of_ble_eq_true rfl)) dL_save_4 ⟨by show 0 + (T1.1 - T.1 + 1) ≤ T1.1 - T.1 + 1; omega, by show 0 + (sg T1 - sg T + 6) ≤ sg T1 - sg T + 6; omega⟩ ?_
  intro E9 ce q9 ad2 H locs hE had G hce hcv hcl
  rcases e1 with _ | _ | e1
  · have hE : E9 = xISE := hE
    subst hE
    refine vx_catch (name := xISE) hown [] { startPc := 0, endPc := 9, handlerPc := 12, catchType := 21 } [{ startPc := 0, endPc := 9, handlerPc := 15, catchType := 13 }] htb (fun z hz => absurd hz List.not_mem_nil) (by decide) (by decide) (hts _ (.tail _ qA_952)) (hX.use (.castable xISE xISE) (by decide +kernel)) hce hcv hcl ?_
    refine lv_astore_n (lv' := [(3, .ref q9), (0, .ref (ad o)), (1, .int a0), (2, .ref ao)]) hx hb dL_save_12 rfl hl (by decide) rfl (fun ls hl => ?_)
    refine lv_iconst (v := 1) hx hb dL_save_13 (by decide) ?_
    refine W.widen (k := T1.1 - T.1 + 1) (n := sg T1 - sg T + 6) (by omega) (by omega) ?_
    exact W.iret (v := 1) hx hb hr (fun t ht hW => ⟨⟨1, ad2, rfl, ⟨rfl, had⟩, ⟨by rw [ht]; exact G.1, va_K.moved hW.alike hK, G.2.1⟩⟩, G.2.2.F ht⟩) G.2.2.2.2 dL_save_14
  · have hE : E9 = xIOB := hE
    subst hE
    refine vx_catch (name := xIOB) hown [{ startPc := 0, endPc := 9, handlerPc := 12, catchType := 21 }] { startPc := 0, endPc := 9, handlerPc := 15, catchType := 13 } [] htb (List.forall_mem_cons.mpr ⟨Or.inr ⟨by decide, xISE, hts _ (.tail _ qA_952), hN.2.2.1⟩, fun z hz => absurd hz List.not_mem_nil⟩) (by decide) (by decide) (hts _ (.tail _ qA_946)) (hX.use (.castable xIOB xIOB) (by decide +kernel)) hce hcv hcl ?_
    refine lv_astore_n (lv' := [(3, .ref q9), (0, .ref (ad o)), (1, .int a0), (2, .ref ao)]) hx hb dL_save_15 rfl hl (by decide) rfl (fun ls hl => ?_)
    refine lv_iconst (v := 2) hx hb dL_save_16 (by decide) ?_
    refine W.widen (k := T1.1 - T.1 + 1) (n := sg T1 - sg T + 6) (by omega) (by omega) ?_
    exact W.iret (v := 2) hx hb hr (fun t ht hW => ⟨⟨2, ad2, rfl, ⟨rfl, had⟩, ⟨by rw [ht]; exact G.1, va_K.moved hW.alike hK, G.2.1⟩⟩, G.2.2.F ht⟩) G.2.2.2.2 dL_save_17
  · have q := (cd_g_X11_save (S := [0, 1, 2]) (fun _ h => h) T o a0 _ _ _ h)
    simp only [List.mem_cons, List.not_mem_nil, or_false] at q
    omega
theorem v_save (l : Launch) (hst : l.stackTraces = false) (D : va_G) {cI cJ cZ cMic cSrc cSt cAI cAJ cD : ClassId} (h0 : Nat) (ad : Nat → Nat) (T : AT) (o : Nat) (a0 : Int32) (ao : Nat) (f : Nat → Int64) {k1 : Nat} {r1 : Int32} {T1 : AT} (h : g_X11_save T o a0 = some (k1, r1, T1)) (hrc : RC T) (h_o : o < T.1) (h_s : T.2.1 o = (11, 0)) : tWi l yL_save (Cond.codeWith yL_save cL_save 4 (some .int) [(0, 9, 12, 21), (0, 9, 15, 13)] :: wsA) 8 170 cI cJ cZ cMic cSrc cSt cAI cAJ cD D h0 ad T (oJ ao cJ f) [.ref (ad o), .int a0, .ref ao] (vck 1 2 0 k1) T1 (oJ ao cJ (vfJ k1 f r1.toInt64)) := by
  cases k1 with
  | zero => exact v_save_n l hst D h0 ad T o a0 ao f h hrc h_o h_s
  | succ e1 => exact v_save_t l hst D h0 ad T o a0 ao f h hrc h_o h_s
set_option maxHeartbeats 4000000 in
set_option maxRecDepth 100000 in
theorem v_restore_n (l : Launch) (hst : l.stackTraces = false) (D : va_G) {cI cJ cZ cMic cSrc cSt cAI cAJ cD : ClassId} (h0 : Nat) (ad : Nat → Nat) (T : AT) (o : Nat) (a0 : Int32) (ao : Nat) (f : Nat → Int64) {r1 : Int32} {T1 : AT} (h : g_X11_restore T o a0 = some (0, r1, T1)) (hrc : RC T) (h_o : o < T.1) (h_s : T.2.1 o = (11, 0)) : tWi l yL_restore (Cond.codeWith yL_restore cL_restore 4 (some .int) [(0, 9, 12, 13), (0, 9, 15, 21)] :: wsA) 8 170 cI cJ cZ cMic cSrc cSt cAI cAJ cD D h0 ad T (oJ ao cJ f) [.ref (ad o), .int a0, .ref ao] (vck 2 1 0 (0)) T1 (oJ ao cJ (vfJ (0) f r1.toInt64)) := by
  intro sz
  refine va_MetW (cc := cL_restore) (maxL := 4) (ret := some .int) (by decide) rfl ?_
  intro p e s m args below meth c s₁ B hml hv
  obtain ⟨rfl, hsz, hP, hK, hD0, hX, hN, hA0, hTS⟩ := hv
  have hx := B.exec
  have hb := B.bytes
  have hr := B.returns
  have hts := atoms_spec (ws := (Cond.codeWith yL_restore cL_restore 4 (some .int) [(0, 9, 12, 13), (0, 9, 15, 21)] :: wsA)) B.pre
  have hown : s.vm.findClass RL = some m.cls := findClass_of_methodNamed B.named
  have hlocks := B.notSynchronized
  have htb := vx_table (x := yL_restore) B (hts _ (.head _))
  subst hsz
  have hD := hD0.self (sz := s.heap.size)
  generalize hAe : va_A (cW ad T.1 (cc cI cJ cZ cMic cSrc cSt cAI cAJ ad T) ++ [oJ ao cJ f]) s.heap.size = A at hD hX hA0 ⊢
  have hA : ∀ q : Nat, s.heap.size ≤ q → A q := fun q h => by rw [← hAe]; exact Or.inr h
  have G : gL cI cJ cZ cMic cSrc cSt cAI cAJ D ad A s.heap s.heap [] T [oJ ao cJ f] := ⟨hP, hD, va_S.rf⟩
  have E : cE p c cL_restore s m ([.ref (ad o), .int a0, .ref ao] : List Value).toArray (Cond.codeWith yL_restore cL_restore 4 (some .int) [(0, 9, 12, 13), (0, 9, 15, 21)] :: wsA) D RL (CT cI cJ cZ cMic cSrc cSt cAI cAJ ++ [(cD, .double)]) := ⟨hx, hb, hts, hown, hK⟩
  have hl := lv_entry ([.ref (ad o), .int a0, .ref ao]) (n := 4) (Nat.le_of_ble_eq_true rfl)
  rw [lg_entry_eq]
  generalize (lg_sl ([.ref (ad o), .int a0, .ref ao]) ++ List.replicate (4 - (lg_sl ([.ref (ad o), .int a0, .ref ao])).length) Slot.unset).toArray = ls at hl ⊢
  have hl : lv_has ls 4 [(0, .ref (ad o)), (1, .int a0), (2, .ref ao)] := hl
  refine lv_aload_n hx hb dL_restore_0 rfl (lv_at hl 2 rfl) ?_
  refine lv_iconst (v := 0) hx hb dL_restore_1 (by decide) ?_
  refine lv_aload_n hx hb dL_restore_2 rfl (lv_at hl 0 rfl) ?_
  refine lv_iload_n hx hb dL_restore_3 rfl (lv_at hl 1 rfl) ?_
  refine t_avi (As := [.int a0]) (rest := [.int 0, .ref ao]) E G hA hX hX.2.2.2.1 hml (a_X11_restore l hst D cI cJ cZ cMic cSrc cSt cAI cAJ ad T o a0 h hrc h_o) (cwV 1 hts (gaV qA_1161 qA_1162 qA_1163 qA_131 qA_944) rfl rfl rfl (by decide +kernel) ⟨Nat.le_of_ble_eq_true rfl, Nat.le_of_ble_eq_true rfl⟩) h_o (cc_o11 h_s) rfl rfl hl.1 rfl (lv_room (Nat.le_of_ble_eq_true rfl)) dL_restore_4 ⟨by show 0 + (T1.1 - T.1) ≤ T1.1 - T.1 + 1; omega, by show 0 + (sg T1 - sg T) ≤ sg T1 - sg T + 6; omega⟩ ?_
  intro ad2 H locs had G
  refine lv_i2l (v := r1.toInt64) hx hb dL_restore_7 rfl ?_
  refine t_last E G dL_restore_8 (fun H locs G => ?_)
  refine lv_goto (tgt := 18) hx hb dL_restore_9 (by decide) ?_
  refine lv_iconst (v := 0) hx hb dL_restore_18 (by decide) ?_
  refine W.widen (k := T1.1 - T.1 + 1) (n := sg T1 - sg T + 6) (by omega) (by omega) ?_
  exact W.iret (v := 0) hx hb hr (fun t ht hW => ⟨⟨0, ad2, rfl, ⟨rfl, had⟩, ⟨by rw [ht]; exact G.1, va_K.moved hW.alike hK, G.2.1⟩⟩, G.2.2.F ht⟩) G.2.2.2.2 dL_restore_19
set_option maxHeartbeats 4000000 in
set_option maxRecDepth 100000 in
theorem v_restore_t (l : Launch) (hst : l.stackTraces = false) (D : va_G) {cI cJ cZ cMic cSrc cSt cAI cAJ cD : ClassId} (h0 : Nat) (ad : Nat → Nat) (T : AT) (o : Nat) (a0 : Int32) (ao : Nat) (f : Nat → Int64) {e1 : Nat} {r1 : Int32} {T1 : AT} (h : g_X11_restore T o a0 = some (e1 + 1, r1, T1)) (hrc : RC T) (h_o : o < T.1) (h_s : T.2.1 o = (11, 0)) : tWi l yL_restore (Cond.codeWith yL_restore cL_restore 4 (some .int) [(0, 9, 12, 13), (0, 9, 15, 21)] :: wsA) 8 170 cI cJ cZ cMic cSrc cSt cAI cAJ cD D h0 ad T (oJ ao cJ f) [.ref (ad o), .int a0, .ref ao] (vck 2 1 0 (e1 + 1)) T1 (oJ ao cJ (vfJ (e1 + 1) f r1.toInt64)) := by
  intro sz
  refine va_MetW (cc := cL_restore) (maxL := 4) (ret := some .int) (by decide) rfl ?_
  intro p e s m args below meth c s₁ B hml hv
  obtain ⟨rfl, hsz, hP, hK, hD0, hX, hN, hA0, hTS⟩ := hv
  have hx := B.exec
  have hb := B.bytes
  have hr := B.returns
  have hts := atoms_spec (ws := (Cond.codeWith yL_restore cL_restore 4 (some .int) [(0, 9, 12, 13), (0, 9, 15, 21)] :: wsA)) B.pre
  have hown : s.vm.findClass RL = some m.cls := findClass_of_methodNamed B.named
  have hlocks := B.notSynchronized
  have htb := vx_table (x := yL_restore) B (hts _ (.head _))
  subst hsz
  have hD := hD0.self (sz := s.heap.size)
  generalize hAe : va_A (cW ad T.1 (cc cI cJ cZ cMic cSrc cSt cAI cAJ ad T) ++ [oJ ao cJ f]) s.heap.size = A at hD hX hA0 ⊢
  have hA : ∀ q : Nat, s.heap.size ≤ q → A q := fun q h => by rw [← hAe]; exact Or.inr h
  have G : gL cI cJ cZ cMic cSrc cSt cAI cAJ D ad A s.heap s.heap [] T [oJ ao cJ f] := ⟨hP, hD, va_S.rf⟩
  have E : cE p c cL_restore s m ([.ref (ad o), .int a0, .ref ao] : List Value).toArray (Cond.codeWith yL_restore cL_restore 4 (some .int) [(0, 9, 12, 13), (0, 9, 15, 21)] :: wsA) D RL (CT cI cJ cZ cMic cSrc cSt cAI cAJ ++ [(cD, .double)]) := ⟨hx, hb, hts, hown, hK⟩
  have hl := lv_entry ([.ref (ad o), .int a0, .ref ao]) (n := 4) (Nat.le_of_ble_eq_true rfl)
  rw [lg_entry_eq]
  generalize (lg_sl ([.ref (ad o), .int a0, .ref ao]) ++ List.replicate (4 - (lg_sl ([.ref (ad o), .int a0, .ref ao])).length) Slot.unset).toArray = ls at hl ⊢
  have hl : lv_has ls 4 [(0, .ref (ad o)), (1, .int a0), (2, .ref ao)] := hl
  refine lv_aload_n hx hb dL_restore_0 rfl (lv_at hl 2 rfl) ?_
  refine lv_iconst (v := 0) hx hb dL_restore_1 (by decide) ?_
  refine lv_aload_n hx hb dL_restore_2 rfl (lv_at hl 0 rfl) ?_
  refine lv_iload_n hx hb dL_restore_3 rfl (lv_at hl 1 rfl) ?_
  refine t_bvi (As := [.int a0]) (rest := [.int 0, .ref ao]) E G hA hX hX.2.2.2.1 hml (b_X11_restore l hst D cI cJ cZ cMic cSrc cSt cAI cAJ ad T o a0 h hrc h_o) (cwV 1 hts (gaV qA_1161 qA_1162 qA_1163 qA_131 qA_944) rfl rfl rfl (by decide +kernel) ⟨Nat.le_of_ble_eq_true rfl, Nat.le_of_ble_eq_true rfl⟩) h_o (cc_o11 h_s) rfl rfl hl.1 rfl (lv_room (Nat.le_of_ble_eq_true rfl)) dL_restore_4 ⟨by show 0 + (T1.1 - T.1 + 1) ≤ T1.1 - T.1 + 1; omega, by show 0 + (sg T1 - sg T + 6) ≤ sg T1 - sg T + 6; omega⟩ ?_
  intro E9 ce q9 ad2 H locs hE had G hce hcv hcl
  rcases e1 with _ | _ | e1
  · have hE : E9 = xISE := hE
    subst hE
    refine vx_catch (name := xISE) hown [{ startPc := 0, endPc := 9, handlerPc := 12, catchType := 13 }] { startPc := 0, endPc := 9, handlerPc := 15, catchType := 21 } [] htb (List.forall_mem_cons.mpr ⟨Or.inr ⟨by decide, xIOB, hts _ (.tail _ qA_946), hN.2.1⟩, fun z hz => absurd hz List.not_mem_nil⟩) (by decide) (by decide) (hts _ (.tail _ qA_952)) (hX.use (.castable xISE xISE) (by decide +kernel)) hce hcv hcl ?_
    refine lv_astore_n (lv' := [(3, .ref q9), (0, .ref (ad o)), (1, .int a0), (2, .ref ao)]) hx hb dL_restore_15 rfl hl (by decide) rfl (fun ls hl => ?_)
    refine lv_iconst (v := 2) hx hb dL_restore_16 (by decide) ?_
    refine W.widen (k := T1.1 - T.1 + 1) (n := sg T1 - sg T + 6) (by omega) (by omega) ?_
    exact W.iret (v := 2) hx hb hr (fun t ht hW => ⟨⟨2, ad2, rfl, ⟨rfl, had⟩, ⟨by rw [ht]; exact G.1, va_K.moved hW.alike hK, G.2.1⟩⟩, G.2.2.F ht⟩) G.2.2.2.2 dL_restore_17
  · have hE : E9 = xIOB := hE
    subst hE
    refine vx_catch (name := xIOB) hown [] { startPc := 0, endPc := 9, handlerPc := 12, catchType := 13 } [{ startPc := 0, endPc := 9, handlerPc := 15, catchType := 21 }] htb (fun z hz => absurd hz List.not_mem_nil) (by decide) (by decide) (hts _ (.tail _ qA_946)) (hX.use (.castable xIOB xIOB) (by decide +kernel)) hce hcv hcl ?_
    refine lv_astore_n (lv' := [(3, .ref q9), (0, .ref (ad o)), (1, .int a0), (2, .ref ao)]) hx hb dL_restore_12 rfl hl (by decide) rfl (fun ls hl => ?_)
    refine lv_iconst (v := 1) hx hb dL_restore_13 (by decide) ?_
    refine W.widen (k := T1.1 - T.1 + 1) (n := sg T1 - sg T + 6) (by omega) (by omega) ?_
    exact W.iret (v := 1) hx hb hr (fun t ht hW => ⟨⟨1, ad2, rfl, ⟨rfl, had⟩, ⟨by rw [ht]; exact G.1, va_K.moved hW.alike hK, G.2.1⟩⟩, G.2.2.F ht⟩) G.2.2.2.2 dL_restore_14
  · have q := (cd_g_X11_restore (S := [0, 1, 2]) (fun _ h => h) T o a0 _ _ _ h)
    simp only [List.mem_cons, List.not_mem_nil, or_false] at q
    omega
theorem v_restore (l : Launch) (hst : l.stackTraces = false) (D : va_G) {cI cJ cZ cMic cSrc cSt cAI cAJ cD : ClassId} (h0 : Nat) (ad : Nat → Nat) (T : AT) (o : Nat) (a0 : Int32) (ao : Nat) (f : Nat → Int64) {k1 : Nat} {r1 : Int32} {T1 : AT} (h : g_X11_restore T o a0 = some (k1, r1, T1)) (hrc : RC T) (h_o : o < T.1) (h_s : T.2.1 o = (11, 0)) : tWi l yL_restore (Cond.codeWith yL_restore cL_restore 4 (some .int) [(0, 9, 12, 13), (0, 9, 15, 21)] :: wsA) 8 170 cI cJ cZ cMic cSrc cSt cAI cAJ cD D h0 ad T (oJ ao cJ f) [.ref (ad o), .int a0, .ref ao] (vck 2 1 0 k1) T1 (oJ ao cJ (vfJ k1 f r1.toInt64)) := by
  cases k1 with
  | zero => exact v_restore_n l hst D h0 ad T o a0 ao f h hrc h_o h_s
  | succ e1 => exact v_restore_t l hst D h0 ad T o a0 ao f h hrc h_o h_s
end
section
/-! 15a.fresh.lean.txt -/
/-! the class after its constructor, as numbers (AT), and what holds of it (IV) -/
theorem lc {α : Type} {a a' : α} {l l' : List α} (h : a = a') (k : l = l') : a :: l = a' :: l' := by rw [h, k]
theorem fr_getD {α : Type} {n i : Nat} {F : Nat → α} {d : α} (h : i < n) : ((List.range n).map F).getD i d = F i := by
  rw [List.getD_eq_getElem?_getD, List.getElem?_map, List.getElem?_range h]
  rfl
theorem fl_none (b : Nat → Nat) (n : Nat) : (fun i => ((List.replicate n (none : Option Nat)).getD i none).map b) = fun _ => none := by
  funext i
  rw [List.getD_eq_getElem?_getD, List.getElem?_replicate]
  split <;> rfl
theorem fl_ite (b : Nat → Nat) (n c : Nat) : (fun i => (((List.range n).map (fun i => some (c + i))).getD i none).map b) = fun i => if i < n then some (b (c + i)) else none := by
  funext i
  by_cases h : i < n
  · rw [fr_getD h, if_pos h]
    rfl
  · rw [List.getD_eq_getElem?_getD, List.getElem?_eq_none (by rw [List.length_map, List.length_range]; exact Nat.not_lt.mp h), if_neg h]
    rfl
theorem fl_up (b : Nat → Nat) {l : List (Option Nat)} {g : Nat → Option Nat} (n q : Nat) (hn : n < l.length) (h : (fun i => (l.getD i none).map b) = g) : (fun i => ((l.set n (some q)).getD i none).map b) = va_up g n (some (b q)) := by
  funext i
  rw [← h, List.getD_eq_getElem?_getD, List.getElem?_set]
  by_cases e : n = i
  · subst e
    rw [va_up_self, if_pos rfl, if_pos hn]
    rfl
  · rw [va_up_ne _ _ (fun q => e q.symm), if_neg e, ← List.getD_eq_getElem?_getD]
theorem ccv_map {cI cJ cZ cMic cSrc cSt cAI cAJ : ClassId} {b ad : Nat → Nat} {sh : Nat × Nat} {vi : Nat → Int32} {vj : Nat → Int64} {r r' : Nat → Option Nat} (h : ∀ k, (r k).map b = (r' k).map ad) : ccv cI cJ cZ cMic cSrc cSt cAI cAJ b sh vi vj r = ccv cI cJ cZ cMic cSrc cSt cAI cAJ ad sh vi vj r' := by
  unfold ccv
  simp only [h]
theorem nbeq {a b : Nat} (h : a ≠ b) : Nat.beq a b = false := Bool.eq_false_iff.mpr (fun q => h (Nat.eq_of_beq_eq_true q))
def fviR (r : Nat) : Nat → Int32 := bif isW r then (fun k => bif Nat.beq k 0 then Int32.ofNat (cnt r) else bif Nat.beq k 2 then 1 else 0) else bif Nat.beq r 3 then (fun k => bif Nat.beq k 3 then -1 else 0) else fun _ => 0
def fs_X9 : Nat → Nat × Nat := fun i => ([(9, 0), (100, 1000), (100, 1001), (100, 1001), (100, 1001)] : List (Nat × Nat)).getD i (0, 0)
def fo_X9 : Nat → Nat := fun i => ([9, 41, 42, 43, 44] : List Nat).getD i 30
def fv_X9 : Nat → List (Option Nat) := fun i => ([[some 1, none, some 2, some 3, some 4, none], [], [], [], []] : List (List (Option Nat))).getD i []
set_option maxHeartbeats 4000000 in
set_option maxRecDepth 100000 in
theorem fk_X9 {cI cJ cZ cMic cSrc cSt cAI cAJ : ClassId} (b : Nat → Nat) {i : Nat} (hi : i < 5) : iX9 cI cJ cZ cMic cSrc cSt cAI cAJ b i = ccv cI cJ cZ cMic cSrc cSt cAI cAJ b (fs_X9 i) (fviR (fo_X9 i)) (fun _ => 0) (fun k => (fv_X9 i).getD k none) := by
  have h : ([.inr (9, [.ref (b 1), .int 0, .ref (b 2), .ref (b 3), .ref (b 4), .int 0]), .inl (cI, 1000, .inl (fun _ => 0)), .inl (cI, 1001, .inl (fun _ => 0)), .inl (cI, 1001, .inl (fun _ => 0)), .inl (cI, 1001, .inl (fun _ => 0))] : List va_E) = (List.range 5).map (fun i => ccv cI cJ cZ cMic cSrc cSt cAI cAJ b (fs_X9 i) (fviR (fo_X9 i)) (fun _ => 0) (fun k => (fv_X9 i).getD k none)) := (lc rfl (lc rfl (lc rfl (lc rfl (lc rfl rfl)))))
  exact (congrArg (fun l => List.getD l i (.inr (0, []))) h).trans (fr_getD hi)
def fs_X5 : Nat → Nat × Nat := fun i => ([(5, 0), (106, 12), (100, 200), (100, 200), (100, 200), (100, 200), (100, 200), (100, 200), (100, 200), (100, 200), (100, 200), (100, 200), (100, 200), (100, 200), (7, 0)] : List (Nat × Nat)).getD i (0, 0)
def fo_X5 : Nat → Nat := fun i => ([5, 45, 46, 46, 46, 46, 46, 46, 46, 46, 46, 46, 46, 46, 7] : List Nat).getD i 30
def fv_X5 : Nat → List (Option Nat) := fun i => ([[some 1, some 14], ((List.range 12).map (fun i => some (2 + i))), [], [], [], [], [], [], [], [], [], [], [], [], [none, none, none, none, none, none, none, none, none, none]] : List (List (Option Nat))).getD i []
set_option maxHeartbeats 4000000 in
set_option maxRecDepth 100000 in
theorem fk_X5 {cI cJ cZ cMic cSrc cSt cAI cAJ : ClassId} (b : Nat → Nat) {i : Nat} (hi : i < 15) : iX5 cI cJ cZ cMic cSrc cSt cAI cAJ b i = ccv cI cJ cZ cMic cSrc cSt cAI cAJ b (fs_X5 i) (fviR (fo_X5 i)) (fun _ => 0) (fun k => (fv_X5 i).getD k none) := by
  have h : ([.inr (5, [.ref (b 1), .ref (b 14)]), .inl (cAI, 12, .inr (.inr (.inr (.inr (fun i => if i < 12 then some (b (2 + i)) else none))))), .inl (cI, 200, .inl (fun _ => 0)), .inl (cI, 200, .inl (fun _ => 0)), .inl (cI, 200, .inl (fun _ => 0)), .inl (cI, 200, .inl (fun _ => 0)), .inl (cI, 200, .inl (fun _ => 0)), .inl (cI, 200, .inl (fun _ => 0)), .inl (cI, 200, .inl (fun _ => 0)), .inl (cI, 200, .inl (fun _ => 0)), .inl (cI, 200, .inl (fun _ => 0)), .inl (cI, 200, .inl (fun _ => 0)), .inl (cI, 200, .inl (fun _ => 0)), .inl (cI, 200, .inl (fun _ => 0)), .inr (7, [.int 0, .int 0, .int 0, .int 0, .int 0, .int 0, .int 0, .int 0, .int 0, .int 0])] : List va_E) = (List.range 15).map (fun i => ccv cI cJ cZ cMic cSrc cSt cAI cAJ b (fs_X5 i) (fviR (fo_X5 i)) (fun _ => 0) (fun k => (fv_X5 i).getD k none)) := (lc rfl (lc (congrArg (fun x => (Sum.inl (cAI, 12, Sum.inr (Sum.inr (Sum.inr (Sum.inr x)))) : va_E)) (fl_ite b 12 2).symm) (lc rfl (lc rfl (lc rfl (lc rfl (lc rfl (lc rfl (lc rfl (lc rfl (lc rfl (lc rfl (lc rfl (lc rfl (lc rfl rfl)))))))))))))))
  exact (congrArg (fun l => List.getD l i (.inr (0, []))) h).trans (fr_getD hi)
def fs_X0 : Nat → Nat × Nat := fun i => ([(0, 0), (10, 0), (107, 40), (101, 0), (101, 0), (101, 0), (101, 0), (101, 0), (101, 0), (101, 0), (101, 0), (101, 0), (101, 0), (101, 0), (101, 0), (101, 0), (101, 0), (101, 0), (101, 0), (101, 0), (101, 0), (101, 0), (101, 0), (101, 0), (101, 0), (101, 0), (101, 0), (101, 0), (101, 0), (101, 0), (101, 0), (101, 0), (101, 0), (101, 0), (101, 0), (101, 0), (101, 0), (101, 0), (101, 0), (101, 0), (101, 0), (101, 0), (101, 0), (101, 7200)] : List (Nat × Nat)).getD i (0, 0)
def fo_X0 : Nat → Nat := fun i => ([20, 105, 115, 30, 30, 30, 30, 30, 30, 30, 30, 30, 30, 30, 30, 30, 30, 30, 30, 30, 30, 30, 30, 30, 30, 30, 30, 30, 30, 30, 30, 30, 30, 30, 30, 30, 30, 30, 30, 30, 30, 30, 30, 30] : List Nat).getD i 30
def fv_X0 : Nat → List (Option Nat) := fun i => ([[some 1], [none, some 2, none], (((List.range 40).map (fun i => some (3 + i))).set 0 (some 43)), [], [], [], [], [], [], [], [], [], [], [], [], [], [], [], [], [], [], [], [], [], [], [], [], [], [], [], [], [], [], [], [], [], [], [], [], [], [], [], [], []] : List (List (Option Nat))).getD i []
set_option maxHeartbeats 4000000 in
set_option maxRecDepth 100000 in
theorem fk_X0 {cI cJ cZ cMic cSrc cSt cAI cAJ : ClassId} (b : Nat → Nat) {i : Nat} (hi : i < 44) : iX0 cI cJ cZ cMic cSrc cSt cAI cAJ b i = ccv cI cJ cZ cMic cSrc cSt cAI cAJ b (fs_X0 i) (fviR (fo_X0 i)) (fun _ => 0) (fun k => (fv_X0 i).getD k none) := by
  have h : ([.inr (0, [.ref (b 1)]), .inr (10, [.int 7200, .ref (b 2), .int 1]), .inl (cAJ, 40, .inr (.inr (.inr (.inr (va_up (fun i => if i < 40 then some (b (3 + i)) else none) 0 (some (b 43))))))), .inl (cJ, 0, .inr (.inl (fun _ => 0))), .inl (cJ, 0, .inr (.inl (fun _ => 0))), .inl (cJ, 0, .inr (.inl (fun _ => 0))), .inl (cJ, 0, .inr (.inl (fun _ => 0))), .inl (cJ, 0, .inr (.inl (fun _ => 0))), .inl (cJ, 0, .inr (.inl (fun _ => 0))), .inl (cJ, 0, .inr (.inl (fun _ => 0))), .inl (cJ, 0, .inr (.inl (fun _ => 0))), .inl (cJ, 0, .inr (.inl (fun _ => 0))), .inl (cJ, 0, .inr (.inl (fun _ => 0))), .inl (cJ, 0, .inr (.inl (fun _ => 0))), .inl (cJ, 0, .inr (.inl (fun _ => 0))), .inl (cJ, 0, .inr (.inl (fun _ => 0))), .inl (cJ, 0, .inr (.inl (fun _ => 0))), .inl (cJ, 0, .inr (.inl (fun _ => 0))), .inl (cJ, 0, .inr (.inl (fun _ => 0))), .inl (cJ, 0, .inr (.inl (fun _ => 0))), .inl (cJ, 0, .inr (.inl (fun _ => 0))), .inl (cJ, 0, .inr (.inl (fun _ => 0))), .inl (cJ, 0, .inr (.inl (fun _ => 0))), .inl (cJ, 0, .inr (.inl (fun _ => 0))), .inl (cJ, 0, .inr (.inl (fun _ => 0))), .inl (cJ, 0, .inr (.inl (fun _ => 0))), .inl (cJ, 0, .inr (.inl (fun _ => 0))), .inl (cJ, 0, .inr (.inl (fun _ => 0))), .inl (cJ, 0, .inr (.inl (fun _ => 0))), .inl (cJ, 0, .inr (.inl (fun _ => 0))), .inl (cJ, 0, .inr (.inl (fun _ => 0))), .inl (cJ, 0, .inr (.inl (fun _ => 0))), .inl (cJ, 0, .inr (.inl (fun _ => 0))), .inl (cJ, 0, .inr (.inl (fun _ => 0))), .inl (cJ, 0, .inr (.inl (fun _ => 0))), .inl (cJ, 0, .inr (.inl (fun _ => 0))), .inl (cJ, 0, .inr (.inl (fun _ => 0))), .inl (cJ, 0, .inr (.inl (fun _ => 0))), .inl (cJ, 0, .inr (.inl (fun _ => 0))), .inl (cJ, 0, .inr (.inl (fun _ => 0))), .inl (cJ, 0, .inr (.inl (fun _ => 0))), .inl (cJ, 0, .inr (.inl (fun _ => 0))), .inl (cJ, 0, .inr (.inl (fun _ => 0))), .inl (cJ, 7200, .inr (.inl (fun _ => 0)))] : List va_E) = (List.range 44).map (fun i => ccv cI cJ cZ cMic cSrc cSt cAI cAJ b (fs_X0 i) (fviR (fo_X0 i)) (fun _ => 0) (fun k => (fv_X0 i).getD k none)) := (lc rfl (lc rfl (lc (congrArg (fun x => (Sum.inl (cAJ, 40, Sum.inr (Sum.inr (Sum.inr (Sum.inr x)))) : va_E)) (fl_up b 0 43 (by decide) (fl_ite b 40 3)).symm) (lc rfl (lc rfl (lc rfl (lc rfl (lc rfl (lc rfl (lc rfl (lc rfl (lc rfl (lc rfl (lc rfl (lc rfl (lc rfl (lc rfl (lc rfl (lc rfl (lc rfl (lc rfl (lc rfl (lc rfl (lc rfl (lc rfl (lc rfl (lc rfl (lc rfl (lc rfl (lc rfl (lc rfl (lc rfl (lc rfl (lc rfl (lc rfl (lc rfl (lc rfl (lc rfl (lc rfl (lc rfl (lc rfl (lc rfl (lc rfl (lc rfl rfl))))))))))))))))))))))))))))))))))))))))))))
  exact (congrArg (fun l => List.getD l i (.inr (0, []))) h).trans (fr_getD hi)
def fs_X4 : Nat → Nat × Nat := fun i => ([(4, 0), (10, 0), (107, 40), (101, 0), (101, 0), (101, 0), (101, 0), (101, 0), (101, 0), (101, 0), (101, 0), (101, 0), (101, 0), (101, 0), (101, 0), (101, 0), (101, 0), (101, 0), (101, 0), (101, 0), (101, 0), (101, 0), (101, 0), (101, 0), (101, 0), (101, 0), (101, 0), (101, 0), (101, 0), (101, 0), (101, 0), (101, 0), (101, 0), (101, 0), (101, 0), (101, 0), (101, 0), (101, 0), (101, 0), (101, 0), (101, 0), (101, 0), (101, 0), (101, 144), (100, 144), (10, 0), (107, 40), (101, 0), (101, 0), (101, 0), (101, 0), (101, 0), (101, 0), (101, 0), (101, 0), (101, 0), (101, 0), (101, 0), (101, 0), (101, 0), (101, 0), (101, 0), (101, 0), (101, 0), (101, 0), (101, 0), (101, 0), (101, 0), (101, 0), (101, 0), (101, 0), (101, 0), (101, 0), (101, 0), (101, 0), (101, 0), (101, 0), (101, 0), (101, 0), (101, 0), (101, 0), (101, 0), (101, 0), (101, 0), (101, 0), (101, 0), (101, 0), (101, 144)] : List (Nat × Nat)).getD i (0, 0)
def fo_X4 : Nat → Nat := fun i => ([4, 103, 113, 30, 30, 30, 30, 30, 30, 30, 30, 30, 30, 30, 30, 30, 30, 30, 30, 30, 30, 30, 30, 30, 30, 30, 30, 30, 30, 30, 30, 30, 30, 30, 30, 30, 30, 30, 30, 30, 30, 30, 30, 30, 67, 103, 113, 30, 30, 30, 30, 30, 30, 30, 30, 30, 30, 30, 30, 30, 30, 30, 30, 30, 30, 30, 30, 30, 30, 30, 30, 30, 30, 30, 30, 30, 30, 30, 30, 30, 30, 30, 30, 30, 30, 30, 30, 30] : List Nat).getD i 30
def fv_X4 : Nat → List (Option Nat) := fun i => ([[none, some 1, none, none, some 44, some 45], [none, some 2, none], (((List.range 40).map (fun i => some (3 + i))).set 0 (some 43)), [], [], [], [], [], [], [], [], [], [], [], [], [], [], [], [], [], [], [], [], [], [], [], [], [], [], [], [], [], [], [], [], [], [], [], [], [], [], [], [], [], [], [none, some 46, none], (((List.range 40).map (fun i => some (47 + i))).set 0 (some 87)), [], [], [], [], [], [], [], [], [], [], [], [], [], [], [], [], [], [], [], [], [], [], [], [], [], [], [], [], [], [], [], [], [], [], [], [], [], [], [], [], []] : List (List (Option Nat))).getD i []
set_option maxHeartbeats 4000000 in
set_option maxRecDepth 100000 in
theorem fk_X4 {cI cJ cZ cMic cSrc cSt cAI cAJ : ClassId} (b : Nat → Nat) {i : Nat} (hi : i < 88) : iX4 cI cJ cZ cMic cSrc cSt cAI cAJ b i = ccv cI cJ cZ cMic cSrc cSt cAI cAJ b (fs_X4 i) (fviR (fo_X4 i)) (fun _ => 0) (fun k => (fv_X4 i).getD k none) := by
  have h : ([.inr (4, [.int 0, .ref (b 1), .int 0, .int 0, .ref (b 44), .ref (b 45)]), .inr (10, [.int 144, .ref (b 2), .int 1]), .inl (cAJ, 40, .inr (.inr (.inr (.inr (va_up (fun i => if i < 40 then some (b (3 + i)) else none) 0 (some (b 43))))))), .inl (cJ, 0, .inr (.inl (fun _ => 0))), .inl (cJ, 0, .inr (.inl (fun _ => 0))), .inl (cJ, 0, .inr (.inl (fun _ => 0))), .inl (cJ, 0, .inr (.inl (fun _ => 0))), .inl (cJ, 0, .inr (.inl (fun _ => 0))), .inl (cJ, 0, .inr (.inl (fun _ => 0))), .inl (cJ, 0, .inr (.inl (fun _ => 0))), .inl (cJ, 0, .inr (.inl (fun _ => 0))), .inl (cJ, 0, .inr (.inl (fun _ => 0))), .inl (cJ, 0, .inr (.inl (fun _ => 0))), .inl (cJ, 0, .inr (.inl (fun _ => 0))), .inl (cJ, 0, .inr (.inl (fun _ => 0))), .inl (cJ, 0, .inr (.inl (fun _ => 0))), .inl (cJ, 0, .inr (.inl (fun _ => 0))), .inl (cJ, 0, .inr (.inl (fun _ => 0))), .inl (cJ, 0, .inr (.inl (fun _ => 0))), .inl (cJ, 0, .inr (.inl (fun _ => 0))), .inl (cJ, 0, .inr (.inl (fun _ => 0))), .inl (cJ, 0, .inr (.inl (fun _ => 0))), .inl (cJ, 0, .inr (.inl (fun _ => 0))), .inl (cJ, 0, .inr (.inl (fun _ => 0))), .inl (cJ, 0, .inr (.inl (fun _ => 0))), .inl (cJ, 0, .inr (.inl (fun _ => 0))), .inl (cJ, 0, .inr (.inl (fun _ => 0))), .inl (cJ, 0, .inr (.inl (fun _ => 0))), .inl (cJ, 0, .inr (.inl (fun _ => 0))), .inl (cJ, 0, .inr (.inl (fun _ => 0))), .inl (cJ, 0, .inr (.inl (fun _ => 0))), .inl (cJ, 0, .inr (.inl (fun _ => 0))), .inl (cJ, 0, .inr (.inl (fun _ => 0))), .inl (cJ, 0, .inr (.inl (fun _ => 0))), .inl (cJ, 0, .inr (.inl (fun _ => 0))), .inl (cJ, 0, .inr (.inl (fun _ => 0))), .inl (cJ, 0, .inr (.inl (fun _ => 0))), .inl (cJ, 0, .inr (.inl (fun _ => 0))), .inl (cJ, 0, .inr (.inl (fun _ => 0))), .inl (cJ, 0, .inr (.inl (fun _ => 0))), .inl (cJ, 0, .inr (.inl (fun _ => 0))), .inl (cJ, 0, .inr (.inl (fun _ => 0))), .inl (cJ, 0, .inr (.inl (fun _ => 0))), .inl (cJ, 144, .inr (.inl (fun _ => 0))), .inl (cI, 144, .inl (fun _ => 0)), .inr (10, [.int 144, .ref (b 46), .int 1]), .inl (cAJ, 40, .inr (.inr (.inr (.inr (va_up (fun i => if i < 40 then some (b (47 + i)) else none) 0 (some (b 87))))))), .inl (cJ, 0, .inr (.inl (fun _ => 0))), .inl (cJ, 0, .inr (.inl (fun _ => 0))), .inl (cJ, 0, .inr (.inl (fun _ => 0))), .inl (cJ, 0, .inr (.inl (fun _ => 0))), .inl (cJ, 0, .inr (.inl (fun _ => 0))), .inl (cJ, 0, .inr (.inl (fun _ => 0))), .inl (cJ, 0, .inr (.inl (fun _ => 0))), .inl (cJ, 0, .inr (.inl (fun _ => 0))), .inl (cJ, 0, .inr (.inl (fun _ => 0))), .inl (cJ, 0, .inr (.inl (fun _ => 0))), .inl (cJ, 0, .inr (.inl (fun _ => 0))), .inl (cJ, 0, .inr (.inl (fun _ => 0))), .inl (cJ, 0, .inr (.inl (fun _ => 0))), .inl (cJ, 0, .inr (.inl (fun _ => 0))), .inl (cJ, 0, .inr (.inl (fun _ => 0))), .inl (cJ, 0, .inr (.inl (fun _ => 0))), .inl (cJ, 0, .inr (.inl (fun _ => 0))), .inl (cJ, 0, .inr (.inl (fun _ => 0))), .inl (cJ, 0, .inr (.inl (fun _ => 0))), .inl (cJ, 0, .inr (.inl (fun _ => 0))), .inl (cJ, 0, .inr (.inl (fun _ => 0))), .inl (cJ, 0, .inr (.inl (fun _ => 0))), .inl (cJ, 0, .inr (.inl (fun _ => 0))), .inl (cJ, 0, .inr (.inl (fun _ => 0))), .inl (cJ, 0, .inr (.inl (fun _ => 0))), .inl (cJ, 0, .inr (.inl (fun _ => 0))), .inl (cJ, 0, .inr (.inl (fun _ => 0))), .inl (cJ, 0, .inr (.inl (fun _ => 0))), .inl (cJ, 0, .inr (.inl (fun _ => 0))), .inl (cJ, 0, .inr (.inl (fun _ => 0))), .inl (cJ, 0, .inr (.inl (fun _ => 0))), .inl (cJ, 0, .inr (.inl (fun _ => 0))), .inl (cJ, 0, .inr (.inl (fun _ => 0))), .inl (cJ, 0, .inr (.inl (fun _ => 0))), .inl (cJ, 0, .inr (.inl (fun _ => 0))), .inl (cJ, 0, .inr (.inl (fun _ => 0))), .inl (cJ, 0, .inr (.inl (fun _ => 0))), .inl (cJ, 0, .inr (.inl (fun _ => 0))), .inl (cJ, 0, .inr (.inl (fun _ => 0))), .inl (cJ, 0, .inr (.inl (fun _ => 0))), .inl (cJ, 144, .inr (.inl (fun _ => 0)))] : List va_E) = (List.range 88).map (fun i => ccv cI cJ cZ cMic cSrc cSt cAI cAJ b (fs_X4 i) (fviR (fo_X4 i)) (fun _ => 0) (fun k => (fv_X4 i).getD k none)) := (lc rfl (lc rfl (lc (congrArg (fun x => (Sum.inl (cAJ, 40, Sum.inr (Sum.inr (Sum.inr (Sum.inr x)))) : va_E)) (fl_up b 0 43 (by decide) (fl_ite b 40 3)).symm) (lc rfl (lc rfl (lc rfl (lc rfl (lc rfl (lc rfl (lc rfl (lc rfl (lc rfl (lc rfl (lc rfl (lc rfl (lc rfl (lc rfl (lc rfl (lc rfl (lc rfl (lc rfl (lc rfl (lc rfl (lc rfl (lc rfl (lc rfl (lc rfl (lc rfl (lc rfl (lc rfl (lc rfl (lc rfl (lc rfl (lc rfl (lc rfl (lc rfl (lc rfl (lc rfl (lc rfl (lc rfl (lc rfl (lc rfl (lc rfl (lc rfl (lc rfl (lc rfl (lc (congrArg (fun x => (Sum.inl (cAJ, 40, Sum.inr (Sum.inr (Sum.inr (Sum.inr x)))) : va_E)) (fl_up b 0 87 (by decide) (fl_ite b 40 47)).symm) (lc rfl (lc rfl (lc rfl (lc rfl (lc rfl (lc rfl (lc rfl (lc rfl (lc rfl (lc rfl (lc rfl (lc rfl (lc rfl (lc rfl (lc rfl (lc rfl (lc rfl (lc rfl (lc rfl (lc rfl (lc rfl (lc rfl (lc rfl (lc rfl (lc rfl (lc rfl (lc rfl (lc rfl (lc rfl (lc rfl (lc rfl (lc rfl (lc rfl (lc rfl (lc rfl (lc rfl (lc rfl (lc rfl (lc rfl (lc rfl (lc rfl rfl))))))))))))))))))))))))))))))))))))))))))))))))))))))))))))))))))))))))))))))))))))))))
  exact (congrArg (fun l => List.getD l i (.inr (0, []))) h).trans (fr_getD hi)
def fs_X8 : Nat → Nat × Nat := fun i => ([(8, 0), (102, 12), (100, 12), (102, 6), (100, 6), (100, 6), (100, 6), (100, 6), (10, 0), (107, 40), (101, 0), (101, 0), (101, 0), (101, 0), (101, 0), (101, 0), (101, 0), (101, 0), (101, 0), (101, 0), (101, 0), (101, 0), (101, 0), (101, 0), (101, 0), (101, 0), (101, 0), (101, 0), (101, 0), (101, 0), (101, 0), (101, 0), (101, 0), (101, 0), (101, 0), (101, 0), (101, 0), (101, 0), (101, 0), (101, 0), (101, 0), (101, 0), (101, 0), (101, 0), (101, 0), (101, 0), (101, 0), (101, 0), (101, 0), (101, 0), (101, 2400), (10, 0), (107, 40), (101, 0), (101, 0), (101, 0), (101, 0), (101, 0), (101, 0), (101, 0), (101, 0), (101, 0), (101, 0), (101, 0), (101, 0), (101, 0), (101, 0), (101, 0), (101, 0), (101, 0), (101, 0), (101, 0), (101, 0), (101, 0), (101, 0), (101, 0), (101, 0), (101, 0), (101, 0), (101, 0), (101, 0), (101, 0), (101, 0), (101, 0), (101, 0), (101, 0), (101, 0), (101, 0), (101, 0), (101, 0), (101, 0), (101, 0), (101, 0), (101, 1)] : List (Nat × Nat)).getD i (0, 0)
def fo_X8 : Nat → Nat := fun i => ([8, 62, 63, 64, 65, 65, 66, 66, 104, 114, 30, 30, 30, 30, 30, 30, 30, 30, 30, 30, 30, 30, 30, 30, 30, 30, 30, 30, 30, 30, 30, 30, 30, 30, 30, 30, 30, 30, 30, 30, 30, 30, 30, 30, 30, 30, 30, 30, 30, 30, 30, 101, 111, 30, 30, 30, 30, 30, 30, 30, 30, 30, 30, 30, 30, 30, 30, 30, 30, 30, 30, 30, 30, 30, 30, 30, 30, 30, 30, 30, 30, 30, 30, 30, 30, 30, 30, 30, 30, 30, 30, 30, 30, 30] : List Nat).getD i 30
def fv_X8 : Nat → List (Option Nat) := fun i => ([[none, none, none, some 1, some 2, some 3, some 4, some 5, some 6, some 7, some 8, some 51], [], [], [], [], [], [], [], [none, some 9, none], (((List.range 40).map (fun i => some (10 + i))).set 0 (some 50)), [], [], [], [], [], [], [], [], [], [], [], [], [], [], [], [], [], [], [], [], [], [], [], [], [], [], [], [], [], [], [], [], [], [], [], [], [], [], [], [], [], [none, some 52, none], (((List.range 40).map (fun i => some (53 + i))).set 0 (some 93)), [], [], [], [], [], [], [], [], [], [], [], [], [], [], [], [], [], [], [], [], [], [], [], [], [], [], [], [], [], [], [], [], [], [], [], [], [], [], [], [], []] : List (List (Option Nat))).getD i []
set_option maxHeartbeats 4000000 in
set_option maxRecDepth 100000 in
theorem fk_X8 {cI cJ cZ cMic cSrc cSt cAI cAJ : ClassId} (b : Nat → Nat) {i : Nat} (hi : i < 94) : iX8 cI cJ cZ cMic cSrc cSt cAI cAJ b i = ccv cI cJ cZ cMic cSrc cSt cAI cAJ b (fs_X8 i) (fviR (fo_X8 i)) (fun _ => 0) (fun k => (fv_X8 i).getD k none) := by
  have h : ([.inr (8, [.int 0, .int 0, .int 0, .ref (b 1), .ref (b 2), .ref (b 3), .ref (b 4), .ref (b 5), .ref (b 6), .ref (b 7), .ref (b 8), .ref (b 51)]), .inl (cZ, 12, .inl (fun _ => 0)), .inl (cI, 12, .inl (fun _ => 0)), .inl (cZ, 6, .inl (fun _ => 0)), .inl (cI, 6, .inl (fun _ => 0)), .inl (cI, 6, .inl (fun _ => 0)), .inl (cI, 6, .inl (fun _ => 0)), .inl (cI, 6, .inl (fun _ => 0)), .inr (10, [.int 2400, .ref (b 9), .int 1]), .inl (cAJ, 40, .inr (.inr (.inr (.inr (va_up (fun i => if i < 40 then some (b (10 + i)) else none) 0 (some (b 50))))))), .inl (cJ, 0, .inr (.inl (fun _ => 0))), .inl (cJ, 0, .inr (.inl (fun _ => 0))), .inl (cJ, 0, .inr (.inl (fun _ => 0))), .inl (cJ, 0, .inr (.inl (fun _ => 0))), .inl (cJ, 0, .inr (.inl (fun _ => 0))), .inl (cJ, 0, .inr (.inl (fun _ => 0))), .inl (cJ, 0, .inr (.inl (fun _ => 0))), .inl (cJ, 0, .inr (.inl (fun _ => 0))), .inl (cJ, 0, .inr (.inl (fun _ => 0))), .inl (cJ, 0, .inr (.inl (fun _ => 0))), .inl (cJ, 0, .inr (.inl (fun _ => 0))), .inl (cJ, 0, .inr (.inl (fun _ => 0))), .inl (cJ, 0, .inr (.inl (fun _ => 0))), .inl (cJ, 0, .inr (.inl (fun _ => 0))), .inl (cJ, 0, .inr (.inl (fun _ => 0))), .inl (cJ, 0, .inr (.inl (fun _ => 0))), .inl (cJ, 0, .inr (.inl (fun _ => 0))), .inl (cJ, 0, .inr (.inl (fun _ => 0))), .inl (cJ, 0, .inr (.inl (fun _ => 0))), .inl (cJ, 0, .inr (.inl (fun _ => 0))), .inl (cJ, 0, .inr (.inl (fun _ => 0))), .inl (cJ, 0, .inr (.inl (fun _ => 0))), .inl (cJ, 0, .inr (.inl (fun _ => 0))), .inl (cJ, 0, .inr (.inl (fun _ => 0))), .inl (cJ, 0, .inr (.inl (fun _ => 0))), .inl (cJ, 0, .inr (.inl (fun _ => 0))), .inl (cJ, 0, .inr (.inl (fun _ => 0))), .inl (cJ, 0, .inr (.inl (fun _ => 0))), .inl (cJ, 0, .inr (.inl (fun _ => 0))), .inl (cJ, 0, .inr (.inl (fun _ => 0))), .inl (cJ, 0, .inr (.inl (fun _ => 0))), .inl (cJ, 0, .inr (.inl (fun _ => 0))), .inl (cJ, 0, .inr (.inl (fun _ => 0))), .inl (cJ, 0, .inr (.inl (fun _ => 0))), .inl (cJ, 0, .inr (.inl (fun _ => 0))), .inl (cJ, 0, .inr (.inl (fun _ => 0))), .inl (cJ, 0, .inr (.inl (fun _ => 0))), .inl (cJ, 0, .inr (.inl (fun _ => 0))), .inl (cJ, 0, .inr (.inl (fun _ => 0))), .inl (cJ, 0, .inr (.inl (fun _ => 0))), .inl (cJ, 2400, .inr (.inl (fun _ => 0))), .inr (10, [.int 1, .ref (b 52), .int 1]), .inl (cAJ, 40, .inr (.inr (.inr (.inr (va_up (fun i => if i < 40 then some (b (53 + i)) else none) 0 (some (b 93))))))), .inl (cJ, 0, .inr (.inl (fun _ => 0))), .inl (cJ, 0, .inr (.inl (fun _ => 0))), .inl (cJ, 0, .inr (.inl (fun _ => 0))), .inl (cJ, 0, .inr (.inl (fun _ => 0))), .inl (cJ, 0, .inr (.inl (fun _ => 0))), .inl (cJ, 0, .inr (.inl (fun _ => 0))), .inl (cJ, 0, .inr (.inl (fun _ => 0))), .inl (cJ, 0, .inr (.inl (fun _ => 0))), .inl (cJ, 0, .inr (.inl (fun _ => 0))), .inl (cJ, 0, .inr (.inl (fun _ => 0))), .inl (cJ, 0, .inr (.inl (fun _ => 0))), .inl (cJ, 0, .inr (.inl (fun _ => 0))), .inl (cJ, 0, .inr (.inl (fun _ => 0))), .inl (cJ, 0, .inr (.inl (fun _ => 0))), .inl (cJ, 0, .inr (.inl (fun _ => 0))), .inl (cJ, 0, .inr (.inl (fun _ => 0))), .inl (cJ, 0, .inr (.inl (fun _ => 0))), .inl (cJ, 0, .inr (.inl (fun _ => 0))), .inl (cJ, 0, .inr (.inl (fun _ => 0))), .inl (cJ, 0, .inr (.inl (fun _ => 0))), .inl (cJ, 0, .inr (.inl (fun _ => 0))), .inl (cJ, 0, .inr (.inl (fun _ => 0))), .inl (cJ, 0, .inr (.inl (fun _ => 0))), .inl (cJ, 0, .inr (.inl (fun _ => 0))), .inl (cJ, 0, .inr (.inl (fun _ => 0))), .inl (cJ, 0, .inr (.inl (fun _ => 0))), .inl (cJ, 0, .inr (.inl (fun _ => 0))), .inl (cJ, 0, .inr (.inl (fun _ => 0))), .inl (cJ, 0, .inr (.inl (fun _ => 0))), .inl (cJ, 0, .inr (.inl (fun _ => 0))), .inl (cJ, 0, .inr (.inl (fun _ => 0))), .inl (cJ, 0, .inr (.inl (fun _ => 0))), .inl (cJ, 0, .inr (.inl (fun _ => 0))), .inl (cJ, 0, .inr (.inl (fun _ => 0))), .inl (cJ, 0, .inr (.inl (fun _ => 0))), .inl (cJ, 0, .inr (.inl (fun _ => 0))), .inl (cJ, 0, .inr (.inl (fun _ => 0))), .inl (cJ, 0, .inr (.inl (fun _ => 0))), .inl (cJ, 0, .inr (.inl (fun _ => 0))), .inl (cJ, 0, .inr (.inl (fun _ => 0))), .inl (cJ, 1, .inr (.inl (fun _ => 0)))] : List va_E) = (List.range 94).map (fun i => ccv cI cJ cZ cMic cSrc cSt cAI cAJ b (fs_X8 i) (fviR (fo_X8 i)) (fun _ => 0) (fun k => (fv_X8 i).getD k none)) := (lc rfl (lc rfl (lc rfl (lc rfl (lc rfl (lc rfl (lc rfl (lc rfl (lc rfl (lc (congrArg (fun x => (Sum.inl (cAJ, 40, Sum.inr (Sum.inr (Sum.inr (Sum.inr x)))) : va_E)) (fl_up b 0 50 (by decide) (fl_ite b 40 10)).symm) (lc rfl (lc rfl (lc rfl (lc rfl (lc rfl (lc rfl (lc rfl (lc rfl (lc rfl (lc rfl (lc rfl (lc rfl (lc rfl (lc rfl (lc rfl (lc rfl (lc rfl (lc rfl (lc rfl (lc rfl (lc rfl (lc rfl (lc rfl (lc rfl (lc rfl (lc rfl (lc rfl (lc rfl (lc rfl (lc rfl (lc rfl (lc rfl (lc rfl (lc rfl (lc rfl (lc rfl (lc rfl (lc rfl (lc rfl (lc rfl (lc rfl (lc rfl (lc (congrArg (fun x => (Sum.inl (cAJ, 40, Sum.inr (Sum.inr (Sum.inr (Sum.inr x)))) : va_E)) (fl_up b 0 93 (by decide) (fl_ite b 40 53)).symm) (lc rfl (lc rfl (lc rfl (lc rfl (lc rfl (lc rfl (lc rfl (lc rfl (lc rfl (lc rfl (lc rfl (lc rfl (lc rfl (lc rfl (lc rfl (lc rfl (lc rfl (lc rfl (lc rfl (lc rfl (lc rfl (lc rfl (lc rfl (lc rfl (lc rfl (lc rfl (lc rfl (lc rfl (lc rfl (lc rfl (lc rfl (lc rfl (lc rfl (lc rfl (lc rfl (lc rfl (lc rfl (lc rfl (lc rfl (lc rfl (lc rfl rfl))))))))))))))))))))))))))))))))))))))))))))))))))))))))))))))))))))))))))))))))))))))))))))))
  exact (congrArg (fun l => List.getD l i (.inr (0, []))) h).trans (fr_getD hi)
def fs_X10_12 : Nat → Nat × Nat := fun i => ([(10, 0), (107, 40), (101, 0), (101, 0), (101, 0), (101, 0), (101, 0), (101, 0), (101, 0), (101, 0), (101, 0), (101, 0), (101, 0), (101, 0), (101, 0), (101, 0), (101, 0), (101, 0), (101, 0), (101, 0), (101, 0), (101, 0), (101, 0), (101, 0), (101, 0), (101, 0), (101, 0), (101, 0), (101, 0), (101, 0), (101, 0), (101, 0), (101, 0), (101, 0), (101, 0), (101, 0), (101, 0), (101, 0), (101, 0), (101, 0), (101, 0), (101, 0), (101, 12)] : List (Nat × Nat)).getD i (0, 0)
def fo_X10_12 : Nat → Nat := fun i => ([102, 112, 30, 30, 30, 30, 30, 30, 30, 30, 30, 30, 30, 30, 30, 30, 30, 30, 30, 30, 30, 30, 30, 30, 30, 30, 30, 30, 30, 30, 30, 30, 30, 30, 30, 30, 30, 30, 30, 30, 30, 30, 30] : List Nat).getD i 30
def fv_X10_12 : Nat → List (Option Nat) := fun i => ([[none, some 1, none], (((List.range 40).map (fun i => some (2 + i))).set 0 (some 42)), [], [], [], [], [], [], [], [], [], [], [], [], [], [], [], [], [], [], [], [], [], [], [], [], [], [], [], [], [], [], [], [], [], [], [], [], [], [], [], [], []] : List (List (Option Nat))).getD i []
set_option maxHeartbeats 4000000 in
set_option maxRecDepth 100000 in
theorem fk_X10_12 {cI cJ cZ cMic cSrc cSt cAI cAJ : ClassId} (b : Nat → Nat) {i : Nat} (hi : i < 43) : iX10_12 cI cJ cZ cMic cSrc cSt cAI cAJ b i = ccv cI cJ cZ cMic cSrc cSt cAI cAJ b (fs_X10_12 i) (fviR (fo_X10_12 i)) (fun _ => 0) (fun k => (fv_X10_12 i).getD k none) := by
  have h : ([.inr (10, [.int 12, .ref (b 1), .int 1]), .inl (cAJ, 40, .inr (.inr (.inr (.inr (va_up (fun i => if i < 40 then some (b (2 + i)) else none) 0 (some (b 42))))))), .inl (cJ, 0, .inr (.inl (fun _ => 0))), .inl (cJ, 0, .inr (.inl (fun _ => 0))), .inl (cJ, 0, .inr (.inl (fun _ => 0))), .inl (cJ, 0, .inr (.inl (fun _ => 0))), .inl (cJ, 0, .inr (.inl (fun _ => 0))), .inl (cJ, 0, .inr (.inl (fun _ => 0))), .inl (cJ, 0, .inr (.inl (fun _ => 0))), .inl (cJ, 0, .inr (.inl (fun _ => 0))), .inl (cJ, 0, .inr (.inl (fun _ => 0))), .inl (cJ, 0, .inr (.inl (fun _ => 0))), .inl (cJ, 0, .inr (.inl (fun _ => 0))), .inl (cJ, 0, .inr (.inl (fun _ => 0))), .inl (cJ, 0, .inr (.inl (fun _ => 0))), .inl (cJ, 0, .inr (.inl (fun _ => 0))), .inl (cJ, 0, .inr (.inl (fun _ => 0))), .inl (cJ, 0, .inr (.inl (fun _ => 0))), .inl (cJ, 0, .inr (.inl (fun _ => 0))), .inl (cJ, 0, .inr (.inl (fun _ => 0))), .inl (cJ, 0, .inr (.inl (fun _ => 0))), .inl (cJ, 0, .inr (.inl (fun _ => 0))), .inl (cJ, 0, .inr (.inl (fun _ => 0))), .inl (cJ, 0, .inr (.inl (fun _ => 0))), .inl (cJ, 0, .inr (.inl (fun _ => 0))), .inl (cJ, 0, .inr (.inl (fun _ => 0))), .inl (cJ, 0, .inr (.inl (fun _ => 0))), .inl (cJ, 0, .inr (.inl (fun _ => 0))), .inl (cJ, 0, .inr (.inl (fun _ => 0))), .inl (cJ, 0, .inr (.inl (fun _ => 0))), .inl (cJ, 0, .inr (.inl (fun _ => 0))), .inl (cJ, 0, .inr (.inl (fun _ => 0))), .inl (cJ, 0, .inr (.inl (fun _ => 0))), .inl (cJ, 0, .inr (.inl (fun _ => 0))), .inl (cJ, 0, .inr (.inl (fun _ => 0))), .inl (cJ, 0, .inr (.inl (fun _ => 0))), .inl (cJ, 0, .inr (.inl (fun _ => 0))), .inl (cJ, 0, .inr (.inl (fun _ => 0))), .inl (cJ, 0, .inr (.inl (fun _ => 0))), .inl (cJ, 0, .inr (.inl (fun _ => 0))), .inl (cJ, 0, .inr (.inl (fun _ => 0))), .inl (cJ, 0, .inr (.inl (fun _ => 0))), .inl (cJ, 12, .inr (.inl (fun _ => 0)))] : List va_E) = (List.range 43).map (fun i => ccv cI cJ cZ cMic cSrc cSt cAI cAJ b (fs_X10_12 i) (fviR (fo_X10_12 i)) (fun _ => 0) (fun k => (fv_X10_12 i).getD k none)) := (lc rfl (lc (congrArg (fun x => (Sum.inl (cAJ, 40, Sum.inr (Sum.inr (Sum.inr (Sum.inr x)))) : va_E)) (fl_up b 0 42 (by decide) (fl_ite b 40 2)).symm) (lc rfl (lc rfl (lc rfl (lc rfl (lc rfl (lc rfl (lc rfl (lc rfl (lc rfl (lc rfl (lc rfl (lc rfl (lc rfl (lc rfl (lc rfl (lc rfl (lc rfl (lc rfl (lc rfl (lc rfl (lc rfl (lc rfl (lc rfl (lc rfl (lc rfl (lc rfl (lc rfl (lc rfl (lc rfl (lc rfl (lc rfl (lc rfl (lc rfl (lc rfl (lc rfl (lc rfl (lc rfl (lc rfl (lc rfl (lc rfl (lc rfl rfl)))))))))))))))))))))))))))))))))))))))))))
  exact (congrArg (fun l => List.getD l i (.inr (0, []))) h).trans (fr_getD hi)
def fs_X6 : Nat → Nat × Nat := fun i => ([(6, 0), (103, 12), (1, 0), (100, 4), (106, 4), (100, 4), (100, 4), (100, 4), (100, 4), (100, 4), (104, 6), (100, 2), (100, 2), (100, 5), (100, 12), (106, 144), (100, 12), (100, 12), (100, 12), (100, 12), (100, 12), (100, 12), (100, 12), (100, 12), (100, 12), (100, 12), (100, 12), (100, 12), (100, 12), (100, 12), (100, 12), (100, 12), (100, 12), (100, 12), (100, 12), (100, 12), (100, 12), (100, 12), (100, 12), (100, 12), (100, 12), (100, 12), (100, 12), (100, 12), (100, 12), (100, 12), (100, 12), (100, 12), (100, 12), (100, 12), (100, 12), (100, 12), (100, 12), (100, 12), (100, 12), (100, 12), (100, 12), (100, 12), (100, 12), (100, 12), (100, 12), (100, 12), (100, 12), (100, 12), (100, 12), (100, 12), (100, 12), (100, 12), (100, 12), (100, 12), (100, 12), (100, 12), (100, 12), (100, 12), (100, 12), (100, 12), (100, 12), (100, 12), (100, 12), (100, 12), (100, 12), (100, 12), (100, 12), (100, 12), (100, 12), (100, 12), (100, 12), (100, 12), (100, 12), (100, 12), (100, 12), (100, 12), (100, 12), (100, 12), (100, 12), (100, 12), (100, 12), (100, 12), (100, 12), (100, 12), (100, 12), (100, 12), (100, 12), (100, 12), (100, 12), (100, 12), (100, 12), (100, 12), (100, 12), (100, 12), (100, 12), (100, 12), (100, 12), (100, 12), (100, 12), (100, 12), (100, 12), (100, 12), (100, 12), (100, 12), (100, 12), (100, 12), (100, 12), (100, 12), (100, 12), (100, 12), (100, 12), (100, 12), (100, 12), (100, 12), (100, 12), (100, 12), (100, 12), (100, 12), (100, 12), (100, 12), (100, 12), (100, 12), (100, 12), (100, 12), (100, 12), (100, 12), (100, 12), (100, 12), (100, 12), (100, 12), (100, 12), (100, 12), (100, 12), (100, 12), (100, 12), (100, 12), (100, 12), (100, 12), (100, 12), (100, 12), (100, 12), (100, 12), (100, 12), (100, 12), (2, 0), (2, 0), (2, 0), (2, 0), (2, 0), (2, 0), (2, 0), (2, 0), (2, 0), (2, 0), (2, 0), (2, 0), (7, 0), (7, 0), (7, 0), (7, 0), (7, 0), (7, 0)] : List (Nat × Nat)).getD i (0, 0)
def fo_X6 : Nat → Nat := fun i => ([6, 53, 1, 59, 60, 59, 59, 59, 59, 61, 54, 55, 56, 57, 58, 51, 50, 50, 50, 50, 50, 50, 50, 50, 50, 50, 50, 50, 50, 50, 50, 50, 50, 50, 50, 50, 50, 50, 50, 50, 50, 50, 50, 50, 50, 50, 50, 50, 50, 50, 50, 50, 50, 50, 50, 50, 50, 50, 50, 50, 50, 50, 50, 50, 50, 50, 50, 50, 50, 50, 50, 50, 50, 50, 50, 50, 50, 50, 50, 50, 50, 50, 50, 50, 50, 50, 50, 50, 50, 50, 50, 50, 50, 50, 50, 50, 50, 50, 50, 50, 50, 50, 50, 50, 50, 50, 50, 50, 50, 50, 50, 50, 50, 50, 50, 50, 50, 50, 50, 50, 50, 50, 50, 50, 50, 50, 50, 50, 50, 50, 50, 50, 50, 50, 50, 50, 50, 50, 50, 50, 50, 50, 50, 50, 50, 50, 50, 50, 50, 50, 50, 50, 50, 50, 50, 50, 50, 50, 50, 50, 2, 2, 2, 2, 2, 2, 2, 2, 2, 2, 2, 2, 7, 7, 7, 7, 7, 7] : List Nat).getD i 30
def fv_X6 : Nat → List (Option Nat) := fun i => ([[none, none, none, none, some 1, none, some 2, some 10, none, some 11, some 12, none, none, some 13, none, some 14, none, some 15], (((((((((((((List.replicate 12 none).set 0 (some 160)).set 1 (some 161)).set 2 (some 162)).set 3 (some 163)).set 4 (some 164)).set 5 (some 165)).set 6 (some 166)).set 7 (some 167)).set 8 (some 168)).set 9 (some 169)).set 10 (some 170)).set 11 (some 171)), [none, none, none, none, none, some 3, some 4, none, some 9], [], ((List.range 4).map (fun i => some (5 + i))), [], [], [], [], [], (((((((List.replicate 6 none).set 0 (some 172)).set 1 (some 173)).set 2 (some 174)).set 3 (some 175)).set 4 (some 176)).set 5 (some 177)), [], [], [], [], ((List.range 144).map (fun i => some (16 + i))), [], [], [], [], [], [], [], [], [], [], [], [], [], [], [], [], [], [], [], [], [], [], [], [], [], [], [], [], [], [], [], [], [], [], [], [], [], [], [], [], [], [], [], [], [], [], [], [], [], [], [], [], [], [], [], [], [], [], [], [], [], [], [], [], [], [], [], [], [], [], [], [], [], [], [], [], [], [], [], [], [], [], [], [], [], [], [], [], [], [], [], [], [], [], [], [], [], [], [], [], [], [], [], [], [], [], [], [], [], [], [], [], [], [], [], [], [], [], [], [], [], [], [], [], [], [], [], [], [], [], [], [], [], [], [], [], [], [], [], [], [], [], [], [], [none, none, none, none], [none, none, none, none], [none, none, none, none], [none, none, none, none], [none, none, none, none], [none, none, none, none], [none, none, none, none], [none, none, none, none], [none, none, none, none], [none, none, none, none], [none, none, none, none], [none, none, none, none], [none, none, none, none, none, none, none, none, none, none], [none, none, none, none, none, none, none, none, none, none], [none, none, none, none, none, none, none, none, none, none], [none, none, none, none, none, none, none, none, none, none], [none, none, none, none, none, none, none, none, none, none], [none, none, none, none, none, none, none, none, none, none]] : List (List (Option Nat))).getD i []
set_option maxHeartbeats 4000000 in
set_option maxRecDepth 100000 in
theorem fk_X6 {cI cJ cZ cMic cSrc cSt cAI cAJ : ClassId} (b : Nat → Nat) {i : Nat} (hi : i < 178) : iX6 cI cJ cZ cMic cSrc cSt cAI cAJ b i = ccv cI cJ cZ cMic cSrc cSt cAI cAJ b (fs_X6 i) (fviR (fo_X6 i)) (fun _ => 0) (fun k => (fv_X6 i).getD k none) := by
  have h : ([.inr (6, [.int 0, .int 0, .int 0, .int 0, .ref (b 1), .int 0, .ref (b 2), .ref (b 10), .int 0, .ref (b 11), .ref (b 12), .int 0, .int 0, .ref (b 13), .int 0, .ref (b 14), .int 0, .ref (b 15)]), .inl (cMic, 12, .inr (.inr (.inr (.inr (va_up (va_up (va_up (va_up (va_up (va_up (va_up (va_up (va_up (va_up (va_up (va_up (fun _ => none) 0 (some (b 160))) 1 (some (b 161))) 2 (some (b 162))) 3 (some (b 163))) 4 (some (b 164))) 5 (some (b 165))) 6 (some (b 166))) 7 (some (b 167))) 8 (some (b 168))) 9 (some (b 169))) 10 (some (b 170))) 11 (some (b 171))))))), .inr (1, [.int 0, .int 0, .int 0, .int 0, .int 0, .ref (b 3), .ref (b 4), .int 0, .ref (b 9)]), .inl (cI, 4, .inl (fun _ => 0)), .inl (cAI, 4, .inr (.inr (.inr (.inr (fun i => if i < 4 then some (b (5 + i)) else none))))), .inl (cI, 4, .inl (fun _ => 0)), .inl (cI, 4, .inl (fun _ => 0)), .inl (cI, 4, .inl (fun _ => 0)), .inl (cI, 4, .inl (fun _ => 0)), .inl (cI, 4, .inl (fun _ => 0)), .inl (cSrc, 6, .inr (.inr (.inr (.inr (va_up (va_up (va_up (va_up (va_up (va_up (fun _ => none) 0 (some (b 172))) 1 (some (b 173))) 2 (some (b 174))) 3 (some (b 175))) 4 (some (b 176))) 5 (some (b 177))))))), .inl (cI, 2, .inl (fun _ => 0)), .inl (cI, 2, .inl (fun _ => 0)), .inl (cI, 5, .inl (fun _ => 0)), .inl (cI, 12, .inl (fun _ => 0)), .inl (cAI, 144, .inr (.inr (.inr (.inr (fun i => if i < 144 then some (b (16 + i)) else none))))), .inl (cI, 12, .inl (fun _ => 0)), .inl (cI, 12, .inl (fun _ => 0)), .inl (cI, 12, .inl (fun _ => 0)), .inl (cI, 12, .inl (fun _ => 0)), .inl (cI, 12, .inl (fun _ => 0)), .inl (cI, 12, .inl (fun _ => 0)), .inl (cI, 12, .inl (fun _ => 0)), .inl (cI, 12, .inl (fun _ => 0)), .inl (cI, 12, .inl (fun _ => 0)), .inl (cI, 12, .inl (fun _ => 0)), .inl (cI, 12, .inl (fun _ => 0)), .inl (cI, 12, .inl (fun _ => 0)), .inl (cI, 12, .inl (fun _ => 0)), .inl (cI, 12, .inl (fun _ => 0)), .inl (cI, 12, .inl (fun _ => 0)), .inl (cI, 12, .inl (fun _ => 0)), .inl (cI, 12, .inl (fun _ => 0)), .inl (cI, 12, .inl (fun _ => 0)), .inl (cI, 12, .inl (fun _ => 0)), .inl (cI, 12, .inl (fun _ => 0)), .inl (cI, 12, .inl (fun _ => 0)), .inl (cI, 12, .inl (fun _ => 0)), .inl (cI, 12, .inl (fun _ => 0)), .inl (cI, 12, .inl (fun _ => 0)), .inl (cI, 12, .inl (fun _ => 0)), .inl (cI, 12, .inl (fun _ => 0)), .inl (cI, 12, .inl (fun _ => 0)), .inl (cI, 12, .inl (fun _ => 0)), .inl (cI, 12, .inl (fun _ => 0)), .inl (cI, 12, .inl (fun _ => 0)), .inl (cI, 12, .inl (fun _ => 0)), .inl (cI, 12, .inl (fun _ => 0)), .inl (cI, 12, .inl (fun _ => 0)), .inl (cI, 12, .inl (fun _ => 0)), .inl (cI, 12, .inl (fun _ => 0)), .inl (cI, 12, .inl (fun _ => 0)), .inl (cI, 12, .inl (fun _ => 0)), .inl (cI, 12, .inl (fun _ => 0)), .inl (cI, 12, .inl (fun _ => 0)), .inl (cI, 12, .inl (fun _ => 0)), .inl (cI, 12, .inl (fun _ => 0)), .inl (cI, 12, .inl (fun _ => 0)), .inl (cI, 12, .inl (fun _ => 0)), .inl (cI, 12, .inl (fun _ => 0)), .inl (cI, 12, .inl (fun _ => 0)), .inl (cI, 12, .inl (fun _ => 0)), .inl (cI, 12, .inl (fun _ => 0)), .inl (cI, 12, .inl (fun _ => 0)), .inl (cI, 12, .inl (fun _ => 0)), .inl (cI, 12, .inl (fun _ => 0)), .inl (cI, 12, .inl (fun _ => 0)), .inl (cI, 12, .inl (fun _ => 0)), .inl (cI, 12, .inl (fun _ => 0)), .inl (cI, 12, .inl (fun _ => 0)), .inl (cI, 12, .inl (fun _ => 0)), .inl (cI, 12, .inl (fun _ => 0)), .inl (cI, 12, .inl (fun _ => 0)), .inl (cI, 12, .inl (fun _ => 0)), .inl (cI, 12, .inl (fun _ => 0)), .inl (cI, 12, .inl (fun _ => 0)), .inl (cI, 12, .inl (fun _ => 0)), .inl (cI, 12, .inl (fun _ => 0)), .inl (cI, 12, .inl (fun _ => 0)), .inl (cI, 12, .inl (fun _ => 0)), .inl (cI, 12, .inl (fun _ => 0)), .inl (cI, 12, .inl (fun _ => 0)), .inl (cI, 12, .inl (fun _ => 0)), .inl (cI, 12, .inl (fun _ => 0)), .inl (cI, 12, .inl (fun _ => 0)), .inl (cI, 12, .inl (fun _ => 0)), .inl (cI, 12, .inl (fun _ => 0)), .inl (cI, 12, .inl (fun _ => 0)), .inl (cI, 12, .inl (fun _ => 0)), .inl (cI, 12, .inl (fun _ => 0)), .inl (cI, 12, .inl (fun _ => 0)), .inl (cI, 12, .inl (fun _ => 0)), .inl (cI, 12, .inl (fun _ => 0)), .inl (cI, 12, .inl (fun _ => 0)), .inl (cI, 12, .inl (fun _ => 0)), .inl (cI, 12, .inl (fun _ => 0)), .inl (cI, 12, .inl (fun _ => 0)), .inl (cI, 12, .inl (fun _ => 0)), .inl (cI, 12, .inl (fun _ => 0)), .inl (cI, 12, .inl (fun _ => 0)), .inl (cI, 12, .inl (fun _ => 0)), .inl (cI, 12, .inl (fun _ => 0)), .inl (cI, 12, .inl (fun _ => 0)), .inl (cI, 12, .inl (fun _ => 0)), .inl (cI, 12, .inl (fun _ => 0)), .inl (cI, 12, .inl (fun _ => 0)), .inl (cI, 12, .inl (fun _ => 0)), .inl (cI, 12, .inl (fun _ => 0)), .inl (cI, 12, .inl (fun _ => 0)), .inl (cI, 12, .inl (fun _ => 0)), .inl (cI, 12, .inl (fun _ => 0)), .inl (cI, 12, .inl (fun _ => 0)), .inl (cI, 12, .inl (fun _ => 0)), .inl (cI, 12, .inl (fun _ => 0)), .inl (cI, 12, .inl (fun _ => 0)), .inl (cI, 12, .inl (fun _ => 0)), .inl (cI, 12, .inl (fun _ => 0)), .inl (cI, 12, .inl (fun _ => 0)), .inl (cI, 12, .inl (fun _ => 0)), .inl (cI, 12, .inl (fun _ => 0)), .inl (cI, 12, .inl (fun _ => 0)), .inl (cI, 12, .inl (fun _ => 0)), .inl (cI, 12, .inl (fun _ => 0)), .inl (cI, 12, .inl (fun _ => 0)), .inl (cI, 12, .inl (fun _ => 0)), .inl (cI, 12, .inl (fun _ => 0)), .inl (cI, 12, .inl (fun _ => 0)), .inl (cI, 12, .inl (fun _ => 0)), .inl (cI, 12, .inl (fun _ => 0)), .inl (cI, 12, .inl (fun _ => 0)), .inl (cI, 12, .inl (fun _ => 0)), .inl (cI, 12, .inl (fun _ => 0)), .inl (cI, 12, .inl (fun _ => 0)), .inl (cI, 12, .inl (fun _ => 0)), .inl (cI, 12, .inl (fun _ => 0)), .inl (cI, 12, .inl (fun _ => 0)), .inl (cI, 12, .inl (fun _ => 0)), .inl (cI, 12, .inl (fun _ => 0)), .inl (cI, 12, .inl (fun _ => 0)), .inl (cI, 12, .inl (fun _ => 0)), .inl (cI, 12, .inl (fun _ => 0)), .inl (cI, 12, .inl (fun _ => 0)), .inl (cI, 12, .inl (fun _ => 0)), .inl (cI, 12, .inl (fun _ => 0)), .inl (cI, 12, .inl (fun _ => 0)), .inl (cI, 12, .inl (fun _ => 0)), .inl (cI, 12, .inl (fun _ => 0)), .inl (cI, 12, .inl (fun _ => 0)), .inl (cI, 12, .inl (fun _ => 0)), .inl (cI, 12, .inl (fun _ => 0)), .inl (cI, 12, .inl (fun _ => 0)), .inl (cI, 12, .inl (fun _ => 0)), .inl (cI, 12, .inl (fun _ => 0)), .inl (cI, 12, .inl (fun _ => 0)), .inl (cI, 12, .inl (fun _ => 0)), .inl (cI, 12, .inl (fun _ => 0)), .inl (cI, 12, .inl (fun _ => 0)), .inl (cI, 12, .inl (fun _ => 0)), .inl (cI, 12, .inl (fun _ => 0)), .inl (cI, 12, .inl (fun _ => 0)), .inr (2, [.int 0, .int 0, .int 0, .int 0]), .inr (2, [.int 0, .int 0, .int 0, .int 0]), .inr (2, [.int 0, .int 0, .int 0, .int 0]), .inr (2, [.int 0, .int 0, .int 0, .int 0]), .inr (2, [.int 0, .int 0, .int 0, .int 0]), .inr (2, [.int 0, .int 0, .int 0, .int 0]), .inr (2, [.int 0, .int 0, .int 0, .int 0]), .inr (2, [.int 0, .int 0, .int 0, .int 0]), .inr (2, [.int 0, .int 0, .int 0, .int 0]), .inr (2, [.int 0, .int 0, .int 0, .int 0]), .inr (2, [.int 0, .int 0, .int 0, .int 0]), .inr (2, [.int 0, .int 0, .int 0, .int 0]), .inr (7, [.int 0, .int 0, .int 0, .int 0, .int 0, .int 0, .int 0, .int 0, .int 0, .int 0]), .inr (7, [.int 0, .int 0, .int 0, .int 0, .int 0, .int 0, .int 0, .int 0, .int 0, .int 0]), .inr (7, [.int 0, .int 0, .int 0, .int 0, .int 0, .int 0, .int 0, .int 0, .int 0, .int 0]), .inr (7, [.int 0, .int 0, .int 0, .int 0, .int 0, .int 0, .int 0, .int 0, .int 0, .int 0]), .inr (7, [.int 0, .int 0, .int 0, .int 0, .int 0, .int 0, .int 0, .int 0, .int 0, .int 0]), .inr (7, [.int 0, .int 0, .int 0, .int 0, .int 0, .int 0, .int 0, .int 0, .int 0, .int 0])] : List va_E) = (List.range 178).map (fun i => ccv cI cJ cZ cMic cSrc cSt cAI cAJ b (fs_X6 i) (fviR (fo_X6 i)) (fun _ => 0) (fun k => (fv_X6 i).getD k none)) := (lc rfl (lc (congrArg (fun x => (Sum.inl (cMic, 12, Sum.inr (Sum.inr (Sum.inr (Sum.inr x)))) : va_E)) (fl_up b 11 171 (by decide) (fl_up b 10 170 (by decide) (fl_up b 9 169 (by decide) (fl_up b 8 168 (by decide) (fl_up b 7 167 (by decide) (fl_up b 6 166 (by decide) (fl_up b 5 165 (by decide) (fl_up b 4 164 (by decide) (fl_up b 3 163 (by decide) (fl_up b 2 162 (by decide) (fl_up b 1 161 (by decide) (fl_up b 0 160 (by decide) (fl_none b 12))))))))))))).symm) (lc rfl (lc rfl (lc (congrArg (fun x => (Sum.inl (cAI, 4, Sum.inr (Sum.inr (Sum.inr (Sum.inr x)))) : va_E)) (fl_ite b 4 5).symm) (lc rfl (lc rfl (lc rfl (lc rfl (lc rfl (lc (congrArg (fun x => (Sum.inl (cSrc, 6, Sum.inr (Sum.inr (Sum.inr (Sum.inr x)))) : va_E)) (fl_up b 5 177 (by decide) (fl_up b 4 176 (by decide) (fl_up b 3 175 (by decide) (fl_up b 2 174 (by decide) (fl_up b 1 173 (by decide) (fl_up b 0 172 (by decide) (fl_none b 6))))))).symm) (lc rfl (lc rfl (lc rfl (lc rfl (lc (congrArg (fun x => (Sum.inl (cAI, 144, Sum.inr (Sum.inr (Sum.inr (Sum.inr x)))) : va_E)) (fl_ite b 144 16).symm) (lc rfl (lc rfl (lc rfl (lc rfl (lc rfl (lc rfl (lc rfl (lc rfl (lc rfl (lc rfl (lc rfl (lc rfl (lc rfl (lc rfl (lc rfl (lc rfl (lc rfl (lc rfl (lc rfl (lc rfl (lc rfl (lc rfl (lc rfl (lc rfl (lc rfl (lc rfl (lc rfl (lc rfl (lc rfl (lc rfl (lc rfl (lc rfl (lc rfl (lc rfl (lc rfl (lc rfl (lc rfl (lc rfl (lc rfl (lc rfl (lc rfl (lc rfl (lc rfl (lc rfl (lc rfl (lc rfl (lc rfl (lc rfl (lc rfl (lc rfl (lc rfl (lc rfl (lc rfl (lc rfl (lc rfl (lc rfl (lc rfl (lc rfl (lc rfl (lc rfl (lc rfl (lc rfl (lc rfl (lc rfl (lc rfl (lc rfl (lc rfl (lc rfl (lc rfl (lc rfl (lc rfl (lc rfl (lc rfl (lc rfl (lc rfl (lc rfl (lc rfl (lc rfl (lc rfl (lc rfl (lc rfl (lc rfl (lc rfl (lc rfl (lc rfl (lc rfl (lc rfl (lc rfl (lc rfl (lc rfl (lc rfl (lc rfl (lc rfl (lc rfl (lc rfl (lc rfl (lc rfl (lc rfl (lc rfl (lc rfl (lc rfl (lc rfl (lc rfl (lc rfl (lc rfl (lc rfl (lc rfl (lc rfl (lc rfl (lc rfl (lc rfl (lc rfl (lc rfl (lc rfl (lc rfl (lc rfl (lc rfl (lc rfl (lc rfl (lc rfl (lc rfl (lc rfl (lc rfl (lc rfl (lc rfl (lc rfl (lc rfl (lc rfl (lc rfl (lc rfl (lc rfl (lc rfl (lc rfl (lc rfl (lc rfl (lc rfl (lc rfl (lc rfl (lc rfl (lc rfl (lc rfl (lc rfl (lc rfl (lc rfl (lc rfl (lc rfl (lc rfl (lc rfl (lc rfl (lc rfl (lc rfl (lc rfl (lc rfl (lc rfl (lc rfl (lc rfl (lc rfl (lc rfl (lc rfl (lc rfl (lc rfl (lc rfl rfl))))))))))))))))))))))))))))))))))))))))))))))))))))))))))))))))))))))))))))))))))))))))))))))))))))))))))))))))))))))))))))))))))))))))))))))))))))))))))))))))))))))))))))))))))
  exact (congrArg (fun l => List.getD l i (.inr (0, []))) h).trans (fr_getD hi)
def fs_K7 : Nat → Nat × Nat := fun i => ([(102, 2)] : List (Nat × Nat)).getD i (0, 0)
def fo_K7 : Nat → Nat := fun i => ([49] : List Nat).getD i 30
def fv_K7 : Nat → List (Option Nat) := fun i => ([[]] : List (List (Option Nat))).getD i []
set_option maxHeartbeats 4000000 in
set_option maxRecDepth 100000 in
theorem fk_K7 {cI cJ cZ cMic cSrc cSt cAI cAJ : ClassId} (b : Nat → Nat) {i : Nat} (hi : i < 1) : (.inl (cZ, 2, .inl (fun _ => 0)) : va_E) = ccv cI cJ cZ cMic cSrc cSt cAI cAJ b (fs_K7 i) (fviR (fo_K7 i)) (fun _ => 0) (fun k => (fv_K7 i).getD k none) := by
  have e : i = 0 := by omega
  subst e
  rfl
def fs_K8 : Nat → Nat × Nat := fun i => ([(100, 12)] : List (Nat × Nat)).getD i (0, 0)
def fo_K8 : Nat → Nat := fun i => ([50] : List Nat).getD i 30
def fv_K8 : Nat → List (Option Nat) := fun i => ([[]] : List (List (Option Nat))).getD i []
set_option maxHeartbeats 4000000 in
set_option maxRecDepth 100000 in
theorem fk_K8 {cI cJ cZ cMic cSrc cSt cAI cAJ : ClassId} (b : Nat → Nat) {i : Nat} (hi : i < 1) : (.inl (cI, 12, .inl (fun _ => 0)) : va_E) = ccv cI cJ cZ cMic cSrc cSt cAI cAJ b (fs_K8 i) (fviR (fo_K8 i)) (fun _ => 0) (fun k => (fv_K8 i).getD k none) := by
  have e : i = 0 := by omega
  subst e
  rfl
def fs_K10 : Nat → Nat × Nat := fun i => ([(100, 155)] : List (Nat × Nat)).getD i (0, 0)
def fo_K10 : Nat → Nat := fun i => ([52] : List Nat).getD i 30
def fv_K10 : Nat → List (Option Nat) := fun i => ([[]] : List (List (Option Nat))).getD i []
set_option maxHeartbeats 4000000 in
set_option maxRecDepth 100000 in
theorem fk_K10 {cI cJ cZ cMic cSrc cSt cAI cAJ : ClassId} (b : Nat → Nat) {i : Nat} (hi : i < 1) : (.inl (cI, 155, .inl (fun _ => 0)) : va_E) = ccv cI cJ cZ cMic cSrc cSt cAI cAJ b (fs_K10 i) (fviR (fo_K10 i)) (fun _ => 0) (fun k => (fv_K10 i).getD k none) := by
  have e : i = 0 := by omega
  subst e
  rfl
def fs_S0 : Nat → Nat × Nat := fun i => ([(11, 0)] : List (Nat × Nat)).getD i (0, 0)
def fo_S0 : Nat → Nat := fun i => ([11] : List Nat).getD i 30
def fv_S0 : Nat → List (Option Nat) := fun i => ([[some 1, some 6, some 7, some 22, some 66, some 154, some 242, some 336, some 430, some 431, some 432, some 433, some 434, some 477, some 478, some 656, none, none, none]] : List (List (Option Nat))).getD i []
def fs_S6 : Nat → Nat × Nat := fun i => ([(3, 0)] : List (Nat × Nat)).getD i (0, 0)
def fo_S6 : Nat → Nat := fun i => ([3] : List Nat).getD i 30
def fv_S6 : Nat → List (Option Nat) := fun i => ([[some 1, none, none, none]] : List (List (Option Nat))).getD i []
def fs_S430 : Nat → Nat × Nat := fun i => ([(105, 6)] : List (Nat × Nat)).getD i (0, 0)
def fo_S430 : Nat → Nat := fun i => ([47] : List Nat).getD i 30
def fv_S430 : Nat → List (Option Nat) := fun i => ([(((((((List.replicate 6 none).set 0 (some 834)).set 1 (some 928)).set 2 (some 1022)).set 3 (some 1116)).set 4 (some 1210)).set 5 (some 1304))] : List (List (Option Nat))).getD i []
def fs_S431 : Nat → Nat × Nat := fun i => ([(105, 2)] : List (Nat × Nat)).getD i (0, 0)
def fo_S431 : Nat → Nat := fun i => ([48] : List Nat).getD i 30
def fv_S431 : Nat → List (Option Nat) := fun i => ([(((List.replicate 2 none).set 0 (some 1398)).set 1 (some 1492))] : List (List (Option Nat))).getD i []
def aoff : Nat → Nat := fun j => ([1, 7, 22, 66, 154, 242, 336, 432, 433, 434, 477, 478, 656, 834, 928, 1022, 1116, 1210, 1304, 1398, 1492, 0, 0, 0, 0] : List Nat).getD j 0
def ash : Nat → Nat → Nat × Nat := fun j => match j with
  | 0 => fs_X9
  | 1 => fs_X5
  | 2 => fs_X0
  | 3 => fs_X4
  | 4 => fs_X4
  | 5 => fs_X8
  | 6 => fs_X8
  | 7 => fs_K7
  | 8 => fs_K8
  | 9 => fs_X10_12
  | 10 => fs_K10
  | 11 => fs_X6
  | 12 => fs_X6
  | 13 => fs_X8
  | 14 => fs_X8
  | 15 => fs_X8
  | 16 => fs_X8
  | 17 => fs_X8
  | 18 => fs_X8
  | 19 => fs_X8
  | 20 => fs_X8
  | 21 => fs_S0
  | 22 => fs_S6
  | 23 => fs_S430
  | 24 => fs_S431
  | _ => fun _ => (0, 0)
def aro : Nat → Nat → Nat := fun j => match j with
  | 0 => fo_X9
  | 1 => fo_X5
  | 2 => fo_X0
  | 3 => fo_X4
  | 4 => fo_X4
  | 5 => fo_X8
  | 6 => fo_X8
  | 7 => fo_K7
  | 8 => fo_K8
  | 9 => fo_X10_12
  | 10 => fo_K10
  | 11 => fo_X6
  | 12 => fo_X6
  | 13 => fo_X8
  | 14 => fo_X8
  | 15 => fo_X8
  | 16 => fo_X8
  | 17 => fo_X8
  | 18 => fo_X8
  | 19 => fo_X8
  | 20 => fo_X8
  | 21 => fo_S0
  | 22 => fo_S6
  | 23 => fo_S430
  | 24 => fo_S431
  | _ => fun _ => 30
def avr : Nat → Nat → List (Option Nat) := fun j => match j with
  | 0 => fv_X9
  | 1 => fv_X5
  | 2 => fv_X0
  | 3 => fv_X4
  | 4 => fv_X4
  | 5 => fv_X8
  | 6 => fv_X8
  | 7 => fv_K7
  | 8 => fv_K8
  | 9 => fv_X10_12
  | 10 => fv_K10
  | 11 => fv_X6
  | 12 => fv_X6
  | 13 => fv_X8
  | 14 => fv_X8
  | 15 => fv_X8
  | 16 => fv_X8
  | 17 => fv_X8
  | 18 => fv_X8
  | 19 => fv_X8
  | 20 => fv_X8
  | 21 => fv_S0
  | 22 => fv_S6
  | 23 => fv_S430
  | 24 => fv_S431
  | _ => fun _ => []
def aloc (n : Nat) : Nat × Nat := bif Nat.blt n 1 then (21, n - 0) else bif Nat.blt n 6 then (0, n - 1) else bif Nat.blt n 7 then (22, n - 6) else bif Nat.blt n 22 then (1, n - 7) else bif Nat.blt n 66 then (2, n - 22) else bif Nat.blt n 154 then (3, n - 66) else bif Nat.blt n 242 then (4, n - 154) else bif Nat.blt n 336 then (5, n - 242) else bif Nat.blt n 430 then (6, n - 336) else bif Nat.blt n 431 then (23, n - 430) else bif Nat.blt n 432 then (24, n - 431) else bif Nat.blt n 433 then (7, n - 432) else bif Nat.blt n 434 then (8, n - 433) else bif Nat.blt n 477 then (9, n - 434) else bif Nat.blt n 478 then (10, n - 477) else bif Nat.blt n 656 then (11, n - 478) else bif Nat.blt n 834 then (12, n - 656) else bif Nat.blt n 928 then (13, n - 834) else bif Nat.blt n 1022 then (14, n - 928) else bif Nat.blt n 1116 then (15, n - 1022) else bif Nat.blt n 1210 then (16, n - 1116) else bif Nat.blt n 1304 then (17, n - 1210) else bif Nat.blt n 1398 then (18, n - 1304) else bif Nat.blt n 1492 then (19, n - 1398) else bif Nat.blt n 1586 then (20, n - 1492) else (25, 0)
def aR0 (n : Nat) : Nat := aro (aloc n).1 (aloc n).2
def arf (n : Nat) : List (Option Nat) := (avr (aloc n).1 (aloc n).2).map (fun x => x.map (aoff (aloc n).1 + ·))
def aT0 : AT := (1586, fun n => ash (aloc n).1 (aloc n).2, fun n => fviR (aR0 n), fun _ _ => 0, fun n k => (arf n).getD k none)
theorem a_fin {n : Nat} {p : Nat → Bool} (h : (List.range n).all p = true) {i : Nat} (hi : i < n) : p i = true := List.all_eq_true.mp h i (List.mem_range.mpr hi)
theorem a_loc : (List.range 21).all (fun j => (List.range (n3len j)).all (fun i => decide (aloc (n3off j + i) = (j, i)) && (avr j i).all (fun x => match x with | some q => Nat.blt q (n3len j) | none => true))) = true := by decide +kernel
theorem a_off {j : Nat} (hj : j < 21) : aoff j = n3off j := of_decide_eq_true (a_fin (p := fun j => decide (aoff j = n3off j)) (n := 21) (by decide +kernel) hj)
theorem arf_get (n k : Nat) : (arf n).getD k none = ((avr (aloc n).1 (aloc n).2).getD k none).map (aoff (aloc n).1 + ·) := by
  unfold arf
  rw [List.getD_eq_getElem?_getD, List.getD_eq_getElem?_getD, List.getElem?_map]
  cases (avr (aloc n).1 (aloc n).2)[k]? with
  | none => rfl
  | some x => rfl
theorem a_in {l : List (Option Nat)} {k q N : Nat} (h : l.all (fun x => match x with | some q => Nat.blt q N | none => true) = true) (e : l.getD k none = some q) : q < N := by
  rw [List.getD_eq_getElem?_getD] at e
  cases hk : l[k]? with
  | none => rw [hk] at e; cases e
  | some x =>
    rw [hk] at e
    have e : x = some q := e
    subst e
    exact Nat.le_of_ble_eq_true (List.all_eq_true.mp h _ (List.mem_of_getElem? hk))
set_option maxHeartbeats 4000000 in
set_option maxRecDepth 100000 in
theorem n3_ccv {cI cJ cZ cMic cSrc cSt cAI cAJ : ClassId} {j : Nat} (hj : j < 21) (b : Nat → Nat) {i : Nat} (hi : i < n3len j) : n3blk cI cJ cZ cMic cSrc cSt cAI cAJ j b i = ccv cI cJ cZ cMic cSrc cSt cAI cAJ b (ash j i) (fviR (aro j i)) (fun _ => 0) (fun k => (avr j i).getD k none) := by
  match j, hj with
  | 0, _ => exact fk_X9 b hi
  | 1, _ => exact fk_X5 b hi
  | 2, _ => exact fk_X0 b hi
  | 3, _ => exact fk_X4 b hi
  | 4, _ => exact fk_X4 b hi
  | 5, _ => exact fk_X8 b hi
  | 6, _ => exact fk_X8 b hi
  | 7, _ => exact fk_K7 b hi
  | 8, _ => exact fk_K8 b hi
  | 9, _ => exact fk_X10_12 b hi
  | 10, _ => exact fk_K10 b hi
  | 11, _ => exact fk_X6 b hi
  | 12, _ => exact fk_X6 b hi
  | 13, _ => exact fk_X8 b hi
  | 14, _ => exact fk_X8 b hi
  | 15, _ => exact fk_X8 b hi
  | 16, _ => exact fk_X8 b hi
  | 17, _ => exact fk_X8 b hi
  | 18, _ => exact fk_X8 b hi
  | 19, _ => exact fk_X8 b hi
  | 20, _ => exact fk_X8 b hi
  | (n + 21), h => exact absurd h (by omega)
set_option maxRecDepth 100000 in
theorem a_blk {cI cJ cZ cMic cSrc cSt cAI cAJ : ClassId} {ad : Nat → Nat} {S : Nat → va_E} {bs : Nat → Nat → Nat} (h : BL cI cJ cZ cMic cSrc cSt cAI cAJ 21 ad S bs) {j i : Nat} (hj : j < 21) (hi : i < n3len j) : S (n3off j + i) = cc cI cJ cZ cMic cSrc cSt cAI cAJ ad aT0 (n3off j + i) := by
  obtain ⟨h1, h2⟩ := (Bool.and_eq_true _ _).mp (a_fin (a_fin a_loc hj) hi)
  have h1 : aloc (n3off j + i) = (j, i) := of_decide_eq_true h1
  rw [(h j hj i hi).1, n3_ccv hj (bs j) hi]
  show _ = ccv cI cJ cZ cMic cSrc cSt cAI cAJ ad (ash (aloc (n3off j + i)).1 (aloc (n3off j + i)).2) (fviR (aro (aloc (n3off j + i)).1 (aloc (n3off j + i)).2)) (fun _ => 0) (fun k => (arf (n3off j + i)).getD k none)
  rw [h1]
  refine ccv_map (fun k => ?_)
  rw [arf_get, h1]
  cases e : (avr j i).getD k none with
  | none => rfl
  | some q =>
    have hq := a_in h2 e
    show some (bs j q) = some (ad (aoff j + q))
    rw [a_off hj, (h j hj q hq).2]
set_option maxHeartbeats 4000000 in
set_option maxRecDepth 100000 in
theorem a_cells {cI cJ cZ cMic cSrc cSt cAI cAJ : ClassId} {ad : Nat → Nat} {S : Nat → va_E} (h : S 0 = iX11_0 cI cJ cZ cMic cSrc cSt cAI cAJ ad ∧ S 6 = iX11_6 cI cJ cZ cMic cSrc cSt cAI cAJ ad ∧ S 430 = iX11_430 cI cJ cZ cMic cSrc cSt cAI cAJ ad ∧ S 431 = iX11_431 cI cJ cZ cMic cSrc cSt cAI cAJ ad ∧ ∃ bs, BL cI cJ cZ cMic cSrc cSt cAI cAJ 21 ad S bs) : ∀ n, n < 1586 → S n = cc cI cJ cZ cMic cSrc cSt cAI cAJ ad aT0 n := by
  obtain ⟨h0, h6, h430, h431, bs, hB⟩ := h
  intro n hn
  by_cases e0 : n = 0
  · subst e0
    rw [h0]
    rfl
  by_cases e6 : n = 6
  · subst e6
    rw [h6]
    rfl
  by_cases e430 : n = 430
  · subst e430
    rw [h430]
    refine Eq.trans (congrArg (fun x => (Sum.inl (cSt, 6, Sum.inr (Sum.inr (Sum.inr (Sum.inr x)))) : va_E)) (fl_up ad 5 1304 (by decide) (fl_up ad 4 1210 (by decide) (fl_up ad 3 1116 (by decide) (fl_up ad 2 1022 (by decide) (fl_up ad 1 928 (by decide) (fl_up ad 0 834 (by decide) (fl_none ad 6))))))).symm) ?_
    have e : ∀ k, (((avr 23 0).getD k none : Option Nat)).map ad = ((arf 430).getD k none).map ad := fun k => by
      rw [arf_get 430 k]
      show _ = (((avr 23 0).getD k none).map (0 + ·)).map ad
      cases (avr 23 0).getD k none with
      | none => rfl
      | some q => show some (ad q) = some (ad (0 + q)); rw [Nat.zero_add]
    exact congrArg (fun x => (Sum.inl (cSt, 6, Sum.inr (Sum.inr (Sum.inr (Sum.inr x)))) : va_E)) (funext e)
  by_cases e431 : n = 431
  · subst e431
    rw [h431]
    refine Eq.trans (congrArg (fun x => (Sum.inl (cSt, 2, Sum.inr (Sum.inr (Sum.inr (Sum.inr x)))) : va_E)) (fl_up ad 1 1492 (by decide) (fl_up ad 0 1398 (by decide) (fl_none ad 2))).symm) ?_
    have e : ∀ k, (((avr 24 0).getD k none : Option Nat)).map ad = ((arf 431).getD k none).map ad := fun k => by
      rw [arf_get 431 k]
      show _ = (((avr 24 0).getD k none).map (0 + ·)).map ad
      cases (avr 24 0).getD k none with
      | none => rfl
      | some q => show some (ad q) = some (ad (0 + q)); rw [Nat.zero_add]
    exact congrArg (fun x => (Sum.inl (cSt, 2, Sum.inr (Sum.inr (Sum.inr (Sum.inr x)))) : va_E)) (funext e)
  have key : ∃ j i, j < 21 ∧ i < n3len j ∧ n = n3off j + i := by
    have c := a_fin (p := fun n => (n == 0 || n == 6 || n == 430 || n == 431) || (Nat.blt (aloc n).1 21 && Nat.blt (aloc n).2 (n3len (aloc n).1) && n == n3off (aloc n).1 + (aloc n).2)) (n := 1586) (by decide +kernel) hn
    simp only [Bool.or_eq_true, Bool.and_eq_true, beq_iff_eq] at c
    rcases c with c | ⟨⟨c1, c2⟩, c3⟩
    · omega
    · exact ⟨_, _, Nat.le_of_ble_eq_true c1, Nat.le_of_ble_eq_true c2, c3⟩
  obtain ⟨j, i, hj, hi, rfl⟩ := key
  exact a_blk hB hj hi
theorem rtg_hi {r k : Nat} (h : 150 ≤ k) : rtg r k = 99 := by
  have b : ∀ m, m < 150 → Nat.beq k m = false := fun m hm => nbeq (by omega)
  have c : ∀ m, m < 150 → Nat.blt k m = false := fun m hm => by
    unfold Nat.blt
    exact Bool.eq_false_iff.mpr (fun q => by have := Nat.le_of_ble_eq_true q; omega)
  unfold rtg
  simp only [b _ (show 0 < 150 by decide), b _ (show 1 < 150 by decide), b _ (show 2 < 150 by decide), b _ (show 3 < 150 by decide), b _ (show 4 < 150 by decide), b _ (show 5 < 150 by decide), b _ (show 6 < 150 by decide), b _ (show 7 < 150 by decide), b _ (show 8 < 150 by decide), b _ (show 9 < 150 by decide), b _ (show 10 < 150 by decide), b _ (show 11 < 150 by decide), b _ (show 12 < 150 by decide), b _ (show 13 < 150 by decide), b _ (show 14 < 150 by decide), b _ (show 15 < 150 by decide), b _ (show 17 < 150 by decide), c _ (show 2 < 150 by decide), c _ (show 4 < 150 by decide), c _ (show 6 < 150 by decide), c _ (show 12 < 150 by decide), c _ (show 40 < 150 by decide), c _ (show 144 < 150 by decide), cond_false, Bool.cond_self]
def zR (p : Int × Int) : Prop := p.1 ≤ 0 ∧ 0 ≤ p.2
theorem zR_c {c : Bool} {a b : Int × Int} (h : zR a) (k : zR b) : zR (bif c then a else b) := by
  cases c
  · exact k
  · exact h
theorem iR_zero {r k : Nat} (h : isW r = false) : zR (iR r k) := by
  unfold iR
  rw [h]
  simp only [cond_false]
  repeat' first | (exact ⟨by decide, by decide⟩) | refine zR_c ?_ ?_
theorem fviR_ok (r k : Nat) : (iR r k).1 ≤ (fviR r k).toInt ∧ (fviR r k).toInt ≤ (iR r k).2 := by
  cases h : isW r with
  | true =>
    have hc : r = 101 ∨ r = 102 ∨ r = 103 ∨ r = 104 ∨ r = 105 := by
      unfold isW at h
      have b1 := Nat.le_of_ble_eq_true ((Bool.and_eq_true _ _).mp h).1
      have b2 := Nat.le_of_ble_eq_true ((Bool.and_eq_true _ _).mp h).2
      omega
    by_cases k0 : k = 0
    · subst k0
      rcases hc with rfl | rfl | rfl | rfl | rfl <;> decide
    · by_cases k2 : k = 2
      · subst k2
        rcases hc with rfl | rfl | rfl | rfl | rfl <;> decide
      · have e0 : Nat.beq k 0 = false := nbeq k0
        have e2 : Nat.beq k 2 = false := nbeq k2
        unfold iR fviR
        rw [h]
        simp only [cond_true]
        rw [e0, e2]
        simp only [cond_false]
        decide
  | false =>
    by_cases h3 : r = 3
    · subst h3
      by_cases k3 : k = 3
      · subst k3
        decide
      · have e3 : Nat.beq k 3 = false := nbeq k3
        have z : fviR 3 k = 0 := by
          show (bif Nat.beq k 3 then (-1 : Int32) else 0) = 0
          rw [e3]
          rfl
        rw [z]
        exact iR_zero h
    · have z : fviR r k = 0 := by
        unfold fviR
        rw [h, nbeq h3]
        rfl
      rw [z]
      exact iR_zero h
def aK1 : Nat := 1586 + zt aR0 aT0 w1 1586
def aK2 : Nat := sg aT0 + zt aR0 aT0 wC 1586
def a_sta (n : Nat) : Bool := !(Nat.beq (aR0 n) 99) && !(Nat.beq (aR0 n) 30)
def a_hk (r : Nat) : Bool := isW r || (isRW r || (Nat.beq r 11 || (Nat.beq r 9 || (Nat.beq r 3 || (Nat.beq r 5 || (Nat.beq r 20 || (Nat.beq r 4 || (Nat.beq r 8 || (Nat.beq r 6 || (Nat.beq r 1 || (Nat.beq r 45 || (Nat.beq r 47 || (Nat.beq r 48 || (Nat.beq r 51 || (Nat.beq r 53 || (Nat.beq r 54 || Nat.beq r 60))))))))))))))))
theorem a_or {a b : Bool} (h : (a || b) = false) : a = false ∧ b = false := by
  cases a with
  | true => cases h
  | false => exact ⟨rfl, h⟩
theorem rtg_none {r : Nat} (h : a_hk r = false) (k : Nat) : rtg r k = 99 := by
  unfold a_hk at h
  obtain ⟨h1, h⟩ := a_or h
  obtain ⟨h2, h⟩ := a_or h
  obtain ⟨h3, h⟩ := a_or h
  obtain ⟨h4, h⟩ := a_or h
  obtain ⟨h5, h⟩ := a_or h
  obtain ⟨h6, h⟩ := a_or h
  obtain ⟨h7, h⟩ := a_or h
  obtain ⟨h8, h⟩ := a_or h
  obtain ⟨h9, h⟩ := a_or h
  obtain ⟨h10, h⟩ := a_or h
  obtain ⟨h11, h⟩ := a_or h
  obtain ⟨h12, h⟩ := a_or h
  obtain ⟨h13, h⟩ := a_or h
  obtain ⟨h14, h⟩ := a_or h
  obtain ⟨h15, h⟩ := a_or h
  obtain ⟨h16, h⟩ := a_or h
  obtain ⟨h17, h⟩ := a_or h
  unfold rtg
  rw [h1, h2, h3, h4, h5, h6, h7, h8, h9, h10, h11, h12, h13, h14, h15, h16, h17, h]
  rfl
theorem a_k150 {r : Nat} {g : Nat → Bool} (c : ((!(a_hk r)) || (List.range 150).all (fun k => Nat.beq (rtg r k) 99 || g k)) = true) : (List.range 150).all (fun k => Nat.beq (rtg r k) 99 || g k) = true := by
  cases h : a_hk r with
  | true =>
    rw [h, Bool.not_true, Bool.false_or] at c
    exact c
  | false =>
    refine List.all_eq_true.mpr (fun k _ => ?_)
    show (Nat.beq (rtg r k) 99 || g k) = true
    exact (congrArg (fun x => (Nat.beq x 99 || g k)) (rtg_none h k)).trans rfl
def a_chk (n : Nat) : Bool := (!(a_sta n)) || (decide (aT0.2.1 n = shp (aR0 n)) && (((!(a_hk (aR0 n))) || (List.range 150).all (fun k => Nat.beq (rtg (aR0 n) k) 99 || (match (arf n).getD k none with | some q => Nat.blt q 1586 && Nat.beq (aR0 q) (rtg (aR0 n) k) | none => false))) && ((!(isW (aR0 n))) || (match (arf n).getD 1 none with | some q => (match (arf q).getD 0 none with | some r => decide (aT0.2.1 r = (101, cnt (aR0 n))) | none => false) | none => true)) && ((!(isRW (aR0 n))) || (arf n).all (fun x => match x with | some r => Nat.blt r 1586 && (Nat.beq (aT0.2.1 r).1 101 && (Nat.beq (aT0.2.1 r).2 0 || Nat.beq (aT0.2.1 r).2 (wC (aR0 n)))) | none => true))))
set_option maxRecDepth 100000 in
theorem a_all : (List.range 1586).all a_chk = true := by decide +kernel
set_option maxRecDepth 100000 in
theorem a_rc : (List.range 1586).all (fun n => (arf n).all (fun x => match x with | some q => Nat.blt q 1586 | none => true)) = true := by decide +kernel
set_option maxRecDepth 100000 in
theorem a_nine : (List.range 1586).all (fun n => !(Nat.beq (aR0 n) 9) || Nat.beq n 1) = true := by decide +kernel
set_option maxRecDepth 100000 in
theorem a_room : aK1 + 3000 ≤ 600000 ∧ aK2 + 200000 ≤ 7200000 := by decide +kernel
theorem a_hi {n : Nat} (h : 1586 ≤ n) : aloc n = (25, 0) := by
  have c : ∀ m, m ≤ 1586 → Nat.blt n m = false := fun m hm => by
    unfold Nat.blt
    exact Bool.eq_false_iff.mpr (fun q => by have := Nat.le_of_ble_eq_true q; omega)
  unfold aloc
  simp only [c _ (show 1 ≤ 1586 by decide), c _ (show 6 ≤ 1586 by decide), c _ (show 7 ≤ 1586 by decide), c _ (show 22 ≤ 1586 by decide), c _ (show 66 ≤ 1586 by decide), c _ (show 154 ≤ 1586 by decide), c _ (show 242 ≤ 1586 by decide), c _ (show 336 ≤ 1586 by decide), c _ (show 430 ≤ 1586 by decide), c _ (show 431 ≤ 1586 by decide), c _ (show 432 ≤ 1586 by decide), c _ (show 433 ≤ 1586 by decide), c _ (show 434 ≤ 1586 by decide), c _ (show 477 ≤ 1586 by decide), c _ (show 478 ≤ 1586 by decide), c _ (show 656 ≤ 1586 by decide), c _ (show 834 ≤ 1586 by decide), c _ (show 928 ≤ 1586 by decide), c _ (show 1022 ≤ 1586 by decide), c _ (show 1116 ≤ 1586 by decide), c _ (show 1210 ≤ 1586 by decide), c _ (show 1304 ≤ 1586 by decide), c _ (show 1398 ≤ 1586 by decide), c _ (show 1492 ≤ 1586 by decide), c _ (show 1586 ≤ 1586 by decide), cond_false]
theorem aR0_hi {n : Nat} (h : 1586 ≤ n) : aR0 n = 30 := by
  unfold aR0
  rw [a_hi h]
  rfl
theorem a_RC : RC aT0 := by
  intro n k q h
  have h : (arf n).getD k none = some q := h
  by_cases hn : n < 1586
  · exact a_in (a_fin a_rc hn) h
  · have e : arf n = [] := by
      unfold arf
      rw [a_hi (Nat.not_lt.mp hn)]
      rfl
    rw [e] at h
    cases h
set_option maxHeartbeats 4000000 in
set_option maxRecDepth 100000 in
theorem a_IV : IV aR0 1586 aK1 aK2 aT0 := by
  have hs : ∀ n, sta aR0 1586 n → a_sta n = true := fun n h => by
    unfold a_sta
    rw [nbeq h.2.1, nbeq h.2.2]
    rfl
  have key : ∀ n, sta aR0 1586 n → aT0.2.1 n = shp (aR0 n) ∧ ((List.range 150).all (fun k => Nat.beq (rtg (aR0 n) k) 99 || (match (arf n).getD k none with | some q => Nat.blt q 1586 && Nat.beq (aR0 q) (rtg (aR0 n) k) | none => false)) = true) ∧ (isW (aR0 n) = true → (match (arf n).getD 1 none with | some q => (match (arf q).getD 0 none with | some r => decide (aT0.2.1 r = (101, cnt (aR0 n))) | none => false) | none => true) = true) ∧ (isRW (aR0 n) = true → (arf n).all (fun x => match x with | some r => Nat.blt r 1586 && (Nat.beq (aT0.2.1 r).1 101 && (Nat.beq (aT0.2.1 r).2 0 || Nat.beq (aT0.2.1 r).2 (wC (aR0 n)))) | none => true) = true) := fun n h => by
    have c := a_fin a_all h.1
    unfold a_chk at c
    rw [hs n h] at c
    simp only [Bool.not_true, Bool.false_or, Bool.and_eq_true, decide_eq_true_eq] at c
    refine ⟨c.1, a_k150 c.2.1.1, fun w => ?_, fun w => ?_⟩
    · have c2 := c.2.1.2
      rw [w] at c2
      exact c2
    · have c2 := c.2.2
      rw [w] at c2
      exact c2
  refine ⟨⟨fun n h1 h2 => ?_, ⟨fun n h1 m h2 => ?_, fun n h => aR0_hi h⟩, Nat.le_refl _⟩, fun n h => (key n h).1, fun n k h hk => ?_, fun n k h => fviR_ok (aR0 n) k, fun n h hW q hq p hp => ?_, fun n p r h hW hr => ?_, rfl, rfl⟩
  · exact Nat.lt_of_not_le (fun q => h2 (aR0_hi q))
  · have nine : ∀ n, aR0 n = 9 → n = 1 := fun n h => by
      by_cases hn : n < 1586
      · have c := a_fin a_nine hn
        rw [h] at c
        exact Nat.eq_of_beq_eq_true c
      · rw [aR0_hi (Nat.not_lt.mp hn)] at h
        cases h
    rw [nine n h1, nine m h2]
  · by_cases h150 : k < 150
    · have c := a_fin (key n h).2.1 h150
      rw [nbeq hk, Bool.false_or] at c
      show ∃ q, (arf n).getD k none = some q ∧ _
      cases e : (arf n).getD k none with
      | none => rw [e] at c; cases c
      | some q =>
        rw [e] at c
        obtain ⟨c1, c2⟩ := (Bool.and_eq_true _ _).mp c
        exact ⟨q, rfl, Nat.le_of_ble_eq_true c1, Nat.eq_of_beq_eq_true c2⟩
    · exact absurd (rtg_hi (Nat.not_lt.mp h150)) hk
  · have c := (key n h).2.2.1 hW
    have hq : (arf n).getD 1 none = some q := hq
    rw [hq] at c
    have c : (match (arf q).getD 0 none with | some r => decide (aT0.2.1 r = (101, cnt (aR0 n))) | none => false) = true := c
    have hp0 : p = 0 := by
      have hi := fviR_ok (aR0 n) 2
      have e : (aT0.2.2.1 n 2).toInt = 1 := by
        show (fviR (aR0 n) 2).toInt = 1
        unfold fviR
        rw [hW]
        rfl
      rw [e] at hp
      omega
    subst hp0
    show ∃ r, (arf q).getD 0 none = some r ∧ _
    cases e : (arf q).getD 0 none with
    | none => rw [e] at c; cases c
    | some r =>
      rw [e] at c
      exact ⟨r, rfl, of_decide_eq_true c⟩
  · have c := (key n h).2.2.2 hW
    have hr : (arf n).getD p none = some r := hr
    have hm : some r ∈ arf n := by
      rw [List.getD_eq_getElem?_getD] at hr
      cases hk : (arf n)[p]? with
      | none => rw [hk] at hr; cases hr
      | some x =>
        rw [hk] at hr
        have e : x = some r := hr
        rw [← e]
        exact List.mem_of_getElem? hk
    have c := List.all_eq_true.mp c _ hm
    obtain ⟨c1, c2⟩ := (Bool.and_eq_true _ _).mp c
    obtain ⟨c3, c4⟩ := (Bool.and_eq_true _ _).mp c2
    refine ⟨Nat.le_of_ble_eq_true c1, Nat.eq_of_beq_eq_true c3, ?_⟩
    rcases (Bool.or_eq_true _ _).mp c4 with c5 | c5
    · exact .inl (Nat.eq_of_beq_eq_true c5)
    · exact .inr (Nat.eq_of_beq_eq_true c5)
end
section
/-! 16a.s.lean.txt -/
def sgF (x : String × Nat × String) : Term := .field (.string x.1 x.2.1) "java/lang/String" "value" "[B"
def sgS (x : String × Nat × String) : List Cond := [Cond.exactly (.string x.1 x.2.1) "java/lang/String", Cond.eq (.field (.string x.1 x.2.1) "java/lang/String" "coder" "B") (.int 0), Cond.arrayOf (sgF x) .byte, Cond.eq (.length (sgF x)) (.int (Int32.ofNat x.2.2.length))] ++ (List.range x.2.2.length).map (fun j => Cond.eq (.elem (sgF x) (.int (Int32.ofNat j))) (.int ((sTx x.2.2).2 j)))
def sgX : List ((String × Nat × String) ⊕ (String × Nat × String × Nat)) := [.inl ("AcousticCamera$Parser", 66, "camera"), .inl ("AcousticCamera$Parser", 72, "distance"), .inl ("AcousticCamera$Parser", 80, "step"), .inl ("AcousticCamera$Parser", 84, "samples"), .inl ("AcousticCamera$Parser", 88, "limit"), .inl ("AcousticCamera$Parser", 92, "mic"), .inl ("AcousticCamera$Parser", 101, "map"), .inl ("AcousticCamera$Parser", 107, "source"), .inl ("AcousticCamera$Parser", 217, "triangle"), .inl ("AcousticCamera$Parser", 219, "pulse"), .inl ("AcousticCamera$Parser", 221, "noise"), .inl ("AcousticCamera$Parser", 223, "square"), .inl ("AcousticCamera$Parser", 216, "from"), .inl ("AcousticCamera$Parser", 112, "wall"), .inl ("AcousticCamera$Parser", 117, "fade"), .inl ("AcousticCamera$Parser", 125, "filter"), .inl ("AcousticCamera$Parser", 130, "clock"), .inl ("AcousticCamera$Parser", 135, "zone"), .inl ("AcousticCamera$Parser", 140, "shade"), .inl ("AcousticCamera$Parser", 145, "off"), .inl ("AcousticCameraModel", 144, "camera"), .inr ("AcousticCamera$Parser", 66, "AcousticCameraModel", 144), .inl ("AcousticCameraModel", 146, "distance"), .inr ("AcousticCamera$Parser", 72, "AcousticCameraModel", 146), .inl ("AcousticCameraModel", 152, "step"), .inr ("AcousticCamera$Parser", 80, "AcousticCameraModel", 152), .inl ("AcousticCameraModel", 154, "samples"), .inr ("AcousticCamera$Parser", 84, "AcousticCameraModel", 154), .inl ("AcousticCameraModel", 156, "limit"), .inr ("AcousticCamera$Parser", 88, "AcousticCameraModel", 156), .inl ("AcousticCameraModel", 171, "wall"), .inr ("AcousticCamera$Parser", 112, "AcousticCameraModel", 171), .inl ("AcousticCameraModel", 176, "fade"), .inr ("AcousticCamera$Parser", 117, "AcousticCameraModel", 176), .inl ("AcousticCameraModel", 181, "filter"), .inr ("AcousticCamera$Parser", 125, "AcousticCameraModel", 181), .inl ("AcousticCameraModel", 186, "clock"), .inr ("AcousticCamera$Parser", 130, "AcousticCameraModel", 186), .inl ("AcousticCameraModel", 191, "zone"), .inr ("AcousticCamera$Parser", 135, "AcousticCameraModel", 191), .inl ("AcousticCameraModel", 196, "shade"), .inr ("AcousticCamera$Parser", 140, "AcousticCameraModel", 196), .inl ("AcousticCameraModel", 201, "off"), .inr ("AcousticCamera$Parser", 145, "AcousticCameraModel", 201), .inl ("AcousticCameraModel", 206, "mic"), .inr ("AcousticCamera$Parser", 92, "AcousticCameraModel", 206), .inl ("AcousticCameraModel", 211, "map"), .inr ("AcousticCamera$Parser", 101, "AcousticCameraModel", 211), .inl ("AcousticCameraModel", 216, "source"), .inr ("AcousticCamera$Parser", 107, "AcousticCameraModel", 216), .inl ("AcousticCameraModel", 161, "square"), .inr ("AcousticCamera$Parser", 223, "AcousticCameraModel", 161), .inl ("AcousticCameraModel", 163, "triangle"), .inr ("AcousticCamera$Parser", 217, "AcousticCameraModel", 163), .inl ("AcousticCameraModel", 165, "pulse"), .inr ("AcousticCamera$Parser", 219, "AcousticCameraModel", 165), .inl ("AcousticCameraModel", 167, "noise"), .inr ("AcousticCamera$Parser", 221, "AcousticCameraModel", 167), .inl ("AcousticCameraModel", 169, "from"), .inr ("AcousticCamera$Parser", 216, "AcousticCameraModel", 169)]
def sgC (x : (String × Nat × String) ⊕ (String × Nat × String × Nat)) : List Cond := match x with
  | .inl x => sgS x
  | .inr (a, i, b, j) => [Cond.eq (.string a i) (.string b j)]
set_option maxRecDepth 100000 in
set_option maxHeartbeats 4000000 in
theorem l_flatS : ((flatC (Jvm.Cond.and given_1 narrow_1)).drop 107).take 382 = sgX.flatMap sgC := by decide +kernel
def sgI (x : String × Nat × String) (y : (String × Nat × String) ⊕ (String × Nat × String × Nat)) : Bool := match y with
  | .inl z => decide (z.1 = x.1) && (decide (z.2.1 = x.2.1) && decide (z.2.2 = x.2.2))
  | .inr _ => false
theorem sgI_k {x : String × Nat × String} {y : (String × Nat × String) ⊕ (String × Nat × String × Nat)} (h : sgI x y = true) : y = .inl x := by
  cases y with
  | inr z => cases h
  | inl z =>
    obtain ⟨a, h⟩ := (Bool.and_eq_true _ _).mp h
    obtain ⟨b, c⟩ := (Bool.and_eq_true _ _).mp h
    obtain ⟨x1, x2, x3⟩ := x
    obtain ⟨z1, z2, z3⟩ := z
    have a : z1 = x1 := of_decide_eq_true a
    have b : z2 = x2 := of_decide_eq_true b
    have c : z3 = x3 := of_decide_eq_true c
    rw [a, b, c]
theorem l_inX : sL.all (fun x => sgX.any (sgI x) && decide (x.2.2.length < 2 ^ 31)) = true := by decide +kernel
theorem l_S {b : Nat} {s : State} (hts : ∀ w ∈ lw_tbl, w.before #[Value.ref b] s = true) (hg : (Jvm.Cond.and given_1 narrow_1).before #[Value.ref b] s = true) : sAll s.heap.size s ∧ nC s := by
  have hs := flat_of_before _ hg
  have hz := t_of (sL.map (fun x => Cond.stringRef x.1 x.2.1 x.2.2)) [(3, 196), (4, 37), (4, 46), (4, 47), (4, 48), (4, 53), (4, 66), (4, 75), (4, 84), (4, 85), (4, 86), (4, 87), (4, 88), (4, 89), (4, 94), (4, 95), (4, 108), (4, 113), (4, 118), (4, 127), (8, 119), (8, 138), (8, 151), (8, 152), (8, 153), (8, 162), (8, 171), (8, 176), (8, 181), (8, 186), (8, 191), (8, 196), (8, 201), (8, 206), (8, 211), (8, 216), (8, 217), (8, 218), (8, 219), (8, 220)] (by decide +kernel)
  have hA : ∀ a : Nat, a < s.heap.size → ¬ s.heap.size ≤ a := fun a h => Nat.not_le.mpr h
  have hin : ∀ x ∈ sL, x.2.2.length < 2 ^ 31 ∧ ∀ w ∈ sgS x, w.before #[Value.ref b] s = true := fun x hx => by
    obtain ⟨c1, c2⟩ := (Bool.and_eq_true _ _).mp (List.all_eq_true.mp l_inX x hx)
    obtain ⟨y, hy, ey⟩ := List.any_eq_true.mp c1
    have ey := sgI_k ey
    rw [ey] at hy
    exact ⟨of_decide_eq_true c2, fun w hw => hs w (List.mem_of_mem_drop (List.mem_of_mem_take (by rw [l_flatS]; exact List.mem_flatMap.mpr ⟨.inl x, hy, hw⟩)))⟩
  refine ⟨⟨fun x hx => ?_, va_Zof (hts _ (t_of [Cond.laysStatic "java/lang/String" "COMPACT_STRINGS" "Z"] [(3, 218)] (by decide +kernel) _ List.mem_cons_self)) (hts _ (t_of [Cond.initialized "java/lang/String"] [(1, 19)] (by decide +kernel) _ List.mem_cons_self)) (va_eqi (hs _ (by decide +kernel))) hA, va_Zqof (hts _ (t_of [Cond.laysStatic "jdk/internal/util/Preconditions" "SIOOBE_FORMATTER" "Ljava/util/function/BiFunction;"] [(3, 234)] (by decide +kernel) _ List.mem_cons_self)) (hts _ (t_of [Cond.initialized "jdk/internal/util/Preconditions"] [(1, 21)] (by decide +kernel) _ List.mem_cons_self)) (hs _ (by decide +kernel)) hA⟩, va_Nc.of (hs _ (by decide +kernel)), va_Nc.of (hs _ (by decide +kernel)), va_Nc.of (hs _ (by decide +kernel)), va_Nc.of (hs _ (by decide +kernel))⟩
  obtain ⟨hN, h⟩ := hin x hx
  obtain ⟨a, c, cA, kA, q1, q2, q3, q4, q5, q6, -⟩ := Cond.exactly_spec (args := #[Value.ref b]) (first := s) (o := none) (s := s) (idx := []) (t := .string x.1 x.2.1) (cls := "java/lang/String") (h _ (List.mem_append_left _ (.head _)))
  obtain ⟨t, ht, hT⟩ := va_Tof (f := fun j => .int ((sTx x.2.2).2 j)) (A := fun a => s.heap.size ≤ a) hN (h _ (List.mem_append_left _ (.tail _ (.tail _ (.head _))))) (va_eqt (h _ (List.mem_append_left _ (.tail _ (.tail _ (.tail _ (.head _))))))) (fun j hj => va_eqt (h _ (List.mem_append_right _ (List.mem_map.mpr ⟨j, List.mem_range.mpr hj, rfl⟩)))) hA
  exact ⟨a, vk_R.of (hts _ (hz _ (List.mem_map_of_mem hx))) q1, t, ⟨cA, q3, q5, by rw [q6]; exact q2, hA a (Array.getElem?_eq_some_iff.mp q3).1⟩, vk_OFof q1 (va_eqt (h _ (List.mem_append_left _ (.tail _ (.head _))))) hA, vk_OFof q1 ht hA, hT⟩
end
